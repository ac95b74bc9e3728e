theorem mw_24_14 : Cond.methodLink RX7 175 yX7_lowest ∈ wsL_law := ck_24 _ (List.mem_of_getElem? (i := 14) rfl)
theorem mw_24_16 : Cond.code yX7_lowest cX7_lowest 5 (some .long) ∈ wsL_law := ck_24 _ (List.mem_of_getElem? (i := 16) rfl)
theorem mw_24_15 : Cond.static yX7_lowest ∈ wsL_law := ck_24 _ (List.mem_of_getElem? (i := 15) rfl)
theorem mw_22_15 : Cond.methodLink RX7 179 yX7_layBest ∈ wsL_law := ck_22 _ (List.mem_of_getElem? (i := 15) rfl)
theorem mw_22_18 : Cond.code yX7_layBest cX7_layBest 8 none ∈ wsL_law := ck_22 _ (List.mem_of_getElem? (i := 18) rfl)
theorem mw_22_16 : Cond.instanceMethod yX7_layBest ∈ wsL_law := ck_22 _ (List.mem_of_getElem? (i := 16) rfl)
theorem mw_22_17 : Cond.selects RX7 yX7_layBest yX7_layBest ∈ wsL_law := ck_22 _ (List.mem_of_getElem? (i := 17) rfl)
theorem mw_24_10 : Cond.methodLink RX7 182 yX7_bestNow ∈ wsL_law := ck_24 _ (List.mem_of_getElem? (i := 10) rfl)
theorem mw_24_13 : Cond.code yX7_bestNow cX7_bestNow 2 (some .long) ∈ wsL_law := ck_24 _ (List.mem_of_getElem? (i := 13) rfl)
theorem mw_24_11 : Cond.instanceMethod yX7_bestNow ∈ wsL_law := ck_24 _ (List.mem_of_getElem? (i := 11) rfl)
theorem mw_24_12 : Cond.selects RX7 yX7_bestNow yX7_bestNow ∈ wsL_law := ck_24 _ (List.mem_of_getElem? (i := 12) rfl)
theorem mw_25_19 : Cond.methodLink RX7 185 yX7_shareNow ∈ wsL_law := ck_25 _ (List.mem_of_getElem? (i := 19) rfl)
theorem mw_25_22 : Cond.code yX7_shareNow cX7_shareNow 3 (some .long) ∈ wsL_law := ck_25 _ (List.mem_of_getElem? (i := 22) rfl)
theorem mw_25_20 : Cond.instanceMethod yX7_shareNow ∈ wsL_law := ck_25 _ (List.mem_of_getElem? (i := 20) rfl)
theorem mw_25_21 : Cond.selects RX7 yX7_shareNow yX7_shareNow ∈ wsL_law := ck_25 _ (List.mem_of_getElem? (i := 21) rfl)
theorem mw_26_19 : Cond.methodLink RX7 188 yX7_mixedAbove ∈ wsL_law := ck_26 _ (List.mem_of_getElem? (i := 19) rfl)
theorem mw_26_22 : Cond.code yX7_mixedAbove cX7_mixedAbove 5 (some .long) ∈ wsL_law := ck_26 _ (List.mem_of_getElem? (i := 22) rfl)
theorem mw_26_20 : Cond.instanceMethod yX7_mixedAbove ∈ wsL_law := ck_26 _ (List.mem_of_getElem? (i := 20) rfl)
theorem mw_26_21 : Cond.selects RX7 yX7_mixedAbove yX7_mixedAbove ∈ wsL_law := ck_26 _ (List.mem_of_getElem? (i := 21) rfl)
theorem mw_26_15 : Cond.methodLink RX7 191 yX7_pressNow ∈ wsL_law := ck_26 _ (List.mem_of_getElem? (i := 15) rfl)
theorem mw_26_18 : Cond.code yX7_pressNow cX7_pressNow 9 (some .long) ∈ wsL_law := ck_26 _ (List.mem_of_getElem? (i := 18) rfl)
theorem mw_26_16 : Cond.instanceMethod yX7_pressNow ∈ wsL_law := ck_26 _ (List.mem_of_getElem? (i := 16) rfl)
theorem mw_26_17 : Cond.selects RX7 yX7_pressNow yX7_pressNow ∈ wsL_law := ck_26 _ (List.mem_of_getElem? (i := 17) rfl)
theorem mw_28_19 : Cond.methodLink RX7 194 yX7_howMany ∈ wsL_law := ck_28 _ (List.mem_of_getElem? (i := 19) rfl)
theorem mw_28_22 : Cond.code yX7_howMany cX7_howMany 2 (some .long) ∈ wsL_law := ck_28 _ (List.mem_of_getElem? (i := 22) rfl)
theorem mw_28_20 : Cond.instanceMethod yX7_howMany ∈ wsL_law := ck_28 _ (List.mem_of_getElem? (i := 20) rfl)
theorem mw_28_21 : Cond.selects RX7 yX7_howMany yX7_howMany ∈ wsL_law := ck_28 _ (List.mem_of_getElem? (i := 21) rfl)
theorem mw_30_4 : Cond.constantLong RX7 197 (31) ∈ wsL_law := ck_30 _ (List.mem_of_getElem? (i := 4) rfl)
theorem mw_29_23 : Cond.fieldLink RX7 199 "MudSharesModel" "h" "J" ∈ wsL_law := ck_29 _ (List.mem_of_getElem? (i := 23) rfl)
theorem fg_X7_199 : FG RX7 199 7 24 := ⟨RX7, TX7, 25, rfl, by decide, inlX7, mw_29_23⟩
theorem fp_X7_199 : FP RX7 199 7 24 .long := ⟨RX7, TX7, 25, tyX7, rfl, by decide, inlX7, mw_29_23, tyX7_ok, nmX7, rfl, by decide +kernel⟩
theorem kf_X7_lowest : KS yX7_lowest cX7_lowest 5 (some .long) 3 := ⟨mw_24_16, mw_24_15, mw_1_5, by decide, by decide, by decide +kernel⟩
theorem kf_X7_layBest : KV RX7 yX7_layBest cX7_layBest 8 none 1 := ⟨mw_22_18, mw_22_16, mw_22_17, mw_1_5, by decide, by decide, by decide +kernel⟩
theorem kf_X7_bestNow : KV RX7 yX7_bestNow cX7_bestNow 2 (some .long) 1 := ⟨mw_24_13, mw_24_11, mw_24_12, mw_1_5, by decide, by decide, by decide +kernel⟩
theorem kf_X7_shareNow : KV RX7 yX7_shareNow cX7_shareNow 3 (some .long) 2 := ⟨mw_25_22, mw_25_20, mw_25_21, mw_1_5, by decide, by decide, by decide +kernel⟩
theorem kf_X7_mixedAbove : KV RX7 yX7_mixedAbove cX7_mixedAbove 5 (some .long) 1 := ⟨mw_26_22, mw_26_20, mw_26_21, mw_1_5, by decide, by decide, by decide +kernel⟩
theorem kf_X7_pressNow : KV RX7 yX7_pressNow cX7_pressNow 9 (some .long) 3 := ⟨mw_26_18, mw_26_16, mw_26_17, mw_1_5, by decide, by decide, by decide +kernel⟩
theorem kf_X7_howMany : KV RX7 yX7_howMany cX7_howMany 2 (some .long) 1 := ⟨mw_28_22, mw_28_20, mw_28_21, mw_1_5, by decide, by decide, by decide +kernel⟩
def f_X7_bestNow (mbe : Int64) (mmf : Int64) (mbs : Int32) (mco : Int32) (q1 : Int32) : Int64 := (if q1 = 0 then (Int32.toInt64 mbs) else (if q1 = 3 then (Int32.toInt64 mco) else (f_X7_lowest mmf mbe (q1 - 1))))
set_option maxRecDepth 100000 in
set_option maxHeartbeats 4000000 in
theorem c_X7_bestNow (l : Launch) (D : va_G) (cI cJ : ClassId) (am ama amb amc amd ame amf amg amp amo : Nat) (mpl : Int32) (msc : Int32) (mtc : Int32) (msr : Int32) (mal : Int32) (mns : Int32) (mnn : Int32) (mnt : Int32) (mfi : Int32) (mnw : Int32) (mmy : Int32) (mbe : Int64) (mmf : Int64) (mbs : Int32) (mco : Int32) (mh : Int64) (mpg : Nat → Int32) (mam : Nat → Int32) (mwa : Nat → Int32) (mww : Nat → Int32) (mna : Nat → Int32) (mmb : Nat → Int32) (msh : Nat → Int64) (mpa : Nat → Int64) (mgo : Nat → Int64) (q1 : Int32) (hbe0 : ¬ mbe = 0) : CL l yX7_bestNow cX7_bestNow 2 2 D cI cJ [.ref am, .int q1] [(am, .inr (7, [.int mpl, .ref ama, .int msc, .int mtc, .ref amb, .ref amc, .ref amd, .int msr, .int mal, .int mns, .int mnn, .int mnt, .int mfi, .int mnw, .ref ame, .int mmy, .ref amf, .long mbe, .ref amg, .long mmf, .ref amp, .ref amo, .int mbs, .int mco, .long mh])), (ama, .inl (cI, 47, .inl mpg)), (amb, .inl (cI, 16, .inl mam)), (amc, .inl (cI, 4, .inl mwa)), (amd, .inl (cI, 4, .inl mww)), (ame, .inl (cI, 16, .inl mna)), (amf, .inl (cI, 4, .inl mmb)), (amg, .inl (cJ, 4, .inr (.inl msh))), (amp, .inl (cJ, 9, .inr (.inl mpa))), (amo, .inl (cJ, 3, .inr (.inl mgo)))] [(am, .inr (7, [.int mpl, .ref ama, .int msc, .int mtc, .ref amb, .ref amc, .ref amd, .int msr, .int mal, .int mns, .int mnn, .int mnt, .int mfi, .int mnw, .ref ame, .int mmy, .ref amf, .long mbe, .ref amg, .long mmf, .ref amp, .ref amo, .int mbs, .int mco, .long mh])), (ama, .inl (cI, 47, .inl mpg)), (amb, .inl (cI, 16, .inl mam)), (amc, .inl (cI, 4, .inl mwa)), (amd, .inl (cI, 4, .inl mww)), (ame, .inl (cI, 16, .inl mna)), (amf, .inl (cI, 4, .inl mmb)), (amg, .inl (cJ, 4, .inr (.inl msh))), (amp, .inl (cJ, 9, .inr (.inl mpa))), (amo, .inl (cJ, 3, .inr (.inl mgo)))] (f_X7_bestNow mbe mmf mbs mco q1) := by
  generalize hr : f_X7_bestNow mbe mmf mbs mco q1 = r
  refine fr_entryL (by decide) rfl ?_
  intro p e s m args below meth c A Q H locs hQ C hret hlk w ls hl
  have hx := C.1
  have hb := C.2.1
  have hl : lv_has ls 2 [(0, .ref am), (1, .int q1)] := hl
  have hr : (if q1 = 0 then (Int32.toInt64 mbs) else (if q1 = 3 then (Int32.toInt64 mco) else (f_X7_lowest mmf mbe (q1 - 1)))) = r := hr
  refine lv_iload_n hx hb dX7_bestNow_0 rfl (lv_at hl 1 rfl) ?_
  refine lv_if_ne (tgt := 12) hx hb dX7_bestNow_1 (by decide) (fun c1_1 => ?_) (fun c1_1 => ?_)
  · have hr := (if_neg c1_1).symm.trans hr
    refine lv_iload_n hx hb dX7_bestNow_12 rfl (lv_at hl 1 rfl) ?_
    refine lv_iconst (v := 3) hx hb dX7_bestNow_13 (by decide) ?_
    refine lv_icmp_ne (tgt := 25) hx hb dX7_bestNow_14 (by decide) (fun c14_2 => ?_) (fun c14_2 => ?_)
    · have hr := (if_neg c14_2).symm.trans hr
      refine lv_aload_n hx hb dX7_bestNow_25 rfl (lv_at hl 0 rfl) ?_
      refine fr_get C w fg_X7_146 0 rfl rfl dX7_bestNow_26 ?_
      refine lv_aload_n hx hb dX7_bestNow_29 rfl (lv_at hl 0 rfl) ?_
      refine fr_get C w fg_X7_142 0 rfl rfl dX7_bestNow_30 ?_
      refine lv_iload_n hx hb dX7_bestNow_33 rfl (lv_at hl 1 rfl) ?_
      refine lv_iconst (v := 1) hx hb dX7_bestNow_34 (by decide) ?_
      refine lv_isub hx hb dX7_bestNow_35 ?_
      refine fr_callLS (As := [.long mmf, .long mbe, .int (q1 - 1)]) (rest := []) C w kf_X7_lowest mw_24_14 (c_X7_lowest l D cI cJ mmf mbe (q1 - 1) hbe0) ⟨Nat.le_of_ble_eq_true rfl, Nat.le_of_ble_eq_true rfl⟩ ⟨Nat.le_refl 0, Nat.le_refl 0⟩ [] rfl rfl rfl (ws' := [(am, .inr (7, [.int mpl, .ref ama, .int msc, .int mtc, .ref amb, .ref amc, .ref amd, .int msr, .int mal, .int mns, .int mnn, .int mnt, .int mfi, .int mnw, .ref ame, .int mmy, .ref amf, .long mbe, .ref amg, .long mmf, .ref amp, .ref amo, .int mbs, .int mco, .long mh])), (ama, .inl (cI, 47, .inl mpg)), (amb, .inl (cI, 16, .inl mam)), (amc, .inl (cI, 4, .inl mwa)), (amd, .inl (cI, 4, .inl mww)), (ame, .inl (cI, 16, .inl mna)), (amf, .inl (cI, 4, .inl mmb)), (amg, .inl (cJ, 4, .inr (.inl msh))), (amp, .inl (cJ, 9, .inr (.inl mpa))), (amo, .inl (cJ, 3, .inr (.inl mgo)))]) rfl rfl hl.1 rfl (Nat.le_of_ble_eq_true rfl) dX7_bestNow_36 (fun H locs w => ?_)
      subst hr hQ
      exact fr_lret C hret hlk w rfl rfl dX7_bestNow_39
    · have hr := (if_pos c14_2).symm.trans hr
      refine lv_aload_n hx hb dX7_bestNow_17 rfl (lv_at hl 0 rfl) ?_
      refine fr_get C w fg_X7_152 0 rfl rfl dX7_bestNow_18 ?_
      refine lv_i2l (v := (Int32.toInt64 mco)) hx hb dX7_bestNow_21 rfl ?_
      refine lv_goto (tgt := 39) hx hb dX7_bestNow_22 (by decide) ?_
      subst hr hQ
      exact fr_lret C hret hlk w rfl rfl dX7_bestNow_39
  · have hr := (if_pos c1_1).symm.trans hr
    refine lv_aload_n hx hb dX7_bestNow_4 rfl (lv_at hl 0 rfl) ?_
    refine fr_get C w fg_X7_149 0 rfl rfl dX7_bestNow_5 ?_
    refine lv_i2l (v := (Int32.toInt64 mbs)) hx hb dX7_bestNow_8 rfl ?_
    refine lv_goto (tgt := 39) hx hb dX7_bestNow_9 (by decide) ?_
    subst hr hQ
    exact fr_lret C hret hlk w rfl rfl dX7_bestNow_39
def f_X7_best (msc : Int32) (mtc : Int32) (mmy : Int32) (mbe : Int64) (mmf : Int64) (mbs : Int32) (mco : Int32) (mam : Nat → Int32) (mwa : Nat → Int32) (mww : Nat → Int32) (mmb : Nat → Int32) (msh : Nat → Int64) (mpa : Nat → Int64) (mgo : Nat → Int64) (q1 : Int32) (q2 : Int32) : Int64 × Int32 × Int64 × Int64 × Int32 × Int32 × (Nat → Int32) × (Nat → Int64) × (Nat → Int64) × (Nat → Int64) := (if msc = 0 then ((-1000004), mmy, mbe, mmf, mbs, mco, mmb, msh, mpa, mgo) else (if (f_X7_isUsed mtc q1) = 0 then ((-1000003), mmy, mbe, mmf, mbs, mco, mmb, msh, mpa, mgo) else (if (f_X7_within q2 0 3) = 0 then ((-1000003), mmy, mbe, mmf, mbs, mco, mmb, msh, mpa, mgo) else ((fun (z34_4 : Int32 × Int64 × Int64 × Int32 × Int32 × (Nat → Int32) × (Nat → Int64) × (Nat → Int64) × (Nat → Int64)) => ((f_X7_bestNow z34_4.2.1 z34_4.2.2.1 z34_4.2.2.2.1 z34_4.2.2.2.2.1 q2), z34_4.1, z34_4.2.1, z34_4.2.2.1, z34_4.2.2.2.1, z34_4.2.2.2.2.1, z34_4.2.2.2.2.2.1, z34_4.2.2.2.2.2.2.1, z34_4.2.2.2.2.2.2.2.1, z34_4.2.2.2.2.2.2.2.2)) (f_X7_layBest msc mtc mmy mbe mmf mam mwa mww mmb msh mpa mgo q1)))))
set_option maxRecDepth 100000 in
set_option maxHeartbeats 4000000 in
theorem c_X7_best (l : Launch) (D : va_G) (cI cJ : ClassId) (am ama amb amc amd ame amf amg amp amo : Nat) (mpl : Int32) (msc : Int32) (mtc : Int32) (msr : Int32) (mal : Int32) (mns : Int32) (mnn : Int32) (mnt : Int32) (mfi : Int32) (mnw : Int32) (mmy : Int32) (mbe : Int64) (mmf : Int64) (mbs : Int32) (mco : Int32) (mh : Int64) (mpg : Nat → Int32) (mam : Nat → Int32) (mwa : Nat → Int32) (mww : Nat → Int32) (mna : Nat → Int32) (mmb : Nat → Int32) (msh : Nat → Int64) (mpa : Nat → Int64) (mgo : Nat → Int64) (q1 : Int32) (q2 : Int32) (hms : LE4 msc) (hmt : LE4 mtc) (hmb : MB mmb) (hpos : HPOSd msc mtc mam mwa mww) (hbe : HBEd msc mtc mam mwa mww) : CL l yX7_best cX7_best 3 4 D cI cJ [.ref am, .int q1, .int q2] [(am, .inr (7, [.int mpl, .ref ama, .int msc, .int mtc, .ref amb, .ref amc, .ref amd, .int msr, .int mal, .int mns, .int mnn, .int mnt, .int mfi, .int mnw, .ref ame, .int mmy, .ref amf, .long mbe, .ref amg, .long mmf, .ref amp, .ref amo, .int mbs, .int mco, .long mh])), (ama, .inl (cI, 47, .inl mpg)), (amb, .inl (cI, 16, .inl mam)), (amc, .inl (cI, 4, .inl mwa)), (amd, .inl (cI, 4, .inl mww)), (ame, .inl (cI, 16, .inl mna)), (amf, .inl (cI, 4, .inl mmb)), (amg, .inl (cJ, 4, .inr (.inl msh))), (amp, .inl (cJ, 9, .inr (.inl mpa))), (amo, .inl (cJ, 3, .inr (.inl mgo)))] [(am, .inr (7, [.int mpl, .ref ama, .int msc, .int mtc, .ref amb, .ref amc, .ref amd, .int msr, .int mal, .int mns, .int mnn, .int mnt, .int mfi, .int mnw, .ref ame, .int ((f_X7_best msc mtc mmy mbe mmf mbs mco mam mwa mww mmb msh mpa mgo q1 q2).2.1), .ref amf, .long ((f_X7_best msc mtc mmy mbe mmf mbs mco mam mwa mww mmb msh mpa mgo q1 q2).2.2.1), .ref amg, .long ((f_X7_best msc mtc mmy mbe mmf mbs mco mam mwa mww mmb msh mpa mgo q1 q2).2.2.2.1), .ref amp, .ref amo, .int ((f_X7_best msc mtc mmy mbe mmf mbs mco mam mwa mww mmb msh mpa mgo q1 q2).2.2.2.2.1), .int ((f_X7_best msc mtc mmy mbe mmf mbs mco mam mwa mww mmb msh mpa mgo q1 q2).2.2.2.2.2.1), .long mh])), (ama, .inl (cI, 47, .inl mpg)), (amb, .inl (cI, 16, .inl mam)), (amc, .inl (cI, 4, .inl mwa)), (amd, .inl (cI, 4, .inl mww)), (ame, .inl (cI, 16, .inl mna)), (amf, .inl (cI, 4, .inl ((f_X7_best msc mtc mmy mbe mmf mbs mco mam mwa mww mmb msh mpa mgo q1 q2).2.2.2.2.2.2.1))), (amg, .inl (cJ, 4, .inr (.inl ((f_X7_best msc mtc mmy mbe mmf mbs mco mam mwa mww mmb msh mpa mgo q1 q2).2.2.2.2.2.2.2.1)))), (amp, .inl (cJ, 9, .inr (.inl ((f_X7_best msc mtc mmy mbe mmf mbs mco mam mwa mww mmb msh mpa mgo q1 q2).2.2.2.2.2.2.2.2.1)))), (amo, .inl (cJ, 3, .inr (.inl ((f_X7_best msc mtc mmy mbe mmf mbs mco mam mwa mww mmb msh mpa mgo q1 q2).2.2.2.2.2.2.2.2.2))))] ((f_X7_best msc mtc mmy mbe mmf mbs mco mam mwa mww mmb msh mpa mgo q1 q2).1) := by
  generalize hr : f_X7_best msc mtc mmy mbe mmf mbs mco mam mwa mww mmb msh mpa mgo q1 q2 = r
  refine fr_entryL (by decide) rfl ?_
  intro p e s m args below meth c A Q H locs hQ C hret hlk w ls hl
  have hx := C.1
  have hb := C.2.1
  have hl : lv_has ls 3 [(0, .ref am), (1, .int q1), (2, .int q2)] := hl
  have hr : (if msc = 0 then ((-1000004), mmy, mbe, mmf, mbs, mco, mmb, msh, mpa, mgo) else (if (f_X7_isUsed mtc q1) = 0 then ((-1000003), mmy, mbe, mmf, mbs, mco, mmb, msh, mpa, mgo) else (if (f_X7_within q2 0 3) = 0 then ((-1000003), mmy, mbe, mmf, mbs, mco, mmb, msh, mpa, mgo) else ((fun (z34_4 : Int32 × Int64 × Int64 × Int32 × Int32 × (Nat → Int32) × (Nat → Int64) × (Nat → Int64) × (Nat → Int64)) => ((f_X7_bestNow z34_4.2.1 z34_4.2.2.1 z34_4.2.2.2.1 z34_4.2.2.2.2.1 q2), z34_4.1, z34_4.2.1, z34_4.2.2.1, z34_4.2.2.2.1, z34_4.2.2.2.2.1, z34_4.2.2.2.2.2.1, z34_4.2.2.2.2.2.2.1, z34_4.2.2.2.2.2.2.2.1, z34_4.2.2.2.2.2.2.2.2)) (f_X7_layBest msc mtc mmy mbe mmf mam mwa mww mmb msh mpa mgo q1))))) = r := hr
  refine lv_aload_n hx hb dX7_best_0 rfl (lv_at hl 0 rfl) ?_
  refine fr_get C w fg_X7_78 0 rfl rfl dX7_best_1 ?_
  refine lv_if_ne (tgt := 11) hx hb dX7_best_4 (by decide) (fun c4_1 => ?_) (fun c4_1 => ?_)
  · have hr := (if_neg c4_1).symm.trans hr
    refine lv_aload_n hx hb dX7_best_11 rfl (lv_at hl 0 rfl) ?_
    refine lv_iload_n hx hb dX7_best_12 rfl (lv_at hl 1 rfl) ?_
    refine fr_callIV (As := [.int q1]) (rest := []) C w kf_X7_isUsed mw_16_11 (c_X7_isUsed l D cI cJ am ama amb amc amd ame amf amg amp amo mpl msc mtc msr mal mns mnn mnt mfi mnw mmy mbe mmf mbs mco mh mpg mam mwa mww mna mmb msh mpa mgo q1) ⟨Nat.le_of_ble_eq_true rfl, Nat.le_of_ble_eq_true rfl⟩ ⟨Nat.le_refl 0, Nat.le_refl 0⟩ [0, 1, 2, 3, 4, 5, 6, 7, 8, 9] rfl rfl rfl (ws' := [(am, .inr (7, [.int mpl, .ref ama, .int msc, .int mtc, .ref amb, .ref amc, .ref amd, .int msr, .int mal, .int mns, .int mnn, .int mnt, .int mfi, .int mnw, .ref ame, .int mmy, .ref amf, .long mbe, .ref amg, .long mmf, .ref amp, .ref amo, .int mbs, .int mco, .long mh])), (ama, .inl (cI, 47, .inl mpg)), (amb, .inl (cI, 16, .inl mam)), (amc, .inl (cI, 4, .inl mwa)), (amd, .inl (cI, 4, .inl mww)), (ame, .inl (cI, 16, .inl mna)), (amf, .inl (cI, 4, .inl mmb)), (amg, .inl (cJ, 4, .inr (.inl msh))), (amp, .inl (cJ, 9, .inr (.inl mpa))), (amo, .inl (cJ, 3, .inr (.inl mgo)))]) rfl rfl rfl rfl hl.1 rfl (Nat.le_of_ble_eq_true rfl) dX7_best_13 (fun H locs w => ?_)
    refine lv_if_eq (tgt := 28) hx hb dX7_best_16 (by decide) (fun c16_2 => ?_) (fun c16_2 => ?_)
    · have hr := (if_pos c16_2).symm.trans hr
      refine lv_ldc2 hx hb C.2.2.2.1 (C.2.2.2.2.1 _ mw_5_15) dX7_best_28 ?_
      subst hr hQ
      exact fr_lret C hret hlk w rfl rfl dX7_best_31
    · have hr := (if_neg c16_2).symm.trans hr
      refine lv_iload_n hx hb dX7_best_19 rfl (lv_at hl 2 rfl) ?_
      refine lv_iconst (v := 0) hx hb dX7_best_20 (by decide) ?_
      refine lv_iconst (v := 3) hx hb dX7_best_21 (by decide) ?_
      refine fr_callIS (As := [.int q2, .int 0, .int 3]) (rest := []) C w kf_X7_within mw_5_18 (c_X7_within l D cI cJ q2 0 3) ⟨Nat.le_of_ble_eq_true rfl, Nat.le_of_ble_eq_true rfl⟩ ⟨Nat.le_refl 0, Nat.le_refl 0⟩ [] rfl rfl rfl (ws' := [(am, .inr (7, [.int mpl, .ref ama, .int msc, .int mtc, .ref amb, .ref amc, .ref amd, .int msr, .int mal, .int mns, .int mnn, .int mnt, .int mfi, .int mnw, .ref ame, .int mmy, .ref amf, .long mbe, .ref amg, .long mmf, .ref amp, .ref amo, .int mbs, .int mco, .long mh])), (ama, .inl (cI, 47, .inl mpg)), (amb, .inl (cI, 16, .inl mam)), (amc, .inl (cI, 4, .inl mwa)), (amd, .inl (cI, 4, .inl mww)), (ame, .inl (cI, 16, .inl mna)), (amf, .inl (cI, 4, .inl mmb)), (amg, .inl (cJ, 4, .inr (.inl msh))), (amp, .inl (cJ, 9, .inr (.inl mpa))), (amo, .inl (cJ, 3, .inr (.inl mgo)))]) rfl rfl hl.1 rfl (Nat.le_of_ble_eq_true rfl) dX7_best_22 (fun H locs w => ?_)
      refine lv_if_ne (tgt := 32) hx hb dX7_best_25 (by decide) (fun c25_3 => ?_) (fun c25_3 => ?_)
      · have hr := (if_neg c25_3).symm.trans hr
        refine lv_aload_n hx hb dX7_best_32 rfl (lv_at hl 0 rfl) ?_
        refine lv_iload_n hx hb dX7_best_33 rfl (lv_at hl 1 rfl) ?_
        obtain ⟨z34_4, hz34_4⟩ : ∃ y, (f_X7_layBest msc mtc mmy mbe mmf mam mwa mww mmb msh mpa mgo q1) = y := ⟨_, rfl⟩
        have hcz34_4 := c_X7_layBest l D cI cJ am ama amb amc amd ame amf amg amp amo mpl msc mtc msr mal mns mnn mnt mfi mnw mmy mbe mmf mbs mco mh mpg mam mwa mww mna mmb msh mpa mgo q1 (by assumption) (by assumption) (by assumption) (by assumption)
        rw [hz34_4] at hcz34_4
        have hr : ((f_X7_bestNow z34_4.2.1 z34_4.2.2.1 z34_4.2.2.2.1 z34_4.2.2.2.2.1 q2), z34_4.1, z34_4.2.1, z34_4.2.2.1, z34_4.2.2.2.1, z34_4.2.2.2.2.1, z34_4.2.2.2.2.2.1, z34_4.2.2.2.2.2.2.1, z34_4.2.2.2.2.2.2.2.1, z34_4.2.2.2.2.2.2.2.2) = r := by subst hz34_4; exact hr
        refine fr_callVV (As := [.int q1]) (rest := []) C w kf_X7_layBest mw_22_15 (hcz34_4) ⟨Nat.le_of_ble_eq_true rfl, Nat.le_of_ble_eq_true rfl⟩ ⟨Nat.le_refl 0, Nat.le_refl 0⟩ [0, 1, 2, 3, 4, 5, 6, 7, 8, 9] rfl rfl rfl (ws' := [(am, .inr (7, [.int mpl, .ref ama, .int msc, .int mtc, .ref amb, .ref amc, .ref amd, .int msr, .int mal, .int mns, .int mnn, .int mnt, .int mfi, .int mnw, .ref ame, .int z34_4.1, .ref amf, .long z34_4.2.1, .ref amg, .long z34_4.2.2.1, .ref amp, .ref amo, .int z34_4.2.2.2.1, .int z34_4.2.2.2.2.1, .long mh])), (ama, .inl (cI, 47, .inl mpg)), (amb, .inl (cI, 16, .inl mam)), (amc, .inl (cI, 4, .inl mwa)), (amd, .inl (cI, 4, .inl mww)), (ame, .inl (cI, 16, .inl mna)), (amf, .inl (cI, 4, .inl z34_4.2.2.2.2.2.1)), (amg, .inl (cJ, 4, .inr (.inl z34_4.2.2.2.2.2.2.1))), (amp, .inl (cJ, 9, .inr (.inl z34_4.2.2.2.2.2.2.2.1))), (amo, .inl (cJ, 3, .inr (.inl z34_4.2.2.2.2.2.2.2.2)))]) rfl rfl rfl rfl hl.1 rfl (Nat.le_of_ble_eq_true rfl) dX7_best_34 (fun H locs w => ?_)
        refine lv_aload_n hx hb dX7_best_37 rfl (lv_at hl 0 rfl) ?_
        refine lv_iload_n hx hb dX7_best_38 rfl (lv_at hl 2 rfl) ?_
        refine fr_callLV (As := [.int q2]) (rest := []) C w kf_X7_bestNow mw_24_10 (c_X7_bestNow l D cI cJ am ama amb amc amd ame amf amg amp amo mpl msc mtc msr mal mns mnn mnt mfi mnw z34_4.1 z34_4.2.1 z34_4.2.2.1 z34_4.2.2.2.1 z34_4.2.2.2.2.1 mh mpg mam mwa mww mna z34_4.2.2.2.2.2.1 z34_4.2.2.2.2.2.2.1 z34_4.2.2.2.2.2.2.2.1 z34_4.2.2.2.2.2.2.2.2 q2 (by subst_vars; exact hbe _ _ _ _ _ _ _ _ hmb)) ⟨Nat.le_of_ble_eq_true rfl, Nat.le_of_ble_eq_true rfl⟩ ⟨Nat.le_refl 0, Nat.le_refl 0⟩ [0, 1, 2, 3, 4, 5, 6, 7, 8, 9] rfl rfl rfl (ws' := [(am, .inr (7, [.int mpl, .ref ama, .int msc, .int mtc, .ref amb, .ref amc, .ref amd, .int msr, .int mal, .int mns, .int mnn, .int mnt, .int mfi, .int mnw, .ref ame, .int z34_4.1, .ref amf, .long z34_4.2.1, .ref amg, .long z34_4.2.2.1, .ref amp, .ref amo, .int z34_4.2.2.2.1, .int z34_4.2.2.2.2.1, .long mh])), (ama, .inl (cI, 47, .inl mpg)), (amb, .inl (cI, 16, .inl mam)), (amc, .inl (cI, 4, .inl mwa)), (amd, .inl (cI, 4, .inl mww)), (ame, .inl (cI, 16, .inl mna)), (amf, .inl (cI, 4, .inl z34_4.2.2.2.2.2.1)), (amg, .inl (cJ, 4, .inr (.inl z34_4.2.2.2.2.2.2.1))), (amp, .inl (cJ, 9, .inr (.inl z34_4.2.2.2.2.2.2.2.1))), (amo, .inl (cJ, 3, .inr (.inl z34_4.2.2.2.2.2.2.2.2)))]) rfl rfl rfl rfl hl.1 rfl (Nat.le_of_ble_eq_true rfl) dX7_best_39 (fun H locs w => ?_)
        subst hr hQ
        exact fr_lret C hret hlk w rfl rfl dX7_best_42
      · have hr := (if_pos c25_3).symm.trans hr
        refine lv_ldc2 hx hb C.2.2.2.1 (C.2.2.2.2.1 _ mw_5_15) dX7_best_28 ?_
        subst hr hQ
        exact fr_lret C hret hlk w rfl rfl dX7_best_31
  · have hr := (if_pos c4_1).symm.trans hr
    refine lv_ldc2 hx hb C.2.2.2.1 (C.2.2.2.2.1 _ mw_10_12) dX7_best_7 ?_
    subst hr hQ
    exact fr_lret C hret hlk w rfl rfl dX7_best_10
def f_X7_shareNow (mbe : Int64) (msh : Nat → Int64) (q1 : Int32) (q2 : Int32) : Int64 := (f_X7_lowest (msh (Int32.toNatClampNeg q1)) mbe q2)
set_option maxRecDepth 100000 in
set_option maxHeartbeats 4000000 in
theorem c_X7_shareNow (l : Launch) (D : va_G) (cI cJ : ClassId) (am ama amb amc amd ame amf amg amp amo : Nat) (mpl : Int32) (msc : Int32) (mtc : Int32) (msr : Int32) (mal : Int32) (mns : Int32) (mnn : Int32) (mnt : Int32) (mfi : Int32) (mnw : Int32) (mmy : Int32) (mbe : Int64) (mmf : Int64) (mbs : Int32) (mco : Int32) (mh : Int64) (mpg : Nat → Int32) (mam : Nat → Int32) (mwa : Nat → Int32) (mww : Nat → Int32) (mna : Nat → Int32) (mmb : Nat → Int32) (msh : Nat → Int64) (mpa : Nat → Int64) (mgo : Nat → Int64) (q1 : Int32) (q2 : Int32) (hq1 : L4 q1) (hbe0 : ¬ mbe = 0) : CL l yX7_shareNow cX7_shareNow 3 2 D cI cJ [.ref am, .int q1, .int q2] [(am, .inr (7, [.int mpl, .ref ama, .int msc, .int mtc, .ref amb, .ref amc, .ref amd, .int msr, .int mal, .int mns, .int mnn, .int mnt, .int mfi, .int mnw, .ref ame, .int mmy, .ref amf, .long mbe, .ref amg, .long mmf, .ref amp, .ref amo, .int mbs, .int mco, .long mh])), (ama, .inl (cI, 47, .inl mpg)), (amb, .inl (cI, 16, .inl mam)), (amc, .inl (cI, 4, .inl mwa)), (amd, .inl (cI, 4, .inl mww)), (ame, .inl (cI, 16, .inl mna)), (amf, .inl (cI, 4, .inl mmb)), (amg, .inl (cJ, 4, .inr (.inl msh))), (amp, .inl (cJ, 9, .inr (.inl mpa))), (amo, .inl (cJ, 3, .inr (.inl mgo)))] [(am, .inr (7, [.int mpl, .ref ama, .int msc, .int mtc, .ref amb, .ref amc, .ref amd, .int msr, .int mal, .int mns, .int mnn, .int mnt, .int mfi, .int mnw, .ref ame, .int mmy, .ref amf, .long mbe, .ref amg, .long mmf, .ref amp, .ref amo, .int mbs, .int mco, .long mh])), (ama, .inl (cI, 47, .inl mpg)), (amb, .inl (cI, 16, .inl mam)), (amc, .inl (cI, 4, .inl mwa)), (amd, .inl (cI, 4, .inl mww)), (ame, .inl (cI, 16, .inl mna)), (amf, .inl (cI, 4, .inl mmb)), (amg, .inl (cJ, 4, .inr (.inl msh))), (amp, .inl (cJ, 9, .inr (.inl mpa))), (amo, .inl (cJ, 3, .inr (.inl mgo)))] (f_X7_shareNow mbe msh q1 q2) := by
  generalize hr : f_X7_shareNow mbe msh q1 q2 = r
  refine fr_entryL (by decide) rfl ?_
  intro p e s m args below meth c A Q H locs hQ C hret hlk w ls hl
  have hx := C.1
  have hb := C.2.1
  have hl : lv_has ls 3 [(0, .ref am), (1, .int q1), (2, .int q2)] := hl
  have hr : (f_X7_lowest (msh (Int32.toNatClampNeg q1)) mbe q2) = r := hr
  refine lv_aload_n hx hb dX7_shareNow_0 rfl (lv_at hl 0 rfl) ?_
  refine fr_get C w fg_X7_28 0 rfl rfl dX7_shareNow_1 ?_
  refine lv_iload_n hx hb dX7_shareNow_4 rfl (lv_at hl 1 rfl) ?_
  refine fr_lald C w 7 rfl hq1.vi dX7_shareNow_5 ?_
  refine lv_aload_n hx hb dX7_shareNow_6 rfl (lv_at hl 0 rfl) ?_
  refine fr_get C w fg_X7_142 0 rfl rfl dX7_shareNow_7 ?_
  refine lv_iload_n hx hb dX7_shareNow_10 rfl (lv_at hl 2 rfl) ?_
  refine fr_callLS (As := [.long (msh (Int32.toNatClampNeg q1)), .long mbe, .int q2]) (rest := []) C w kf_X7_lowest mw_24_14 (c_X7_lowest l D cI cJ (msh (Int32.toNatClampNeg q1)) mbe q2 hbe0) ⟨Nat.le_of_ble_eq_true rfl, Nat.le_of_ble_eq_true rfl⟩ ⟨Nat.le_refl 0, Nat.le_refl 0⟩ [] rfl rfl rfl (ws' := [(am, .inr (7, [.int mpl, .ref ama, .int msc, .int mtc, .ref amb, .ref amc, .ref amd, .int msr, .int mal, .int mns, .int mnn, .int mnt, .int mfi, .int mnw, .ref ame, .int mmy, .ref amf, .long mbe, .ref amg, .long mmf, .ref amp, .ref amo, .int mbs, .int mco, .long mh])), (ama, .inl (cI, 47, .inl mpg)), (amb, .inl (cI, 16, .inl mam)), (amc, .inl (cI, 4, .inl mwa)), (amd, .inl (cI, 4, .inl mww)), (ame, .inl (cI, 16, .inl mna)), (amf, .inl (cI, 4, .inl mmb)), (amg, .inl (cJ, 4, .inr (.inl msh))), (amp, .inl (cJ, 9, .inr (.inl mpa))), (amo, .inl (cJ, 3, .inr (.inl mgo)))]) rfl rfl hl.1 rfl (Nat.le_of_ble_eq_true rfl) dX7_shareNow_11 (fun H locs w => ?_)
  subst hr hQ
  exact fr_lret C hret hlk w rfl rfl dX7_shareNow_14
def f_X7_share (msc : Int32) (mtc : Int32) (mmy : Int32) (mbe : Int64) (mmf : Int64) (mbs : Int32) (mco : Int32) (mam : Nat → Int32) (mwa : Nat → Int32) (mww : Nat → Int32) (mmb : Nat → Int32) (msh : Nat → Int64) (mpa : Nat → Int64) (mgo : Nat → Int64) (q1 : Int32) (q2 : Int32) (q3 : Int32) : Int64 × Int32 × Int64 × Int64 × Int32 × Int32 × (Nat → Int32) × (Nat → Int64) × (Nat → Int64) × (Nat → Int64) := (if (f_X7_isSource msc q1) = 0 then ((-1000002), mmy, mbe, mmf, mbs, mco, mmb, msh, mpa, mgo) else (if (f_X7_isUsed mtc q2) = 0 then ((-1000003), mmy, mbe, mmf, mbs, mco, mmb, msh, mpa, mgo) else (if (f_X7_within q3 0 1) = 0 then ((-1000003), mmy, mbe, mmf, mbs, mco, mmb, msh, mpa, mgo) else ((fun (z35_4 : Int32 × Int64 × Int64 × Int32 × Int32 × (Nat → Int32) × (Nat → Int64) × (Nat → Int64) × (Nat → Int64)) => ((f_X7_shareNow z35_4.2.1 z35_4.2.2.2.2.2.2.1 q1 q3), z35_4.1, z35_4.2.1, z35_4.2.2.1, z35_4.2.2.2.1, z35_4.2.2.2.2.1, z35_4.2.2.2.2.2.1, z35_4.2.2.2.2.2.2.1, z35_4.2.2.2.2.2.2.2.1, z35_4.2.2.2.2.2.2.2.2)) (f_X7_layBest msc mtc mmy mbe mmf mam mwa mww mmb msh mpa mgo q2)))))
set_option maxRecDepth 100000 in
set_option maxHeartbeats 4000000 in
theorem c_X7_share (l : Launch) (D : va_G) (cI cJ : ClassId) (am ama amb amc amd ame amf amg amp amo : Nat) (mpl : Int32) (msc : Int32) (mtc : Int32) (msr : Int32) (mal : Int32) (mns : Int32) (mnn : Int32) (mnt : Int32) (mfi : Int32) (mnw : Int32) (mmy : Int32) (mbe : Int64) (mmf : Int64) (mbs : Int32) (mco : Int32) (mh : Int64) (mpg : Nat → Int32) (mam : Nat → Int32) (mwa : Nat → Int32) (mww : Nat → Int32) (mna : Nat → Int32) (mmb : Nat → Int32) (msh : Nat → Int64) (mpa : Nat → Int64) (mgo : Nat → Int64) (q1 : Int32) (q2 : Int32) (q3 : Int32) (hms : LE4 msc) (hmt : LE4 mtc) (hmb : MB mmb) (hpos : HPOSd msc mtc mam mwa mww) (hbe : HBEd msc mtc mam mwa mww) : CL l yX7_share cX7_share 4 4 D cI cJ [.ref am, .int q1, .int q2, .int q3] [(am, .inr (7, [.int mpl, .ref ama, .int msc, .int mtc, .ref amb, .ref amc, .ref amd, .int msr, .int mal, .int mns, .int mnn, .int mnt, .int mfi, .int mnw, .ref ame, .int mmy, .ref amf, .long mbe, .ref amg, .long mmf, .ref amp, .ref amo, .int mbs, .int mco, .long mh])), (ama, .inl (cI, 47, .inl mpg)), (amb, .inl (cI, 16, .inl mam)), (amc, .inl (cI, 4, .inl mwa)), (amd, .inl (cI, 4, .inl mww)), (ame, .inl (cI, 16, .inl mna)), (amf, .inl (cI, 4, .inl mmb)), (amg, .inl (cJ, 4, .inr (.inl msh))), (amp, .inl (cJ, 9, .inr (.inl mpa))), (amo, .inl (cJ, 3, .inr (.inl mgo)))] [(am, .inr (7, [.int mpl, .ref ama, .int msc, .int mtc, .ref amb, .ref amc, .ref amd, .int msr, .int mal, .int mns, .int mnn, .int mnt, .int mfi, .int mnw, .ref ame, .int ((f_X7_share msc mtc mmy mbe mmf mbs mco mam mwa mww mmb msh mpa mgo q1 q2 q3).2.1), .ref amf, .long ((f_X7_share msc mtc mmy mbe mmf mbs mco mam mwa mww mmb msh mpa mgo q1 q2 q3).2.2.1), .ref amg, .long ((f_X7_share msc mtc mmy mbe mmf mbs mco mam mwa mww mmb msh mpa mgo q1 q2 q3).2.2.2.1), .ref amp, .ref amo, .int ((f_X7_share msc mtc mmy mbe mmf mbs mco mam mwa mww mmb msh mpa mgo q1 q2 q3).2.2.2.2.1), .int ((f_X7_share msc mtc mmy mbe mmf mbs mco mam mwa mww mmb msh mpa mgo q1 q2 q3).2.2.2.2.2.1), .long mh])), (ama, .inl (cI, 47, .inl mpg)), (amb, .inl (cI, 16, .inl mam)), (amc, .inl (cI, 4, .inl mwa)), (amd, .inl (cI, 4, .inl mww)), (ame, .inl (cI, 16, .inl mna)), (amf, .inl (cI, 4, .inl ((f_X7_share msc mtc mmy mbe mmf mbs mco mam mwa mww mmb msh mpa mgo q1 q2 q3).2.2.2.2.2.2.1))), (amg, .inl (cJ, 4, .inr (.inl ((f_X7_share msc mtc mmy mbe mmf mbs mco mam mwa mww mmb msh mpa mgo q1 q2 q3).2.2.2.2.2.2.2.1)))), (amp, .inl (cJ, 9, .inr (.inl ((f_X7_share msc mtc mmy mbe mmf mbs mco mam mwa mww mmb msh mpa mgo q1 q2 q3).2.2.2.2.2.2.2.2.1)))), (amo, .inl (cJ, 3, .inr (.inl ((f_X7_share msc mtc mmy mbe mmf mbs mco mam mwa mww mmb msh mpa mgo q1 q2 q3).2.2.2.2.2.2.2.2.2))))] ((f_X7_share msc mtc mmy mbe mmf mbs mco mam mwa mww mmb msh mpa mgo q1 q2 q3).1) := by
  generalize hr : f_X7_share msc mtc mmy mbe mmf mbs mco mam mwa mww mmb msh mpa mgo q1 q2 q3 = r
  refine fr_entryL (by decide) rfl ?_
  intro p e s m args below meth c A Q H locs hQ C hret hlk w ls hl
  have hx := C.1
  have hb := C.2.1
  have hl : lv_has ls 4 [(0, .ref am), (1, .int q1), (2, .int q2), (3, .int q3)] := hl
  have hr : (if (f_X7_isSource msc q1) = 0 then ((-1000002), mmy, mbe, mmf, mbs, mco, mmb, msh, mpa, mgo) else (if (f_X7_isUsed mtc q2) = 0 then ((-1000003), mmy, mbe, mmf, mbs, mco, mmb, msh, mpa, mgo) else (if (f_X7_within q3 0 1) = 0 then ((-1000003), mmy, mbe, mmf, mbs, mco, mmb, msh, mpa, mgo) else ((fun (z35_4 : Int32 × Int64 × Int64 × Int32 × Int32 × (Nat → Int32) × (Nat → Int64) × (Nat → Int64) × (Nat → Int64)) => ((f_X7_shareNow z35_4.2.1 z35_4.2.2.2.2.2.2.1 q1 q3), z35_4.1, z35_4.2.1, z35_4.2.2.1, z35_4.2.2.2.1, z35_4.2.2.2.2.1, z35_4.2.2.2.2.2.1, z35_4.2.2.2.2.2.2.1, z35_4.2.2.2.2.2.2.2.1, z35_4.2.2.2.2.2.2.2.2)) (f_X7_layBest msc mtc mmy mbe mmf mam mwa mww mmb msh mpa mgo q2))))) = r := hr
  refine lv_aload_n hx hb dX7_share_0 rfl (lv_at hl 0 rfl) ?_
  refine lv_iload_n hx hb dX7_share_1 rfl (lv_at hl 1 rfl) ?_
  refine fr_callIV (As := [.int q1]) (rest := []) C w kf_X7_isSource mw_13_2 (c_X7_isSource l D cI cJ am ama amb amc amd ame amf amg amp amo mpl msc mtc msr mal mns mnn mnt mfi mnw mmy mbe mmf mbs mco mh mpg mam mwa mww mna mmb msh mpa mgo q1) ⟨Nat.le_of_ble_eq_true rfl, Nat.le_of_ble_eq_true rfl⟩ ⟨Nat.le_refl 0, Nat.le_refl 0⟩ [0, 1, 2, 3, 4, 5, 6, 7, 8, 9] rfl rfl rfl (ws' := [(am, .inr (7, [.int mpl, .ref ama, .int msc, .int mtc, .ref amb, .ref amc, .ref amd, .int msr, .int mal, .int mns, .int mnn, .int mnt, .int mfi, .int mnw, .ref ame, .int mmy, .ref amf, .long mbe, .ref amg, .long mmf, .ref amp, .ref amo, .int mbs, .int mco, .long mh])), (ama, .inl (cI, 47, .inl mpg)), (amb, .inl (cI, 16, .inl mam)), (amc, .inl (cI, 4, .inl mwa)), (amd, .inl (cI, 4, .inl mww)), (ame, .inl (cI, 16, .inl mna)), (amf, .inl (cI, 4, .inl mmb)), (amg, .inl (cJ, 4, .inr (.inl msh))), (amp, .inl (cJ, 9, .inr (.inl mpa))), (amo, .inl (cJ, 3, .inr (.inl mgo)))]) rfl rfl rfl rfl hl.1 rfl (Nat.le_of_ble_eq_true rfl) dX7_share_2 (fun H locs w => ?_)
  refine lv_if_ne (tgt := 12) hx hb dX7_share_5 (by decide) (fun c5_1 => ?_) (fun c5_1 => ?_)
  · have hr := (if_neg c5_1).symm.trans hr
    refine lv_aload_n hx hb dX7_share_12 rfl (lv_at hl 0 rfl) ?_
    refine lv_iload_n hx hb dX7_share_13 rfl (lv_at hl 2 rfl) ?_
    refine fr_callIV (As := [.int q2]) (rest := []) C w kf_X7_isUsed mw_16_11 (c_X7_isUsed l D cI cJ am ama amb amc amd ame amf amg amp amo mpl msc mtc msr mal mns mnn mnt mfi mnw mmy mbe mmf mbs mco mh mpg mam mwa mww mna mmb msh mpa mgo q2) ⟨Nat.le_of_ble_eq_true rfl, Nat.le_of_ble_eq_true rfl⟩ ⟨Nat.le_refl 0, Nat.le_refl 0⟩ [0, 1, 2, 3, 4, 5, 6, 7, 8, 9] rfl rfl rfl (ws' := [(am, .inr (7, [.int mpl, .ref ama, .int msc, .int mtc, .ref amb, .ref amc, .ref amd, .int msr, .int mal, .int mns, .int mnn, .int mnt, .int mfi, .int mnw, .ref ame, .int mmy, .ref amf, .long mbe, .ref amg, .long mmf, .ref amp, .ref amo, .int mbs, .int mco, .long mh])), (ama, .inl (cI, 47, .inl mpg)), (amb, .inl (cI, 16, .inl mam)), (amc, .inl (cI, 4, .inl mwa)), (amd, .inl (cI, 4, .inl mww)), (ame, .inl (cI, 16, .inl mna)), (amf, .inl (cI, 4, .inl mmb)), (amg, .inl (cJ, 4, .inr (.inl msh))), (amp, .inl (cJ, 9, .inr (.inl mpa))), (amo, .inl (cJ, 3, .inr (.inl mgo)))]) rfl rfl rfl rfl hl.1 rfl (Nat.le_of_ble_eq_true rfl) dX7_share_14 (fun H locs w => ?_)
    refine lv_if_eq (tgt := 29) hx hb dX7_share_17 (by decide) (fun c17_2 => ?_) (fun c17_2 => ?_)
    · have hr := (if_pos c17_2).symm.trans hr
      refine lv_ldc2 hx hb C.2.2.2.1 (C.2.2.2.2.1 _ mw_5_15) dX7_share_29 ?_
      subst hr hQ
      exact fr_lret C hret hlk w rfl rfl dX7_share_32
    · have hr := (if_neg c17_2).symm.trans hr
      refine lv_iload_n hx hb dX7_share_20 rfl (lv_at hl 3 rfl) ?_
      refine lv_iconst (v := 0) hx hb dX7_share_21 (by decide) ?_
      refine lv_iconst (v := 1) hx hb dX7_share_22 (by decide) ?_
      refine fr_callIS (As := [.int q3, .int 0, .int 1]) (rest := []) C w kf_X7_within mw_5_18 (c_X7_within l D cI cJ q3 0 1) ⟨Nat.le_of_ble_eq_true rfl, Nat.le_of_ble_eq_true rfl⟩ ⟨Nat.le_refl 0, Nat.le_refl 0⟩ [] rfl rfl rfl (ws' := [(am, .inr (7, [.int mpl, .ref ama, .int msc, .int mtc, .ref amb, .ref amc, .ref amd, .int msr, .int mal, .int mns, .int mnn, .int mnt, .int mfi, .int mnw, .ref ame, .int mmy, .ref amf, .long mbe, .ref amg, .long mmf, .ref amp, .ref amo, .int mbs, .int mco, .long mh])), (ama, .inl (cI, 47, .inl mpg)), (amb, .inl (cI, 16, .inl mam)), (amc, .inl (cI, 4, .inl mwa)), (amd, .inl (cI, 4, .inl mww)), (ame, .inl (cI, 16, .inl mna)), (amf, .inl (cI, 4, .inl mmb)), (amg, .inl (cJ, 4, .inr (.inl msh))), (amp, .inl (cJ, 9, .inr (.inl mpa))), (amo, .inl (cJ, 3, .inr (.inl mgo)))]) rfl rfl hl.1 rfl (Nat.le_of_ble_eq_true rfl) dX7_share_23 (fun H locs w => ?_)
      refine lv_if_ne (tgt := 33) hx hb dX7_share_26 (by decide) (fun c26_3 => ?_) (fun c26_3 => ?_)
      · have hr := (if_neg c26_3).symm.trans hr
        refine lv_aload_n hx hb dX7_share_33 rfl (lv_at hl 0 rfl) ?_
        refine lv_iload_n hx hb dX7_share_34 rfl (lv_at hl 2 rfl) ?_
        obtain ⟨z35_4, hz35_4⟩ : ∃ y, (f_X7_layBest msc mtc mmy mbe mmf mam mwa mww mmb msh mpa mgo q2) = y := ⟨_, rfl⟩
        have hcz35_4 := c_X7_layBest l D cI cJ am ama amb amc amd ame amf amg amp amo mpl msc mtc msr mal mns mnn mnt mfi mnw mmy mbe mmf mbs mco mh mpg mam mwa mww mna mmb msh mpa mgo q2 (by assumption) (by assumption) (by assumption) (by assumption)
        rw [hz35_4] at hcz35_4
        have hr : ((f_X7_shareNow z35_4.2.1 z35_4.2.2.2.2.2.2.1 q1 q3), z35_4.1, z35_4.2.1, z35_4.2.2.1, z35_4.2.2.2.1, z35_4.2.2.2.2.1, z35_4.2.2.2.2.2.1, z35_4.2.2.2.2.2.2.1, z35_4.2.2.2.2.2.2.2.1, z35_4.2.2.2.2.2.2.2.2) = r := by subst hz35_4; exact hr
        refine fr_callVV (As := [.int q2]) (rest := []) C w kf_X7_layBest mw_22_15 (hcz35_4) ⟨Nat.le_of_ble_eq_true rfl, Nat.le_of_ble_eq_true rfl⟩ ⟨Nat.le_refl 0, Nat.le_refl 0⟩ [0, 1, 2, 3, 4, 5, 6, 7, 8, 9] rfl rfl rfl (ws' := [(am, .inr (7, [.int mpl, .ref ama, .int msc, .int mtc, .ref amb, .ref amc, .ref amd, .int msr, .int mal, .int mns, .int mnn, .int mnt, .int mfi, .int mnw, .ref ame, .int z35_4.1, .ref amf, .long z35_4.2.1, .ref amg, .long z35_4.2.2.1, .ref amp, .ref amo, .int z35_4.2.2.2.1, .int z35_4.2.2.2.2.1, .long mh])), (ama, .inl (cI, 47, .inl mpg)), (amb, .inl (cI, 16, .inl mam)), (amc, .inl (cI, 4, .inl mwa)), (amd, .inl (cI, 4, .inl mww)), (ame, .inl (cI, 16, .inl mna)), (amf, .inl (cI, 4, .inl z35_4.2.2.2.2.2.1)), (amg, .inl (cJ, 4, .inr (.inl z35_4.2.2.2.2.2.2.1))), (amp, .inl (cJ, 9, .inr (.inl z35_4.2.2.2.2.2.2.2.1))), (amo, .inl (cJ, 3, .inr (.inl z35_4.2.2.2.2.2.2.2.2)))]) rfl rfl rfl rfl hl.1 rfl (Nat.le_of_ble_eq_true rfl) dX7_share_35 (fun H locs w => ?_)
        refine lv_aload_n hx hb dX7_share_38 rfl (lv_at hl 0 rfl) ?_
        refine lv_iload_n hx hb dX7_share_39 rfl (lv_at hl 1 rfl) ?_
        refine lv_iload_n hx hb dX7_share_40 rfl (lv_at hl 3 rfl) ?_
        refine fr_callLV (As := [.int q1, .int q3]) (rest := []) C w kf_X7_shareNow mw_25_19 (c_X7_shareNow l D cI cJ am ama amb amc amd ame amf amg amp amo mpl msc mtc msr mal mns mnn mnt mfi mnw z35_4.1 z35_4.2.1 z35_4.2.2.1 z35_4.2.2.2.1 z35_4.2.2.2.2.1 mh mpg mam mwa mww mna z35_4.2.2.2.2.2.1 z35_4.2.2.2.2.2.2.1 z35_4.2.2.2.2.2.2.2.1 z35_4.2.2.2.2.2.2.2.2 q1 q3 (trc_L4 (by assumption) hms) (by subst_vars; exact hbe _ _ _ _ _ _ _ _ hmb)) ⟨Nat.le_of_ble_eq_true rfl, Nat.le_of_ble_eq_true rfl⟩ ⟨Nat.le_refl 0, Nat.le_refl 0⟩ [0, 1, 2, 3, 4, 5, 6, 7, 8, 9] rfl rfl rfl (ws' := [(am, .inr (7, [.int mpl, .ref ama, .int msc, .int mtc, .ref amb, .ref amc, .ref amd, .int msr, .int mal, .int mns, .int mnn, .int mnt, .int mfi, .int mnw, .ref ame, .int z35_4.1, .ref amf, .long z35_4.2.1, .ref amg, .long z35_4.2.2.1, .ref amp, .ref amo, .int z35_4.2.2.2.1, .int z35_4.2.2.2.2.1, .long mh])), (ama, .inl (cI, 47, .inl mpg)), (amb, .inl (cI, 16, .inl mam)), (amc, .inl (cI, 4, .inl mwa)), (amd, .inl (cI, 4, .inl mww)), (ame, .inl (cI, 16, .inl mna)), (amf, .inl (cI, 4, .inl z35_4.2.2.2.2.2.1)), (amg, .inl (cJ, 4, .inr (.inl z35_4.2.2.2.2.2.2.1))), (amp, .inl (cJ, 9, .inr (.inl z35_4.2.2.2.2.2.2.2.1))), (amo, .inl (cJ, 3, .inr (.inl z35_4.2.2.2.2.2.2.2.2)))]) rfl rfl rfl rfl hl.1 rfl (Nat.le_of_ble_eq_true rfl) dX7_share_41 (fun H locs w => ?_)
        subst hr hQ
        exact fr_lret C hret hlk w rfl rfl dX7_share_44
      · have hr := (if_pos c26_3).symm.trans hr
        refine lv_ldc2 hx hb C.2.2.2.1 (C.2.2.2.2.1 _ mw_5_15) dX7_share_29 ?_
        subst hr hQ
        exact fr_lret C hret hlk w rfl rfl dX7_share_32
  · have hr := (if_pos c5_1).symm.trans hr
    refine lv_ldc2 hx hb C.2.2.2.1 (C.2.2.2.2.1 _ mw_12_8) dX7_share_8 ?_
    subst hr hQ
    exact fr_lret C hret hlk w rfl rfl dX7_share_11
def L_X7_mixedAbove_5 (msc : Int32) (mam : Nat → Int32) (msh : Nat → Int64) (q1 : Int32) : Nat → Int64 → Int32 → Int64 × Int32
  | 0, _, _ => (0, 0)
  | n5 + 1, i1, i2 => (if msc ≤ i2 then (i1, i2) else L_X7_mixedAbove_5 msc mam msh q1 n5 (i1 + ((msh (Int32.toNatClampNeg i2)) * (Int32.toInt64 (mam (Int32.toNatClampNeg ((4 * i2) + q1)))))) (i2 + 1))
def f_X7_mixedAbove (msc : Int32) (mam : Nat → Int32) (msh : Nat → Int64) (q1 : Int32) : Int64 := ((fun (y5 : Int64 × Int32) => y5.1) (L_X7_mixedAbove_5 msc mam msh q1 5 0 0))
set_option maxRecDepth 100000 in
set_option maxHeartbeats 4000000 in
theorem c_X7_mixedAbove (l : Launch) (D : va_G) (cI cJ : ClassId) (am ama amb amc amd ame amf amg amp amo : Nat) (mpl : Int32) (msc : Int32) (mtc : Int32) (msr : Int32) (mal : Int32) (mns : Int32) (mnn : Int32) (mnt : Int32) (mfi : Int32) (mnw : Int32) (mmy : Int32) (mbe : Int64) (mmf : Int64) (mbs : Int32) (mco : Int32) (mh : Int64) (mpg : Nat → Int32) (mam : Nat → Int32) (mwa : Nat → Int32) (mww : Nat → Int32) (mna : Nat → Int32) (mmb : Nat → Int32) (msh : Nat → Int64) (mpa : Nat → Int64) (mgo : Nat → Int64) (q1 : Int32) (hms : LE4 msc) (hq1 : L4 q1) : CL l yX7_mixedAbove cX7_mixedAbove 5 0 D cI cJ [.ref am, .int q1] [(am, .inr (7, [.int mpl, .ref ama, .int msc, .int mtc, .ref amb, .ref amc, .ref amd, .int msr, .int mal, .int mns, .int mnn, .int mnt, .int mfi, .int mnw, .ref ame, .int mmy, .ref amf, .long mbe, .ref amg, .long mmf, .ref amp, .ref amo, .int mbs, .int mco, .long mh])), (ama, .inl (cI, 47, .inl mpg)), (amb, .inl (cI, 16, .inl mam)), (amc, .inl (cI, 4, .inl mwa)), (amd, .inl (cI, 4, .inl mww)), (ame, .inl (cI, 16, .inl mna)), (amf, .inl (cI, 4, .inl mmb)), (amg, .inl (cJ, 4, .inr (.inl msh))), (amp, .inl (cJ, 9, .inr (.inl mpa))), (amo, .inl (cJ, 3, .inr (.inl mgo)))] [(am, .inr (7, [.int mpl, .ref ama, .int msc, .int mtc, .ref amb, .ref amc, .ref amd, .int msr, .int mal, .int mns, .int mnn, .int mnt, .int mfi, .int mnw, .ref ame, .int mmy, .ref amf, .long mbe, .ref amg, .long mmf, .ref amp, .ref amo, .int mbs, .int mco, .long mh])), (ama, .inl (cI, 47, .inl mpg)), (amb, .inl (cI, 16, .inl mam)), (amc, .inl (cI, 4, .inl mwa)), (amd, .inl (cI, 4, .inl mww)), (ame, .inl (cI, 16, .inl mna)), (amf, .inl (cI, 4, .inl mmb)), (amg, .inl (cJ, 4, .inr (.inl msh))), (amp, .inl (cJ, 9, .inr (.inl mpa))), (amo, .inl (cJ, 3, .inr (.inl mgo)))] (f_X7_mixedAbove msc mam msh q1) := by
  generalize hr : f_X7_mixedAbove msc mam msh q1 = r
  obtain ⟨nms, hms1, hms2⟩ := id hms
  refine fr_entryL (by decide) rfl ?_
  intro p e s m args below meth c A Q H locs hQ C hret hlk w ls hl
  have hx := C.1
  have hb := C.2.1
  have hl : lv_has ls 5 [(0, .ref am), (1, .int q1)] := hl
  have hr : ((fun (y5 : Int64 × Int32) => y5.1) (L_X7_mixedAbove_5 msc mam msh q1 5 0 0)) = r := hr
  refine lv_lconst (v := 0) hx hb dX7_mixedAbove_0 (by decide) ?_
  refine lv_lstore_n (lv' := [(2, .long 0), (0, .ref am), (1, .int q1)]) hx hb dX7_mixedAbove_1 rfl hl (by decide) rfl (fun ls hl => ?_)
  refine lv_iconst (v := 0) hx hb dX7_mixedAbove_2 (by decide) ?_
  refine lv_istore (lv' := [(4, .int 0), (2, .long 0), (0, .ref am), (1, .int q1)]) hx hb dX7_mixedAbove_3 hl (by decide) rfl (fun ls hl => ?_)
  obtain ⟨y5, hy5⟩ : ∃ y, y = L_X7_mixedAbove_5 msc mam msh q1 5 0 0 := ⟨_, rfl⟩
  have hr : y5.1 = r := by rw [hy5]; exact hr
  have X5 : ∀ (H : Heap) (locs : List Loc), Wd D A s.heap H locs [(am, .inr (7, [.int mpl, .ref ama, .int msc, .int mtc, .ref amb, .ref amc, .ref amd, .int msr, .int mal, .int mns, .int mnn, .int mnt, .int mfi, .int mnw, .ref ame, .int mmy, .ref amf, .long mbe, .ref amg, .long mmf, .ref amp, .ref amo, .int mbs, .int mco, .long mh])), (ama, .inl (cI, 47, .inl mpg)), (amb, .inl (cI, 16, .inl mam)), (amc, .inl (cI, 4, .inl mwa)), (amd, .inl (cI, 4, .inl mww)), (ame, .inl (cI, 16, .inl mna)), (amf, .inl (cI, 4, .inl mmb)), (amg, .inl (cJ, 4, .inr (.inl msh))), (amp, .inl (cJ, 9, .inr (.inl mpa))), (amo, .inl (cJ, 3, .inr (.inl mgo)))] → ∀ (ls : Array Slot), lv_has ls 5 [(0, .ref am), (1, .int q1), (2, .long y5.1), (4, .int y5.2)] → W p l e (rl 0) s m args below meth c H locs 0 0 Q (F0 m 43 ls []) := by
    intro H locs w ls hl
    refine lv_lload_n hx hb dX7_mixedAbove_43 rfl (lv_at hl 2 rfl) ?_
    subst hr hQ
    exact fr_lret C hret hlk w rfl rfl dX7_mixedAbove_44
  have LP5 : ∀ (n5 : Nat) (k5 : Nat) (i1 : Int64) (i2 : Int32), i2 = nI k5 → k5 ≤ nms → nms < k5 + n5 → L_X7_mixedAbove_5 msc mam msh q1 n5 i1 i2 = y5 → ∀ (H : Heap) (locs : List Loc), Wd D A s.heap H locs [(am, .inr (7, [.int mpl, .ref ama, .int msc, .int mtc, .ref amb, .ref amc, .ref amd, .int msr, .int mal, .int mns, .int mnn, .int mnt, .int mfi, .int mnw, .ref ame, .int mmy, .ref amf, .long mbe, .ref amg, .long mmf, .ref amp, .ref amo, .int mbs, .int mco, .long mh])), (ama, .inl (cI, 47, .inl mpg)), (amb, .inl (cI, 16, .inl mam)), (amc, .inl (cI, 4, .inl mwa)), (amd, .inl (cI, 4, .inl mww)), (ame, .inl (cI, 16, .inl mna)), (amf, .inl (cI, 4, .inl mmb)), (amg, .inl (cJ, 4, .inr (.inl msh))), (amp, .inl (cJ, 9, .inr (.inl mpa))), (amo, .inl (cJ, 3, .inr (.inl mgo)))] → ∀ (ls : Array Slot), lv_has ls 5 [(0, .ref am), (1, .int q1), (2, .long i1), (4, .int i2)] → W p l e (rl 0) s m args below meth c H locs 0 0 Q (F0 m 5 ls []) := by
    clear hr
    intro n5
    induction n5 with
    | zero => intro k5 i1 i2 hk5 hkN5 hn5; exact absurd hn5 (by omega)
    | succ n5 ih5 =>
      intro k5 i1 i2 hk5 hkN5 hn5 hr H locs w ls hl
      have hr : (if msc ≤ i2 then (i1, i2) else L_X7_mixedAbove_5 msc mam msh q1 n5 (i1 + ((msh (Int32.toNatClampNeg i2)) * (Int32.toInt64 (mam (Int32.toNatClampNeg ((4 * i2) + q1)))))) (i2 + 1)) = y5 := hr
      refine lv_iload hx hb dX7_mixedAbove_5 (lv_at hl 3 rfl) ?_
      refine lv_aload_n hx hb dX7_mixedAbove_7 rfl (lv_at hl 0 rfl) ?_
      refine fr_get C w fg_X7_78 0 rfl rfl dX7_mixedAbove_8 ?_
      refine lv_icmp_ge (tgt := 43) hx hb dX7_mixedAbove_11 (by decide) (fun c11_3 => ?_) (fun c11_3 => ?_)
      · have hr := (if_pos c11_3).symm.trans hr
        subst hr
        exact X5 H locs w ls (lv_sub hl [0, 1, 2, 3] rfl)
      · have hr := (if_neg c11_3).symm.trans hr
        have hkl5 := kl_of hk5 hkN5 (N := nms) hms2 (by omega) c11_3
        refine lv_lload_n hx hb dX7_mixedAbove_14 rfl (lv_at hl 2 rfl) ?_
        refine lv_aload_n hx hb dX7_mixedAbove_15 rfl (lv_at hl 0 rfl) ?_
        refine fr_get C w fg_X7_28 0 rfl rfl dX7_mixedAbove_16 ?_
        refine lv_iload hx hb dX7_mixedAbove_19 (lv_at hl 3 rfl) ?_
        refine fr_lald C w 7 rfl (vi_ctr hk5 hkl5 (by omega) (by decide)) dX7_mixedAbove_21 ?_
        refine lv_aload_n hx hb dX7_mixedAbove_22 rfl (lv_at hl 0 rfl) ?_
        refine fr_get C w fg_X7_13 0 rfl rfl dX7_mixedAbove_23 ?_
        refine lv_iconst (v := 4) hx hb dX7_mixedAbove_26 (by decide) ?_
        refine lv_iload hx hb dX7_mixedAbove_27 (lv_at hl 3 rfl) ?_
        refine lv_imul hx hb dX7_mixedAbove_29 ?_
        refine lv_iload_n hx hb dX7_mixedAbove_30 rfl (lv_at hl 1 rfl) ?_
        refine lv_iadd hx hb dX7_mixedAbove_31 ?_
        refine fr_iald C w 2 rfl (vi_4 ⟨k5, by omega, hk5⟩ hq1) dX7_mixedAbove_32 ?_
        refine lv_i2l (v := (Int32.toInt64 (mam (Int32.toNatClampNeg ((4 * i2) + q1))))) hx hb dX7_mixedAbove_33 rfl ?_
        refine lv_lmul hx hb dX7_mixedAbove_34 ?_
        refine lv_ladd hx hb dX7_mixedAbove_35 ?_
        refine lv_lstore_n (lv' := [(2, .long (i1 + ((msh (Int32.toNatClampNeg i2)) * (Int32.toInt64 (mam (Int32.toNatClampNeg ((4 * i2) + q1))))))), (0, .ref am), (1, .int q1), (4, .int i2)]) hx hb dX7_mixedAbove_36 rfl hl (by decide) rfl (fun ls hl => ?_)
        refine lv_iinc (v := i2 + 1) (lv' := [(4, .int (i2 + 1)), (2, .long (i1 + ((msh (Int32.toNatClampNeg i2)) * (Int32.toInt64 (mam (Int32.toNatClampNeg ((4 * i2) + q1))))))), (0, .ref am), (1, .int q1)]) hx hb dX7_mixedAbove_37 hl (k := 3) rfl rfl (by decide) rfl (fun ls hl => ?_)
        refine lv_goto (tgt := 5) hx hb dX7_mixedAbove_40 (by decide) ?_
        exact ih5 (k5 + 1) (i1 + ((msh (Int32.toNatClampNeg i2)) * (Int32.toInt64 (mam (Int32.toNatClampNeg ((4 * i2) + q1)))))) (i2 + 1) (by rw [hk5]; exact nI_1 k5) (by omega) (by omega) hr H locs w ls (lv_sub hl [2, 3, 1, 0] rfl)
  exact LP5 5 0 0 0 (by decide) (by omega) (by omega) hy5.symm H locs w ls (lv_sub hl [2, 3, 1, 0] rfl)
def L_X7_pressNow_6 (msc : Int32) (mtc : Int32) (mbe : Int64) (mam : Nat → Int32) (mwa : Nat → Int32) (mww : Nat → Int32) (mmb : Nat → Int32) (msh : Nat → Int64) (q1 : Int32) (us : Int32) : Nat → Int64 → Int32 → Int64 × Int32
  | 0, _, _ => (0, 0)
  | n6 + 1, i1, i2 => (if mtc ≤ i2 then (i1, i2) else ((fun (v5 : Int64) => L_X7_pressNow_6 msc mtc mbe mam mwa mww mmb msh q1 us n6 (i1 + v5) (i2 + 1)) (if (f_X7_hasBit us i2) = 0 then 0 else ((Int32.toInt64 (mww (Int32.toNatClampNeg i2))) * (Int32.toInt64 ((mam (Int32.toNatClampNeg ((4 * q1) + i2))) - (mam (Int32.toNatClampNeg ((4 * (mmb (Int32.toNatClampNeg 0))) + i2)))))) * ((f_X7_mixedAbove msc mam msh i2) - ((Int32.toInt64 (mwa (Int32.toNatClampNeg i2))) * mbe)))))
def f_X7_pressNow (msc : Int32) (mtc : Int32) (mbe : Int64) (mam : Nat → Int32) (mwa : Nat → Int32) (mww : Nat → Int32) (mmb : Nat → Int32) (msh : Nat → Int64) (q1 : Int32) (us : Int32) (q3 : Int32) : Int64 := ((fun (y6 : Int64 × Int32) => (f_X7_lowest y6.1 mbe q3)) (L_X7_pressNow_6 msc mtc mbe mam mwa mww mmb msh q1 us 5 0 0))
set_option maxRecDepth 100000 in
set_option maxHeartbeats 4000000 in
theorem c_X7_pressNow (l : Launch) (D : va_G) (cI cJ : ClassId) (am ama amb amc amd ame amf amg amp amo : Nat) (mpl : Int32) (msc : Int32) (mtc : Int32) (msr : Int32) (mal : Int32) (mns : Int32) (mnn : Int32) (mnt : Int32) (mfi : Int32) (mnw : Int32) (mmy : Int32) (mbe : Int64) (mmf : Int64) (mbs : Int32) (mco : Int32) (mh : Int64) (mpg : Nat → Int32) (mam : Nat → Int32) (mwa : Nat → Int32) (mww : Nat → Int32) (mna : Nat → Int32) (mmb : Nat → Int32) (msh : Nat → Int64) (mpa : Nat → Int64) (mgo : Nat → Int64) (q1 : Int32) (us : Int32) (q3 : Int32) (hms : LE4 msc) (hmt : LE4 mtc) (hmb : MB mmb) (hq1 : L4 q1) (hbe0 : ¬ mbe = 0) : CL l yX7_pressNow cX7_pressNow 9 2 D cI cJ [.ref am, .int q1, .int us, .int q3] [(am, .inr (7, [.int mpl, .ref ama, .int msc, .int mtc, .ref amb, .ref amc, .ref amd, .int msr, .int mal, .int mns, .int mnn, .int mnt, .int mfi, .int mnw, .ref ame, .int mmy, .ref amf, .long mbe, .ref amg, .long mmf, .ref amp, .ref amo, .int mbs, .int mco, .long mh])), (ama, .inl (cI, 47, .inl mpg)), (amb, .inl (cI, 16, .inl mam)), (amc, .inl (cI, 4, .inl mwa)), (amd, .inl (cI, 4, .inl mww)), (ame, .inl (cI, 16, .inl mna)), (amf, .inl (cI, 4, .inl mmb)), (amg, .inl (cJ, 4, .inr (.inl msh))), (amp, .inl (cJ, 9, .inr (.inl mpa))), (amo, .inl (cJ, 3, .inr (.inl mgo)))] [(am, .inr (7, [.int mpl, .ref ama, .int msc, .int mtc, .ref amb, .ref amc, .ref amd, .int msr, .int mal, .int mns, .int mnn, .int mnt, .int mfi, .int mnw, .ref ame, .int mmy, .ref amf, .long mbe, .ref amg, .long mmf, .ref amp, .ref amo, .int mbs, .int mco, .long mh])), (ama, .inl (cI, 47, .inl mpg)), (amb, .inl (cI, 16, .inl mam)), (amc, .inl (cI, 4, .inl mwa)), (amd, .inl (cI, 4, .inl mww)), (ame, .inl (cI, 16, .inl mna)), (amf, .inl (cI, 4, .inl mmb)), (amg, .inl (cJ, 4, .inr (.inl msh))), (amp, .inl (cJ, 9, .inr (.inl mpa))), (amo, .inl (cJ, 3, .inr (.inl mgo)))] (f_X7_pressNow msc mtc mbe mam mwa mww mmb msh q1 us q3) := by
  generalize hr : f_X7_pressNow msc mtc mbe mam mwa mww mmb msh q1 us q3 = r
  obtain ⟨nms, hms1, hms2⟩ := id hms
  obtain ⟨nmt, hmt1, hmt2⟩ := id hmt
  refine fr_entryL (by decide) rfl ?_
  intro p e s m args below meth c A Q H locs hQ C hret hlk w ls hl
  have hx := C.1
  have hb := C.2.1
  have hl : lv_has ls 9 [(0, .ref am), (1, .int q1), (2, .int us), (3, .int q3)] := hl
  have hr : ((fun (y6 : Int64 × Int32) => (f_X7_lowest y6.1 mbe q3)) (L_X7_pressNow_6 msc mtc mbe mam mwa mww mmb msh q1 us 5 0 0)) = r := hr
  refine lv_lconst (v := 0) hx hb dX7_pressNow_0 (by decide) ?_
  refine lv_lstore (lv' := [(4, .long 0), (0, .ref am), (1, .int q1), (2, .int us), (3, .int q3)]) hx hb dX7_pressNow_1 hl (by decide) rfl (fun ls hl => ?_)
  refine lv_iconst (v := 0) hx hb dX7_pressNow_3 (by decide) ?_
  refine lv_istore (lv' := [(6, .int 0), (4, .long 0), (0, .ref am), (1, .int q1), (2, .int us), (3, .int q3)]) hx hb dX7_pressNow_4 hl (by decide) rfl (fun ls hl => ?_)
  obtain ⟨y6, hy6⟩ : ∃ y, y = L_X7_pressNow_6 msc mtc mbe mam mwa mww mmb msh q1 us 5 0 0 := ⟨_, rfl⟩
  have hr : (f_X7_lowest y6.1 mbe q3) = r := by rw [hy6]; exact hr
  have X6 : ∀ (H : Heap) (locs : List Loc), Wd D A s.heap H locs [(am, .inr (7, [.int mpl, .ref ama, .int msc, .int mtc, .ref amb, .ref amc, .ref amd, .int msr, .int mal, .int mns, .int mnn, .int mnt, .int mfi, .int mnw, .ref ame, .int mmy, .ref amf, .long mbe, .ref amg, .long mmf, .ref amp, .ref amo, .int mbs, .int mco, .long mh])), (ama, .inl (cI, 47, .inl mpg)), (amb, .inl (cI, 16, .inl mam)), (amc, .inl (cI, 4, .inl mwa)), (amd, .inl (cI, 4, .inl mww)), (ame, .inl (cI, 16, .inl mna)), (amf, .inl (cI, 4, .inl mmb)), (amg, .inl (cJ, 4, .inr (.inl msh))), (amp, .inl (cJ, 9, .inr (.inl mpa))), (amo, .inl (cJ, 3, .inr (.inl mgo)))] → ∀ (ls : Array Slot), lv_has ls 9 [(0, .ref am), (1, .int q1), (2, .int us), (3, .int q3), (4, .long y6.1), (6, .int y6.2)] → W p l e (rl 2) s m args below meth c H locs 0 0 Q (F0 m 102 ls []) := by
    intro H locs w ls hl
    refine lv_lload hx hb dX7_pressNow_102 (lv_at hl 4 rfl) ?_
    refine lv_aload_n hx hb dX7_pressNow_104 rfl (lv_at hl 0 rfl) ?_
    refine fr_get C w fg_X7_142 0 rfl rfl dX7_pressNow_105 ?_
    refine lv_iload_n hx hb dX7_pressNow_108 rfl (lv_at hl 3 rfl) ?_
    refine fr_callLS (As := [.long y6.1, .long mbe, .int q3]) (rest := []) C w kf_X7_lowest mw_24_14 (c_X7_lowest l D cI cJ y6.1 mbe q3 hbe0) ⟨Nat.le_of_ble_eq_true rfl, Nat.le_of_ble_eq_true rfl⟩ ⟨Nat.le_refl 0, Nat.le_refl 0⟩ [] rfl rfl rfl (ws' := [(am, .inr (7, [.int mpl, .ref ama, .int msc, .int mtc, .ref amb, .ref amc, .ref amd, .int msr, .int mal, .int mns, .int mnn, .int mnt, .int mfi, .int mnw, .ref ame, .int mmy, .ref amf, .long mbe, .ref amg, .long mmf, .ref amp, .ref amo, .int mbs, .int mco, .long mh])), (ama, .inl (cI, 47, .inl mpg)), (amb, .inl (cI, 16, .inl mam)), (amc, .inl (cI, 4, .inl mwa)), (amd, .inl (cI, 4, .inl mww)), (ame, .inl (cI, 16, .inl mna)), (amf, .inl (cI, 4, .inl mmb)), (amg, .inl (cJ, 4, .inr (.inl msh))), (amp, .inl (cJ, 9, .inr (.inl mpa))), (amo, .inl (cJ, 3, .inr (.inl mgo)))]) rfl rfl hl.1 rfl (Nat.le_of_ble_eq_true rfl) dX7_pressNow_109 (fun H locs w => ?_)
    subst hr hQ
    exact fr_lret C hret hlk w rfl rfl dX7_pressNow_112
  have LP6 : ∀ (n6 : Nat) (k6 : Nat) (i1 : Int64) (i2 : Int32), i2 = nI k6 → k6 ≤ nmt → nmt < k6 + n6 → L_X7_pressNow_6 msc mtc mbe mam mwa mww mmb msh q1 us n6 i1 i2 = y6 → ∀ (H : Heap) (locs : List Loc), Wd D A s.heap H locs [(am, .inr (7, [.int mpl, .ref ama, .int msc, .int mtc, .ref amb, .ref amc, .ref amd, .int msr, .int mal, .int mns, .int mnn, .int mnt, .int mfi, .int mnw, .ref ame, .int mmy, .ref amf, .long mbe, .ref amg, .long mmf, .ref amp, .ref amo, .int mbs, .int mco, .long mh])), (ama, .inl (cI, 47, .inl mpg)), (amb, .inl (cI, 16, .inl mam)), (amc, .inl (cI, 4, .inl mwa)), (amd, .inl (cI, 4, .inl mww)), (ame, .inl (cI, 16, .inl mna)), (amf, .inl (cI, 4, .inl mmb)), (amg, .inl (cJ, 4, .inr (.inl msh))), (amp, .inl (cJ, 9, .inr (.inl mpa))), (amo, .inl (cJ, 3, .inr (.inl mgo)))] → ∀ (ls : Array Slot), lv_has ls 9 [(0, .ref am), (1, .int q1), (2, .int us), (3, .int q3), (4, .long i1), (6, .int i2)] → W p l e (rl 2) s m args below meth c H locs 0 0 Q (F0 m 6 ls []) := by
    clear hr
    intro n6
    induction n6 with
    | zero => intro k6 i1 i2 hk6 hkN6 hn6; exact absurd hn6 (by omega)
    | succ n6 ih6 =>
      intro k6 i1 i2 hk6 hkN6 hn6 hr H locs w ls hl
      have hr : (if mtc ≤ i2 then (i1, i2) else ((fun (v5 : Int64) => L_X7_pressNow_6 msc mtc mbe mam mwa mww mmb msh q1 us n6 (i1 + v5) (i2 + 1)) (if (f_X7_hasBit us i2) = 0 then 0 else ((Int32.toInt64 (mww (Int32.toNatClampNeg i2))) * (Int32.toInt64 ((mam (Int32.toNatClampNeg ((4 * q1) + i2))) - (mam (Int32.toNatClampNeg ((4 * (mmb (Int32.toNatClampNeg 0))) + i2)))))) * ((f_X7_mixedAbove msc mam msh i2) - ((Int32.toInt64 (mwa (Int32.toNatClampNeg i2))) * mbe))))) = y6 := hr
      refine lv_iload hx hb dX7_pressNow_6 (lv_at hl 5 rfl) ?_
      refine lv_aload_n hx hb dX7_pressNow_8 rfl (lv_at hl 0 rfl) ?_
      refine fr_get C w fg_X7_81 0 rfl rfl dX7_pressNow_9 ?_
      refine lv_icmp_ge (tgt := 102) hx hb dX7_pressNow_12 (by decide) (fun c12_3 => ?_) (fun c12_3 => ?_)
      · have hr := (if_pos c12_3).symm.trans hr
        subst hr
        exact X6 H locs w ls (lv_sub hl [0, 1, 2, 3, 4, 5] rfl)
      · have hr := (if_neg c12_3).symm.trans hr
        have hkl6 := kl_of hk6 hkN6 (N := nmt) hmt2 (by omega) c12_3
        refine lv_aload_n hx hb dX7_pressNow_15 rfl (lv_at hl 0 rfl) ?_
        refine fr_get C w fg_X7_13 0 rfl rfl dX7_pressNow_16 ?_
        refine lv_iconst (v := 4) hx hb dX7_pressNow_19 (by decide) ?_
        refine lv_iload_n hx hb dX7_pressNow_20 rfl (lv_at hl 1 rfl) ?_
        refine lv_imul hx hb dX7_pressNow_21 ?_
        refine lv_iload hx hb dX7_pressNow_22 (lv_at hl 5 rfl) ?_
        refine lv_iadd hx hb dX7_pressNow_24 ?_
        refine fr_iald C w 2 rfl (vi_4 hq1 ⟨k6, by omega, hk6⟩) dX7_pressNow_25 ?_
        refine lv_aload_n hx hb dX7_pressNow_26 rfl (lv_at hl 0 rfl) ?_
        refine fr_get C w fg_X7_13 0 rfl rfl dX7_pressNow_27 ?_
        refine lv_iconst (v := 4) hx hb dX7_pressNow_30 (by decide) ?_
        refine lv_aload_n hx hb dX7_pressNow_31 rfl (lv_at hl 0 rfl) ?_
        refine fr_get C w fg_X7_25 0 rfl rfl dX7_pressNow_32 ?_
        refine lv_iconst (v := 0) hx hb dX7_pressNow_35 (by decide) ?_
        refine fr_iald C w 6 rfl vi_00 dX7_pressNow_36 ?_
        refine lv_imul hx hb dX7_pressNow_37 ?_
        refine lv_iload hx hb dX7_pressNow_38 (lv_at hl 5 rfl) ?_
        refine lv_iadd hx hb dX7_pressNow_40 ?_
        refine fr_iald C w 2 rfl (vi_4 (hmb _) ⟨k6, by omega, hk6⟩) dX7_pressNow_41 ?_
        refine lv_isub hx hb dX7_pressNow_42 ?_
        refine lv_i2l (v := (Int32.toInt64 ((mam (Int32.toNatClampNeg ((4 * q1) + i2))) - (mam (Int32.toNatClampNeg ((4 * (mmb (Int32.toNatClampNeg 0))) + i2)))))) hx hb dX7_pressNow_43 rfl ?_
        refine lv_lstore (lv' := [(7, .long (Int32.toInt64 ((mam (Int32.toNatClampNeg ((4 * q1) + i2))) - (mam (Int32.toNatClampNeg ((4 * (mmb (Int32.toNatClampNeg 0))) + i2)))))), (0, .ref am), (1, .int q1), (2, .int us), (3, .int q3), (4, .long i1), (6, .int i2)]) hx hb dX7_pressNow_44 hl (by decide) rfl (fun ls hl => ?_)
        refine lv_lload hx hb dX7_pressNow_46 (lv_at hl 5 rfl) ?_
        refine lv_iload_n hx hb dX7_pressNow_48 rfl (lv_at hl 3 rfl) ?_
        refine lv_iload hx hb dX7_pressNow_49 (lv_at hl 6 rfl) ?_
        refine fr_callIS (As := [.int us, .int i2]) (rest := [.long i1]) C w kf_X7_hasBit mw_16_23 (c_X7_hasBit l D cI cJ us i2) ⟨Nat.le_of_ble_eq_true rfl, Nat.le_of_ble_eq_true rfl⟩ ⟨Nat.le_refl 0, Nat.le_refl 0⟩ [] rfl rfl rfl (ws' := [(am, .inr (7, [.int mpl, .ref ama, .int msc, .int mtc, .ref amb, .ref amc, .ref amd, .int msr, .int mal, .int mns, .int mnn, .int mnt, .int mfi, .int mnw, .ref ame, .int mmy, .ref amf, .long mbe, .ref amg, .long mmf, .ref amp, .ref amo, .int mbs, .int mco, .long mh])), (ama, .inl (cI, 47, .inl mpg)), (amb, .inl (cI, 16, .inl mam)), (amc, .inl (cI, 4, .inl mwa)), (amd, .inl (cI, 4, .inl mww)), (ame, .inl (cI, 16, .inl mna)), (amf, .inl (cI, 4, .inl mmb)), (amg, .inl (cJ, 4, .inr (.inl msh))), (amp, .inl (cJ, 9, .inr (.inl mpa))), (amo, .inl (cJ, 3, .inr (.inl mgo)))]) rfl rfl hl.1 rfl (Nat.le_of_ble_eq_true rfl) dX7_pressNow_51 (fun H locs w => ?_)
        have J93_6 : ∀ (v5 : Int64), v5 = (if (f_X7_hasBit us i2) = 0 then 0 else ((Int32.toInt64 (mww (Int32.toNatClampNeg i2))) * (Int32.toInt64 ((mam (Int32.toNatClampNeg ((4 * q1) + i2))) - (mam (Int32.toNatClampNeg ((4 * (mmb (Int32.toNatClampNeg 0))) + i2)))))) * ((f_X7_mixedAbove msc mam msh i2) - ((Int32.toInt64 (mwa (Int32.toNatClampNeg i2))) * mbe))) → ∀ (H : Heap) (locs : List Loc), Wd D A s.heap H locs [(am, .inr (7, [.int mpl, .ref ama, .int msc, .int mtc, .ref amb, .ref amc, .ref amd, .int msr, .int mal, .int mns, .int mnn, .int mnt, .int mfi, .int mnw, .ref ame, .int mmy, .ref amf, .long mbe, .ref amg, .long mmf, .ref amp, .ref amo, .int mbs, .int mco, .long mh])), (ama, .inl (cI, 47, .inl mpg)), (amb, .inl (cI, 16, .inl mam)), (amc, .inl (cI, 4, .inl mwa)), (amd, .inl (cI, 4, .inl mww)), (ame, .inl (cI, 16, .inl mna)), (amf, .inl (cI, 4, .inl mmb)), (amg, .inl (cJ, 4, .inr (.inl msh))), (amp, .inl (cJ, 9, .inr (.inl mpa))), (amo, .inl (cJ, 3, .inr (.inl mgo)))] → W p l e (rl 2) s m args below meth c H locs 0 0 Q (F0 m 93 ls [.long v5, .long i1]) := by
          intro v5 ev5 H locs w
          have hr : L_X7_pressNow_6 msc mtc mbe mam mwa mww mmb msh q1 us n6 (i1 + v5) (i2 + 1) = y6 := by subst ev5; exact hr
          refine lv_ladd hx hb dX7_pressNow_93 ?_
          refine lv_lstore (lv' := [(4, .long (i1 + v5)), (7, .long (Int32.toInt64 ((mam (Int32.toNatClampNeg ((4 * q1) + i2))) - (mam (Int32.toNatClampNeg ((4 * (mmb (Int32.toNatClampNeg 0))) + i2)))))), (0, .ref am), (1, .int q1), (2, .int us), (3, .int q3), (6, .int i2)]) hx hb dX7_pressNow_94 hl (by decide) rfl (fun ls hl => ?_)
          refine lv_iinc (v := i2 + 1) (lv' := [(6, .int (i2 + 1)), (4, .long (i1 + v5)), (7, .long (Int32.toInt64 ((mam (Int32.toNatClampNeg ((4 * q1) + i2))) - (mam (Int32.toNatClampNeg ((4 * (mmb (Int32.toNatClampNeg 0))) + i2)))))), (0, .ref am), (1, .int q1), (2, .int us), (3, .int q3)]) hx hb dX7_pressNow_96 hl (k := 6) rfl rfl (by decide) rfl (fun ls hl => ?_)
          refine lv_goto (tgt := 6) hx hb dX7_pressNow_99 (by decide) ?_
          exact ih6 (k6 + 1) (i1 + v5) (i2 + 1) (by rw [hk6]; exact nI_1 k6) (by omega) (by omega) hr H locs w ls (lv_sub hl [3, 4, 5, 6, 1, 0] rfl)
        refine lv_if_eq (tgt := 92) hx hb dX7_pressNow_54 (by decide) (fun c54_4 => ?_) (fun c54_4 => ?_)
        · refine lv_lconst (v := 0) hx hb dX7_pressNow_92 (by decide) ?_
          exact J93_6 0 (by rw [if_pos c54_4]) _ _ w
        · refine lv_aload_n hx hb dX7_pressNow_57 rfl (lv_at hl 1 rfl) ?_
          refine fr_get C w fg_X7_19 0 rfl rfl dX7_pressNow_58 ?_
          refine lv_iload hx hb dX7_pressNow_61 (lv_at hl 6 rfl) ?_
          refine fr_iald C w 4 rfl (vi_ctr hk6 hkl6 (by omega) (by decide)) dX7_pressNow_63 ?_
          refine lv_i2l (v := (Int32.toInt64 (mww (Int32.toNatClampNeg i2)))) hx hb dX7_pressNow_64 rfl ?_
          refine lv_lload hx hb dX7_pressNow_65 (lv_at hl 0 rfl) ?_
          refine lv_lmul hx hb dX7_pressNow_67 ?_
          refine lv_aload_n hx hb dX7_pressNow_68 rfl (lv_at hl 1 rfl) ?_
          refine lv_iload hx hb dX7_pressNow_69 (lv_at hl 6 rfl) ?_
          refine fr_callLV (As := [.int i2]) (rest := [.long ((Int32.toInt64 (mww (Int32.toNatClampNeg i2))) * (Int32.toInt64 ((mam (Int32.toNatClampNeg ((4 * q1) + i2))) - (mam (Int32.toNatClampNeg ((4 * (mmb (Int32.toNatClampNeg 0))) + i2)))))), .long i1]) C w kf_X7_mixedAbove mw_26_19 (c_X7_mixedAbove l D cI cJ am ama amb amc amd ame amf amg amp amo mpl msc mtc msr mal mns mnn mnt mfi mnw mmy mbe mmf mbs mco mh mpg mam mwa mww mna mmb msh mpa mgo i2 hms ⟨k6, by omega, hk6⟩) ⟨Nat.le_of_ble_eq_true rfl, Nat.le_of_ble_eq_true rfl⟩ ⟨Nat.le_refl 0, Nat.le_refl 0⟩ [0, 1, 2, 3, 4, 5, 6, 7, 8, 9] rfl rfl rfl (ws' := [(am, .inr (7, [.int mpl, .ref ama, .int msc, .int mtc, .ref amb, .ref amc, .ref amd, .int msr, .int mal, .int mns, .int mnn, .int mnt, .int mfi, .int mnw, .ref ame, .int mmy, .ref amf, .long mbe, .ref amg, .long mmf, .ref amp, .ref amo, .int mbs, .int mco, .long mh])), (ama, .inl (cI, 47, .inl mpg)), (amb, .inl (cI, 16, .inl mam)), (amc, .inl (cI, 4, .inl mwa)), (amd, .inl (cI, 4, .inl mww)), (ame, .inl (cI, 16, .inl mna)), (amf, .inl (cI, 4, .inl mmb)), (amg, .inl (cJ, 4, .inr (.inl msh))), (amp, .inl (cJ, 9, .inr (.inl mpa))), (amo, .inl (cJ, 3, .inr (.inl mgo)))]) rfl rfl rfl rfl hl.1 rfl (Nat.le_of_ble_eq_true rfl) dX7_pressNow_71 (fun H locs w => ?_)
          refine lv_aload_n hx hb dX7_pressNow_74 rfl (lv_at hl 1 rfl) ?_
          refine fr_get C w fg_X7_16 0 rfl rfl dX7_pressNow_75 ?_
          refine lv_iload hx hb dX7_pressNow_78 (lv_at hl 6 rfl) ?_
          refine fr_iald C w 3 rfl (vi_ctr hk6 hkl6 (by omega) (by decide)) dX7_pressNow_80 ?_
          refine lv_i2l (v := (Int32.toInt64 (mwa (Int32.toNatClampNeg i2)))) hx hb dX7_pressNow_81 rfl ?_
          refine lv_aload_n hx hb dX7_pressNow_82 rfl (lv_at hl 1 rfl) ?_
          refine fr_get C w fg_X7_142 0 rfl rfl dX7_pressNow_83 ?_
          refine lv_lmul hx hb dX7_pressNow_86 ?_
          refine lv_lsub hx hb dX7_pressNow_87 ?_
          refine lv_lmul hx hb dX7_pressNow_88 ?_
          refine lv_goto (tgt := 93) hx hb dX7_pressNow_89 (by decide) ?_
          exact J93_6 (((Int32.toInt64 (mww (Int32.toNatClampNeg i2))) * (Int32.toInt64 ((mam (Int32.toNatClampNeg ((4 * q1) + i2))) - (mam (Int32.toNatClampNeg ((4 * (mmb (Int32.toNatClampNeg 0))) + i2)))))) * ((f_X7_mixedAbove msc mam msh i2) - ((Int32.toInt64 (mwa (Int32.toNatClampNeg i2))) * mbe))) (by rw [if_neg c54_4]) _ _ w
  exact LP6 5 0 0 0 (by decide) (by omega) (by omega) hy6.symm H locs w ls (lv_sub hl [2, 3, 4, 5, 1, 0] rfl)
def f_X7_press (msc : Int32) (mtc : Int32) (mmy : Int32) (mbe : Int64) (mmf : Int64) (mbs : Int32) (mco : Int32) (mam : Nat → Int32) (mwa : Nat → Int32) (mww : Nat → Int32) (mmb : Nat → Int32) (msh : Nat → Int64) (mpa : Nat → Int64) (mgo : Nat → Int64) (q1 : Int32) (q2 : Int32) (q3 : Int32) : Int64 × Int32 × Int64 × Int64 × Int32 × Int32 × (Nat → Int32) × (Nat → Int64) × (Nat → Int64) × (Nat → Int64) := (if (f_X7_isSource msc q1) = 0 then ((-1000002), mmy, mbe, mmf, mbs, mco, mmb, msh, mpa, mgo) else (if (f_X7_isUsed mtc q2) = 0 then ((-1000003), mmy, mbe, mmf, mbs, mco, mmb, msh, mpa, mgo) else (if (f_X7_within q3 0 1) = 0 then ((-1000003), mmy, mbe, mmf, mbs, mco, mmb, msh, mpa, mgo) else ((fun (z35_4 : Int32 × Int64 × Int64 × Int32 × Int32 × (Nat → Int32) × (Nat → Int64) × (Nat → Int64) × (Nat → Int64)) => ((f_X7_pressNow msc mtc z35_4.2.1 mam mwa mww z35_4.2.2.2.2.2.1 z35_4.2.2.2.2.2.2.1 q1 q2 q3), z35_4.1, z35_4.2.1, z35_4.2.2.1, z35_4.2.2.2.1, z35_4.2.2.2.2.1, z35_4.2.2.2.2.2.1, z35_4.2.2.2.2.2.2.1, z35_4.2.2.2.2.2.2.2.1, z35_4.2.2.2.2.2.2.2.2)) (f_X7_layBest msc mtc mmy mbe mmf mam mwa mww mmb msh mpa mgo q2)))))
set_option maxRecDepth 100000 in
set_option maxHeartbeats 4000000 in
theorem c_X7_press (l : Launch) (D : va_G) (cI cJ : ClassId) (am ama amb amc amd ame amf amg amp amo : Nat) (mpl : Int32) (msc : Int32) (mtc : Int32) (msr : Int32) (mal : Int32) (mns : Int32) (mnn : Int32) (mnt : Int32) (mfi : Int32) (mnw : Int32) (mmy : Int32) (mbe : Int64) (mmf : Int64) (mbs : Int32) (mco : Int32) (mh : Int64) (mpg : Nat → Int32) (mam : Nat → Int32) (mwa : Nat → Int32) (mww : Nat → Int32) (mna : Nat → Int32) (mmb : Nat → Int32) (msh : Nat → Int64) (mpa : Nat → Int64) (mgo : Nat → Int64) (q1 : Int32) (q2 : Int32) (q3 : Int32) (hms : LE4 msc) (hmt : LE4 mtc) (hmb : MB mmb) (hpos : HPOSd msc mtc mam mwa mww) (hbe : HBEd msc mtc mam mwa mww) : CL l yX7_press cX7_press 4 4 D cI cJ [.ref am, .int q1, .int q2, .int q3] [(am, .inr (7, [.int mpl, .ref ama, .int msc, .int mtc, .ref amb, .ref amc, .ref amd, .int msr, .int mal, .int mns, .int mnn, .int mnt, .int mfi, .int mnw, .ref ame, .int mmy, .ref amf, .long mbe, .ref amg, .long mmf, .ref amp, .ref amo, .int mbs, .int mco, .long mh])), (ama, .inl (cI, 47, .inl mpg)), (amb, .inl (cI, 16, .inl mam)), (amc, .inl (cI, 4, .inl mwa)), (amd, .inl (cI, 4, .inl mww)), (ame, .inl (cI, 16, .inl mna)), (amf, .inl (cI, 4, .inl mmb)), (amg, .inl (cJ, 4, .inr (.inl msh))), (amp, .inl (cJ, 9, .inr (.inl mpa))), (amo, .inl (cJ, 3, .inr (.inl mgo)))] [(am, .inr (7, [.int mpl, .ref ama, .int msc, .int mtc, .ref amb, .ref amc, .ref amd, .int msr, .int mal, .int mns, .int mnn, .int mnt, .int mfi, .int mnw, .ref ame, .int ((f_X7_press msc mtc mmy mbe mmf mbs mco mam mwa mww mmb msh mpa mgo q1 q2 q3).2.1), .ref amf, .long ((f_X7_press msc mtc mmy mbe mmf mbs mco mam mwa mww mmb msh mpa mgo q1 q2 q3).2.2.1), .ref amg, .long ((f_X7_press msc mtc mmy mbe mmf mbs mco mam mwa mww mmb msh mpa mgo q1 q2 q3).2.2.2.1), .ref amp, .ref amo, .int ((f_X7_press msc mtc mmy mbe mmf mbs mco mam mwa mww mmb msh mpa mgo q1 q2 q3).2.2.2.2.1), .int ((f_X7_press msc mtc mmy mbe mmf mbs mco mam mwa mww mmb msh mpa mgo q1 q2 q3).2.2.2.2.2.1), .long mh])), (ama, .inl (cI, 47, .inl mpg)), (amb, .inl (cI, 16, .inl mam)), (amc, .inl (cI, 4, .inl mwa)), (amd, .inl (cI, 4, .inl mww)), (ame, .inl (cI, 16, .inl mna)), (amf, .inl (cI, 4, .inl ((f_X7_press msc mtc mmy mbe mmf mbs mco mam mwa mww mmb msh mpa mgo q1 q2 q3).2.2.2.2.2.2.1))), (amg, .inl (cJ, 4, .inr (.inl ((f_X7_press msc mtc mmy mbe mmf mbs mco mam mwa mww mmb msh mpa mgo q1 q2 q3).2.2.2.2.2.2.2.1)))), (amp, .inl (cJ, 9, .inr (.inl ((f_X7_press msc mtc mmy mbe mmf mbs mco mam mwa mww mmb msh mpa mgo q1 q2 q3).2.2.2.2.2.2.2.2.1)))), (amo, .inl (cJ, 3, .inr (.inl ((f_X7_press msc mtc mmy mbe mmf mbs mco mam mwa mww mmb msh mpa mgo q1 q2 q3).2.2.2.2.2.2.2.2.2))))] ((f_X7_press msc mtc mmy mbe mmf mbs mco mam mwa mww mmb msh mpa mgo q1 q2 q3).1) := by
  generalize hr : f_X7_press msc mtc mmy mbe mmf mbs mco mam mwa mww mmb msh mpa mgo q1 q2 q3 = r
  refine fr_entryL (by decide) rfl ?_
  intro p e s m args below meth c A Q H locs hQ C hret hlk w ls hl
  have hx := C.1
  have hb := C.2.1
  have hl : lv_has ls 4 [(0, .ref am), (1, .int q1), (2, .int q2), (3, .int q3)] := hl
  have hr : (if (f_X7_isSource msc q1) = 0 then ((-1000002), mmy, mbe, mmf, mbs, mco, mmb, msh, mpa, mgo) else (if (f_X7_isUsed mtc q2) = 0 then ((-1000003), mmy, mbe, mmf, mbs, mco, mmb, msh, mpa, mgo) else (if (f_X7_within q3 0 1) = 0 then ((-1000003), mmy, mbe, mmf, mbs, mco, mmb, msh, mpa, mgo) else ((fun (z35_4 : Int32 × Int64 × Int64 × Int32 × Int32 × (Nat → Int32) × (Nat → Int64) × (Nat → Int64) × (Nat → Int64)) => ((f_X7_pressNow msc mtc z35_4.2.1 mam mwa mww z35_4.2.2.2.2.2.1 z35_4.2.2.2.2.2.2.1 q1 q2 q3), z35_4.1, z35_4.2.1, z35_4.2.2.1, z35_4.2.2.2.1, z35_4.2.2.2.2.1, z35_4.2.2.2.2.2.1, z35_4.2.2.2.2.2.2.1, z35_4.2.2.2.2.2.2.2.1, z35_4.2.2.2.2.2.2.2.2)) (f_X7_layBest msc mtc mmy mbe mmf mam mwa mww mmb msh mpa mgo q2))))) = r := hr
  refine lv_aload_n hx hb dX7_press_0 rfl (lv_at hl 0 rfl) ?_
  refine lv_iload_n hx hb dX7_press_1 rfl (lv_at hl 1 rfl) ?_
  refine fr_callIV (As := [.int q1]) (rest := []) C w kf_X7_isSource mw_13_2 (c_X7_isSource l D cI cJ am ama amb amc amd ame amf amg amp amo mpl msc mtc msr mal mns mnn mnt mfi mnw mmy mbe mmf mbs mco mh mpg mam mwa mww mna mmb msh mpa mgo q1) ⟨Nat.le_of_ble_eq_true rfl, Nat.le_of_ble_eq_true rfl⟩ ⟨Nat.le_refl 0, Nat.le_refl 0⟩ [0, 1, 2, 3, 4, 5, 6, 7, 8, 9] rfl rfl rfl (ws' := [(am, .inr (7, [.int mpl, .ref ama, .int msc, .int mtc, .ref amb, .ref amc, .ref amd, .int msr, .int mal, .int mns, .int mnn, .int mnt, .int mfi, .int mnw, .ref ame, .int mmy, .ref amf, .long mbe, .ref amg, .long mmf, .ref amp, .ref amo, .int mbs, .int mco, .long mh])), (ama, .inl (cI, 47, .inl mpg)), (amb, .inl (cI, 16, .inl mam)), (amc, .inl (cI, 4, .inl mwa)), (amd, .inl (cI, 4, .inl mww)), (ame, .inl (cI, 16, .inl mna)), (amf, .inl (cI, 4, .inl mmb)), (amg, .inl (cJ, 4, .inr (.inl msh))), (amp, .inl (cJ, 9, .inr (.inl mpa))), (amo, .inl (cJ, 3, .inr (.inl mgo)))]) rfl rfl rfl rfl hl.1 rfl (Nat.le_of_ble_eq_true rfl) dX7_press_2 (fun H locs w => ?_)
  refine lv_if_ne (tgt := 12) hx hb dX7_press_5 (by decide) (fun c5_1 => ?_) (fun c5_1 => ?_)
  · have hr := (if_neg c5_1).symm.trans hr
    refine lv_aload_n hx hb dX7_press_12 rfl (lv_at hl 0 rfl) ?_
    refine lv_iload_n hx hb dX7_press_13 rfl (lv_at hl 2 rfl) ?_
    refine fr_callIV (As := [.int q2]) (rest := []) C w kf_X7_isUsed mw_16_11 (c_X7_isUsed l D cI cJ am ama amb amc amd ame amf amg amp amo mpl msc mtc msr mal mns mnn mnt mfi mnw mmy mbe mmf mbs mco mh mpg mam mwa mww mna mmb msh mpa mgo q2) ⟨Nat.le_of_ble_eq_true rfl, Nat.le_of_ble_eq_true rfl⟩ ⟨Nat.le_refl 0, Nat.le_refl 0⟩ [0, 1, 2, 3, 4, 5, 6, 7, 8, 9] rfl rfl rfl (ws' := [(am, .inr (7, [.int mpl, .ref ama, .int msc, .int mtc, .ref amb, .ref amc, .ref amd, .int msr, .int mal, .int mns, .int mnn, .int mnt, .int mfi, .int mnw, .ref ame, .int mmy, .ref amf, .long mbe, .ref amg, .long mmf, .ref amp, .ref amo, .int mbs, .int mco, .long mh])), (ama, .inl (cI, 47, .inl mpg)), (amb, .inl (cI, 16, .inl mam)), (amc, .inl (cI, 4, .inl mwa)), (amd, .inl (cI, 4, .inl mww)), (ame, .inl (cI, 16, .inl mna)), (amf, .inl (cI, 4, .inl mmb)), (amg, .inl (cJ, 4, .inr (.inl msh))), (amp, .inl (cJ, 9, .inr (.inl mpa))), (amo, .inl (cJ, 3, .inr (.inl mgo)))]) rfl rfl rfl rfl hl.1 rfl (Nat.le_of_ble_eq_true rfl) dX7_press_14 (fun H locs w => ?_)
    refine lv_if_eq (tgt := 29) hx hb dX7_press_17 (by decide) (fun c17_2 => ?_) (fun c17_2 => ?_)
    · have hr := (if_pos c17_2).symm.trans hr
      refine lv_ldc2 hx hb C.2.2.2.1 (C.2.2.2.2.1 _ mw_5_15) dX7_press_29 ?_
      subst hr hQ
      exact fr_lret C hret hlk w rfl rfl dX7_press_32
    · have hr := (if_neg c17_2).symm.trans hr
      refine lv_iload_n hx hb dX7_press_20 rfl (lv_at hl 3 rfl) ?_
      refine lv_iconst (v := 0) hx hb dX7_press_21 (by decide) ?_
      refine lv_iconst (v := 1) hx hb dX7_press_22 (by decide) ?_
      refine fr_callIS (As := [.int q3, .int 0, .int 1]) (rest := []) C w kf_X7_within mw_5_18 (c_X7_within l D cI cJ q3 0 1) ⟨Nat.le_of_ble_eq_true rfl, Nat.le_of_ble_eq_true rfl⟩ ⟨Nat.le_refl 0, Nat.le_refl 0⟩ [] rfl rfl rfl (ws' := [(am, .inr (7, [.int mpl, .ref ama, .int msc, .int mtc, .ref amb, .ref amc, .ref amd, .int msr, .int mal, .int mns, .int mnn, .int mnt, .int mfi, .int mnw, .ref ame, .int mmy, .ref amf, .long mbe, .ref amg, .long mmf, .ref amp, .ref amo, .int mbs, .int mco, .long mh])), (ama, .inl (cI, 47, .inl mpg)), (amb, .inl (cI, 16, .inl mam)), (amc, .inl (cI, 4, .inl mwa)), (amd, .inl (cI, 4, .inl mww)), (ame, .inl (cI, 16, .inl mna)), (amf, .inl (cI, 4, .inl mmb)), (amg, .inl (cJ, 4, .inr (.inl msh))), (amp, .inl (cJ, 9, .inr (.inl mpa))), (amo, .inl (cJ, 3, .inr (.inl mgo)))]) rfl rfl hl.1 rfl (Nat.le_of_ble_eq_true rfl) dX7_press_23 (fun H locs w => ?_)
      refine lv_if_ne (tgt := 33) hx hb dX7_press_26 (by decide) (fun c26_3 => ?_) (fun c26_3 => ?_)
      · have hr := (if_neg c26_3).symm.trans hr
        refine lv_aload_n hx hb dX7_press_33 rfl (lv_at hl 0 rfl) ?_
        refine lv_iload_n hx hb dX7_press_34 rfl (lv_at hl 2 rfl) ?_
        obtain ⟨z35_4, hz35_4⟩ : ∃ y, (f_X7_layBest msc mtc mmy mbe mmf mam mwa mww mmb msh mpa mgo q2) = y := ⟨_, rfl⟩
        have hcz35_4 := c_X7_layBest l D cI cJ am ama amb amc amd ame amf amg amp amo mpl msc mtc msr mal mns mnn mnt mfi mnw mmy mbe mmf mbs mco mh mpg mam mwa mww mna mmb msh mpa mgo q2 (by assumption) (by assumption) (by assumption) (by assumption)
        rw [hz35_4] at hcz35_4
        have hr : ((f_X7_pressNow msc mtc z35_4.2.1 mam mwa mww z35_4.2.2.2.2.2.1 z35_4.2.2.2.2.2.2.1 q1 q2 q3), z35_4.1, z35_4.2.1, z35_4.2.2.1, z35_4.2.2.2.1, z35_4.2.2.2.2.1, z35_4.2.2.2.2.2.1, z35_4.2.2.2.2.2.2.1, z35_4.2.2.2.2.2.2.2.1, z35_4.2.2.2.2.2.2.2.2) = r := by subst hz35_4; exact hr
        refine fr_callVV (As := [.int q2]) (rest := []) C w kf_X7_layBest mw_22_15 (hcz35_4) ⟨Nat.le_of_ble_eq_true rfl, Nat.le_of_ble_eq_true rfl⟩ ⟨Nat.le_refl 0, Nat.le_refl 0⟩ [0, 1, 2, 3, 4, 5, 6, 7, 8, 9] rfl rfl rfl (ws' := [(am, .inr (7, [.int mpl, .ref ama, .int msc, .int mtc, .ref amb, .ref amc, .ref amd, .int msr, .int mal, .int mns, .int mnn, .int mnt, .int mfi, .int mnw, .ref ame, .int z35_4.1, .ref amf, .long z35_4.2.1, .ref amg, .long z35_4.2.2.1, .ref amp, .ref amo, .int z35_4.2.2.2.1, .int z35_4.2.2.2.2.1, .long mh])), (ama, .inl (cI, 47, .inl mpg)), (amb, .inl (cI, 16, .inl mam)), (amc, .inl (cI, 4, .inl mwa)), (amd, .inl (cI, 4, .inl mww)), (ame, .inl (cI, 16, .inl mna)), (amf, .inl (cI, 4, .inl z35_4.2.2.2.2.2.1)), (amg, .inl (cJ, 4, .inr (.inl z35_4.2.2.2.2.2.2.1))), (amp, .inl (cJ, 9, .inr (.inl z35_4.2.2.2.2.2.2.2.1))), (amo, .inl (cJ, 3, .inr (.inl z35_4.2.2.2.2.2.2.2.2)))]) rfl rfl rfl rfl hl.1 rfl (Nat.le_of_ble_eq_true rfl) dX7_press_35 (fun H locs w => ?_)
        refine lv_aload_n hx hb dX7_press_38 rfl (lv_at hl 0 rfl) ?_
        refine lv_iload_n hx hb dX7_press_39 rfl (lv_at hl 1 rfl) ?_
        refine lv_iload_n hx hb dX7_press_40 rfl (lv_at hl 2 rfl) ?_
        refine lv_iload_n hx hb dX7_press_41 rfl (lv_at hl 3 rfl) ?_
        refine fr_callLV (As := [.int q1, .int q2, .int q3]) (rest := []) C w kf_X7_pressNow mw_26_15 (c_X7_pressNow l D cI cJ am ama amb amc amd ame amf amg amp amo mpl msc mtc msr mal mns mnn mnt mfi mnw z35_4.1 z35_4.2.1 z35_4.2.2.1 z35_4.2.2.2.1 z35_4.2.2.2.2.1 mh mpg mam mwa mww mna z35_4.2.2.2.2.2.1 z35_4.2.2.2.2.2.2.1 z35_4.2.2.2.2.2.2.2.1 z35_4.2.2.2.2.2.2.2.2 q1 q2 q3 hms hmt (by subst_vars; exact layBest_MB hms hmb) (trc_L4 (by assumption) hms) (by subst_vars; exact hbe _ _ _ _ _ _ _ _ hmb)) ⟨Nat.le_of_ble_eq_true rfl, Nat.le_of_ble_eq_true rfl⟩ ⟨Nat.le_refl 0, Nat.le_refl 0⟩ [0, 1, 2, 3, 4, 5, 6, 7, 8, 9] rfl rfl rfl (ws' := [(am, .inr (7, [.int mpl, .ref ama, .int msc, .int mtc, .ref amb, .ref amc, .ref amd, .int msr, .int mal, .int mns, .int mnn, .int mnt, .int mfi, .int mnw, .ref ame, .int z35_4.1, .ref amf, .long z35_4.2.1, .ref amg, .long z35_4.2.2.1, .ref amp, .ref amo, .int z35_4.2.2.2.1, .int z35_4.2.2.2.2.1, .long mh])), (ama, .inl (cI, 47, .inl mpg)), (amb, .inl (cI, 16, .inl mam)), (amc, .inl (cI, 4, .inl mwa)), (amd, .inl (cI, 4, .inl mww)), (ame, .inl (cI, 16, .inl mna)), (amf, .inl (cI, 4, .inl z35_4.2.2.2.2.2.1)), (amg, .inl (cJ, 4, .inr (.inl z35_4.2.2.2.2.2.2.1))), (amp, .inl (cJ, 9, .inr (.inl z35_4.2.2.2.2.2.2.2.1))), (amo, .inl (cJ, 3, .inr (.inl z35_4.2.2.2.2.2.2.2.2)))]) rfl rfl rfl rfl hl.1 rfl (Nat.le_of_ble_eq_true rfl) dX7_press_42 (fun H locs w => ?_)
        subst hr hQ
        exact fr_lret C hret hlk w rfl rfl dX7_press_45
      · have hr := (if_pos c26_3).symm.trans hr
        refine lv_ldc2 hx hb C.2.2.2.1 (C.2.2.2.2.1 _ mw_5_15) dX7_press_29 ?_
        subst hr hQ
        exact fr_lret C hret hlk w rfl rfl dX7_press_32
  · have hr := (if_pos c5_1).symm.trans hr
    refine lv_ldc2 hx hb C.2.2.2.1 (C.2.2.2.2.1 _ mw_12_8) dX7_press_8 ?_
    subst hr hQ
    exact fr_lret C hret hlk w rfl rfl dX7_press_11
def f_X7_mixed (msc : Int32) (mtc : Int32) (mmy : Int32) (mbe : Int64) (mmf : Int64) (mbs : Int32) (mco : Int32) (mam : Nat → Int32) (mwa : Nat → Int32) (mww : Nat → Int32) (mmb : Nat → Int32) (msh : Nat → Int64) (mpa : Nat → Int64) (mgo : Nat → Int64) (q1 : Int32) (q2 : Int32) (q3 : Int32) : Int64 × Int32 × Int64 × Int64 × Int32 × Int32 × (Nat → Int32) × (Nat → Int64) × (Nat → Int64) × (Nat → Int64) := (if (f_X7_isTracer mtc q1) = 0 then ((-1000002), mmy, mbe, mmf, mbs, mco, mmb, msh, mpa, mgo) else (if (f_X7_isUsed mtc q2) = 0 then ((-1000003), mmy, mbe, mmf, mbs, mco, mmb, msh, mpa, mgo) else (if (f_X7_within q3 0 1) = 0 then ((-1000003), mmy, mbe, mmf, mbs, mco, mmb, msh, mpa, mgo) else ((fun (z35_4 : Int32 × Int64 × Int64 × Int32 × Int32 × (Nat → Int32) × (Nat → Int64) × (Nat → Int64) × (Nat → Int64)) => ((f_X7_lowest (f_X7_mixedAbove msc mam z35_4.2.2.2.2.2.2.1 q1) z35_4.2.1 q3), z35_4.1, z35_4.2.1, z35_4.2.2.1, z35_4.2.2.2.1, z35_4.2.2.2.2.1, z35_4.2.2.2.2.2.1, z35_4.2.2.2.2.2.2.1, z35_4.2.2.2.2.2.2.2.1, z35_4.2.2.2.2.2.2.2.2)) (f_X7_layBest msc mtc mmy mbe mmf mam mwa mww mmb msh mpa mgo q2)))))
set_option maxRecDepth 100000 in
set_option maxHeartbeats 4000000 in
theorem c_X7_mixed (l : Launch) (D : va_G) (cI cJ : ClassId) (am ama amb amc amd ame amf amg amp amo : Nat) (mpl : Int32) (msc : Int32) (mtc : Int32) (msr : Int32) (mal : Int32) (mns : Int32) (mnn : Int32) (mnt : Int32) (mfi : Int32) (mnw : Int32) (mmy : Int32) (mbe : Int64) (mmf : Int64) (mbs : Int32) (mco : Int32) (mh : Int64) (mpg : Nat → Int32) (mam : Nat → Int32) (mwa : Nat → Int32) (mww : Nat → Int32) (mna : Nat → Int32) (mmb : Nat → Int32) (msh : Nat → Int64) (mpa : Nat → Int64) (mgo : Nat → Int64) (q1 : Int32) (q2 : Int32) (q3 : Int32) (hms : LE4 msc) (hmt : LE4 mtc) (hmb : MB mmb) (hpos : HPOSd msc mtc mam mwa mww) (hbe : HBEd msc mtc mam mwa mww) : CL l yX7_mixed cX7_mixed 4 4 D cI cJ [.ref am, .int q1, .int q2, .int q3] [(am, .inr (7, [.int mpl, .ref ama, .int msc, .int mtc, .ref amb, .ref amc, .ref amd, .int msr, .int mal, .int mns, .int mnn, .int mnt, .int mfi, .int mnw, .ref ame, .int mmy, .ref amf, .long mbe, .ref amg, .long mmf, .ref amp, .ref amo, .int mbs, .int mco, .long mh])), (ama, .inl (cI, 47, .inl mpg)), (amb, .inl (cI, 16, .inl mam)), (amc, .inl (cI, 4, .inl mwa)), (amd, .inl (cI, 4, .inl mww)), (ame, .inl (cI, 16, .inl mna)), (amf, .inl (cI, 4, .inl mmb)), (amg, .inl (cJ, 4, .inr (.inl msh))), (amp, .inl (cJ, 9, .inr (.inl mpa))), (amo, .inl (cJ, 3, .inr (.inl mgo)))] [(am, .inr (7, [.int mpl, .ref ama, .int msc, .int mtc, .ref amb, .ref amc, .ref amd, .int msr, .int mal, .int mns, .int mnn, .int mnt, .int mfi, .int mnw, .ref ame, .int ((f_X7_mixed msc mtc mmy mbe mmf mbs mco mam mwa mww mmb msh mpa mgo q1 q2 q3).2.1), .ref amf, .long ((f_X7_mixed msc mtc mmy mbe mmf mbs mco mam mwa mww mmb msh mpa mgo q1 q2 q3).2.2.1), .ref amg, .long ((f_X7_mixed msc mtc mmy mbe mmf mbs mco mam mwa mww mmb msh mpa mgo q1 q2 q3).2.2.2.1), .ref amp, .ref amo, .int ((f_X7_mixed msc mtc mmy mbe mmf mbs mco mam mwa mww mmb msh mpa mgo q1 q2 q3).2.2.2.2.1), .int ((f_X7_mixed msc mtc mmy mbe mmf mbs mco mam mwa mww mmb msh mpa mgo q1 q2 q3).2.2.2.2.2.1), .long mh])), (ama, .inl (cI, 47, .inl mpg)), (amb, .inl (cI, 16, .inl mam)), (amc, .inl (cI, 4, .inl mwa)), (amd, .inl (cI, 4, .inl mww)), (ame, .inl (cI, 16, .inl mna)), (amf, .inl (cI, 4, .inl ((f_X7_mixed msc mtc mmy mbe mmf mbs mco mam mwa mww mmb msh mpa mgo q1 q2 q3).2.2.2.2.2.2.1))), (amg, .inl (cJ, 4, .inr (.inl ((f_X7_mixed msc mtc mmy mbe mmf mbs mco mam mwa mww mmb msh mpa mgo q1 q2 q3).2.2.2.2.2.2.2.1)))), (amp, .inl (cJ, 9, .inr (.inl ((f_X7_mixed msc mtc mmy mbe mmf mbs mco mam mwa mww mmb msh mpa mgo q1 q2 q3).2.2.2.2.2.2.2.2.1)))), (amo, .inl (cJ, 3, .inr (.inl ((f_X7_mixed msc mtc mmy mbe mmf mbs mco mam mwa mww mmb msh mpa mgo q1 q2 q3).2.2.2.2.2.2.2.2.2))))] ((f_X7_mixed msc mtc mmy mbe mmf mbs mco mam mwa mww mmb msh mpa mgo q1 q2 q3).1) := by
  generalize hr : f_X7_mixed msc mtc mmy mbe mmf mbs mco mam mwa mww mmb msh mpa mgo q1 q2 q3 = r
  refine fr_entryL (by decide) rfl ?_
  intro p e s m args below meth c A Q H locs hQ C hret hlk w ls hl
  have hx := C.1
  have hb := C.2.1
  have hl : lv_has ls 4 [(0, .ref am), (1, .int q1), (2, .int q2), (3, .int q3)] := hl
  have hr : (if (f_X7_isTracer mtc q1) = 0 then ((-1000002), mmy, mbe, mmf, mbs, mco, mmb, msh, mpa, mgo) else (if (f_X7_isUsed mtc q2) = 0 then ((-1000003), mmy, mbe, mmf, mbs, mco, mmb, msh, mpa, mgo) else (if (f_X7_within q3 0 1) = 0 then ((-1000003), mmy, mbe, mmf, mbs, mco, mmb, msh, mpa, mgo) else ((fun (z35_4 : Int32 × Int64 × Int64 × Int32 × Int32 × (Nat → Int32) × (Nat → Int64) × (Nat → Int64) × (Nat → Int64)) => ((f_X7_lowest (f_X7_mixedAbove msc mam z35_4.2.2.2.2.2.2.1 q1) z35_4.2.1 q3), z35_4.1, z35_4.2.1, z35_4.2.2.1, z35_4.2.2.2.1, z35_4.2.2.2.2.1, z35_4.2.2.2.2.2.1, z35_4.2.2.2.2.2.2.1, z35_4.2.2.2.2.2.2.2.1, z35_4.2.2.2.2.2.2.2.2)) (f_X7_layBest msc mtc mmy mbe mmf mam mwa mww mmb msh mpa mgo q2))))) = r := hr
  refine lv_aload_n hx hb dX7_mixed_0 rfl (lv_at hl 0 rfl) ?_
  refine lv_iload_n hx hb dX7_mixed_1 rfl (lv_at hl 1 rfl) ?_
  refine fr_callIV (As := [.int q1]) (rest := []) C w kf_X7_isTracer mw_12_10 (c_X7_isTracer l D cI cJ am ama amb amc amd ame amf amg amp amo mpl msc mtc msr mal mns mnn mnt mfi mnw mmy mbe mmf mbs mco mh mpg mam mwa mww mna mmb msh mpa mgo q1) ⟨Nat.le_of_ble_eq_true rfl, Nat.le_of_ble_eq_true rfl⟩ ⟨Nat.le_refl 0, Nat.le_refl 0⟩ [0, 1, 2, 3, 4, 5, 6, 7, 8, 9] rfl rfl rfl (ws' := [(am, .inr (7, [.int mpl, .ref ama, .int msc, .int mtc, .ref amb, .ref amc, .ref amd, .int msr, .int mal, .int mns, .int mnn, .int mnt, .int mfi, .int mnw, .ref ame, .int mmy, .ref amf, .long mbe, .ref amg, .long mmf, .ref amp, .ref amo, .int mbs, .int mco, .long mh])), (ama, .inl (cI, 47, .inl mpg)), (amb, .inl (cI, 16, .inl mam)), (amc, .inl (cI, 4, .inl mwa)), (amd, .inl (cI, 4, .inl mww)), (ame, .inl (cI, 16, .inl mna)), (amf, .inl (cI, 4, .inl mmb)), (amg, .inl (cJ, 4, .inr (.inl msh))), (amp, .inl (cJ, 9, .inr (.inl mpa))), (amo, .inl (cJ, 3, .inr (.inl mgo)))]) rfl rfl rfl rfl hl.1 rfl (Nat.le_of_ble_eq_true rfl) dX7_mixed_2 (fun H locs w => ?_)
  refine lv_if_ne (tgt := 12) hx hb dX7_mixed_5 (by decide) (fun c5_1 => ?_) (fun c5_1 => ?_)
  · have hr := (if_neg c5_1).symm.trans hr
    refine lv_aload_n hx hb dX7_mixed_12 rfl (lv_at hl 0 rfl) ?_
    refine lv_iload_n hx hb dX7_mixed_13 rfl (lv_at hl 2 rfl) ?_
    refine fr_callIV (As := [.int q2]) (rest := []) C w kf_X7_isUsed mw_16_11 (c_X7_isUsed l D cI cJ am ama amb amc amd ame amf amg amp amo mpl msc mtc msr mal mns mnn mnt mfi mnw mmy mbe mmf mbs mco mh mpg mam mwa mww mna mmb msh mpa mgo q2) ⟨Nat.le_of_ble_eq_true rfl, Nat.le_of_ble_eq_true rfl⟩ ⟨Nat.le_refl 0, Nat.le_refl 0⟩ [0, 1, 2, 3, 4, 5, 6, 7, 8, 9] rfl rfl rfl (ws' := [(am, .inr (7, [.int mpl, .ref ama, .int msc, .int mtc, .ref amb, .ref amc, .ref amd, .int msr, .int mal, .int mns, .int mnn, .int mnt, .int mfi, .int mnw, .ref ame, .int mmy, .ref amf, .long mbe, .ref amg, .long mmf, .ref amp, .ref amo, .int mbs, .int mco, .long mh])), (ama, .inl (cI, 47, .inl mpg)), (amb, .inl (cI, 16, .inl mam)), (amc, .inl (cI, 4, .inl mwa)), (amd, .inl (cI, 4, .inl mww)), (ame, .inl (cI, 16, .inl mna)), (amf, .inl (cI, 4, .inl mmb)), (amg, .inl (cJ, 4, .inr (.inl msh))), (amp, .inl (cJ, 9, .inr (.inl mpa))), (amo, .inl (cJ, 3, .inr (.inl mgo)))]) rfl rfl rfl rfl hl.1 rfl (Nat.le_of_ble_eq_true rfl) dX7_mixed_14 (fun H locs w => ?_)
    refine lv_if_eq (tgt := 29) hx hb dX7_mixed_17 (by decide) (fun c17_2 => ?_) (fun c17_2 => ?_)
    · have hr := (if_pos c17_2).symm.trans hr
      refine lv_ldc2 hx hb C.2.2.2.1 (C.2.2.2.2.1 _ mw_5_15) dX7_mixed_29 ?_
      subst hr hQ
      exact fr_lret C hret hlk w rfl rfl dX7_mixed_32
    · have hr := (if_neg c17_2).symm.trans hr
      refine lv_iload_n hx hb dX7_mixed_20 rfl (lv_at hl 3 rfl) ?_
      refine lv_iconst (v := 0) hx hb dX7_mixed_21 (by decide) ?_
      refine lv_iconst (v := 1) hx hb dX7_mixed_22 (by decide) ?_
      refine fr_callIS (As := [.int q3, .int 0, .int 1]) (rest := []) C w kf_X7_within mw_5_18 (c_X7_within l D cI cJ q3 0 1) ⟨Nat.le_of_ble_eq_true rfl, Nat.le_of_ble_eq_true rfl⟩ ⟨Nat.le_refl 0, Nat.le_refl 0⟩ [] rfl rfl rfl (ws' := [(am, .inr (7, [.int mpl, .ref ama, .int msc, .int mtc, .ref amb, .ref amc, .ref amd, .int msr, .int mal, .int mns, .int mnn, .int mnt, .int mfi, .int mnw, .ref ame, .int mmy, .ref amf, .long mbe, .ref amg, .long mmf, .ref amp, .ref amo, .int mbs, .int mco, .long mh])), (ama, .inl (cI, 47, .inl mpg)), (amb, .inl (cI, 16, .inl mam)), (amc, .inl (cI, 4, .inl mwa)), (amd, .inl (cI, 4, .inl mww)), (ame, .inl (cI, 16, .inl mna)), (amf, .inl (cI, 4, .inl mmb)), (amg, .inl (cJ, 4, .inr (.inl msh))), (amp, .inl (cJ, 9, .inr (.inl mpa))), (amo, .inl (cJ, 3, .inr (.inl mgo)))]) rfl rfl hl.1 rfl (Nat.le_of_ble_eq_true rfl) dX7_mixed_23 (fun H locs w => ?_)
      refine lv_if_ne (tgt := 33) hx hb dX7_mixed_26 (by decide) (fun c26_3 => ?_) (fun c26_3 => ?_)
      · have hr := (if_neg c26_3).symm.trans hr
        refine lv_aload_n hx hb dX7_mixed_33 rfl (lv_at hl 0 rfl) ?_
        refine lv_iload_n hx hb dX7_mixed_34 rfl (lv_at hl 2 rfl) ?_
        obtain ⟨z35_4, hz35_4⟩ : ∃ y, (f_X7_layBest msc mtc mmy mbe mmf mam mwa mww mmb msh mpa mgo q2) = y := ⟨_, rfl⟩
        have hcz35_4 := c_X7_layBest l D cI cJ am ama amb amc amd ame amf amg amp amo mpl msc mtc msr mal mns mnn mnt mfi mnw mmy mbe mmf mbs mco mh mpg mam mwa mww mna mmb msh mpa mgo q2 (by assumption) (by assumption) (by assumption) (by assumption)
        rw [hz35_4] at hcz35_4
        have hr : ((f_X7_lowest (f_X7_mixedAbove msc mam z35_4.2.2.2.2.2.2.1 q1) z35_4.2.1 q3), z35_4.1, z35_4.2.1, z35_4.2.2.1, z35_4.2.2.2.1, z35_4.2.2.2.2.1, z35_4.2.2.2.2.2.1, z35_4.2.2.2.2.2.2.1, z35_4.2.2.2.2.2.2.2.1, z35_4.2.2.2.2.2.2.2.2) = r := by subst hz35_4; exact hr
        refine fr_callVV (As := [.int q2]) (rest := []) C w kf_X7_layBest mw_22_15 (hcz35_4) ⟨Nat.le_of_ble_eq_true rfl, Nat.le_of_ble_eq_true rfl⟩ ⟨Nat.le_refl 0, Nat.le_refl 0⟩ [0, 1, 2, 3, 4, 5, 6, 7, 8, 9] rfl rfl rfl (ws' := [(am, .inr (7, [.int mpl, .ref ama, .int msc, .int mtc, .ref amb, .ref amc, .ref amd, .int msr, .int mal, .int mns, .int mnn, .int mnt, .int mfi, .int mnw, .ref ame, .int z35_4.1, .ref amf, .long z35_4.2.1, .ref amg, .long z35_4.2.2.1, .ref amp, .ref amo, .int z35_4.2.2.2.1, .int z35_4.2.2.2.2.1, .long mh])), (ama, .inl (cI, 47, .inl mpg)), (amb, .inl (cI, 16, .inl mam)), (amc, .inl (cI, 4, .inl mwa)), (amd, .inl (cI, 4, .inl mww)), (ame, .inl (cI, 16, .inl mna)), (amf, .inl (cI, 4, .inl z35_4.2.2.2.2.2.1)), (amg, .inl (cJ, 4, .inr (.inl z35_4.2.2.2.2.2.2.1))), (amp, .inl (cJ, 9, .inr (.inl z35_4.2.2.2.2.2.2.2.1))), (amo, .inl (cJ, 3, .inr (.inl z35_4.2.2.2.2.2.2.2.2)))]) rfl rfl rfl rfl hl.1 rfl (Nat.le_of_ble_eq_true rfl) dX7_mixed_35 (fun H locs w => ?_)
        refine lv_aload_n hx hb dX7_mixed_38 rfl (lv_at hl 0 rfl) ?_
        refine lv_iload_n hx hb dX7_mixed_39 rfl (lv_at hl 1 rfl) ?_
        refine fr_callLV (As := [.int q1]) (rest := []) C w kf_X7_mixedAbove mw_26_19 (c_X7_mixedAbove l D cI cJ am ama amb amc amd ame amf amg amp amo mpl msc mtc msr mal mns mnn mnt mfi mnw z35_4.1 z35_4.2.1 z35_4.2.2.1 z35_4.2.2.2.1 z35_4.2.2.2.2.1 mh mpg mam mwa mww mna z35_4.2.2.2.2.2.1 z35_4.2.2.2.2.2.2.1 z35_4.2.2.2.2.2.2.2.1 z35_4.2.2.2.2.2.2.2.2 q1 hms (trc_L4 (by assumption) hmt)) ⟨Nat.le_of_ble_eq_true rfl, Nat.le_of_ble_eq_true rfl⟩ ⟨Nat.le_refl 0, Nat.le_refl 0⟩ [0, 1, 2, 3, 4, 5, 6, 7, 8, 9] rfl rfl rfl (ws' := [(am, .inr (7, [.int mpl, .ref ama, .int msc, .int mtc, .ref amb, .ref amc, .ref amd, .int msr, .int mal, .int mns, .int mnn, .int mnt, .int mfi, .int mnw, .ref ame, .int z35_4.1, .ref amf, .long z35_4.2.1, .ref amg, .long z35_4.2.2.1, .ref amp, .ref amo, .int z35_4.2.2.2.1, .int z35_4.2.2.2.2.1, .long mh])), (ama, .inl (cI, 47, .inl mpg)), (amb, .inl (cI, 16, .inl mam)), (amc, .inl (cI, 4, .inl mwa)), (amd, .inl (cI, 4, .inl mww)), (ame, .inl (cI, 16, .inl mna)), (amf, .inl (cI, 4, .inl z35_4.2.2.2.2.2.1)), (amg, .inl (cJ, 4, .inr (.inl z35_4.2.2.2.2.2.2.1))), (amp, .inl (cJ, 9, .inr (.inl z35_4.2.2.2.2.2.2.2.1))), (amo, .inl (cJ, 3, .inr (.inl z35_4.2.2.2.2.2.2.2.2)))]) rfl rfl rfl rfl hl.1 rfl (Nat.le_of_ble_eq_true rfl) dX7_mixed_40 (fun H locs w => ?_)
        refine lv_aload_n hx hb dX7_mixed_43 rfl (lv_at hl 0 rfl) ?_
        refine fr_get C w fg_X7_142 0 rfl rfl dX7_mixed_44 ?_
        refine lv_iload_n hx hb dX7_mixed_47 rfl (lv_at hl 3 rfl) ?_
        refine fr_callLS (As := [.long (f_X7_mixedAbove msc mam z35_4.2.2.2.2.2.2.1 q1), .long z35_4.2.1, .int q3]) (rest := []) C w kf_X7_lowest mw_24_14 (c_X7_lowest l D cI cJ (f_X7_mixedAbove msc mam z35_4.2.2.2.2.2.2.1 q1) z35_4.2.1 q3 (by subst_vars; exact hbe _ _ _ _ _ _ _ _ hmb)) ⟨Nat.le_of_ble_eq_true rfl, Nat.le_of_ble_eq_true rfl⟩ ⟨Nat.le_refl 0, Nat.le_refl 0⟩ [] rfl rfl rfl (ws' := [(am, .inr (7, [.int mpl, .ref ama, .int msc, .int mtc, .ref amb, .ref amc, .ref amd, .int msr, .int mal, .int mns, .int mnn, .int mnt, .int mfi, .int mnw, .ref ame, .int z35_4.1, .ref amf, .long z35_4.2.1, .ref amg, .long z35_4.2.2.1, .ref amp, .ref amo, .int z35_4.2.2.2.1, .int z35_4.2.2.2.2.1, .long mh])), (ama, .inl (cI, 47, .inl mpg)), (amb, .inl (cI, 16, .inl mam)), (amc, .inl (cI, 4, .inl mwa)), (amd, .inl (cI, 4, .inl mww)), (ame, .inl (cI, 16, .inl mna)), (amf, .inl (cI, 4, .inl z35_4.2.2.2.2.2.1)), (amg, .inl (cJ, 4, .inr (.inl z35_4.2.2.2.2.2.2.1))), (amp, .inl (cJ, 9, .inr (.inl z35_4.2.2.2.2.2.2.2.1))), (amo, .inl (cJ, 3, .inr (.inl z35_4.2.2.2.2.2.2.2.2)))]) rfl rfl hl.1 rfl (Nat.le_of_ble_eq_true rfl) dX7_mixed_48 (fun H locs w => ?_)
        subst hr hQ
        exact fr_lret C hret hlk w rfl rfl dX7_mixed_51
      · have hr := (if_pos c26_3).symm.trans hr
        refine lv_ldc2 hx hb C.2.2.2.1 (C.2.2.2.2.1 _ mw_5_15) dX7_mixed_29 ?_
        subst hr hQ
        exact fr_lret C hret hlk w rfl rfl dX7_mixed_32
  · have hr := (if_pos c5_1).symm.trans hr
    refine lv_ldc2 hx hb C.2.2.2.1 (C.2.2.2.2.1 _ mw_12_8) dX7_mixed_8 ?_
    subst hr hQ
    exact fr_lret C hret hlk w rfl rfl dX7_mixed_11
def f_X7_corner (msc : Int32) (mtc : Int32) (mmy : Int32) (mbe : Int64) (mmf : Int64) (mam : Nat → Int32) (mwa : Nat → Int32) (mww : Nat → Int32) (mmb : Nat → Int32) (msh : Nat → Int64) (mpa : Nat → Int64) (mgo : Nat → Int64) (q1 : Int32) (q2 : Int32) (q3 : Int32) : Int64 × Int32 × Int64 × Int64 × (Nat → Int32) × (Nat → Int64) × (Nat → Int64) × (Nat → Int64) := (if msc = 0 then ((-1000004), mmy, mbe, mmf, mmb, msh, mpa, mgo) else (if (f_X7_within q1 1 ((1 <<< (msc &&& 31)) - 1)) = 0 then ((-1000003), mmy, mbe, mmf, mmb, msh, mpa, mgo) else (if (f_X7_isUsed mtc q2) = 0 then ((-1000003), mmy, mbe, mmf, mmb, msh, mpa, mgo) else (if (f_X7_within q3 0 2) = 0 then ((-1000003), mmy, mbe, mmf, mmb, msh, mpa, mgo) else ((fun (z51_5 : Int32 × Int64 × Int64 × (Nat → Int32) × (Nat → Int64) × (Nat → Int64) × (Nat → Int64)) => (if q3 = 0 then (if (f_X7_isGood z51_5.1 z51_5.2.1 z51_5.2.2.2.1 z51_5.2.2.2.2.1) = 0 then (0, z51_5.1, z51_5.2.1, z51_5.2.2.1, z51_5.2.2.2.1, z51_5.2.2.2.2.1, z51_5.2.2.2.2.2.1, z51_5.2.2.2.2.2.2) else (1, z51_5.1, z51_5.2.1, z51_5.2.2.1, z51_5.2.2.2.1, z51_5.2.2.2.2.1, z51_5.2.2.2.2.2.1, z51_5.2.2.2.2.2.2)) else (if z51_5.2.1 = 0 then ((-1000001), z51_5.1, z51_5.2.1, z51_5.2.2.1, z51_5.2.2.2.1, z51_5.2.2.2.2.1, z51_5.2.2.2.2.2.1, z51_5.2.2.2.2.2.2) else ((f_X7_lowest z51_5.2.2.1 z51_5.2.1 (q3 - 1)), z51_5.1, z51_5.2.1, z51_5.2.2.1, z51_5.2.2.2.1, z51_5.2.2.2.2.1, z51_5.2.2.2.2.2.1, z51_5.2.2.2.2.2.2)))) (f_X7_laySet msc mtc mam mwa mww mmb msh mpa mgo q1 q2))))))
set_option maxRecDepth 100000 in
set_option maxHeartbeats 4000000 in
theorem c_X7_corner (l : Launch) (D : va_G) (cI cJ : ClassId) (am ama amb amc amd ame amf amg amp amo : Nat) (mpl : Int32) (msc : Int32) (mtc : Int32) (msr : Int32) (mal : Int32) (mns : Int32) (mnn : Int32) (mnt : Int32) (mfi : Int32) (mnw : Int32) (mmy : Int32) (mbe : Int64) (mmf : Int64) (mbs : Int32) (mco : Int32) (mh : Int64) (mpg : Nat → Int32) (mam : Nat → Int32) (mwa : Nat → Int32) (mww : Nat → Int32) (mna : Nat → Int32) (mmb : Nat → Int32) (msh : Nat → Int64) (mpa : Nat → Int64) (mgo : Nat → Int64) (q1 : Int32) (q2 : Int32) (q3 : Int32) (hms : LE4 msc) (hmt : LE4 mtc) (hmb : MB mmb) : CL l yX7_corner cX7_corner 4 3 D cI cJ [.ref am, .int q1, .int q2, .int q3] [(am, .inr (7, [.int mpl, .ref ama, .int msc, .int mtc, .ref amb, .ref amc, .ref amd, .int msr, .int mal, .int mns, .int mnn, .int mnt, .int mfi, .int mnw, .ref ame, .int mmy, .ref amf, .long mbe, .ref amg, .long mmf, .ref amp, .ref amo, .int mbs, .int mco, .long mh])), (ama, .inl (cI, 47, .inl mpg)), (amb, .inl (cI, 16, .inl mam)), (amc, .inl (cI, 4, .inl mwa)), (amd, .inl (cI, 4, .inl mww)), (ame, .inl (cI, 16, .inl mna)), (amf, .inl (cI, 4, .inl mmb)), (amg, .inl (cJ, 4, .inr (.inl msh))), (amp, .inl (cJ, 9, .inr (.inl mpa))), (amo, .inl (cJ, 3, .inr (.inl mgo)))] [(am, .inr (7, [.int mpl, .ref ama, .int msc, .int mtc, .ref amb, .ref amc, .ref amd, .int msr, .int mal, .int mns, .int mnn, .int mnt, .int mfi, .int mnw, .ref ame, .int ((f_X7_corner msc mtc mmy mbe mmf mam mwa mww mmb msh mpa mgo q1 q2 q3).2.1), .ref amf, .long ((f_X7_corner msc mtc mmy mbe mmf mam mwa mww mmb msh mpa mgo q1 q2 q3).2.2.1), .ref amg, .long ((f_X7_corner msc mtc mmy mbe mmf mam mwa mww mmb msh mpa mgo q1 q2 q3).2.2.2.1), .ref amp, .ref amo, .int mbs, .int mco, .long mh])), (ama, .inl (cI, 47, .inl mpg)), (amb, .inl (cI, 16, .inl mam)), (amc, .inl (cI, 4, .inl mwa)), (amd, .inl (cI, 4, .inl mww)), (ame, .inl (cI, 16, .inl mna)), (amf, .inl (cI, 4, .inl ((f_X7_corner msc mtc mmy mbe mmf mam mwa mww mmb msh mpa mgo q1 q2 q3).2.2.2.2.1))), (amg, .inl (cJ, 4, .inr (.inl ((f_X7_corner msc mtc mmy mbe mmf mam mwa mww mmb msh mpa mgo q1 q2 q3).2.2.2.2.2.1)))), (amp, .inl (cJ, 9, .inr (.inl ((f_X7_corner msc mtc mmy mbe mmf mam mwa mww mmb msh mpa mgo q1 q2 q3).2.2.2.2.2.2.1)))), (amo, .inl (cJ, 3, .inr (.inl ((f_X7_corner msc mtc mmy mbe mmf mam mwa mww mmb msh mpa mgo q1 q2 q3).2.2.2.2.2.2.2))))] ((f_X7_corner msc mtc mmy mbe mmf mam mwa mww mmb msh mpa mgo q1 q2 q3).1) := by
  generalize hr : f_X7_corner msc mtc mmy mbe mmf mam mwa mww mmb msh mpa mgo q1 q2 q3 = r
  refine fr_entryL (by decide) rfl ?_
  intro p e s m args below meth c A Q H locs hQ C hret hlk w ls hl
  have hx := C.1
  have hb := C.2.1
  have hl : lv_has ls 4 [(0, .ref am), (1, .int q1), (2, .int q2), (3, .int q3)] := hl
  have hr : (if msc = 0 then ((-1000004), mmy, mbe, mmf, mmb, msh, mpa, mgo) else (if (f_X7_within q1 1 ((1 <<< (msc &&& 31)) - 1)) = 0 then ((-1000003), mmy, mbe, mmf, mmb, msh, mpa, mgo) else (if (f_X7_isUsed mtc q2) = 0 then ((-1000003), mmy, mbe, mmf, mmb, msh, mpa, mgo) else (if (f_X7_within q3 0 2) = 0 then ((-1000003), mmy, mbe, mmf, mmb, msh, mpa, mgo) else ((fun (z51_5 : Int32 × Int64 × Int64 × (Nat → Int32) × (Nat → Int64) × (Nat → Int64) × (Nat → Int64)) => (if q3 = 0 then (if (f_X7_isGood z51_5.1 z51_5.2.1 z51_5.2.2.2.1 z51_5.2.2.2.2.1) = 0 then (0, z51_5.1, z51_5.2.1, z51_5.2.2.1, z51_5.2.2.2.1, z51_5.2.2.2.2.1, z51_5.2.2.2.2.2.1, z51_5.2.2.2.2.2.2) else (1, z51_5.1, z51_5.2.1, z51_5.2.2.1, z51_5.2.2.2.1, z51_5.2.2.2.2.1, z51_5.2.2.2.2.2.1, z51_5.2.2.2.2.2.2)) else (if z51_5.2.1 = 0 then ((-1000001), z51_5.1, z51_5.2.1, z51_5.2.2.1, z51_5.2.2.2.1, z51_5.2.2.2.2.1, z51_5.2.2.2.2.2.1, z51_5.2.2.2.2.2.2) else ((f_X7_lowest z51_5.2.2.1 z51_5.2.1 (q3 - 1)), z51_5.1, z51_5.2.1, z51_5.2.2.1, z51_5.2.2.2.1, z51_5.2.2.2.2.1, z51_5.2.2.2.2.2.1, z51_5.2.2.2.2.2.2)))) (f_X7_laySet msc mtc mam mwa mww mmb msh mpa mgo q1 q2)))))) = r := hr
  refine lv_aload_n hx hb dX7_corner_0 rfl (lv_at hl 0 rfl) ?_
  refine fr_get C w fg_X7_78 0 rfl rfl dX7_corner_1 ?_
  refine lv_if_ne (tgt := 11) hx hb dX7_corner_4 (by decide) (fun c4_1 => ?_) (fun c4_1 => ?_)
  · have hr := (if_neg c4_1).symm.trans hr
    refine lv_iload_n hx hb dX7_corner_11 rfl (lv_at hl 1 rfl) ?_
    refine lv_iconst (v := 1) hx hb dX7_corner_12 (by decide) ?_
    refine lv_iconst (v := 1) hx hb dX7_corner_13 (by decide) ?_
    refine lv_aload_n hx hb dX7_corner_14 rfl (lv_at hl 0 rfl) ?_
    refine fr_get C w fg_X7_78 0 rfl rfl dX7_corner_15 ?_
    refine lv_ishl hx hb dX7_corner_18 ?_
    refine lv_iconst (v := 1) hx hb dX7_corner_19 (by decide) ?_
    refine lv_isub hx hb dX7_corner_20 ?_
    refine fr_callIS (As := [.int q1, .int 1, .int ((1 <<< (msc &&& 31)) - 1)]) (rest := []) C w kf_X7_within mw_5_18 (c_X7_within l D cI cJ q1 1 ((1 <<< (msc &&& 31)) - 1)) ⟨Nat.le_of_ble_eq_true rfl, Nat.le_of_ble_eq_true rfl⟩ ⟨Nat.le_refl 0, Nat.le_refl 0⟩ [] rfl rfl rfl (ws' := [(am, .inr (7, [.int mpl, .ref ama, .int msc, .int mtc, .ref amb, .ref amc, .ref amd, .int msr, .int mal, .int mns, .int mnn, .int mnt, .int mfi, .int mnw, .ref ame, .int mmy, .ref amf, .long mbe, .ref amg, .long mmf, .ref amp, .ref amo, .int mbs, .int mco, .long mh])), (ama, .inl (cI, 47, .inl mpg)), (amb, .inl (cI, 16, .inl mam)), (amc, .inl (cI, 4, .inl mwa)), (amd, .inl (cI, 4, .inl mww)), (ame, .inl (cI, 16, .inl mna)), (amf, .inl (cI, 4, .inl mmb)), (amg, .inl (cJ, 4, .inr (.inl msh))), (amp, .inl (cJ, 9, .inr (.inl mpa))), (amo, .inl (cJ, 3, .inr (.inl mgo)))]) rfl rfl hl.1 rfl (Nat.le_of_ble_eq_true rfl) dX7_corner_21 (fun H locs w => ?_)
    refine lv_if_eq (tgt := 44) hx hb dX7_corner_24 (by decide) (fun c24_2 => ?_) (fun c24_2 => ?_)
    · have hr := (if_pos c24_2).symm.trans hr
      refine lv_ldc2 hx hb C.2.2.2.1 (C.2.2.2.2.1 _ mw_5_15) dX7_corner_44 ?_
      subst hr hQ
      exact fr_lret C hret hlk w rfl rfl dX7_corner_47
    · have hr := (if_neg c24_2).symm.trans hr
      refine lv_aload_n hx hb dX7_corner_27 rfl (lv_at hl 0 rfl) ?_
      refine lv_iload_n hx hb dX7_corner_28 rfl (lv_at hl 2 rfl) ?_
      refine fr_callIV (As := [.int q2]) (rest := []) C w kf_X7_isUsed mw_16_11 (c_X7_isUsed l D cI cJ am ama amb amc amd ame amf amg amp amo mpl msc mtc msr mal mns mnn mnt mfi mnw mmy mbe mmf mbs mco mh mpg mam mwa mww mna mmb msh mpa mgo q2) ⟨Nat.le_of_ble_eq_true rfl, Nat.le_of_ble_eq_true rfl⟩ ⟨Nat.le_refl 0, Nat.le_refl 0⟩ [0, 1, 2, 3, 4, 5, 6, 7, 8, 9] rfl rfl rfl (ws' := [(am, .inr (7, [.int mpl, .ref ama, .int msc, .int mtc, .ref amb, .ref amc, .ref amd, .int msr, .int mal, .int mns, .int mnn, .int mnt, .int mfi, .int mnw, .ref ame, .int mmy, .ref amf, .long mbe, .ref amg, .long mmf, .ref amp, .ref amo, .int mbs, .int mco, .long mh])), (ama, .inl (cI, 47, .inl mpg)), (amb, .inl (cI, 16, .inl mam)), (amc, .inl (cI, 4, .inl mwa)), (amd, .inl (cI, 4, .inl mww)), (ame, .inl (cI, 16, .inl mna)), (amf, .inl (cI, 4, .inl mmb)), (amg, .inl (cJ, 4, .inr (.inl msh))), (amp, .inl (cJ, 9, .inr (.inl mpa))), (amo, .inl (cJ, 3, .inr (.inl mgo)))]) rfl rfl rfl rfl hl.1 rfl (Nat.le_of_ble_eq_true rfl) dX7_corner_29 (fun H locs w => ?_)
      refine lv_if_eq (tgt := 44) hx hb dX7_corner_32 (by decide) (fun c32_3 => ?_) (fun c32_3 => ?_)
      · have hr := (if_pos c32_3).symm.trans hr
        refine lv_ldc2 hx hb C.2.2.2.1 (C.2.2.2.2.1 _ mw_5_15) dX7_corner_44 ?_
        subst hr hQ
        exact fr_lret C hret hlk w rfl rfl dX7_corner_47
      · have hr := (if_neg c32_3).symm.trans hr
        refine lv_iload_n hx hb dX7_corner_35 rfl (lv_at hl 3 rfl) ?_
        refine lv_iconst (v := 0) hx hb dX7_corner_36 (by decide) ?_
        refine lv_iconst (v := 2) hx hb dX7_corner_37 (by decide) ?_
        refine fr_callIS (As := [.int q3, .int 0, .int 2]) (rest := []) C w kf_X7_within mw_5_18 (c_X7_within l D cI cJ q3 0 2) ⟨Nat.le_of_ble_eq_true rfl, Nat.le_of_ble_eq_true rfl⟩ ⟨Nat.le_refl 0, Nat.le_refl 0⟩ [] rfl rfl rfl (ws' := [(am, .inr (7, [.int mpl, .ref ama, .int msc, .int mtc, .ref amb, .ref amc, .ref amd, .int msr, .int mal, .int mns, .int mnn, .int mnt, .int mfi, .int mnw, .ref ame, .int mmy, .ref amf, .long mbe, .ref amg, .long mmf, .ref amp, .ref amo, .int mbs, .int mco, .long mh])), (ama, .inl (cI, 47, .inl mpg)), (amb, .inl (cI, 16, .inl mam)), (amc, .inl (cI, 4, .inl mwa)), (amd, .inl (cI, 4, .inl mww)), (ame, .inl (cI, 16, .inl mna)), (amf, .inl (cI, 4, .inl mmb)), (amg, .inl (cJ, 4, .inr (.inl msh))), (amp, .inl (cJ, 9, .inr (.inl mpa))), (amo, .inl (cJ, 3, .inr (.inl mgo)))]) rfl rfl hl.1 rfl (Nat.le_of_ble_eq_true rfl) dX7_corner_38 (fun H locs w => ?_)
        refine lv_if_ne (tgt := 48) hx hb dX7_corner_41 (by decide) (fun c41_4 => ?_) (fun c41_4 => ?_)
        · have hr := (if_neg c41_4).symm.trans hr
          refine lv_aload_n hx hb dX7_corner_48 rfl (lv_at hl 0 rfl) ?_
          refine lv_iload_n hx hb dX7_corner_49 rfl (lv_at hl 1 rfl) ?_
          refine lv_iload_n hx hb dX7_corner_50 rfl (lv_at hl 2 rfl) ?_
          obtain ⟨z51_5, hz51_5⟩ : ∃ y, (f_X7_laySet msc mtc mam mwa mww mmb msh mpa mgo q1 q2) = y := ⟨_, rfl⟩
          have hcz51_5 := c_X7_laySet l D cI cJ am ama amb amc amd ame amf amg amp amo mpl msc mtc msr mal mns mnn mnt mfi mnw mmy mbe mmf mbs mco mh mpg mam mwa mww mna mmb msh mpa mgo q1 q2 (by assumption) (by assumption) (by assumption)
          rw [hz51_5] at hcz51_5
          have hr : (if q3 = 0 then (if (f_X7_isGood z51_5.1 z51_5.2.1 z51_5.2.2.2.1 z51_5.2.2.2.2.1) = 0 then (0, z51_5.1, z51_5.2.1, z51_5.2.2.1, z51_5.2.2.2.1, z51_5.2.2.2.2.1, z51_5.2.2.2.2.2.1, z51_5.2.2.2.2.2.2) else (1, z51_5.1, z51_5.2.1, z51_5.2.2.1, z51_5.2.2.2.1, z51_5.2.2.2.2.1, z51_5.2.2.2.2.2.1, z51_5.2.2.2.2.2.2)) else (if z51_5.2.1 = 0 then ((-1000001), z51_5.1, z51_5.2.1, z51_5.2.2.1, z51_5.2.2.2.1, z51_5.2.2.2.2.1, z51_5.2.2.2.2.2.1, z51_5.2.2.2.2.2.2) else ((f_X7_lowest z51_5.2.2.1 z51_5.2.1 (q3 - 1)), z51_5.1, z51_5.2.1, z51_5.2.2.1, z51_5.2.2.2.1, z51_5.2.2.2.2.1, z51_5.2.2.2.2.2.1, z51_5.2.2.2.2.2.2))) = r := by subst hz51_5; exact hr
          refine fr_callVV (As := [.int q1, .int q2]) (rest := []) C w kf_X7_laySet mw_22_23 (hcz51_5) ⟨Nat.le_of_ble_eq_true rfl, Nat.le_of_ble_eq_true rfl⟩ ⟨Nat.le_refl 0, Nat.le_refl 0⟩ [0, 1, 2, 3, 4, 5, 6, 7, 8, 9] rfl rfl rfl (ws' := [(am, .inr (7, [.int mpl, .ref ama, .int msc, .int mtc, .ref amb, .ref amc, .ref amd, .int msr, .int mal, .int mns, .int mnn, .int mnt, .int mfi, .int mnw, .ref ame, .int z51_5.1, .ref amf, .long z51_5.2.1, .ref amg, .long z51_5.2.2.1, .ref amp, .ref amo, .int mbs, .int mco, .long mh])), (ama, .inl (cI, 47, .inl mpg)), (amb, .inl (cI, 16, .inl mam)), (amc, .inl (cI, 4, .inl mwa)), (amd, .inl (cI, 4, .inl mww)), (ame, .inl (cI, 16, .inl mna)), (amf, .inl (cI, 4, .inl z51_5.2.2.2.1)), (amg, .inl (cJ, 4, .inr (.inl z51_5.2.2.2.2.1))), (amp, .inl (cJ, 9, .inr (.inl z51_5.2.2.2.2.2.1))), (amo, .inl (cJ, 3, .inr (.inl z51_5.2.2.2.2.2.2)))]) rfl rfl rfl rfl hl.1 rfl (Nat.le_of_ble_eq_true rfl) dX7_corner_51 (fun H locs w => ?_)
          refine lv_iload_n hx hb dX7_corner_54 rfl (lv_at hl 3 rfl) ?_
          refine lv_if_ne (tgt := 71) hx hb dX7_corner_55 (by decide) (fun c55_6 => ?_) (fun c55_6 => ?_)
          · have hr := (if_neg c55_6).symm.trans hr
            refine lv_aload_n hx hb dX7_corner_71 rfl (lv_at hl 0 rfl) ?_
            refine fr_get C w fg_X7_142 0 rfl rfl dX7_corner_72 ?_
            refine lv_lconst (v := 0) hx hb dX7_corner_75 (by decide) ?_
            refine fr_lne (tgt := 86) hx hb dX7_corner_76 dX7_corner_77 (by decide) (fun c77_7 => ?_) (fun c77_7 => ?_)
            · have hr := (if_neg c77_7).symm.trans hr
              refine lv_aload_n hx hb dX7_corner_86 rfl (lv_at hl 0 rfl) ?_
              refine fr_get C w fg_X7_146 0 rfl rfl dX7_corner_87 ?_
              refine lv_aload_n hx hb dX7_corner_90 rfl (lv_at hl 0 rfl) ?_
              refine fr_get C w fg_X7_142 0 rfl rfl dX7_corner_91 ?_
              refine lv_iload_n hx hb dX7_corner_94 rfl (lv_at hl 3 rfl) ?_
              refine lv_iconst (v := 1) hx hb dX7_corner_95 (by decide) ?_
              refine lv_isub hx hb dX7_corner_96 ?_
              refine fr_callLS (As := [.long z51_5.2.2.1, .long z51_5.2.1, .int (q3 - 1)]) (rest := []) C w kf_X7_lowest mw_24_14 (c_X7_lowest l D cI cJ z51_5.2.2.1 z51_5.2.1 (q3 - 1) (by assumption)) ⟨Nat.le_of_ble_eq_true rfl, Nat.le_of_ble_eq_true rfl⟩ ⟨Nat.le_refl 0, Nat.le_refl 0⟩ [] rfl rfl rfl (ws' := [(am, .inr (7, [.int mpl, .ref ama, .int msc, .int mtc, .ref amb, .ref amc, .ref amd, .int msr, .int mal, .int mns, .int mnn, .int mnt, .int mfi, .int mnw, .ref ame, .int z51_5.1, .ref amf, .long z51_5.2.1, .ref amg, .long z51_5.2.2.1, .ref amp, .ref amo, .int mbs, .int mco, .long mh])), (ama, .inl (cI, 47, .inl mpg)), (amb, .inl (cI, 16, .inl mam)), (amc, .inl (cI, 4, .inl mwa)), (amd, .inl (cI, 4, .inl mww)), (ame, .inl (cI, 16, .inl mna)), (amf, .inl (cI, 4, .inl z51_5.2.2.2.1)), (amg, .inl (cJ, 4, .inr (.inl z51_5.2.2.2.2.1))), (amp, .inl (cJ, 9, .inr (.inl z51_5.2.2.2.2.2.1))), (amo, .inl (cJ, 3, .inr (.inl z51_5.2.2.2.2.2.2)))]) rfl rfl hl.1 rfl (Nat.le_of_ble_eq_true rfl) dX7_corner_97 (fun H locs w => ?_)
              subst hr hQ
              exact fr_lret C hret hlk w rfl rfl dX7_corner_100
            · have hr := (if_pos c77_7).symm.trans hr
              refine lv_ldc2 hx hb C.2.2.2.1 (C.2.2.2.2.1 _ mw_15_0) dX7_corner_80 ?_
              refine lv_goto (tgt := 100) hx hb dX7_corner_83 (by decide) ?_
              subst hr hQ
              exact fr_lret C hret hlk w rfl rfl dX7_corner_100
          · have hr := (if_pos c55_6).symm.trans hr
            refine lv_aload_n hx hb dX7_corner_58 rfl (lv_at hl 0 rfl) ?_
            refine fr_callIV (As := []) (rest := []) C w kf_X7_isGood mw_24_0 (c_X7_isGood l D cI cJ am ama amb amc amd ame amf amg amp amo mpl msc mtc msr mal mns mnn mnt mfi mnw z51_5.1 z51_5.2.1 z51_5.2.2.1 mbs mco mh mpg mam mwa mww mna z51_5.2.2.2.1 z51_5.2.2.2.2.1 z51_5.2.2.2.2.2.1 z51_5.2.2.2.2.2.2 (by subst_vars; exact (laySet_facts hms hmb).1) (by subst_vars; exact (laySet_facts hms hmb).2)) ⟨Nat.le_of_ble_eq_true rfl, Nat.le_of_ble_eq_true rfl⟩ ⟨Nat.le_refl 0, Nat.le_refl 0⟩ [0, 1, 2, 3, 4, 5, 6, 7, 8, 9] rfl rfl rfl (ws' := [(am, .inr (7, [.int mpl, .ref ama, .int msc, .int mtc, .ref amb, .ref amc, .ref amd, .int msr, .int mal, .int mns, .int mnn, .int mnt, .int mfi, .int mnw, .ref ame, .int z51_5.1, .ref amf, .long z51_5.2.1, .ref amg, .long z51_5.2.2.1, .ref amp, .ref amo, .int mbs, .int mco, .long mh])), (ama, .inl (cI, 47, .inl mpg)), (amb, .inl (cI, 16, .inl mam)), (amc, .inl (cI, 4, .inl mwa)), (amd, .inl (cI, 4, .inl mww)), (ame, .inl (cI, 16, .inl mna)), (amf, .inl (cI, 4, .inl z51_5.2.2.2.1)), (amg, .inl (cJ, 4, .inr (.inl z51_5.2.2.2.2.1))), (amp, .inl (cJ, 9, .inr (.inl z51_5.2.2.2.2.2.1))), (amo, .inl (cJ, 3, .inr (.inl z51_5.2.2.2.2.2.2)))]) rfl rfl rfl rfl hl.1 rfl (Nat.le_of_ble_eq_true rfl) dX7_corner_59 (fun H locs w => ?_)
            refine lv_if_eq (tgt := 69) hx hb dX7_corner_62 (by decide) (fun c62_8 => ?_) (fun c62_8 => ?_)
            · have hr := (if_pos c62_8).symm.trans hr
              refine lv_lconst (v := 0) hx hb dX7_corner_69 (by decide) ?_
              subst hr hQ
              exact fr_lret C hret hlk w rfl rfl dX7_corner_70
            · have hr := (if_neg c62_8).symm.trans hr
              refine lv_lconst (v := 1) hx hb dX7_corner_65 (by decide) ?_
              refine lv_goto (tgt := 70) hx hb dX7_corner_66 (by decide) ?_
              subst hr hQ
              exact fr_lret C hret hlk w rfl rfl dX7_corner_70
        · have hr := (if_pos c41_4).symm.trans hr
          refine lv_ldc2 hx hb C.2.2.2.1 (C.2.2.2.2.1 _ mw_5_15) dX7_corner_44 ?_
          subst hr hQ
          exact fr_lret C hret hlk w rfl rfl dX7_corner_47
  · have hr := (if_pos c4_1).symm.trans hr
    refine lv_ldc2 hx hb C.2.2.2.1 (C.2.2.2.2.1 _ mw_10_12) dX7_corner_7 ?_
    subst hr hQ
    exact fr_lret C hret hlk w rfl rfl dX7_corner_10
def f_X7_howMany (mpl : Int32) (msc : Int32) (mtc : Int32) (msr : Int32) (mal : Int32) (q1 : Int32) : Int64 := (if q1 = 0 then (Int32.toInt64 msc) else (if q1 = 1 then (Int32.toInt64 mtc) else (if q1 = 2 then (Int32.toInt64 mpl) else (if q1 = 3 then (Int32.toInt64 msr) else (if q1 = 4 then (Int32.toInt64 mal) else (-1000003))))))
set_option maxRecDepth 100000 in
set_option maxHeartbeats 4000000 in
theorem c_X7_howMany (l : Launch) (D : va_G) (cI cJ : ClassId) (am ama amb amc amd ame amf amg amp amo : Nat) (mpl : Int32) (msc : Int32) (mtc : Int32) (msr : Int32) (mal : Int32) (mns : Int32) (mnn : Int32) (mnt : Int32) (mfi : Int32) (mnw : Int32) (mmy : Int32) (mbe : Int64) (mmf : Int64) (mbs : Int32) (mco : Int32) (mh : Int64) (mpg : Nat → Int32) (mam : Nat → Int32) (mwa : Nat → Int32) (mww : Nat → Int32) (mna : Nat → Int32) (mmb : Nat → Int32) (msh : Nat → Int64) (mpa : Nat → Int64) (mgo : Nat → Int64) (q1 : Int32) : CL l yX7_howMany cX7_howMany 2 0 D cI cJ [.ref am, .int q1] [(am, .inr (7, [.int mpl, .ref ama, .int msc, .int mtc, .ref amb, .ref amc, .ref amd, .int msr, .int mal, .int mns, .int mnn, .int mnt, .int mfi, .int mnw, .ref ame, .int mmy, .ref amf, .long mbe, .ref amg, .long mmf, .ref amp, .ref amo, .int mbs, .int mco, .long mh])), (ama, .inl (cI, 47, .inl mpg)), (amb, .inl (cI, 16, .inl mam)), (amc, .inl (cI, 4, .inl mwa)), (amd, .inl (cI, 4, .inl mww)), (ame, .inl (cI, 16, .inl mna)), (amf, .inl (cI, 4, .inl mmb)), (amg, .inl (cJ, 4, .inr (.inl msh))), (amp, .inl (cJ, 9, .inr (.inl mpa))), (amo, .inl (cJ, 3, .inr (.inl mgo)))] [(am, .inr (7, [.int mpl, .ref ama, .int msc, .int mtc, .ref amb, .ref amc, .ref amd, .int msr, .int mal, .int mns, .int mnn, .int mnt, .int mfi, .int mnw, .ref ame, .int mmy, .ref amf, .long mbe, .ref amg, .long mmf, .ref amp, .ref amo, .int mbs, .int mco, .long mh])), (ama, .inl (cI, 47, .inl mpg)), (amb, .inl (cI, 16, .inl mam)), (amc, .inl (cI, 4, .inl mwa)), (amd, .inl (cI, 4, .inl mww)), (ame, .inl (cI, 16, .inl mna)), (amf, .inl (cI, 4, .inl mmb)), (amg, .inl (cJ, 4, .inr (.inl msh))), (amp, .inl (cJ, 9, .inr (.inl mpa))), (amo, .inl (cJ, 3, .inr (.inl mgo)))] (f_X7_howMany mpl msc mtc msr mal q1) := by
  generalize hr : f_X7_howMany mpl msc mtc msr mal q1 = r
  refine fr_entryL (by decide) rfl ?_
  intro p e s m args below meth c A Q H locs hQ C hret hlk w ls hl
  have hx := C.1
  have hb := C.2.1
  have hl : lv_has ls 2 [(0, .ref am), (1, .int q1)] := hl
  have hr : (if q1 = 0 then (Int32.toInt64 msc) else (if q1 = 1 then (Int32.toInt64 mtc) else (if q1 = 2 then (Int32.toInt64 mpl) else (if q1 = 3 then (Int32.toInt64 msr) else (if q1 = 4 then (Int32.toInt64 mal) else (-1000003)))))) = r := hr
  refine lv_iload_n hx hb dX7_howMany_0 rfl (lv_at hl 1 rfl) ?_
  by_cases c1_s0 : q1 = 0
  · have hr := (if_pos c1_s0).symm.trans hr
    refine lv_tableIn (tgt := 36) (off := 35) hx hb dX7_howMany_1 (by rw [c1_s0]; decide) (by rw [c1_s0]; decide) (by rw [c1_s0]; decide) (by decide) ?_
    refine lv_aload_n hx hb dX7_howMany_36 rfl (lv_at hl 0 rfl) ?_
    refine fr_get C w fg_X7_78 0 rfl rfl dX7_howMany_37 ?_
    refine lv_i2l (v := (Int32.toInt64 msc)) hx hb dX7_howMany_40 rfl ?_
    subst hr hQ
    exact fr_lret C hret hlk w rfl rfl dX7_howMany_41
  · have hr := (if_neg c1_s0).symm.trans hr
    by_cases c1_s1 : q1 = 1
    · have hr := (if_pos c1_s1).symm.trans hr
      refine lv_tableIn (tgt := 42) (off := 41) hx hb dX7_howMany_1 (by rw [c1_s1]; decide) (by rw [c1_s1]; decide) (by rw [c1_s1]; decide) (by decide) ?_
      refine lv_aload_n hx hb dX7_howMany_42 rfl (lv_at hl 0 rfl) ?_
      refine fr_get C w fg_X7_81 0 rfl rfl dX7_howMany_43 ?_
      refine lv_i2l (v := (Int32.toInt64 mtc)) hx hb dX7_howMany_46 rfl ?_
      subst hr hQ
      exact fr_lret C hret hlk w rfl rfl dX7_howMany_47
    · have hr := (if_neg c1_s1).symm.trans hr
      by_cases c1_s2 : q1 = 2
      · have hr := (if_pos c1_s2).symm.trans hr
        refine lv_tableIn (tgt := 48) (off := 47) hx hb dX7_howMany_1 (by rw [c1_s2]; decide) (by rw [c1_s2]; decide) (by rw [c1_s2]; decide) (by decide) ?_
        refine lv_aload_n hx hb dX7_howMany_48 rfl (lv_at hl 0 rfl) ?_
        refine fr_get C w fg_X7_44 0 rfl rfl dX7_howMany_49 ?_
        refine lv_i2l (v := (Int32.toInt64 mpl)) hx hb dX7_howMany_52 rfl ?_
        subst hr hQ
        exact fr_lret C hret hlk w rfl rfl dX7_howMany_53
      · have hr := (if_neg c1_s2).symm.trans hr
        by_cases c1_s3 : q1 = 3
        · have hr := (if_pos c1_s3).symm.trans hr
          refine lv_tableIn (tgt := 54) (off := 53) hx hb dX7_howMany_1 (by rw [c1_s3]; decide) (by rw [c1_s3]; decide) (by rw [c1_s3]; decide) (by decide) ?_
          refine lv_aload_n hx hb dX7_howMany_54 rfl (lv_at hl 0 rfl) ?_
          refine fr_get C w fg_X7_84 0 rfl rfl dX7_howMany_55 ?_
          refine lv_i2l (v := (Int32.toInt64 msr)) hx hb dX7_howMany_58 rfl ?_
          subst hr hQ
          exact fr_lret C hret hlk w rfl rfl dX7_howMany_59
        · have hr := (if_neg c1_s3).symm.trans hr
          by_cases c1_s4 : q1 = 4
          · have hr := (if_pos c1_s4).symm.trans hr
            refine lv_tableIn (tgt := 60) (off := 59) hx hb dX7_howMany_1 (by rw [c1_s4]; decide) (by rw [c1_s4]; decide) (by rw [c1_s4]; decide) (by decide) ?_
            refine lv_aload_n hx hb dX7_howMany_60 rfl (lv_at hl 0 rfl) ?_
            refine fr_get C w fg_X7_92 0 rfl rfl dX7_howMany_61 ?_
            refine lv_i2l (v := (Int32.toInt64 mal)) hx hb dX7_howMany_64 rfl ?_
            subst hr hQ
            exact fr_lret C hret hlk w rfl rfl dX7_howMany_65
          · have hr := (if_neg c1_s4).symm.trans hr
            refine lv_tableOut (tgt := 66) hx hb dX7_howMany_1 (sw_out5 c1_s0 c1_s1 c1_s2 c1_s3 c1_s4) (by decide) ?_
            refine lv_ldc2 hx hb C.2.2.2.1 (C.2.2.2.2.1 _ mw_5_15) dX7_howMany_66 ?_
            subst hr hQ
            exact fr_lret C hret hlk w rfl rfl dX7_howMany_69
def f_X7_count (mpl : Int32) (msc : Int32) (mtc : Int32) (msr : Int32) (mal : Int32) (q1 : Int32) : Int64 := (f_X7_howMany mpl msc mtc msr mal q1)
set_option maxRecDepth 100000 in
set_option maxHeartbeats 4000000 in
theorem c_X7_count (l : Launch) (D : va_G) (cI cJ : ClassId) (am ama amb amc amd ame amf amg amp amo : Nat) (mpl : Int32) (msc : Int32) (mtc : Int32) (msr : Int32) (mal : Int32) (mns : Int32) (mnn : Int32) (mnt : Int32) (mfi : Int32) (mnw : Int32) (mmy : Int32) (mbe : Int64) (mmf : Int64) (mbs : Int32) (mco : Int32) (mh : Int64) (mpg : Nat → Int32) (mam : Nat → Int32) (mwa : Nat → Int32) (mww : Nat → Int32) (mna : Nat → Int32) (mmb : Nat → Int32) (msh : Nat → Int64) (mpa : Nat → Int64) (mgo : Nat → Int64) (q1 : Int32) : CL l yX7_count cX7_count 2 1 D cI cJ [.ref am, .int q1] [(am, .inr (7, [.int mpl, .ref ama, .int msc, .int mtc, .ref amb, .ref amc, .ref amd, .int msr, .int mal, .int mns, .int mnn, .int mnt, .int mfi, .int mnw, .ref ame, .int mmy, .ref amf, .long mbe, .ref amg, .long mmf, .ref amp, .ref amo, .int mbs, .int mco, .long mh])), (ama, .inl (cI, 47, .inl mpg)), (amb, .inl (cI, 16, .inl mam)), (amc, .inl (cI, 4, .inl mwa)), (amd, .inl (cI, 4, .inl mww)), (ame, .inl (cI, 16, .inl mna)), (amf, .inl (cI, 4, .inl mmb)), (amg, .inl (cJ, 4, .inr (.inl msh))), (amp, .inl (cJ, 9, .inr (.inl mpa))), (amo, .inl (cJ, 3, .inr (.inl mgo)))] [(am, .inr (7, [.int mpl, .ref ama, .int msc, .int mtc, .ref amb, .ref amc, .ref amd, .int msr, .int mal, .int mns, .int mnn, .int mnt, .int mfi, .int mnw, .ref ame, .int mmy, .ref amf, .long mbe, .ref amg, .long mmf, .ref amp, .ref amo, .int mbs, .int mco, .long mh])), (ama, .inl (cI, 47, .inl mpg)), (amb, .inl (cI, 16, .inl mam)), (amc, .inl (cI, 4, .inl mwa)), (amd, .inl (cI, 4, .inl mww)), (ame, .inl (cI, 16, .inl mna)), (amf, .inl (cI, 4, .inl mmb)), (amg, .inl (cJ, 4, .inr (.inl msh))), (amp, .inl (cJ, 9, .inr (.inl mpa))), (amo, .inl (cJ, 3, .inr (.inl mgo)))] (f_X7_count mpl msc mtc msr mal q1) := by
  generalize hr : f_X7_count mpl msc mtc msr mal q1 = r
  refine fr_entryL (by decide) rfl ?_
  intro p e s m args below meth c A Q H locs hQ C hret hlk w ls hl
  have hx := C.1
  have hb := C.2.1
  have hl : lv_has ls 2 [(0, .ref am), (1, .int q1)] := hl
  have hr : (f_X7_howMany mpl msc mtc msr mal q1) = r := hr
  refine lv_aload_n hx hb dX7_count_0 rfl (lv_at hl 0 rfl) ?_
  refine lv_iload_n hx hb dX7_count_1 rfl (lv_at hl 1 rfl) ?_
  refine fr_callLV (As := [.int q1]) (rest := []) C w kf_X7_howMany mw_28_19 (c_X7_howMany l D cI cJ am ama amb amc amd ame amf amg amp amo mpl msc mtc msr mal mns mnn mnt mfi mnw mmy mbe mmf mbs mco mh mpg mam mwa mww mna mmb msh mpa mgo q1) ⟨Nat.le_of_ble_eq_true rfl, Nat.le_of_ble_eq_true rfl⟩ ⟨Nat.le_refl 0, Nat.le_refl 0⟩ [0, 1, 2, 3, 4, 5, 6, 7, 8, 9] rfl rfl rfl (ws' := [(am, .inr (7, [.int mpl, .ref ama, .int msc, .int mtc, .ref amb, .ref amc, .ref amd, .int msr, .int mal, .int mns, .int mnn, .int mnt, .int mfi, .int mnw, .ref ame, .int mmy, .ref amf, .long mbe, .ref amg, .long mmf, .ref amp, .ref amo, .int mbs, .int mco, .long mh])), (ama, .inl (cI, 47, .inl mpg)), (amb, .inl (cI, 16, .inl mam)), (amc, .inl (cI, 4, .inl mwa)), (amd, .inl (cI, 4, .inl mww)), (ame, .inl (cI, 16, .inl mna)), (amf, .inl (cI, 4, .inl mmb)), (amg, .inl (cJ, 4, .inr (.inl msh))), (amp, .inl (cJ, 9, .inr (.inl mpa))), (amo, .inl (cJ, 3, .inr (.inl mgo)))]) rfl rfl rfl rfl hl.1 rfl (Nat.le_of_ble_eq_true rfl) dX7_count_2 (fun H locs w => ?_)
  subst hr hQ
  exact fr_lret C hret hlk w rfl rfl dX7_count_5
def f_X7_mix (mh : Int64) (q1 : Int64) : Int64 := (31 * mh) + q1
set_option maxRecDepth 100000 in
set_option maxHeartbeats 4000000 in
theorem c_X7_mix (l : Launch) (D : va_G) (cI cJ : ClassId) (am ama amb amc amd ame amf amg amp amo : Nat) (mpl : Int32) (msc : Int32) (mtc : Int32) (msr : Int32) (mal : Int32) (mns : Int32) (mnn : Int32) (mnt : Int32) (mfi : Int32) (mnw : Int32) (mmy : Int32) (mbe : Int64) (mmf : Int64) (mbs : Int32) (mco : Int32) (mh : Int64) (mpg : Nat → Int32) (mam : Nat → Int32) (mwa : Nat → Int32) (mww : Nat → Int32) (mna : Nat → Int32) (mmb : Nat → Int32) (msh : Nat → Int64) (mpa : Nat → Int64) (mgo : Nat → Int64) (q1 : Int64) : CV l yX7_mix cX7_mix 3 0 D cI cJ [.ref am, .long q1] [(am, .inr (7, [.int mpl, .ref ama, .int msc, .int mtc, .ref amb, .ref amc, .ref amd, .int msr, .int mal, .int mns, .int mnn, .int mnt, .int mfi, .int mnw, .ref ame, .int mmy, .ref amf, .long mbe, .ref amg, .long mmf, .ref amp, .ref amo, .int mbs, .int mco, .long mh])), (ama, .inl (cI, 47, .inl mpg)), (amb, .inl (cI, 16, .inl mam)), (amc, .inl (cI, 4, .inl mwa)), (amd, .inl (cI, 4, .inl mww)), (ame, .inl (cI, 16, .inl mna)), (amf, .inl (cI, 4, .inl mmb)), (amg, .inl (cJ, 4, .inr (.inl msh))), (amp, .inl (cJ, 9, .inr (.inl mpa))), (amo, .inl (cJ, 3, .inr (.inl mgo)))] [(am, .inr (7, [.int mpl, .ref ama, .int msc, .int mtc, .ref amb, .ref amc, .ref amd, .int msr, .int mal, .int mns, .int mnn, .int mnt, .int mfi, .int mnw, .ref ame, .int mmy, .ref amf, .long mbe, .ref amg, .long mmf, .ref amp, .ref amo, .int mbs, .int mco, .long (f_X7_mix mh q1)])), (ama, .inl (cI, 47, .inl mpg)), (amb, .inl (cI, 16, .inl mam)), (amc, .inl (cI, 4, .inl mwa)), (amd, .inl (cI, 4, .inl mww)), (ame, .inl (cI, 16, .inl mna)), (amf, .inl (cI, 4, .inl mmb)), (amg, .inl (cJ, 4, .inr (.inl msh))), (amp, .inl (cJ, 9, .inr (.inl mpa))), (amo, .inl (cJ, 3, .inr (.inl mgo)))] := by
  generalize hr : f_X7_mix mh q1 = r
  refine fr_entryV (by decide) rfl ?_
  intro p e s m args below meth c A Q H locs hQ C hret hlk w ls hl
  have hx := C.1
  have hb := C.2.1
  have hl : lv_has ls 3 [(0, .ref am), (1, .long q1)] := hl
  have hr : (31 * mh) + q1 = r := hr
  refine lv_aload_n hx hb dX7_mix_0 rfl (lv_at hl 0 rfl) ?_
  refine lv_ldc2 hx hb C.2.2.2.1 (C.2.2.2.2.1 _ mw_30_4) dX7_mix_1 ?_
  refine lv_aload_n hx hb dX7_mix_4 rfl (lv_at hl 0 rfl) ?_
  refine fr_get C w fg_X7_199 0 rfl rfl dX7_mix_5 ?_
  refine lv_lmul hx hb dX7_mix_8 ?_
  refine lv_lload_n hx hb dX7_mix_9 rfl (lv_at hl 1 rfl) ?_
  refine lv_ladd hx hb dX7_mix_10 ?_
  refine fr_put C w fp_X7_199 0 rfl rfl rfl rfl (ws' := [(am, .inr (7, [.int mpl, .ref ama, .int msc, .int mtc, .ref amb, .ref amc, .ref amd, .int msr, .int mal, .int mns, .int mnn, .int mnt, .int mfi, .int mnw, .ref ame, .int mmy, .ref amf, .long mbe, .ref amg, .long mmf, .ref amp, .ref amo, .int mbs, .int mco, .long ((31 * mh) + q1)])), (ama, .inl (cI, 47, .inl mpg)), (amb, .inl (cI, 16, .inl mam)), (amc, .inl (cI, 4, .inl mwa)), (amd, .inl (cI, 4, .inl mww)), (ame, .inl (cI, 16, .inl mna)), (amf, .inl (cI, 4, .inl mmb)), (amg, .inl (cJ, 4, .inr (.inl msh))), (amp, .inl (cJ, 9, .inr (.inl mpa))), (amo, .inl (cJ, 3, .inr (.inl mgo)))]) rfl dX7_mix_11 (fun H locs w => ?_)
  subst hr hQ
  exact fr_vret C hret hlk w rfl dX7_mix_14
