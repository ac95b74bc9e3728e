theorem mw_10_12 : Cond.constantLong RX7 76 (-1000004) ∈ wsL_law := ck_10 _ (List.mem_of_getElem? (i := 12) rfl)
theorem mw_10_13 : Cond.fieldLink RX7 78 "MudSharesModel" "sources" "I" ∈ wsL_law := ck_10 _ (List.mem_of_getElem? (i := 13) rfl)
theorem mw_10_14 : Cond.fieldLink RX7 81 "MudSharesModel" "tracers" "I" ∈ wsL_law := ck_10 _ (List.mem_of_getElem? (i := 14) rfl)
theorem mw_4_11 : Cond.fieldLink RX7 13 "MudSharesModel" "amountIn" "[I" ∈ wsL_law := ck_4 _ (List.mem_of_getElem? (i := 11) rfl)
theorem mw_4_12 : Cond.fieldLink RX7 16 "MudSharesModel" "wanted" "[I" ∈ wsL_law := ck_4 _ (List.mem_of_getElem? (i := 12) rfl)
theorem mw_4_13 : Cond.fieldLink RX7 19 "MudSharesModel" "weightOf" "[I" ∈ wsL_law := ck_4 _ (List.mem_of_getElem? (i := 13) rfl)
theorem mw_10_15 : Cond.fieldLink RX7 84 "MudSharesModel" "sourcesRead" "I" ∈ wsL_law := ck_10 _ (List.mem_of_getElem? (i := 15) rfl)
theorem mw_12_10 : Cond.methodLink RX7 87 yX7_isTracer ∈ wsL_law := ck_12 _ (List.mem_of_getElem? (i := 10) rfl)
theorem mw_12_13 : Cond.code yX7_isTracer cX7_isTracer 2 (some .boolean) ∈ wsL_law := ck_12 _ (List.mem_of_getElem? (i := 13) rfl)
theorem mw_12_11 : Cond.instanceMethod yX7_isTracer ∈ wsL_law := ck_12 _ (List.mem_of_getElem? (i := 11) rfl)
theorem mw_12_12 : Cond.selects RX7 yX7_isTracer yX7_isTracer ∈ wsL_law := ck_12 _ (List.mem_of_getElem? (i := 12) rfl)
theorem mw_12_9 : Cond.fieldLink RX7 92 "MudSharesModel" "altered" "I" ∈ wsL_law := ck_12 _ (List.mem_of_getElem? (i := 9) rfl)
theorem mw_12_8 : Cond.constantLong RX7 90 (-1000002) ∈ wsL_law := ck_12 _ (List.mem_of_getElem? (i := 8) rfl)
theorem mw_13_2 : Cond.methodLink RX7 95 yX7_isSource ∈ wsL_law := ck_13 _ (List.mem_of_getElem? (i := 2) rfl)
theorem mw_13_5 : Cond.code yX7_isSource cX7_isSource 2 (some .boolean) ∈ wsL_law := ck_13 _ (List.mem_of_getElem? (i := 5) rfl)
theorem mw_13_3 : Cond.instanceMethod yX7_isSource ∈ wsL_law := ck_13 _ (List.mem_of_getElem? (i := 3) rfl)
theorem mw_13_4 : Cond.selects RX7 yX7_isSource yX7_isSource ∈ wsL_law := ck_13 _ (List.mem_of_getElem? (i := 4) rfl)
theorem fp_X7_78 : FP RX7 78 7 2 .int := ⟨RX7, TX7, 25, tyX7, rfl, by decide, inlX7, mw_10_13, tyX7_ok, nmX7, rfl, by decide +kernel⟩
theorem fp_X7_81 : FP RX7 81 7 3 .int := ⟨RX7, TX7, 25, tyX7, rfl, by decide, inlX7, mw_10_14, tyX7_ok, nmX7, rfl, by decide +kernel⟩
theorem fg_X7_13 : FG RX7 13 7 4 := ⟨RX7, TX7, 25, rfl, by decide, inlX7, mw_4_11⟩
theorem fg_X7_78 : FG RX7 78 7 2 := ⟨RX7, TX7, 25, rfl, by decide, inlX7, mw_10_13⟩
theorem fg_X7_81 : FG RX7 81 7 3 := ⟨RX7, TX7, 25, rfl, by decide, inlX7, mw_10_14⟩
theorem fg_X7_16 : FG RX7 16 7 5 := ⟨RX7, TX7, 25, rfl, by decide, inlX7, mw_4_12⟩
theorem fg_X7_19 : FG RX7 19 7 6 := ⟨RX7, TX7, 25, rfl, by decide, inlX7, mw_4_13⟩
theorem fg_X7_84 : FG RX7 84 7 7 := ⟨RX7, TX7, 25, rfl, by decide, inlX7, mw_10_15⟩
theorem fp_X7_84 : FP RX7 84 7 7 .int := ⟨RX7, TX7, 25, tyX7, rfl, by decide, inlX7, mw_10_15, tyX7_ok, nmX7, rfl, by decide +kernel⟩
theorem fg_X7_92 : FG RX7 92 7 8 := ⟨RX7, TX7, 25, rfl, by decide, inlX7, mw_12_9⟩
theorem fp_X7_92 : FP RX7 92 7 8 .int := ⟨RX7, TX7, 25, tyX7, rfl, by decide, inlX7, mw_12_9, tyX7_ok, nmX7, rfl, by decide +kernel⟩
theorem kf_X7_isTracer : KV RX7 yX7_isTracer cX7_isTracer 2 (some .boolean) 1 := ⟨mw_12_13, mw_12_11, mw_12_12, mw_1_5, by decide, by decide, by decide +kernel⟩
theorem kf_X7_isSource : KV RX7 yX7_isSource cX7_isSource 2 (some .boolean) 1 := ⟨mw_13_5, mw_13_3, mw_13_4, mw_1_5, by decide, by decide, by decide +kernel⟩
def L_X7_sources_66 (z1_1 : Int32 × Int32 × Int32 × Int32 × Int32 × Int32 × (Nat → Int32)) (z43_5 : Int32 × Int32 × Int32 × (Nat → Int32)) : Nat → Int32 → (Nat → Int32) → Int32 × (Nat → Int32)
  | 0, _, _ => (0, fun _ => 0)
  | n66 + 1, i6, w7 => (if 16 ≤ i6 then (i6, w7) else ((fun (v11 : Int32) => L_X7_sources_66 z1_1 z43_5 n66 (i6 + 1) (upd w7 (Int32.toNatClampNeg i6) v11)) (if (z1_1.2.1 + 1) ≤ (i6 / 4) then 0 else (if z43_5.1 ≤ (i6 - i6 / 4 * 4) then 0 else z43_5.2.2.2 (Int32.toNatClampNeg i6)))))
def L_X7_sources_116  : Nat → Int32 → (Nat → Int32) → (Nat → Int32) → Int32 × (Nat → Int32) × (Nat → Int32)
  | 0, _, _, _ => (0, fun _ => 0, fun _ => 0)
  | n116 + 1, i13, w14, w15 => (if 4 ≤ i13 then (i13, w14, w15) else L_X7_sources_116  n116 (i13 + 1) (upd w14 (Int32.toNatClampNeg i13) 0) (upd w15 (Int32.toNatClampNeg i13) 1))
def L_X7_sources_66b (z1_1 : Int32 × Int32 × Int32 × Int32 × Int32 × Int32 × (Nat → Int32)) (z43_18 : Int32 × Int32 × Int32 × (Nat → Int32)) : Nat → Int32 → (Nat → Int32) → Int32 × (Nat → Int32)
  | 0, _, _ => (0, fun _ => 0)
  | n66 + 1, i19, w20 => (if 16 ≤ i19 then (i19, w20) else ((fun (v24 : Int32) => L_X7_sources_66b z1_1 z43_18 n66 (i19 + 1) (upd w20 (Int32.toNatClampNeg i19) v24)) (if (z1_1.2.1 + 1) ≤ (i19 / 4) then 0 else (if z43_18.1 ≤ (i19 - i19 / 4 * 4) then 0 else z43_18.2.2.2 (Int32.toNatClampNeg i19)))))
def f_X7_sources (mpl : Int32) (msc : Int32) (mtc : Int32) (msr : Int32) (mpg : Nat → Int32) (mam : Nat → Int32) (mwa : Nat → Int32) (mww : Nat → Int32) (mna : Nat → Int32) : Int64 × Int32 × Int32 × Int32 × Int32 × Int32 × Int32 × Int32 × Int32 × Int32 × (Nat → Int32) × (Nat → Int32) × (Nat → Int32) × (Nat → Int32) := ((fun (z1_1 : Int32 × Int32 × Int32 × Int32 × Int32 × Int32 × (Nat → Int32)) => (if z1_1.1 < mpl then ((-1000004), mpl, msc, mtc, msr, z1_1.2.1, z1_1.2.2.1, z1_1.2.2.2.1, z1_1.2.2.2.2.1, z1_1.2.2.2.2.2.1, mam, mwa, mww, z1_1.2.2.2.2.2.2) else (if z1_1.2.2.2.2.1 = 0 then ((-1000004), mpl, msc, mtc, msr, z1_1.2.1, z1_1.2.2.1, z1_1.2.2.2.1, z1_1.2.2.2.2.1, z1_1.2.2.2.2.2.1, mam, mwa, mww, z1_1.2.2.2.2.2.2) else (if z1_1.2.2.2.1 ≤ 0 then ((fun (z43_5 : Int32 × Int32 × Int32 × (Nat → Int32)) => ((fun (y66 : Int32 × (Nat → Int32)) => ((fun (y116 : Int32 × (Nat → Int32) × (Nat → Int32)) => ((Int32.toInt64 (z1_1.2.1 + 1)), 0, z1_1.2.1 + 1, z43_5.1, msr + 1, z1_1.2.1, z43_5.1, z1_1.2.2.2.1, z43_5.2.1, z43_5.2.2.1, y66.2, y116.2.1, y116.2.2, z43_5.2.2.2)) (L_X7_sources_116 5 0 mwa mww))) (L_X7_sources_66 z1_1 z43_5 17 0 mam))) (f_X7_endNumber z1_1.2.1 z1_1.2.2.1 z1_1.2.2.2.2.2.1 z1_1.2.2.2.2.2.2)) else (if (z1_1.2.2.1 + 1) = z1_1.2.2.2.1 then ((fun (z43_18 : Int32 × Int32 × Int32 × (Nat → Int32)) => ((fun (y66 : Int32 × (Nat → Int32)) => ((fun (y116 : Int32 × (Nat → Int32) × (Nat → Int32)) => ((Int32.toInt64 (z1_1.2.1 + 1)), 0, z1_1.2.1 + 1, z43_18.1, msr + 1, z1_1.2.1, z43_18.1, z1_1.2.2.2.1, z43_18.2.1, z43_18.2.2.1, y66.2, y116.2.1, y116.2.2, z43_18.2.2.2)) (L_X7_sources_116 5 0 mwa mww))) (L_X7_sources_66b z1_1 z43_18 17 0 mam))) (f_X7_endNumber z1_1.2.1 z1_1.2.2.1 z1_1.2.2.2.2.2.1 z1_1.2.2.2.2.2.2)) else ((-1000004), mpl, msc, mtc, msr, z1_1.2.1, z1_1.2.2.1, z1_1.2.2.2.1, z1_1.2.2.2.2.1, z1_1.2.2.2.2.2.1, mam, mwa, mww, z1_1.2.2.2.2.2.2)))))) (f_X7_goAlong mpl mpg mna))
set_option maxRecDepth 100000 in
set_option maxHeartbeats 4000000 in
theorem c_X7_sources (l : Launch) (D : va_G) (cI cJ : ClassId) (am ama amb amc amd ame amf amg amp amo : Nat) (mpl : Int32) (msc : Int32) (mtc : Int32) (msr : Int32) (mal : Int32) (mns : Int32) (mnn : Int32) (mnt : Int32) (mfi : Int32) (mnw : Int32) (mmy : Int32) (mbe : Int64) (mmf : Int64) (mbs : Int32) (mco : Int32) (mh : Int64) (mpg : Nat → Int32) (mam : Nat → Int32) (mwa : Nat → Int32) (mww : Nat → Int32) (mna : Nat → Int32) (mmb : Nat → Int32) (msh : Nat → Int64) (mpa : Nat → Int64) (mgo : Nat → Int64)  (hmp : ∃ n : Nat, n ≤ 47 ∧ mpl = nI n) : CL l yX7_sources cX7_sources 2 3 D cI cJ [.ref am] [(am, .inr (7, [.int mpl, .ref ama, .int msc, .int mtc, .ref amb, .ref amc, .ref amd, .int msr, .int mal, .int mns, .int mnn, .int mnt, .int mfi, .int mnw, .ref ame, .int mmy, .ref amf, .long mbe, .ref amg, .long mmf, .ref amp, .ref amo, .int mbs, .int mco, .long mh])), (ama, .inl (cI, 47, .inl mpg)), (amb, .inl (cI, 16, .inl mam)), (amc, .inl (cI, 4, .inl mwa)), (amd, .inl (cI, 4, .inl mww)), (ame, .inl (cI, 16, .inl mna)), (amf, .inl (cI, 4, .inl mmb)), (amg, .inl (cJ, 4, .inr (.inl msh))), (amp, .inl (cJ, 9, .inr (.inl mpa))), (amo, .inl (cJ, 3, .inr (.inl mgo)))] [(am, .inr (7, [.int ((f_X7_sources mpl msc mtc msr mpg mam mwa mww mna).2.1), .ref ama, .int ((f_X7_sources mpl msc mtc msr mpg mam mwa mww mna).2.2.1), .int ((f_X7_sources mpl msc mtc msr mpg mam mwa mww mna).2.2.2.1), .ref amb, .ref amc, .ref amd, .int ((f_X7_sources mpl msc mtc msr mpg mam mwa mww mna).2.2.2.2.1), .int mal, .int ((f_X7_sources mpl msc mtc msr mpg mam mwa mww mna).2.2.2.2.2.1), .int ((f_X7_sources mpl msc mtc msr mpg mam mwa mww mna).2.2.2.2.2.2.1), .int ((f_X7_sources mpl msc mtc msr mpg mam mwa mww mna).2.2.2.2.2.2.2.1), .int ((f_X7_sources mpl msc mtc msr mpg mam mwa mww mna).2.2.2.2.2.2.2.2.1), .int ((f_X7_sources mpl msc mtc msr mpg mam mwa mww mna).2.2.2.2.2.2.2.2.2.1), .ref ame, .int mmy, .ref amf, .long mbe, .ref amg, .long mmf, .ref amp, .ref amo, .int mbs, .int mco, .long mh])), (ama, .inl (cI, 47, .inl mpg)), (amb, .inl (cI, 16, .inl ((f_X7_sources mpl msc mtc msr mpg mam mwa mww mna).2.2.2.2.2.2.2.2.2.2.1))), (amc, .inl (cI, 4, .inl ((f_X7_sources mpl msc mtc msr mpg mam mwa mww mna).2.2.2.2.2.2.2.2.2.2.2.1))), (amd, .inl (cI, 4, .inl ((f_X7_sources mpl msc mtc msr mpg mam mwa mww mna).2.2.2.2.2.2.2.2.2.2.2.2.1))), (ame, .inl (cI, 16, .inl ((f_X7_sources mpl msc mtc msr mpg mam mwa mww mna).2.2.2.2.2.2.2.2.2.2.2.2.2))), (amf, .inl (cI, 4, .inl mmb)), (amg, .inl (cJ, 4, .inr (.inl msh))), (amp, .inl (cJ, 9, .inr (.inl mpa))), (amo, .inl (cJ, 3, .inr (.inl mgo)))] ((f_X7_sources mpl msc mtc msr mpg mam mwa mww mna).1) := by
  generalize hr : f_X7_sources mpl msc mtc msr mpg mam mwa mww mna = r
  refine fr_entryL (by decide) rfl ?_
  intro p e s m args below meth c A Q H locs hQ C hret hlk w ls hl
  have hx := C.1
  have hb := C.2.1
  have hl : lv_has ls 2 [(0, .ref am)] := hl
  have hr : ((fun (z1_1 : Int32 × Int32 × Int32 × Int32 × Int32 × Int32 × (Nat → Int32)) => (if z1_1.1 < mpl then ((-1000004), mpl, msc, mtc, msr, z1_1.2.1, z1_1.2.2.1, z1_1.2.2.2.1, z1_1.2.2.2.2.1, z1_1.2.2.2.2.2.1, mam, mwa, mww, z1_1.2.2.2.2.2.2) else (if z1_1.2.2.2.2.1 = 0 then ((-1000004), mpl, msc, mtc, msr, z1_1.2.1, z1_1.2.2.1, z1_1.2.2.2.1, z1_1.2.2.2.2.1, z1_1.2.2.2.2.2.1, mam, mwa, mww, z1_1.2.2.2.2.2.2) else (if z1_1.2.2.2.1 ≤ 0 then ((fun (z43_5 : Int32 × Int32 × Int32 × (Nat → Int32)) => ((fun (y66 : Int32 × (Nat → Int32)) => ((fun (y116 : Int32 × (Nat → Int32) × (Nat → Int32)) => ((Int32.toInt64 (z1_1.2.1 + 1)), 0, z1_1.2.1 + 1, z43_5.1, msr + 1, z1_1.2.1, z43_5.1, z1_1.2.2.2.1, z43_5.2.1, z43_5.2.2.1, y66.2, y116.2.1, y116.2.2, z43_5.2.2.2)) (L_X7_sources_116 5 0 mwa mww))) (L_X7_sources_66 z1_1 z43_5 17 0 mam))) (f_X7_endNumber z1_1.2.1 z1_1.2.2.1 z1_1.2.2.2.2.2.1 z1_1.2.2.2.2.2.2)) else (if (z1_1.2.2.1 + 1) = z1_1.2.2.2.1 then ((fun (z43_18 : Int32 × Int32 × Int32 × (Nat → Int32)) => ((fun (y66 : Int32 × (Nat → Int32)) => ((fun (y116 : Int32 × (Nat → Int32) × (Nat → Int32)) => ((Int32.toInt64 (z1_1.2.1 + 1)), 0, z1_1.2.1 + 1, z43_18.1, msr + 1, z1_1.2.1, z43_18.1, z1_1.2.2.2.1, z43_18.2.1, z43_18.2.2.1, y66.2, y116.2.1, y116.2.2, z43_18.2.2.2)) (L_X7_sources_116 5 0 mwa mww))) (L_X7_sources_66b z1_1 z43_18 17 0 mam))) (f_X7_endNumber z1_1.2.1 z1_1.2.2.1 z1_1.2.2.2.2.2.1 z1_1.2.2.2.2.2.2)) else ((-1000004), mpl, msc, mtc, msr, z1_1.2.1, z1_1.2.2.1, z1_1.2.2.2.1, z1_1.2.2.2.2.1, z1_1.2.2.2.2.2.1, mam, mwa, mww, z1_1.2.2.2.2.2.2)))))) (f_X7_goAlong mpl mpg mna)) = r := hr
  refine lv_aload_n hx hb dX7_sources_0 rfl (lv_at hl 0 rfl) ?_
  obtain ⟨z1_1, hz1_1⟩ : ∃ y, (f_X7_goAlong mpl mpg mna) = y := ⟨_, rfl⟩
  have hcz1_1 := c_X7_goAlong l D cI cJ am ama amb amc amd ame amf amg amp amo mpl msc mtc msr mal mns mnn mnt mfi mnw mmy mbe mmf mbs mco mh mpg mam mwa mww mna mmb msh mpa mgo (by assumption)
  rw [hz1_1] at hcz1_1
  have hr : (if z1_1.1 < mpl then ((-1000004), mpl, msc, mtc, msr, z1_1.2.1, z1_1.2.2.1, z1_1.2.2.2.1, z1_1.2.2.2.2.1, z1_1.2.2.2.2.2.1, mam, mwa, mww, z1_1.2.2.2.2.2.2) else (if z1_1.2.2.2.2.1 = 0 then ((-1000004), mpl, msc, mtc, msr, z1_1.2.1, z1_1.2.2.1, z1_1.2.2.2.1, z1_1.2.2.2.2.1, z1_1.2.2.2.2.2.1, mam, mwa, mww, z1_1.2.2.2.2.2.2) else (if z1_1.2.2.2.1 ≤ 0 then ((fun (z43_5 : Int32 × Int32 × Int32 × (Nat → Int32)) => ((fun (y66 : Int32 × (Nat → Int32)) => ((fun (y116 : Int32 × (Nat → Int32) × (Nat → Int32)) => ((Int32.toInt64 (z1_1.2.1 + 1)), 0, z1_1.2.1 + 1, z43_5.1, msr + 1, z1_1.2.1, z43_5.1, z1_1.2.2.2.1, z43_5.2.1, z43_5.2.2.1, y66.2, y116.2.1, y116.2.2, z43_5.2.2.2)) (L_X7_sources_116 5 0 mwa mww))) (L_X7_sources_66 z1_1 z43_5 17 0 mam))) (f_X7_endNumber z1_1.2.1 z1_1.2.2.1 z1_1.2.2.2.2.2.1 z1_1.2.2.2.2.2.2)) else (if (z1_1.2.2.1 + 1) = z1_1.2.2.2.1 then ((fun (z43_18 : Int32 × Int32 × Int32 × (Nat → Int32)) => ((fun (y66 : Int32 × (Nat → Int32)) => ((fun (y116 : Int32 × (Nat → Int32) × (Nat → Int32)) => ((Int32.toInt64 (z1_1.2.1 + 1)), 0, z1_1.2.1 + 1, z43_18.1, msr + 1, z1_1.2.1, z43_18.1, z1_1.2.2.2.1, z43_18.2.1, z43_18.2.2.1, y66.2, y116.2.1, y116.2.2, z43_18.2.2.2)) (L_X7_sources_116 5 0 mwa mww))) (L_X7_sources_66b z1_1 z43_18 17 0 mam))) (f_X7_endNumber z1_1.2.1 z1_1.2.2.1 z1_1.2.2.2.2.2.1 z1_1.2.2.2.2.2.2)) else ((-1000004), mpl, msc, mtc, msr, z1_1.2.1, z1_1.2.2.1, z1_1.2.2.2.1, z1_1.2.2.2.2.1, z1_1.2.2.2.2.2.1, mam, mwa, mww, z1_1.2.2.2.2.2.2))))) = r := by subst hz1_1; exact hr
  refine fr_callIV (As := []) (rest := []) C w kf_X7_goAlong mw_8_10 (hcz1_1) ⟨Nat.le_of_ble_eq_true rfl, Nat.le_of_ble_eq_true rfl⟩ ⟨Nat.le_refl 0, Nat.le_refl 0⟩ [0, 1, 2, 3, 4, 5, 6, 7, 8, 9] rfl rfl rfl (ws' := [(am, .inr (7, [.int mpl, .ref ama, .int msc, .int mtc, .ref amb, .ref amc, .ref amd, .int msr, .int mal, .int z1_1.2.1, .int z1_1.2.2.1, .int z1_1.2.2.2.1, .int z1_1.2.2.2.2.1, .int z1_1.2.2.2.2.2.1, .ref ame, .int mmy, .ref amf, .long mbe, .ref amg, .long mmf, .ref amp, .ref amo, .int mbs, .int mco, .long mh])), (ama, .inl (cI, 47, .inl mpg)), (amb, .inl (cI, 16, .inl mam)), (amc, .inl (cI, 4, .inl mwa)), (amd, .inl (cI, 4, .inl mww)), (ame, .inl (cI, 16, .inl z1_1.2.2.2.2.2.2)), (amf, .inl (cI, 4, .inl mmb)), (amg, .inl (cJ, 4, .inr (.inl msh))), (amp, .inl (cJ, 9, .inr (.inl mpa))), (amo, .inl (cJ, 3, .inr (.inl mgo)))]) rfl rfl rfl rfl hl.1 rfl (Nat.le_of_ble_eq_true rfl) dX7_sources_1 (fun H locs w => ?_)
  refine lv_aload_n hx hb dX7_sources_4 rfl (lv_at hl 0 rfl) ?_
  refine fr_get C w fg_X7_44 0 rfl rfl dX7_sources_5 ?_
  refine lv_icmp_lt (tgt := 38) hx hb dX7_sources_8 (by decide) (fun c8_2 => ?_) (fun c8_2 => ?_)
  · have hr := (if_pos c8_2).symm.trans hr
    refine lv_ldc2 hx hb C.2.2.2.1 (C.2.2.2.2.1 _ mw_10_12) dX7_sources_38 ?_
    subst hr hQ
    exact fr_lret C hret hlk w rfl rfl dX7_sources_41
  · have hr := (if_neg c8_2).symm.trans hr
    refine lv_aload_n hx hb dX7_sources_11 rfl (lv_at hl 0 rfl) ?_
    refine fr_get C w fg_X7_59 0 rfl rfl dX7_sources_12 ?_
    refine lv_if_eq (tgt := 38) hx hb dX7_sources_15 (by decide) (fun c15_3 => ?_) (fun c15_3 => ?_)
    · have hr := (if_pos c15_3).symm.trans hr
      refine lv_ldc2 hx hb C.2.2.2.1 (C.2.2.2.2.1 _ mw_10_12) dX7_sources_38 ?_
      subst hr hQ
      exact fr_lret C hret hlk w rfl rfl dX7_sources_41
    · have hr := (if_neg c15_3).symm.trans hr
      refine lv_aload_n hx hb dX7_sources_18 rfl (lv_at hl 0 rfl) ?_
      refine fr_get C w fg_X7_62 0 rfl rfl dX7_sources_19 ?_
      refine lv_if_le (tgt := 42) hx hb dX7_sources_22 (by decide) (fun c22_4 => ?_) (fun c22_4 => ?_)
      · have hr := (if_pos c22_4).symm.trans hr
        refine lv_aload_n hx hb dX7_sources_42 rfl (lv_at hl 0 rfl) ?_
        obtain ⟨z43_5, hz43_5⟩ : ∃ y, (f_X7_endNumber z1_1.2.1 z1_1.2.2.1 z1_1.2.2.2.2.2.1 z1_1.2.2.2.2.2.2) = y := ⟨_, rfl⟩
        have hcz43_5 := c_X7_endNumber l D cI cJ am ama amb amc amd ame amf amg amp amo mpl msc mtc msr mal z1_1.2.1 z1_1.2.2.1 z1_1.2.2.2.1 z1_1.2.2.2.2.1 z1_1.2.2.2.2.2.1 mmy mbe mmf mbs mco mh mpg mam mwa mww z1_1.2.2.2.2.2.2 mmb msh mpa mgo (by subst_vars; exact goAlong_PI.1) (by subst_vars; exact goAlong_PI.2.1)
        rw [hz43_5] at hcz43_5
        have hr : ((fun (y66 : Int32 × (Nat → Int32)) => ((fun (y116 : Int32 × (Nat → Int32) × (Nat → Int32)) => ((Int32.toInt64 (z1_1.2.1 + 1)), 0, z1_1.2.1 + 1, z43_5.1, msr + 1, z1_1.2.1, z43_5.1, z1_1.2.2.2.1, z43_5.2.1, z43_5.2.2.1, y66.2, y116.2.1, y116.2.2, z43_5.2.2.2)) (L_X7_sources_116 5 0 mwa mww))) (L_X7_sources_66 z1_1 z43_5 17 0 mam)) = r := by subst hz43_5; exact hr
        refine fr_callVV (As := []) (rest := []) C w kf_X7_endNumber mw_8_23 (hcz43_5) ⟨Nat.le_of_ble_eq_true rfl, Nat.le_of_ble_eq_true rfl⟩ ⟨Nat.le_refl 0, Nat.le_refl 0⟩ [0, 1, 2, 3, 4, 5, 6, 7, 8, 9] rfl rfl rfl (ws' := [(am, .inr (7, [.int mpl, .ref ama, .int msc, .int mtc, .ref amb, .ref amc, .ref amd, .int msr, .int mal, .int z1_1.2.1, .int z43_5.1, .int z1_1.2.2.2.1, .int z43_5.2.1, .int z43_5.2.2.1, .ref ame, .int mmy, .ref amf, .long mbe, .ref amg, .long mmf, .ref amp, .ref amo, .int mbs, .int mco, .long mh])), (ama, .inl (cI, 47, .inl mpg)), (amb, .inl (cI, 16, .inl mam)), (amc, .inl (cI, 4, .inl mwa)), (amd, .inl (cI, 4, .inl mww)), (ame, .inl (cI, 16, .inl z43_5.2.2.2)), (amf, .inl (cI, 4, .inl mmb)), (amg, .inl (cJ, 4, .inr (.inl msh))), (amp, .inl (cJ, 9, .inr (.inl mpa))), (amo, .inl (cJ, 3, .inr (.inl mgo)))]) rfl rfl rfl rfl hl.1 rfl (Nat.le_of_ble_eq_true rfl) dX7_sources_43 (fun H locs w => ?_)
        refine lv_aload_n hx hb dX7_sources_46 rfl (lv_at hl 0 rfl) ?_
        refine lv_aload_n hx hb dX7_sources_47 rfl (lv_at hl 0 rfl) ?_
        refine fr_get C w fg_X7_50 0 rfl rfl dX7_sources_48 ?_
        refine lv_iconst (v := 1) hx hb dX7_sources_51 (by decide) ?_
        refine lv_iadd hx hb dX7_sources_52 ?_
        refine fr_put C w fp_X7_78 0 rfl rfl rfl rfl (ws' := [(am, .inr (7, [.int mpl, .ref ama, .int (z1_1.2.1 + 1), .int mtc, .ref amb, .ref amc, .ref amd, .int msr, .int mal, .int z1_1.2.1, .int z43_5.1, .int z1_1.2.2.2.1, .int z43_5.2.1, .int z43_5.2.2.1, .ref ame, .int mmy, .ref amf, .long mbe, .ref amg, .long mmf, .ref amp, .ref amo, .int mbs, .int mco, .long mh])), (ama, .inl (cI, 47, .inl mpg)), (amb, .inl (cI, 16, .inl mam)), (amc, .inl (cI, 4, .inl mwa)), (amd, .inl (cI, 4, .inl mww)), (ame, .inl (cI, 16, .inl z43_5.2.2.2)), (amf, .inl (cI, 4, .inl mmb)), (amg, .inl (cJ, 4, .inr (.inl msh))), (amp, .inl (cJ, 9, .inr (.inl mpa))), (amo, .inl (cJ, 3, .inr (.inl mgo)))]) rfl dX7_sources_53 (fun H locs w => ?_)
        refine lv_aload_n hx hb dX7_sources_56 rfl (lv_at hl 0 rfl) ?_
        refine lv_aload_n hx hb dX7_sources_57 rfl (lv_at hl 0 rfl) ?_
        refine fr_get C w fg_X7_53 0 rfl rfl dX7_sources_58 ?_
        refine fr_put C w fp_X7_81 0 rfl rfl rfl rfl (ws' := [(am, .inr (7, [.int mpl, .ref ama, .int (z1_1.2.1 + 1), .int z43_5.1, .ref amb, .ref amc, .ref amd, .int msr, .int mal, .int z1_1.2.1, .int z43_5.1, .int z1_1.2.2.2.1, .int z43_5.2.1, .int z43_5.2.2.1, .ref ame, .int mmy, .ref amf, .long mbe, .ref amg, .long mmf, .ref amp, .ref amo, .int mbs, .int mco, .long mh])), (ama, .inl (cI, 47, .inl mpg)), (amb, .inl (cI, 16, .inl mam)), (amc, .inl (cI, 4, .inl mwa)), (amd, .inl (cI, 4, .inl mww)), (ame, .inl (cI, 16, .inl z43_5.2.2.2)), (amf, .inl (cI, 4, .inl mmb)), (amg, .inl (cJ, 4, .inr (.inl msh))), (amp, .inl (cJ, 9, .inr (.inl mpa))), (amo, .inl (cJ, 3, .inr (.inl mgo)))]) rfl dX7_sources_61 (fun H locs w => ?_)
        refine lv_iconst (v := 0) hx hb dX7_sources_64 (by decide) ?_
        refine lv_istore_n (lv' := [(1, .int 0), (0, .ref am)]) hx hb dX7_sources_65 rfl hl (by decide) rfl (fun ls hl => ?_)
        obtain ⟨y66, hy66⟩ : ∃ y, y = L_X7_sources_66 z1_1 z43_5 17 0 mam := ⟨_, rfl⟩
        have hr : ((fun (y116 : Int32 × (Nat → Int32) × (Nat → Int32)) => ((Int32.toInt64 (z1_1.2.1 + 1)), 0, z1_1.2.1 + 1, z43_5.1, msr + 1, z1_1.2.1, z43_5.1, z1_1.2.2.2.1, z43_5.2.1, z43_5.2.2.1, y66.2, y116.2.1, y116.2.2, z43_5.2.2.2)) (L_X7_sources_116 5 0 mwa mww)) = r := by rw [hy66]; exact hr
        have X66 : ∀ (H : Heap) (locs : List Loc), Wd D A s.heap H locs [(am, .inr (7, [.int mpl, .ref ama, .int (z1_1.2.1 + 1), .int z43_5.1, .ref amb, .ref amc, .ref amd, .int msr, .int mal, .int z1_1.2.1, .int z43_5.1, .int z1_1.2.2.2.1, .int z43_5.2.1, .int z43_5.2.2.1, .ref ame, .int mmy, .ref amf, .long mbe, .ref amg, .long mmf, .ref amp, .ref amo, .int mbs, .int mco, .long mh])), (ama, .inl (cI, 47, .inl mpg)), (amb, .inl (cI, 16, .inl y66.2)), (amc, .inl (cI, 4, .inl mwa)), (amd, .inl (cI, 4, .inl mww)), (ame, .inl (cI, 16, .inl z43_5.2.2.2)), (amf, .inl (cI, 4, .inl mmb)), (amg, .inl (cJ, 4, .inr (.inl msh))), (amp, .inl (cJ, 9, .inr (.inl mpa))), (amo, .inl (cJ, 3, .inr (.inl mgo)))] → ∀ (ls : Array Slot), lv_has ls 2 [(0, .ref am), (1, .int y66.1)] → W p l e (rl 3) s m args below meth c H locs 0 0 Q (F0 m 114 ls []) := by
          intro H locs w ls hl
          refine lv_iconst (v := 0) hx hb dX7_sources_114 (by decide) ?_
          refine lv_istore_n (lv' := [(1, .int 0), (0, .ref am)]) hx hb dX7_sources_115 rfl hl (by decide) rfl (fun ls hl => ?_)
          obtain ⟨y116, hy116⟩ : ∃ y, y = L_X7_sources_116 5 0 mwa mww := ⟨_, rfl⟩
          have hr : ((Int32.toInt64 (z1_1.2.1 + 1)), 0, z1_1.2.1 + 1, z43_5.1, msr + 1, z1_1.2.1, z43_5.1, z1_1.2.2.2.1, z43_5.2.1, z43_5.2.2.1, y66.2, y116.2.1, y116.2.2, z43_5.2.2.2) = r := by rw [hy116]; exact hr
          have X116 : ∀ (H : Heap) (locs : List Loc), Wd D A s.heap H locs [(am, .inr (7, [.int mpl, .ref ama, .int (z1_1.2.1 + 1), .int z43_5.1, .ref amb, .ref amc, .ref amd, .int msr, .int mal, .int z1_1.2.1, .int z43_5.1, .int z1_1.2.2.2.1, .int z43_5.2.1, .int z43_5.2.2.1, .ref ame, .int mmy, .ref amf, .long mbe, .ref amg, .long mmf, .ref amp, .ref amo, .int mbs, .int mco, .long mh])), (ama, .inl (cI, 47, .inl mpg)), (amb, .inl (cI, 16, .inl y66.2)), (amc, .inl (cI, 4, .inl y116.2.1)), (amd, .inl (cI, 4, .inl y116.2.2)), (ame, .inl (cI, 16, .inl z43_5.2.2.2)), (amf, .inl (cI, 4, .inl mmb)), (amg, .inl (cJ, 4, .inr (.inl msh))), (amp, .inl (cJ, 9, .inr (.inl mpa))), (amo, .inl (cJ, 3, .inr (.inl mgo)))] → ∀ (ls : Array Slot), lv_has ls 2 [(0, .ref am), (1, .int y116.1)] → W p l e (rl 3) s m args below meth c H locs 0 0 Q (F0 m 141 ls []) := by
            intro H locs w ls hl
            refine lv_aload_n hx hb dX7_sources_141 rfl (lv_at hl 0 rfl) ?_
            refine lv_dup hx hb dX7_sources_142 rfl ?_
            refine fr_get C w fg_X7_84 0 rfl rfl dX7_sources_143 ?_
            refine lv_iconst (v := 1) hx hb dX7_sources_146 (by decide) ?_
            refine lv_iadd hx hb dX7_sources_147 ?_
            refine fr_put C w fp_X7_84 0 rfl rfl rfl rfl (ws' := [(am, .inr (7, [.int mpl, .ref ama, .int (z1_1.2.1 + 1), .int z43_5.1, .ref amb, .ref amc, .ref amd, .int (msr + 1), .int mal, .int z1_1.2.1, .int z43_5.1, .int z1_1.2.2.2.1, .int z43_5.2.1, .int z43_5.2.2.1, .ref ame, .int mmy, .ref amf, .long mbe, .ref amg, .long mmf, .ref amp, .ref amo, .int mbs, .int mco, .long mh])), (ama, .inl (cI, 47, .inl mpg)), (amb, .inl (cI, 16, .inl y66.2)), (amc, .inl (cI, 4, .inl y116.2.1)), (amd, .inl (cI, 4, .inl y116.2.2)), (ame, .inl (cI, 16, .inl z43_5.2.2.2)), (amf, .inl (cI, 4, .inl mmb)), (amg, .inl (cJ, 4, .inr (.inl msh))), (amp, .inl (cJ, 9, .inr (.inl mpa))), (amo, .inl (cJ, 3, .inr (.inl mgo)))]) rfl dX7_sources_148 (fun H locs w => ?_)
            refine lv_aload_n hx hb dX7_sources_151 rfl (lv_at hl 0 rfl) ?_
            refine lv_iconst (v := 0) hx hb dX7_sources_152 (by decide) ?_
            refine fr_put C w fp_X7_44 0 rfl rfl rfl rfl (ws' := [(am, .inr (7, [.int 0, .ref ama, .int (z1_1.2.1 + 1), .int z43_5.1, .ref amb, .ref amc, .ref amd, .int (msr + 1), .int mal, .int z1_1.2.1, .int z43_5.1, .int z1_1.2.2.2.1, .int z43_5.2.1, .int z43_5.2.2.1, .ref ame, .int mmy, .ref amf, .long mbe, .ref amg, .long mmf, .ref amp, .ref amo, .int mbs, .int mco, .long mh])), (ama, .inl (cI, 47, .inl mpg)), (amb, .inl (cI, 16, .inl y66.2)), (amc, .inl (cI, 4, .inl y116.2.1)), (amd, .inl (cI, 4, .inl y116.2.2)), (ame, .inl (cI, 16, .inl z43_5.2.2.2)), (amf, .inl (cI, 4, .inl mmb)), (amg, .inl (cJ, 4, .inr (.inl msh))), (amp, .inl (cJ, 9, .inr (.inl mpa))), (amo, .inl (cJ, 3, .inr (.inl mgo)))]) rfl dX7_sources_153 (fun H locs w => ?_)
            refine lv_aload_n hx hb dX7_sources_156 rfl (lv_at hl 0 rfl) ?_
            refine fr_get C w fg_X7_78 0 rfl rfl dX7_sources_157 ?_
            refine lv_i2l (v := (Int32.toInt64 (z1_1.2.1 + 1))) hx hb dX7_sources_160 rfl ?_
            subst hr hQ
            exact fr_lret C hret hlk w rfl rfl dX7_sources_161
          have LP116 : ∀ (n116 : Nat) (k116 : Nat) (i13 : Int32) (w14 : Nat → Int32) (w15 : Nat → Int32), i13 = nI k116 → k116 ≤ 4 → 4 < k116 + n116 → L_X7_sources_116 n116 i13 w14 w15 = y116 → ∀ (H : Heap) (locs : List Loc), Wd D A s.heap H locs [(am, .inr (7, [.int mpl, .ref ama, .int (z1_1.2.1 + 1), .int z43_5.1, .ref amb, .ref amc, .ref amd, .int msr, .int mal, .int z1_1.2.1, .int z43_5.1, .int z1_1.2.2.2.1, .int z43_5.2.1, .int z43_5.2.2.1, .ref ame, .int mmy, .ref amf, .long mbe, .ref amg, .long mmf, .ref amp, .ref amo, .int mbs, .int mco, .long mh])), (ama, .inl (cI, 47, .inl mpg)), (amb, .inl (cI, 16, .inl y66.2)), (amc, .inl (cI, 4, .inl w14)), (amd, .inl (cI, 4, .inl w15)), (ame, .inl (cI, 16, .inl z43_5.2.2.2)), (amf, .inl (cI, 4, .inl mmb)), (amg, .inl (cJ, 4, .inr (.inl msh))), (amp, .inl (cJ, 9, .inr (.inl mpa))), (amo, .inl (cJ, 3, .inr (.inl mgo)))] → ∀ (ls : Array Slot), lv_has ls 2 [(0, .ref am), (1, .int i13)] → W p l e (rl 3) s m args below meth c H locs 0 0 Q (F0 m 116 ls []) := by
            clear hr
            intro n116
            induction n116 with
            | zero => intro k116 i13 w14 w15 hk116 hkN116 hn116; exact absurd hn116 (by omega)
            | succ n116 ih116 =>
              intro k116 i13 w14 w15 hk116 hkN116 hn116 hr H locs w ls hl
              have hr : (if 4 ≤ i13 then (i13, w14, w15) else L_X7_sources_116  n116 (i13 + 1) (upd w14 (Int32.toNatClampNeg i13) 0) (upd w15 (Int32.toNatClampNeg i13) 1)) = y116 := hr
              refine lv_iload_n hx hb dX7_sources_116 rfl (lv_at hl 1 rfl) ?_
              refine lv_iconst (v := 4) hx hb dX7_sources_117 (by decide) ?_
              refine lv_icmp_ge (tgt := 141) hx hb dX7_sources_118 (by decide) (fun c118_16 => ?_) (fun c118_16 => ?_)
              · have hr := (if_pos c118_16).symm.trans hr
                subst hr
                exact X116 H locs w ls (lv_sub hl [0, 1] rfl)
              · have hr := (if_neg c118_16).symm.trans hr
                have hkl116 := kl_of hk116 hkN116 (N := 4) (by decide) (by omega) c118_16
                refine lv_aload_n hx hb dX7_sources_121 rfl (lv_at hl 0 rfl) ?_
                refine fr_get C w fg_X7_16 0 rfl rfl dX7_sources_122 ?_
                refine lv_iload_n hx hb dX7_sources_125 rfl (lv_at hl 1 rfl) ?_
                refine lv_iconst (v := 0) hx hb dX7_sources_126 (by decide) ?_
                refine fr_iast C w 3 rfl (vi_ctr hk116 hkl116 (by omega) (by decide)) (ws' := [(am, .inr (7, [.int mpl, .ref ama, .int (z1_1.2.1 + 1), .int z43_5.1, .ref amb, .ref amc, .ref amd, .int msr, .int mal, .int z1_1.2.1, .int z43_5.1, .int z1_1.2.2.2.1, .int z43_5.2.1, .int z43_5.2.2.1, .ref ame, .int mmy, .ref amf, .long mbe, .ref amg, .long mmf, .ref amp, .ref amo, .int mbs, .int mco, .long mh])), (ama, .inl (cI, 47, .inl mpg)), (amb, .inl (cI, 16, .inl y66.2)), (amc, .inl (cI, 4, .inl (upd w14 (Int32.toNatClampNeg i13) 0))), (amd, .inl (cI, 4, .inl w15)), (ame, .inl (cI, 16, .inl z43_5.2.2.2)), (amf, .inl (cI, 4, .inl mmb)), (amg, .inl (cJ, 4, .inr (.inl msh))), (amp, .inl (cJ, 9, .inr (.inl mpa))), (amo, .inl (cJ, 3, .inr (.inl mgo)))]) rfl dX7_sources_127 (fun H locs w => ?_)
                refine lv_aload_n hx hb dX7_sources_128 rfl (lv_at hl 0 rfl) ?_
                refine fr_get C w fg_X7_19 0 rfl rfl dX7_sources_129 ?_
                refine lv_iload_n hx hb dX7_sources_132 rfl (lv_at hl 1 rfl) ?_
                refine lv_iconst (v := 1) hx hb dX7_sources_133 (by decide) ?_
                refine fr_iast C w 4 rfl (vi_ctr hk116 hkl116 (by omega) (by decide)) (ws' := [(am, .inr (7, [.int mpl, .ref ama, .int (z1_1.2.1 + 1), .int z43_5.1, .ref amb, .ref amc, .ref amd, .int msr, .int mal, .int z1_1.2.1, .int z43_5.1, .int z1_1.2.2.2.1, .int z43_5.2.1, .int z43_5.2.2.1, .ref ame, .int mmy, .ref amf, .long mbe, .ref amg, .long mmf, .ref amp, .ref amo, .int mbs, .int mco, .long mh])), (ama, .inl (cI, 47, .inl mpg)), (amb, .inl (cI, 16, .inl y66.2)), (amc, .inl (cI, 4, .inl (upd w14 (Int32.toNatClampNeg i13) 0))), (amd, .inl (cI, 4, .inl (upd w15 (Int32.toNatClampNeg i13) 1))), (ame, .inl (cI, 16, .inl z43_5.2.2.2)), (amf, .inl (cI, 4, .inl mmb)), (amg, .inl (cJ, 4, .inr (.inl msh))), (amp, .inl (cJ, 9, .inr (.inl mpa))), (amo, .inl (cJ, 3, .inr (.inl mgo)))]) rfl dX7_sources_134 (fun H locs w => ?_)
                refine lv_iinc (v := i13 + 1) (lv' := [(1, .int (i13 + 1)), (0, .ref am)]) hx hb dX7_sources_135 hl (k := 1) rfl rfl (by decide) rfl (fun ls hl => ?_)
                refine lv_goto (tgt := 116) hx hb dX7_sources_138 (by decide) ?_
                exact ih116 (k116 + 1) (i13 + 1) (upd w14 (Int32.toNatClampNeg i13) 0) (upd w15 (Int32.toNatClampNeg i13) 1) (by rw [hk116]; exact nI_1 k116) (by omega) (by omega) hr H locs w ls (lv_sub hl [1, 0] rfl)
          exact LP116 5 0 0 mwa mww (by decide) (by omega) (by omega) hy116.symm H locs w ls (lv_sub hl [1, 0] rfl)
        have LP66 : ∀ (n66 : Nat) (k66 : Nat) (i6 : Int32) (w7 : Nat → Int32), i6 = nI k66 → k66 ≤ 16 → 16 < k66 + n66 → L_X7_sources_66 z1_1 z43_5 n66 i6 w7 = y66 → ∀ (H : Heap) (locs : List Loc), Wd D A s.heap H locs [(am, .inr (7, [.int mpl, .ref ama, .int (z1_1.2.1 + 1), .int z43_5.1, .ref amb, .ref amc, .ref amd, .int msr, .int mal, .int z1_1.2.1, .int z43_5.1, .int z1_1.2.2.2.1, .int z43_5.2.1, .int z43_5.2.2.1, .ref ame, .int mmy, .ref amf, .long mbe, .ref amg, .long mmf, .ref amp, .ref amo, .int mbs, .int mco, .long mh])), (ama, .inl (cI, 47, .inl mpg)), (amb, .inl (cI, 16, .inl w7)), (amc, .inl (cI, 4, .inl mwa)), (amd, .inl (cI, 4, .inl mww)), (ame, .inl (cI, 16, .inl z43_5.2.2.2)), (amf, .inl (cI, 4, .inl mmb)), (amg, .inl (cJ, 4, .inr (.inl msh))), (amp, .inl (cJ, 9, .inr (.inl mpa))), (amo, .inl (cJ, 3, .inr (.inl mgo)))] → ∀ (ls : Array Slot), lv_has ls 2 [(0, .ref am), (1, .int i6)] → W p l e (rl 3) s m args below meth c H locs 0 0 Q (F0 m 66 ls []) := by
          clear hr
          intro n66
          induction n66 with
          | zero => intro k66 i6 w7 hk66 hkN66 hn66; exact absurd hn66 (by omega)
          | succ n66 ih66 =>
            intro k66 i6 w7 hk66 hkN66 hn66 hr H locs w ls hl
            have hr : (if 16 ≤ i6 then (i6, w7) else ((fun (v11 : Int32) => L_X7_sources_66 z1_1 z43_5 n66 (i6 + 1) (upd w7 (Int32.toNatClampNeg i6) v11)) (if (z1_1.2.1 + 1) ≤ (i6 / 4) then 0 else (if z43_5.1 ≤ (i6 - i6 / 4 * 4) then 0 else z43_5.2.2.2 (Int32.toNatClampNeg i6))))) = y66 := hr
            refine lv_iload_n hx hb dX7_sources_66 rfl (lv_at hl 1 rfl) ?_
            refine lv_bipush (v := 16) hx hb dX7_sources_67 (by decide) ?_
            refine lv_icmp_ge (tgt := 114) hx hb dX7_sources_69 (by decide) (fun c69_8 => ?_) (fun c69_8 => ?_)
            · have hr := (if_pos c69_8).symm.trans hr
              subst hr
              exact X66 H locs w ls (lv_sub hl [0, 1] rfl)
            · have hr := (if_neg c69_8).symm.trans hr
              have hkl66 := kl_of hk66 hkN66 (N := 16) (by decide) (by omega) c69_8
              refine lv_aload_n hx hb dX7_sources_72 rfl (lv_at hl 0 rfl) ?_
              refine fr_get C w fg_X7_13 0 rfl rfl dX7_sources_73 ?_
              refine lv_iload_n hx hb dX7_sources_76 rfl (lv_at hl 1 rfl) ?_
              refine lv_iload_n hx hb dX7_sources_77 rfl (lv_at hl 1 rfl) ?_
              refine lv_iconst (v := 4) hx hb dX7_sources_78 (by decide) ?_
              refine lv_idiv hx hb dX7_sources_79 (by decide) ?_
              refine lv_aload_n hx hb dX7_sources_80 rfl (lv_at hl 0 rfl) ?_
              refine fr_get C w fg_X7_78 0 rfl rfl dX7_sources_81 ?_
              have J107_12 : ∀ (v11 : Int32), v11 = (if (z1_1.2.1 + 1) ≤ (i6 / 4) then 0 else (if z43_5.1 ≤ (i6 - i6 / 4 * 4) then 0 else z43_5.2.2.2 (Int32.toNatClampNeg i6))) → W p l e (rl 3) s m args below meth c H locs 0 0 Q (F0 m 107 ls [.int v11, .int i6, .ref amb]) := by
                intro v11 ev11
                have hr : L_X7_sources_66 z1_1 z43_5 n66 (i6 + 1) (upd w7 (Int32.toNatClampNeg i6) v11) = y66 := by subst ev11; exact hr
                refine fr_iast C w 2 rfl (vi_ctr hk66 hkl66 (by omega) (by decide)) (ws' := [(am, .inr (7, [.int mpl, .ref ama, .int (z1_1.2.1 + 1), .int z43_5.1, .ref amb, .ref amc, .ref amd, .int msr, .int mal, .int z1_1.2.1, .int z43_5.1, .int z1_1.2.2.2.1, .int z43_5.2.1, .int z43_5.2.2.1, .ref ame, .int mmy, .ref amf, .long mbe, .ref amg, .long mmf, .ref amp, .ref amo, .int mbs, .int mco, .long mh])), (ama, .inl (cI, 47, .inl mpg)), (amb, .inl (cI, 16, .inl (upd w7 (Int32.toNatClampNeg i6) v11))), (amc, .inl (cI, 4, .inl mwa)), (amd, .inl (cI, 4, .inl mww)), (ame, .inl (cI, 16, .inl z43_5.2.2.2)), (amf, .inl (cI, 4, .inl mmb)), (amg, .inl (cJ, 4, .inr (.inl msh))), (amp, .inl (cJ, 9, .inr (.inl mpa))), (amo, .inl (cJ, 3, .inr (.inl mgo)))]) rfl dX7_sources_107 (fun H locs w => ?_)
                refine lv_iinc (v := i6 + 1) (lv' := [(1, .int (i6 + 1)), (0, .ref am)]) hx hb dX7_sources_108 hl (k := 1) rfl rfl (by decide) rfl (fun ls hl => ?_)
                refine lv_goto (tgt := 66) hx hb dX7_sources_111 (by decide) ?_
                exact ih66 (k66 + 1) (i6 + 1) (upd w7 (Int32.toNatClampNeg i6) v11) (by rw [hk66]; exact nI_1 k66) (by omega) (by omega) hr H locs w ls (lv_sub hl [1, 0] rfl)
              refine lv_icmp_ge (tgt := 106) hx hb dX7_sources_84 (by decide) (fun c84_9 => ?_) (fun c84_9 => ?_)
              · refine lv_iconst (v := 0) hx hb dX7_sources_106 (by decide) ?_
                exact J107_12 0 (by rw [if_pos c84_9])
              · refine lv_iload_n hx hb dX7_sources_87 rfl (lv_at hl 1 rfl) ?_
                refine lv_iconst (v := 4) hx hb dX7_sources_88 (by decide) ?_
                refine lv_irem hx hb dX7_sources_89 (by decide) ?_
                refine lv_aload_n hx hb dX7_sources_90 rfl (lv_at hl 0 rfl) ?_
                refine fr_get C w fg_X7_81 0 rfl rfl dX7_sources_91 ?_
                refine lv_icmp_ge (tgt := 106) hx hb dX7_sources_94 (by decide) (fun c94_10 => ?_) (fun c94_10 => ?_)
                · refine lv_iconst (v := 0) hx hb dX7_sources_106 (by decide) ?_
                  exact J107_12 0 (by rw [if_neg c84_9, if_pos c94_10])
                · refine lv_aload_n hx hb dX7_sources_97 rfl (lv_at hl 0 rfl) ?_
                  refine fr_get C w fg_X7_22 0 rfl rfl dX7_sources_98 ?_
                  refine lv_iload_n hx hb dX7_sources_101 rfl (lv_at hl 1 rfl) ?_
                  refine fr_iald C w 5 rfl (vi_ctr hk66 hkl66 (by omega) (by decide)) dX7_sources_102 ?_
                  refine lv_goto (tgt := 107) hx hb dX7_sources_103 (by decide) ?_
                  exact J107_12 (z43_5.2.2.2 (Int32.toNatClampNeg i6)) (by rw [if_neg c84_9, if_neg c94_10])
        exact LP66 17 0 0 mam (by decide) (by omega) (by omega) hy66.symm H locs w ls (lv_sub hl [1, 0] rfl)
      · have hr := (if_neg c22_4).symm.trans hr
        refine lv_aload_n hx hb dX7_sources_25 rfl (lv_at hl 0 rfl) ?_
        refine fr_get C w fg_X7_53 0 rfl rfl dX7_sources_26 ?_
        refine lv_iconst (v := 1) hx hb dX7_sources_29 (by decide) ?_
        refine lv_iadd hx hb dX7_sources_30 ?_
        refine lv_aload_n hx hb dX7_sources_31 rfl (lv_at hl 0 rfl) ?_
        refine fr_get C w fg_X7_62 0 rfl rfl dX7_sources_32 ?_
        refine lv_icmp_eq (tgt := 42) hx hb dX7_sources_35 (by decide) (fun c35_17 => ?_) (fun c35_17 => ?_)
        · have hr := (if_pos c35_17).symm.trans hr
          refine lv_aload_n hx hb dX7_sources_42 rfl (lv_at hl 0 rfl) ?_
          obtain ⟨z43_18, hz43_18⟩ : ∃ y, (f_X7_endNumber z1_1.2.1 z1_1.2.2.1 z1_1.2.2.2.2.2.1 z1_1.2.2.2.2.2.2) = y := ⟨_, rfl⟩
          have hcz43_18 := c_X7_endNumber l D cI cJ am ama amb amc amd ame amf amg amp amo mpl msc mtc msr mal z1_1.2.1 z1_1.2.2.1 z1_1.2.2.2.1 z1_1.2.2.2.2.1 z1_1.2.2.2.2.2.1 mmy mbe mmf mbs mco mh mpg mam mwa mww z1_1.2.2.2.2.2.2 mmb msh mpa mgo (by subst_vars; exact goAlong_PI.1) (by subst_vars; exact goAlong_PI.2.1)
          rw [hz43_18] at hcz43_18
          have hr : ((fun (y66 : Int32 × (Nat → Int32)) => ((fun (y116 : Int32 × (Nat → Int32) × (Nat → Int32)) => ((Int32.toInt64 (z1_1.2.1 + 1)), 0, z1_1.2.1 + 1, z43_18.1, msr + 1, z1_1.2.1, z43_18.1, z1_1.2.2.2.1, z43_18.2.1, z43_18.2.2.1, y66.2, y116.2.1, y116.2.2, z43_18.2.2.2)) (L_X7_sources_116 5 0 mwa mww))) (L_X7_sources_66b z1_1 z43_18 17 0 mam)) = r := by subst hz43_18; exact hr
          refine fr_callVV (As := []) (rest := []) C w kf_X7_endNumber mw_8_23 (hcz43_18) ⟨Nat.le_of_ble_eq_true rfl, Nat.le_of_ble_eq_true rfl⟩ ⟨Nat.le_refl 0, Nat.le_refl 0⟩ [0, 1, 2, 3, 4, 5, 6, 7, 8, 9] rfl rfl rfl (ws' := [(am, .inr (7, [.int mpl, .ref ama, .int msc, .int mtc, .ref amb, .ref amc, .ref amd, .int msr, .int mal, .int z1_1.2.1, .int z43_18.1, .int z1_1.2.2.2.1, .int z43_18.2.1, .int z43_18.2.2.1, .ref ame, .int mmy, .ref amf, .long mbe, .ref amg, .long mmf, .ref amp, .ref amo, .int mbs, .int mco, .long mh])), (ama, .inl (cI, 47, .inl mpg)), (amb, .inl (cI, 16, .inl mam)), (amc, .inl (cI, 4, .inl mwa)), (amd, .inl (cI, 4, .inl mww)), (ame, .inl (cI, 16, .inl z43_18.2.2.2)), (amf, .inl (cI, 4, .inl mmb)), (amg, .inl (cJ, 4, .inr (.inl msh))), (amp, .inl (cJ, 9, .inr (.inl mpa))), (amo, .inl (cJ, 3, .inr (.inl mgo)))]) rfl rfl rfl rfl hl.1 rfl (Nat.le_of_ble_eq_true rfl) dX7_sources_43 (fun H locs w => ?_)
          refine lv_aload_n hx hb dX7_sources_46 rfl (lv_at hl 0 rfl) ?_
          refine lv_aload_n hx hb dX7_sources_47 rfl (lv_at hl 0 rfl) ?_
          refine fr_get C w fg_X7_50 0 rfl rfl dX7_sources_48 ?_
          refine lv_iconst (v := 1) hx hb dX7_sources_51 (by decide) ?_
          refine lv_iadd hx hb dX7_sources_52 ?_
          refine fr_put C w fp_X7_78 0 rfl rfl rfl rfl (ws' := [(am, .inr (7, [.int mpl, .ref ama, .int (z1_1.2.1 + 1), .int mtc, .ref amb, .ref amc, .ref amd, .int msr, .int mal, .int z1_1.2.1, .int z43_18.1, .int z1_1.2.2.2.1, .int z43_18.2.1, .int z43_18.2.2.1, .ref ame, .int mmy, .ref amf, .long mbe, .ref amg, .long mmf, .ref amp, .ref amo, .int mbs, .int mco, .long mh])), (ama, .inl (cI, 47, .inl mpg)), (amb, .inl (cI, 16, .inl mam)), (amc, .inl (cI, 4, .inl mwa)), (amd, .inl (cI, 4, .inl mww)), (ame, .inl (cI, 16, .inl z43_18.2.2.2)), (amf, .inl (cI, 4, .inl mmb)), (amg, .inl (cJ, 4, .inr (.inl msh))), (amp, .inl (cJ, 9, .inr (.inl mpa))), (amo, .inl (cJ, 3, .inr (.inl mgo)))]) rfl dX7_sources_53 (fun H locs w => ?_)
          refine lv_aload_n hx hb dX7_sources_56 rfl (lv_at hl 0 rfl) ?_
          refine lv_aload_n hx hb dX7_sources_57 rfl (lv_at hl 0 rfl) ?_
          refine fr_get C w fg_X7_53 0 rfl rfl dX7_sources_58 ?_
          refine fr_put C w fp_X7_81 0 rfl rfl rfl rfl (ws' := [(am, .inr (7, [.int mpl, .ref ama, .int (z1_1.2.1 + 1), .int z43_18.1, .ref amb, .ref amc, .ref amd, .int msr, .int mal, .int z1_1.2.1, .int z43_18.1, .int z1_1.2.2.2.1, .int z43_18.2.1, .int z43_18.2.2.1, .ref ame, .int mmy, .ref amf, .long mbe, .ref amg, .long mmf, .ref amp, .ref amo, .int mbs, .int mco, .long mh])), (ama, .inl (cI, 47, .inl mpg)), (amb, .inl (cI, 16, .inl mam)), (amc, .inl (cI, 4, .inl mwa)), (amd, .inl (cI, 4, .inl mww)), (ame, .inl (cI, 16, .inl z43_18.2.2.2)), (amf, .inl (cI, 4, .inl mmb)), (amg, .inl (cJ, 4, .inr (.inl msh))), (amp, .inl (cJ, 9, .inr (.inl mpa))), (amo, .inl (cJ, 3, .inr (.inl mgo)))]) rfl dX7_sources_61 (fun H locs w => ?_)
          refine lv_iconst (v := 0) hx hb dX7_sources_64 (by decide) ?_
          refine lv_istore_n (lv' := [(1, .int 0), (0, .ref am)]) hx hb dX7_sources_65 rfl hl (by decide) rfl (fun ls hl => ?_)
          obtain ⟨y66, hy66⟩ : ∃ y, y = L_X7_sources_66b z1_1 z43_18 17 0 mam := ⟨_, rfl⟩
          have hr : ((fun (y116 : Int32 × (Nat → Int32) × (Nat → Int32)) => ((Int32.toInt64 (z1_1.2.1 + 1)), 0, z1_1.2.1 + 1, z43_18.1, msr + 1, z1_1.2.1, z43_18.1, z1_1.2.2.2.1, z43_18.2.1, z43_18.2.2.1, y66.2, y116.2.1, y116.2.2, z43_18.2.2.2)) (L_X7_sources_116 5 0 mwa mww)) = r := by rw [hy66]; exact hr
          have X66 : ∀ (H : Heap) (locs : List Loc), Wd D A s.heap H locs [(am, .inr (7, [.int mpl, .ref ama, .int (z1_1.2.1 + 1), .int z43_18.1, .ref amb, .ref amc, .ref amd, .int msr, .int mal, .int z1_1.2.1, .int z43_18.1, .int z1_1.2.2.2.1, .int z43_18.2.1, .int z43_18.2.2.1, .ref ame, .int mmy, .ref amf, .long mbe, .ref amg, .long mmf, .ref amp, .ref amo, .int mbs, .int mco, .long mh])), (ama, .inl (cI, 47, .inl mpg)), (amb, .inl (cI, 16, .inl y66.2)), (amc, .inl (cI, 4, .inl mwa)), (amd, .inl (cI, 4, .inl mww)), (ame, .inl (cI, 16, .inl z43_18.2.2.2)), (amf, .inl (cI, 4, .inl mmb)), (amg, .inl (cJ, 4, .inr (.inl msh))), (amp, .inl (cJ, 9, .inr (.inl mpa))), (amo, .inl (cJ, 3, .inr (.inl mgo)))] → ∀ (ls : Array Slot), lv_has ls 2 [(0, .ref am), (1, .int y66.1)] → W p l e (rl 3) s m args below meth c H locs 0 0 Q (F0 m 114 ls []) := by
            intro H locs w ls hl
            refine lv_iconst (v := 0) hx hb dX7_sources_114 (by decide) ?_
            refine lv_istore_n (lv' := [(1, .int 0), (0, .ref am)]) hx hb dX7_sources_115 rfl hl (by decide) rfl (fun ls hl => ?_)
            obtain ⟨y116, hy116⟩ : ∃ y, y = L_X7_sources_116 5 0 mwa mww := ⟨_, rfl⟩
            have hr : ((Int32.toInt64 (z1_1.2.1 + 1)), 0, z1_1.2.1 + 1, z43_18.1, msr + 1, z1_1.2.1, z43_18.1, z1_1.2.2.2.1, z43_18.2.1, z43_18.2.2.1, y66.2, y116.2.1, y116.2.2, z43_18.2.2.2) = r := by rw [hy116]; exact hr
            have X116 : ∀ (H : Heap) (locs : List Loc), Wd D A s.heap H locs [(am, .inr (7, [.int mpl, .ref ama, .int (z1_1.2.1 + 1), .int z43_18.1, .ref amb, .ref amc, .ref amd, .int msr, .int mal, .int z1_1.2.1, .int z43_18.1, .int z1_1.2.2.2.1, .int z43_18.2.1, .int z43_18.2.2.1, .ref ame, .int mmy, .ref amf, .long mbe, .ref amg, .long mmf, .ref amp, .ref amo, .int mbs, .int mco, .long mh])), (ama, .inl (cI, 47, .inl mpg)), (amb, .inl (cI, 16, .inl y66.2)), (amc, .inl (cI, 4, .inl y116.2.1)), (amd, .inl (cI, 4, .inl y116.2.2)), (ame, .inl (cI, 16, .inl z43_18.2.2.2)), (amf, .inl (cI, 4, .inl mmb)), (amg, .inl (cJ, 4, .inr (.inl msh))), (amp, .inl (cJ, 9, .inr (.inl mpa))), (amo, .inl (cJ, 3, .inr (.inl mgo)))] → ∀ (ls : Array Slot), lv_has ls 2 [(0, .ref am), (1, .int y116.1)] → W p l e (rl 3) s m args below meth c H locs 0 0 Q (F0 m 141 ls []) := by
              intro H locs w ls hl
              refine lv_aload_n hx hb dX7_sources_141 rfl (lv_at hl 0 rfl) ?_
              refine lv_dup hx hb dX7_sources_142 rfl ?_
              refine fr_get C w fg_X7_84 0 rfl rfl dX7_sources_143 ?_
              refine lv_iconst (v := 1) hx hb dX7_sources_146 (by decide) ?_
              refine lv_iadd hx hb dX7_sources_147 ?_
              refine fr_put C w fp_X7_84 0 rfl rfl rfl rfl (ws' := [(am, .inr (7, [.int mpl, .ref ama, .int (z1_1.2.1 + 1), .int z43_18.1, .ref amb, .ref amc, .ref amd, .int (msr + 1), .int mal, .int z1_1.2.1, .int z43_18.1, .int z1_1.2.2.2.1, .int z43_18.2.1, .int z43_18.2.2.1, .ref ame, .int mmy, .ref amf, .long mbe, .ref amg, .long mmf, .ref amp, .ref amo, .int mbs, .int mco, .long mh])), (ama, .inl (cI, 47, .inl mpg)), (amb, .inl (cI, 16, .inl y66.2)), (amc, .inl (cI, 4, .inl y116.2.1)), (amd, .inl (cI, 4, .inl y116.2.2)), (ame, .inl (cI, 16, .inl z43_18.2.2.2)), (amf, .inl (cI, 4, .inl mmb)), (amg, .inl (cJ, 4, .inr (.inl msh))), (amp, .inl (cJ, 9, .inr (.inl mpa))), (amo, .inl (cJ, 3, .inr (.inl mgo)))]) rfl dX7_sources_148 (fun H locs w => ?_)
              refine lv_aload_n hx hb dX7_sources_151 rfl (lv_at hl 0 rfl) ?_
              refine lv_iconst (v := 0) hx hb dX7_sources_152 (by decide) ?_
              refine fr_put C w fp_X7_44 0 rfl rfl rfl rfl (ws' := [(am, .inr (7, [.int 0, .ref ama, .int (z1_1.2.1 + 1), .int z43_18.1, .ref amb, .ref amc, .ref amd, .int (msr + 1), .int mal, .int z1_1.2.1, .int z43_18.1, .int z1_1.2.2.2.1, .int z43_18.2.1, .int z43_18.2.2.1, .ref ame, .int mmy, .ref amf, .long mbe, .ref amg, .long mmf, .ref amp, .ref amo, .int mbs, .int mco, .long mh])), (ama, .inl (cI, 47, .inl mpg)), (amb, .inl (cI, 16, .inl y66.2)), (amc, .inl (cI, 4, .inl y116.2.1)), (amd, .inl (cI, 4, .inl y116.2.2)), (ame, .inl (cI, 16, .inl z43_18.2.2.2)), (amf, .inl (cI, 4, .inl mmb)), (amg, .inl (cJ, 4, .inr (.inl msh))), (amp, .inl (cJ, 9, .inr (.inl mpa))), (amo, .inl (cJ, 3, .inr (.inl mgo)))]) rfl dX7_sources_153 (fun H locs w => ?_)
              refine lv_aload_n hx hb dX7_sources_156 rfl (lv_at hl 0 rfl) ?_
              refine fr_get C w fg_X7_78 0 rfl rfl dX7_sources_157 ?_
              refine lv_i2l (v := (Int32.toInt64 (z1_1.2.1 + 1))) hx hb dX7_sources_160 rfl ?_
              subst hr hQ
              exact fr_lret C hret hlk w rfl rfl dX7_sources_161
            have LP116 : ∀ (n116 : Nat) (k116 : Nat) (i26 : Int32) (w27 : Nat → Int32) (w28 : Nat → Int32), i26 = nI k116 → k116 ≤ 4 → 4 < k116 + n116 → L_X7_sources_116 n116 i26 w27 w28 = y116 → ∀ (H : Heap) (locs : List Loc), Wd D A s.heap H locs [(am, .inr (7, [.int mpl, .ref ama, .int (z1_1.2.1 + 1), .int z43_18.1, .ref amb, .ref amc, .ref amd, .int msr, .int mal, .int z1_1.2.1, .int z43_18.1, .int z1_1.2.2.2.1, .int z43_18.2.1, .int z43_18.2.2.1, .ref ame, .int mmy, .ref amf, .long mbe, .ref amg, .long mmf, .ref amp, .ref amo, .int mbs, .int mco, .long mh])), (ama, .inl (cI, 47, .inl mpg)), (amb, .inl (cI, 16, .inl y66.2)), (amc, .inl (cI, 4, .inl w27)), (amd, .inl (cI, 4, .inl w28)), (ame, .inl (cI, 16, .inl z43_18.2.2.2)), (amf, .inl (cI, 4, .inl mmb)), (amg, .inl (cJ, 4, .inr (.inl msh))), (amp, .inl (cJ, 9, .inr (.inl mpa))), (amo, .inl (cJ, 3, .inr (.inl mgo)))] → ∀ (ls : Array Slot), lv_has ls 2 [(0, .ref am), (1, .int i26)] → W p l e (rl 3) s m args below meth c H locs 0 0 Q (F0 m 116 ls []) := by
              clear hr
              intro n116
              induction n116 with
              | zero => intro k116 i26 w27 w28 hk116 hkN116 hn116; exact absurd hn116 (by omega)
              | succ n116 ih116 =>
                intro k116 i26 w27 w28 hk116 hkN116 hn116 hr H locs w ls hl
                have hr : (if 4 ≤ i26 then (i26, w27, w28) else L_X7_sources_116  n116 (i26 + 1) (upd w27 (Int32.toNatClampNeg i26) 0) (upd w28 (Int32.toNatClampNeg i26) 1)) = y116 := hr
                refine lv_iload_n hx hb dX7_sources_116 rfl (lv_at hl 1 rfl) ?_
                refine lv_iconst (v := 4) hx hb dX7_sources_117 (by decide) ?_
                refine lv_icmp_ge (tgt := 141) hx hb dX7_sources_118 (by decide) (fun c118_29 => ?_) (fun c118_29 => ?_)
                · have hr := (if_pos c118_29).symm.trans hr
                  subst hr
                  exact X116 H locs w ls (lv_sub hl [0, 1] rfl)
                · have hr := (if_neg c118_29).symm.trans hr
                  have hkl116 := kl_of hk116 hkN116 (N := 4) (by decide) (by omega) c118_29
                  refine lv_aload_n hx hb dX7_sources_121 rfl (lv_at hl 0 rfl) ?_
                  refine fr_get C w fg_X7_16 0 rfl rfl dX7_sources_122 ?_
                  refine lv_iload_n hx hb dX7_sources_125 rfl (lv_at hl 1 rfl) ?_
                  refine lv_iconst (v := 0) hx hb dX7_sources_126 (by decide) ?_
                  refine fr_iast C w 3 rfl (vi_ctr hk116 hkl116 (by omega) (by decide)) (ws' := [(am, .inr (7, [.int mpl, .ref ama, .int (z1_1.2.1 + 1), .int z43_18.1, .ref amb, .ref amc, .ref amd, .int msr, .int mal, .int z1_1.2.1, .int z43_18.1, .int z1_1.2.2.2.1, .int z43_18.2.1, .int z43_18.2.2.1, .ref ame, .int mmy, .ref amf, .long mbe, .ref amg, .long mmf, .ref amp, .ref amo, .int mbs, .int mco, .long mh])), (ama, .inl (cI, 47, .inl mpg)), (amb, .inl (cI, 16, .inl y66.2)), (amc, .inl (cI, 4, .inl (upd w27 (Int32.toNatClampNeg i26) 0))), (amd, .inl (cI, 4, .inl w28)), (ame, .inl (cI, 16, .inl z43_18.2.2.2)), (amf, .inl (cI, 4, .inl mmb)), (amg, .inl (cJ, 4, .inr (.inl msh))), (amp, .inl (cJ, 9, .inr (.inl mpa))), (amo, .inl (cJ, 3, .inr (.inl mgo)))]) rfl dX7_sources_127 (fun H locs w => ?_)
                  refine lv_aload_n hx hb dX7_sources_128 rfl (lv_at hl 0 rfl) ?_
                  refine fr_get C w fg_X7_19 0 rfl rfl dX7_sources_129 ?_
                  refine lv_iload_n hx hb dX7_sources_132 rfl (lv_at hl 1 rfl) ?_
                  refine lv_iconst (v := 1) hx hb dX7_sources_133 (by decide) ?_
                  refine fr_iast C w 4 rfl (vi_ctr hk116 hkl116 (by omega) (by decide)) (ws' := [(am, .inr (7, [.int mpl, .ref ama, .int (z1_1.2.1 + 1), .int z43_18.1, .ref amb, .ref amc, .ref amd, .int msr, .int mal, .int z1_1.2.1, .int z43_18.1, .int z1_1.2.2.2.1, .int z43_18.2.1, .int z43_18.2.2.1, .ref ame, .int mmy, .ref amf, .long mbe, .ref amg, .long mmf, .ref amp, .ref amo, .int mbs, .int mco, .long mh])), (ama, .inl (cI, 47, .inl mpg)), (amb, .inl (cI, 16, .inl y66.2)), (amc, .inl (cI, 4, .inl (upd w27 (Int32.toNatClampNeg i26) 0))), (amd, .inl (cI, 4, .inl (upd w28 (Int32.toNatClampNeg i26) 1))), (ame, .inl (cI, 16, .inl z43_18.2.2.2)), (amf, .inl (cI, 4, .inl mmb)), (amg, .inl (cJ, 4, .inr (.inl msh))), (amp, .inl (cJ, 9, .inr (.inl mpa))), (amo, .inl (cJ, 3, .inr (.inl mgo)))]) rfl dX7_sources_134 (fun H locs w => ?_)
                  refine lv_iinc (v := i26 + 1) (lv' := [(1, .int (i26 + 1)), (0, .ref am)]) hx hb dX7_sources_135 hl (k := 1) rfl rfl (by decide) rfl (fun ls hl => ?_)
                  refine lv_goto (tgt := 116) hx hb dX7_sources_138 (by decide) ?_
                  exact ih116 (k116 + 1) (i26 + 1) (upd w27 (Int32.toNatClampNeg i26) 0) (upd w28 (Int32.toNatClampNeg i26) 1) (by rw [hk116]; exact nI_1 k116) (by omega) (by omega) hr H locs w ls (lv_sub hl [1, 0] rfl)
            exact LP116 5 0 0 mwa mww (by decide) (by omega) (by omega) hy116.symm H locs w ls (lv_sub hl [1, 0] rfl)
          have LP66 : ∀ (n66 : Nat) (k66 : Nat) (i19 : Int32) (w20 : Nat → Int32), i19 = nI k66 → k66 ≤ 16 → 16 < k66 + n66 → L_X7_sources_66b z1_1 z43_18 n66 i19 w20 = y66 → ∀ (H : Heap) (locs : List Loc), Wd D A s.heap H locs [(am, .inr (7, [.int mpl, .ref ama, .int (z1_1.2.1 + 1), .int z43_18.1, .ref amb, .ref amc, .ref amd, .int msr, .int mal, .int z1_1.2.1, .int z43_18.1, .int z1_1.2.2.2.1, .int z43_18.2.1, .int z43_18.2.2.1, .ref ame, .int mmy, .ref amf, .long mbe, .ref amg, .long mmf, .ref amp, .ref amo, .int mbs, .int mco, .long mh])), (ama, .inl (cI, 47, .inl mpg)), (amb, .inl (cI, 16, .inl w20)), (amc, .inl (cI, 4, .inl mwa)), (amd, .inl (cI, 4, .inl mww)), (ame, .inl (cI, 16, .inl z43_18.2.2.2)), (amf, .inl (cI, 4, .inl mmb)), (amg, .inl (cJ, 4, .inr (.inl msh))), (amp, .inl (cJ, 9, .inr (.inl mpa))), (amo, .inl (cJ, 3, .inr (.inl mgo)))] → ∀ (ls : Array Slot), lv_has ls 2 [(0, .ref am), (1, .int i19)] → W p l e (rl 3) s m args below meth c H locs 0 0 Q (F0 m 66 ls []) := by
            clear hr
            intro n66
            induction n66 with
            | zero => intro k66 i19 w20 hk66 hkN66 hn66; exact absurd hn66 (by omega)
            | succ n66 ih66 =>
              intro k66 i19 w20 hk66 hkN66 hn66 hr H locs w ls hl
              have hr : (if 16 ≤ i19 then (i19, w20) else ((fun (v24 : Int32) => L_X7_sources_66b z1_1 z43_18 n66 (i19 + 1) (upd w20 (Int32.toNatClampNeg i19) v24)) (if (z1_1.2.1 + 1) ≤ (i19 / 4) then 0 else (if z43_18.1 ≤ (i19 - i19 / 4 * 4) then 0 else z43_18.2.2.2 (Int32.toNatClampNeg i19))))) = y66 := hr
              refine lv_iload_n hx hb dX7_sources_66 rfl (lv_at hl 1 rfl) ?_
              refine lv_bipush (v := 16) hx hb dX7_sources_67 (by decide) ?_
              refine lv_icmp_ge (tgt := 114) hx hb dX7_sources_69 (by decide) (fun c69_21 => ?_) (fun c69_21 => ?_)
              · have hr := (if_pos c69_21).symm.trans hr
                subst hr
                exact X66 H locs w ls (lv_sub hl [0, 1] rfl)
              · have hr := (if_neg c69_21).symm.trans hr
                have hkl66 := kl_of hk66 hkN66 (N := 16) (by decide) (by omega) c69_21
                refine lv_aload_n hx hb dX7_sources_72 rfl (lv_at hl 0 rfl) ?_
                refine fr_get C w fg_X7_13 0 rfl rfl dX7_sources_73 ?_
                refine lv_iload_n hx hb dX7_sources_76 rfl (lv_at hl 1 rfl) ?_
                refine lv_iload_n hx hb dX7_sources_77 rfl (lv_at hl 1 rfl) ?_
                refine lv_iconst (v := 4) hx hb dX7_sources_78 (by decide) ?_
                refine lv_idiv hx hb dX7_sources_79 (by decide) ?_
                refine lv_aload_n hx hb dX7_sources_80 rfl (lv_at hl 0 rfl) ?_
                refine fr_get C w fg_X7_78 0 rfl rfl dX7_sources_81 ?_
                have J107_25 : ∀ (v24 : Int32), v24 = (if (z1_1.2.1 + 1) ≤ (i19 / 4) then 0 else (if z43_18.1 ≤ (i19 - i19 / 4 * 4) then 0 else z43_18.2.2.2 (Int32.toNatClampNeg i19))) → W p l e (rl 3) s m args below meth c H locs 0 0 Q (F0 m 107 ls [.int v24, .int i19, .ref amb]) := by
                  intro v24 ev24
                  have hr : L_X7_sources_66b z1_1 z43_18 n66 (i19 + 1) (upd w20 (Int32.toNatClampNeg i19) v24) = y66 := by subst ev24; exact hr
                  refine fr_iast C w 2 rfl (vi_ctr hk66 hkl66 (by omega) (by decide)) (ws' := [(am, .inr (7, [.int mpl, .ref ama, .int (z1_1.2.1 + 1), .int z43_18.1, .ref amb, .ref amc, .ref amd, .int msr, .int mal, .int z1_1.2.1, .int z43_18.1, .int z1_1.2.2.2.1, .int z43_18.2.1, .int z43_18.2.2.1, .ref ame, .int mmy, .ref amf, .long mbe, .ref amg, .long mmf, .ref amp, .ref amo, .int mbs, .int mco, .long mh])), (ama, .inl (cI, 47, .inl mpg)), (amb, .inl (cI, 16, .inl (upd w20 (Int32.toNatClampNeg i19) v24))), (amc, .inl (cI, 4, .inl mwa)), (amd, .inl (cI, 4, .inl mww)), (ame, .inl (cI, 16, .inl z43_18.2.2.2)), (amf, .inl (cI, 4, .inl mmb)), (amg, .inl (cJ, 4, .inr (.inl msh))), (amp, .inl (cJ, 9, .inr (.inl mpa))), (amo, .inl (cJ, 3, .inr (.inl mgo)))]) rfl dX7_sources_107 (fun H locs w => ?_)
                  refine lv_iinc (v := i19 + 1) (lv' := [(1, .int (i19 + 1)), (0, .ref am)]) hx hb dX7_sources_108 hl (k := 1) rfl rfl (by decide) rfl (fun ls hl => ?_)
                  refine lv_goto (tgt := 66) hx hb dX7_sources_111 (by decide) ?_
                  exact ih66 (k66 + 1) (i19 + 1) (upd w20 (Int32.toNatClampNeg i19) v24) (by rw [hk66]; exact nI_1 k66) (by omega) (by omega) hr H locs w ls (lv_sub hl [1, 0] rfl)
                refine lv_icmp_ge (tgt := 106) hx hb dX7_sources_84 (by decide) (fun c84_22 => ?_) (fun c84_22 => ?_)
                · refine lv_iconst (v := 0) hx hb dX7_sources_106 (by decide) ?_
                  exact J107_25 0 (by rw [if_pos c84_22])
                · refine lv_iload_n hx hb dX7_sources_87 rfl (lv_at hl 1 rfl) ?_
                  refine lv_iconst (v := 4) hx hb dX7_sources_88 (by decide) ?_
                  refine lv_irem hx hb dX7_sources_89 (by decide) ?_
                  refine lv_aload_n hx hb dX7_sources_90 rfl (lv_at hl 0 rfl) ?_
                  refine fr_get C w fg_X7_81 0 rfl rfl dX7_sources_91 ?_
                  refine lv_icmp_ge (tgt := 106) hx hb dX7_sources_94 (by decide) (fun c94_23 => ?_) (fun c94_23 => ?_)
                  · refine lv_iconst (v := 0) hx hb dX7_sources_106 (by decide) ?_
                    exact J107_25 0 (by rw [if_neg c84_22, if_pos c94_23])
                  · refine lv_aload_n hx hb dX7_sources_97 rfl (lv_at hl 0 rfl) ?_
                    refine fr_get C w fg_X7_22 0 rfl rfl dX7_sources_98 ?_
                    refine lv_iload_n hx hb dX7_sources_101 rfl (lv_at hl 1 rfl) ?_
                    refine fr_iald C w 5 rfl (vi_ctr hk66 hkl66 (by omega) (by decide)) dX7_sources_102 ?_
                    refine lv_goto (tgt := 107) hx hb dX7_sources_103 (by decide) ?_
                    exact J107_25 (z43_18.2.2.2 (Int32.toNatClampNeg i19)) (by rw [if_neg c84_22, if_neg c94_23])
          exact LP66 17 0 0 mam (by decide) (by omega) (by omega) hy66.symm H locs w ls (lv_sub hl [1, 0] rfl)
        · have hr := (if_neg c35_17).symm.trans hr
          refine lv_ldc2 hx hb C.2.2.2.1 (C.2.2.2.2.1 _ mw_10_12) dX7_sources_38 ?_
          subst hr hQ
          exact fr_lret C hret hlk w rfl rfl dX7_sources_41
def f_X7_isSource (msc : Int32) (q1 : Int32) : Int32 := (f_X7_within q1 0 (msc - 1))
set_option maxRecDepth 100000 in
set_option maxHeartbeats 4000000 in
theorem c_X7_isSource (l : Launch) (D : va_G) (cI cJ : ClassId) (am ama amb amc amd ame amf amg amp amo : Nat) (mpl : Int32) (msc : Int32) (mtc : Int32) (msr : Int32) (mal : Int32) (mns : Int32) (mnn : Int32) (mnt : Int32) (mfi : Int32) (mnw : Int32) (mmy : Int32) (mbe : Int64) (mmf : Int64) (mbs : Int32) (mco : Int32) (mh : Int64) (mpg : Nat → Int32) (mam : Nat → Int32) (mwa : Nat → Int32) (mww : Nat → Int32) (mna : Nat → Int32) (mmb : Nat → Int32) (msh : Nat → Int64) (mpa : Nat → Int64) (mgo : Nat → Int64) (q1 : Int32) : CI l yX7_isSource cX7_isSource 2 .boolean 1 D cI cJ [.ref am, .int q1] [(am, .inr (7, [.int mpl, .ref ama, .int msc, .int mtc, .ref amb, .ref amc, .ref amd, .int msr, .int mal, .int mns, .int mnn, .int mnt, .int mfi, .int mnw, .ref ame, .int mmy, .ref amf, .long mbe, .ref amg, .long mmf, .ref amp, .ref amo, .int mbs, .int mco, .long mh])), (ama, .inl (cI, 47, .inl mpg)), (amb, .inl (cI, 16, .inl mam)), (amc, .inl (cI, 4, .inl mwa)), (amd, .inl (cI, 4, .inl mww)), (ame, .inl (cI, 16, .inl mna)), (amf, .inl (cI, 4, .inl mmb)), (amg, .inl (cJ, 4, .inr (.inl msh))), (amp, .inl (cJ, 9, .inr (.inl mpa))), (amo, .inl (cJ, 3, .inr (.inl mgo)))] [(am, .inr (7, [.int mpl, .ref ama, .int msc, .int mtc, .ref amb, .ref amc, .ref amd, .int msr, .int mal, .int mns, .int mnn, .int mnt, .int mfi, .int mnw, .ref ame, .int mmy, .ref amf, .long mbe, .ref amg, .long mmf, .ref amp, .ref amo, .int mbs, .int mco, .long mh])), (ama, .inl (cI, 47, .inl mpg)), (amb, .inl (cI, 16, .inl mam)), (amc, .inl (cI, 4, .inl mwa)), (amd, .inl (cI, 4, .inl mww)), (ame, .inl (cI, 16, .inl mna)), (amf, .inl (cI, 4, .inl mmb)), (amg, .inl (cJ, 4, .inr (.inl msh))), (amp, .inl (cJ, 9, .inr (.inl mpa))), (amo, .inl (cJ, 3, .inr (.inl mgo)))] (f_X7_isSource msc q1) := by
  generalize hr : f_X7_isSource msc q1 = r
  refine fr_entryI (by decide) rfl ?_
  intro p e s m args below meth c A Q H locs hQ C hret hlk w ls hl
  have hx := C.1
  have hb := C.2.1
  have hl : lv_has ls 2 [(0, .ref am), (1, .int q1)] := hl
  have hr : (f_X7_within q1 0 (msc - 1)) = r := hr
  refine lv_iload_n hx hb dX7_isSource_0 rfl (lv_at hl 1 rfl) ?_
  refine lv_iconst (v := 0) hx hb dX7_isSource_1 (by decide) ?_
  refine lv_aload_n hx hb dX7_isSource_2 rfl (lv_at hl 0 rfl) ?_
  refine fr_get C w fg_X7_78 0 rfl rfl dX7_isSource_3 ?_
  refine lv_iconst (v := 1) hx hb dX7_isSource_6 (by decide) ?_
  refine lv_isub hx hb dX7_isSource_7 ?_
  refine fr_callIS (As := [.int q1, .int 0, .int (msc - 1)]) (rest := []) C w kf_X7_within mw_5_18 (c_X7_within l D cI cJ q1 0 (msc - 1)) ⟨Nat.le_of_ble_eq_true rfl, Nat.le_of_ble_eq_true rfl⟩ ⟨Nat.le_refl 0, Nat.le_refl 0⟩ [] rfl rfl rfl (ws' := [(am, .inr (7, [.int mpl, .ref ama, .int msc, .int mtc, .ref amb, .ref amc, .ref amd, .int msr, .int mal, .int mns, .int mnn, .int mnt, .int mfi, .int mnw, .ref ame, .int mmy, .ref amf, .long mbe, .ref amg, .long mmf, .ref amp, .ref amo, .int mbs, .int mco, .long mh])), (ama, .inl (cI, 47, .inl mpg)), (amb, .inl (cI, 16, .inl mam)), (amc, .inl (cI, 4, .inl mwa)), (amd, .inl (cI, 4, .inl mww)), (ame, .inl (cI, 16, .inl mna)), (amf, .inl (cI, 4, .inl mmb)), (amg, .inl (cJ, 4, .inr (.inl msh))), (amp, .inl (cJ, 9, .inr (.inl mpa))), (amo, .inl (cJ, 3, .inr (.inl mgo)))]) rfl rfl hl.1 rfl (Nat.le_of_ble_eq_true rfl) dX7_isSource_8 (fun H locs w => ?_)
  subst hr hQ
  exact fr_iret (W0 := []) C hret hlk w (nb_of (b_X7_within q1 0 (msc - 1))) rfl rfl dX7_isSource_11
theorem b_X7_isSource (msc : Int32) (q1 : Int32) : (f_X7_isSource msc q1) = 0 ∨ (f_X7_isSource msc q1) = 1 := by
  unfold f_X7_isSource
  try dsimp only
  repeat (first | exact Or.inl rfl | exact Or.inr rfl | exact b_X7_within _ _ _ | split)
def f_X7_isTracer (mtc : Int32) (q1 : Int32) : Int32 := (f_X7_within q1 0 (mtc - 1))
set_option maxRecDepth 100000 in
set_option maxHeartbeats 4000000 in
theorem c_X7_isTracer (l : Launch) (D : va_G) (cI cJ : ClassId) (am ama amb amc amd ame amf amg amp amo : Nat) (mpl : Int32) (msc : Int32) (mtc : Int32) (msr : Int32) (mal : Int32) (mns : Int32) (mnn : Int32) (mnt : Int32) (mfi : Int32) (mnw : Int32) (mmy : Int32) (mbe : Int64) (mmf : Int64) (mbs : Int32) (mco : Int32) (mh : Int64) (mpg : Nat → Int32) (mam : Nat → Int32) (mwa : Nat → Int32) (mww : Nat → Int32) (mna : Nat → Int32) (mmb : Nat → Int32) (msh : Nat → Int64) (mpa : Nat → Int64) (mgo : Nat → Int64) (q1 : Int32) : CI l yX7_isTracer cX7_isTracer 2 .boolean 1 D cI cJ [.ref am, .int q1] [(am, .inr (7, [.int mpl, .ref ama, .int msc, .int mtc, .ref amb, .ref amc, .ref amd, .int msr, .int mal, .int mns, .int mnn, .int mnt, .int mfi, .int mnw, .ref ame, .int mmy, .ref amf, .long mbe, .ref amg, .long mmf, .ref amp, .ref amo, .int mbs, .int mco, .long mh])), (ama, .inl (cI, 47, .inl mpg)), (amb, .inl (cI, 16, .inl mam)), (amc, .inl (cI, 4, .inl mwa)), (amd, .inl (cI, 4, .inl mww)), (ame, .inl (cI, 16, .inl mna)), (amf, .inl (cI, 4, .inl mmb)), (amg, .inl (cJ, 4, .inr (.inl msh))), (amp, .inl (cJ, 9, .inr (.inl mpa))), (amo, .inl (cJ, 3, .inr (.inl mgo)))] [(am, .inr (7, [.int mpl, .ref ama, .int msc, .int mtc, .ref amb, .ref amc, .ref amd, .int msr, .int mal, .int mns, .int mnn, .int mnt, .int mfi, .int mnw, .ref ame, .int mmy, .ref amf, .long mbe, .ref amg, .long mmf, .ref amp, .ref amo, .int mbs, .int mco, .long mh])), (ama, .inl (cI, 47, .inl mpg)), (amb, .inl (cI, 16, .inl mam)), (amc, .inl (cI, 4, .inl mwa)), (amd, .inl (cI, 4, .inl mww)), (ame, .inl (cI, 16, .inl mna)), (amf, .inl (cI, 4, .inl mmb)), (amg, .inl (cJ, 4, .inr (.inl msh))), (amp, .inl (cJ, 9, .inr (.inl mpa))), (amo, .inl (cJ, 3, .inr (.inl mgo)))] (f_X7_isTracer mtc q1) := by
  generalize hr : f_X7_isTracer mtc q1 = r
  refine fr_entryI (by decide) rfl ?_
  intro p e s m args below meth c A Q H locs hQ C hret hlk w ls hl
  have hx := C.1
  have hb := C.2.1
  have hl : lv_has ls 2 [(0, .ref am), (1, .int q1)] := hl
  have hr : (f_X7_within q1 0 (mtc - 1)) = r := hr
  refine lv_iload_n hx hb dX7_isTracer_0 rfl (lv_at hl 1 rfl) ?_
  refine lv_iconst (v := 0) hx hb dX7_isTracer_1 (by decide) ?_
  refine lv_aload_n hx hb dX7_isTracer_2 rfl (lv_at hl 0 rfl) ?_
  refine fr_get C w fg_X7_81 0 rfl rfl dX7_isTracer_3 ?_
  refine lv_iconst (v := 1) hx hb dX7_isTracer_6 (by decide) ?_
  refine lv_isub hx hb dX7_isTracer_7 ?_
  refine fr_callIS (As := [.int q1, .int 0, .int (mtc - 1)]) (rest := []) C w kf_X7_within mw_5_18 (c_X7_within l D cI cJ q1 0 (mtc - 1)) ⟨Nat.le_of_ble_eq_true rfl, Nat.le_of_ble_eq_true rfl⟩ ⟨Nat.le_refl 0, Nat.le_refl 0⟩ [] rfl rfl rfl (ws' := [(am, .inr (7, [.int mpl, .ref ama, .int msc, .int mtc, .ref amb, .ref amc, .ref amd, .int msr, .int mal, .int mns, .int mnn, .int mnt, .int mfi, .int mnw, .ref ame, .int mmy, .ref amf, .long mbe, .ref amg, .long mmf, .ref amp, .ref amo, .int mbs, .int mco, .long mh])), (ama, .inl (cI, 47, .inl mpg)), (amb, .inl (cI, 16, .inl mam)), (amc, .inl (cI, 4, .inl mwa)), (amd, .inl (cI, 4, .inl mww)), (ame, .inl (cI, 16, .inl mna)), (amf, .inl (cI, 4, .inl mmb)), (amg, .inl (cJ, 4, .inr (.inl msh))), (amp, .inl (cJ, 9, .inr (.inl mpa))), (amo, .inl (cJ, 3, .inr (.inl mgo)))]) rfl rfl hl.1 rfl (Nat.le_of_ble_eq_true rfl) dX7_isTracer_8 (fun H locs w => ?_)
  subst hr hQ
  exact fr_iret (W0 := []) C hret hlk w (nb_of (b_X7_within q1 0 (mtc - 1))) rfl rfl dX7_isTracer_11
theorem b_X7_isTracer (mtc : Int32) (q1 : Int32) : (f_X7_isTracer mtc q1) = 0 ∨ (f_X7_isTracer mtc q1) = 1 := by
  unfold f_X7_isTracer
  try dsimp only
  repeat (first | exact Or.inl rfl | exact Or.inr rfl | exact b_X7_within _ _ _ | split)
def f_X7_set (mtc : Int32) (mal : Int32) (mwa : Nat → Int32) (mww : Nat → Int32) (q1 : Int32) (q2 : Int32) (q3 : Int32) : Int64 × Int32 × (Nat → Int32) × (Nat → Int32) := (if (f_X7_isTracer mtc q1) = 0 then ((-1000002), mal, mwa, mww) else ((fun (v5 : Int32) => (if v5 = 0 then ((-1000003), mal, mwa, mww) else ((fun (v8 : Int32) => ((fun (v10 : Int32) => ((fun (v12 : Int32) => ((Int32.toInt64 v8), mal + 1, upd mwa (Int32.toNatClampNeg q1) v10, upd mww (Int32.toNatClampNeg q1) v12)) (if q2 = 1 then q3 else mww (Int32.toNatClampNeg q1)))) (if q2 = 0 then q3 else mwa (Int32.toNatClampNeg q1)))) (if q2 = 0 then mwa (Int32.toNatClampNeg q1) else mww (Int32.toNatClampNeg q1))))) (if q2 = 0 then (f_X7_within q3 0 20) else (if q2 = 1 then (if (f_X7_within q3 1 5) = 0 then 0 else 1) else 0))))
set_option maxRecDepth 100000 in
set_option maxHeartbeats 4000000 in
theorem c_X7_set (l : Launch) (D : va_G) (cI cJ : ClassId) (am ama amb amc amd ame amf amg amp amo : Nat) (mpl : Int32) (msc : Int32) (mtc : Int32) (msr : Int32) (mal : Int32) (mns : Int32) (mnn : Int32) (mnt : Int32) (mfi : Int32) (mnw : Int32) (mmy : Int32) (mbe : Int64) (mmf : Int64) (mbs : Int32) (mco : Int32) (mh : Int64) (mpg : Nat → Int32) (mam : Nat → Int32) (mwa : Nat → Int32) (mww : Nat → Int32) (mna : Nat → Int32) (mmb : Nat → Int32) (msh : Nat → Int64) (mpa : Nat → Int64) (mgo : Nat → Int64) (q1 : Int32) (q2 : Int32) (q3 : Int32) (hmt : LE4 mtc) : CL l yX7_set cX7_set 6 2 D cI cJ [.ref am, .int q1, .int q2, .int q3] [(am, .inr (7, [.int mpl, .ref ama, .int msc, .int mtc, .ref amb, .ref amc, .ref amd, .int msr, .int mal, .int mns, .int mnn, .int mnt, .int mfi, .int mnw, .ref ame, .int mmy, .ref amf, .long mbe, .ref amg, .long mmf, .ref amp, .ref amo, .int mbs, .int mco, .long mh])), (ama, .inl (cI, 47, .inl mpg)), (amb, .inl (cI, 16, .inl mam)), (amc, .inl (cI, 4, .inl mwa)), (amd, .inl (cI, 4, .inl mww)), (ame, .inl (cI, 16, .inl mna)), (amf, .inl (cI, 4, .inl mmb)), (amg, .inl (cJ, 4, .inr (.inl msh))), (amp, .inl (cJ, 9, .inr (.inl mpa))), (amo, .inl (cJ, 3, .inr (.inl mgo)))] [(am, .inr (7, [.int mpl, .ref ama, .int msc, .int mtc, .ref amb, .ref amc, .ref amd, .int msr, .int ((f_X7_set mtc mal mwa mww q1 q2 q3).2.1), .int mns, .int mnn, .int mnt, .int mfi, .int mnw, .ref ame, .int mmy, .ref amf, .long mbe, .ref amg, .long mmf, .ref amp, .ref amo, .int mbs, .int mco, .long mh])), (ama, .inl (cI, 47, .inl mpg)), (amb, .inl (cI, 16, .inl mam)), (amc, .inl (cI, 4, .inl ((f_X7_set mtc mal mwa mww q1 q2 q3).2.2.1))), (amd, .inl (cI, 4, .inl ((f_X7_set mtc mal mwa mww q1 q2 q3).2.2.2))), (ame, .inl (cI, 16, .inl mna)), (amf, .inl (cI, 4, .inl mmb)), (amg, .inl (cJ, 4, .inr (.inl msh))), (amp, .inl (cJ, 9, .inr (.inl mpa))), (amo, .inl (cJ, 3, .inr (.inl mgo)))] ((f_X7_set mtc mal mwa mww q1 q2 q3).1) := by
  generalize hr : f_X7_set mtc mal mwa mww q1 q2 q3 = r
  refine fr_entryL (by decide) rfl ?_
  intro p e s m args below meth c A Q H locs hQ C hret hlk w ls hl
  have hx := C.1
  have hb := C.2.1
  have hl : lv_has ls 6 [(0, .ref am), (1, .int q1), (2, .int q2), (3, .int q3)] := hl
  have hr : (if (f_X7_isTracer mtc q1) = 0 then ((-1000002), mal, mwa, mww) else ((fun (v5 : Int32) => (if v5 = 0 then ((-1000003), mal, mwa, mww) else ((fun (v8 : Int32) => ((fun (v10 : Int32) => ((fun (v12 : Int32) => ((Int32.toInt64 v8), mal + 1, upd mwa (Int32.toNatClampNeg q1) v10, upd mww (Int32.toNatClampNeg q1) v12)) (if q2 = 1 then q3 else mww (Int32.toNatClampNeg q1)))) (if q2 = 0 then q3 else mwa (Int32.toNatClampNeg q1)))) (if q2 = 0 then mwa (Int32.toNatClampNeg q1) else mww (Int32.toNatClampNeg q1))))) (if q2 = 0 then (f_X7_within q3 0 20) else (if q2 = 1 then (if (f_X7_within q3 1 5) = 0 then 0 else 1) else 0)))) = r := hr
  refine lv_aload_n hx hb dX7_set_0 rfl (lv_at hl 0 rfl) ?_
  refine lv_iload_n hx hb dX7_set_1 rfl (lv_at hl 1 rfl) ?_
  refine fr_callIV (As := [.int q1]) (rest := []) C w kf_X7_isTracer mw_12_10 (c_X7_isTracer l D cI cJ am ama amb amc amd ame amf amg amp amo mpl msc mtc msr mal mns mnn mnt mfi mnw mmy mbe mmf mbs mco mh mpg mam mwa mww mna mmb msh mpa mgo q1) ⟨Nat.le_of_ble_eq_true rfl, Nat.le_of_ble_eq_true rfl⟩ ⟨Nat.le_refl 0, Nat.le_refl 0⟩ [0, 1, 2, 3, 4, 5, 6, 7, 8, 9] rfl rfl rfl (ws' := [(am, .inr (7, [.int mpl, .ref ama, .int msc, .int mtc, .ref amb, .ref amc, .ref amd, .int msr, .int mal, .int mns, .int mnn, .int mnt, .int mfi, .int mnw, .ref ame, .int mmy, .ref amf, .long mbe, .ref amg, .long mmf, .ref amp, .ref amo, .int mbs, .int mco, .long mh])), (ama, .inl (cI, 47, .inl mpg)), (amb, .inl (cI, 16, .inl mam)), (amc, .inl (cI, 4, .inl mwa)), (amd, .inl (cI, 4, .inl mww)), (ame, .inl (cI, 16, .inl mna)), (amf, .inl (cI, 4, .inl mmb)), (amg, .inl (cJ, 4, .inr (.inl msh))), (amp, .inl (cJ, 9, .inr (.inl mpa))), (amo, .inl (cJ, 3, .inr (.inl mgo)))]) rfl rfl rfl rfl hl.1 rfl (Nat.le_of_ble_eq_true rfl) dX7_set_2 (fun H locs w => ?_)
  refine lv_if_ne (tgt := 12) hx hb dX7_set_5 (by decide) (fun c5_1 => ?_) (fun c5_1 => ?_)
  · have hr := (if_neg c5_1).symm.trans hr
    refine lv_iload_n hx hb dX7_set_12 rfl (lv_at hl 2 rfl) ?_
    have J45_16 : ∀ (v5 : Int32), v5 = (if q2 = 0 then (f_X7_within q3 0 20) else (if q2 = 1 then (if (f_X7_within q3 1 5) = 0 then 0 else 1) else 0)) → ∀ (H : Heap) (locs : List Loc), Wd D A s.heap H locs [(am, .inr (7, [.int mpl, .ref ama, .int msc, .int mtc, .ref amb, .ref amc, .ref amd, .int msr, .int mal, .int mns, .int mnn, .int mnt, .int mfi, .int mnw, .ref ame, .int mmy, .ref amf, .long mbe, .ref amg, .long mmf, .ref amp, .ref amo, .int mbs, .int mco, .long mh])), (ama, .inl (cI, 47, .inl mpg)), (amb, .inl (cI, 16, .inl mam)), (amc, .inl (cI, 4, .inl mwa)), (amd, .inl (cI, 4, .inl mww)), (ame, .inl (cI, 16, .inl mna)), (amf, .inl (cI, 4, .inl mmb)), (amg, .inl (cJ, 4, .inr (.inl msh))), (amp, .inl (cJ, 9, .inr (.inl mpa))), (amo, .inl (cJ, 3, .inr (.inl mgo)))] → W p l e (rl 2) s m args below meth c H locs 0 0 Q (F0 m 45 ls [.int v5]) := by
      intro v5 ev5 H locs w
      have hr : (if v5 = 0 then ((-1000003), mal, mwa, mww) else ((fun (v8 : Int32) => ((fun (v10 : Int32) => ((fun (v12 : Int32) => ((Int32.toInt64 v8), mal + 1, upd mwa (Int32.toNatClampNeg q1) v10, upd mww (Int32.toNatClampNeg q1) v12)) (if q2 = 1 then q3 else mww (Int32.toNatClampNeg q1)))) (if q2 = 0 then q3 else mwa (Int32.toNatClampNeg q1)))) (if q2 = 0 then mwa (Int32.toNatClampNeg q1) else mww (Int32.toNatClampNeg q1)))) = r := by subst ev5; exact hr
      refine lv_istore (lv' := [(4, .int v5), (0, .ref am), (1, .int q1), (2, .int q2), (3, .int q3)]) hx hb dX7_set_45 hl (by decide) rfl (fun ls hl => ?_)
      refine lv_iload hx hb dX7_set_47 (lv_at hl 0 rfl) ?_
      refine lv_if_ne (tgt := 56) hx hb dX7_set_49 (by decide) (fun c49_6 => ?_) (fun c49_6 => ?_)
      · have hr := (if_neg c49_6).symm.trans hr
        refine lv_iload_n hx hb dX7_set_56 rfl (lv_at hl 3 rfl) ?_
        have J75_15 : ∀ (v8 : Int32), v8 = (if q2 = 0 then mwa (Int32.toNatClampNeg q1) else mww (Int32.toNatClampNeg q1)) → W p l e (rl 2) s m args below meth c H locs 0 0 Q (F0 m 75 ls [.int v8]) := by
          intro v8 ev8
          have hr : ((fun (v10 : Int32) => ((fun (v12 : Int32) => ((Int32.toInt64 v8), mal + 1, upd mwa (Int32.toNatClampNeg q1) v10, upd mww (Int32.toNatClampNeg q1) v12)) (if q2 = 1 then q3 else mww (Int32.toNatClampNeg q1)))) (if q2 = 0 then q3 else mwa (Int32.toNatClampNeg q1))) = r := by subst ev8; exact hr
          refine lv_istore (lv' := [(5, .int v8), (4, .int v5), (0, .ref am), (1, .int q1), (2, .int q2), (3, .int q3)]) hx hb dX7_set_75 hl (by decide) rfl (fun ls hl => ?_)
          refine lv_aload_n hx hb dX7_set_77 rfl (lv_at hl 2 rfl) ?_
          refine fr_get C w fg_X7_16 0 rfl rfl dX7_set_78 ?_
          refine lv_iload_n hx hb dX7_set_81 rfl (lv_at hl 3 rfl) ?_
          refine lv_iload_n hx hb dX7_set_82 rfl (lv_at hl 4 rfl) ?_
          have J96_14 : ∀ (v10 : Int32), v10 = (if q2 = 0 then q3 else mwa (Int32.toNatClampNeg q1)) → W p l e (rl 2) s m args below meth c H locs 0 0 Q (F0 m 96 ls [.int v10, .int q1, .ref amc]) := by
            intro v10 ev10
            have hr : ((fun (v12 : Int32) => ((Int32.toInt64 v8), mal + 1, upd mwa (Int32.toNatClampNeg q1) v10, upd mww (Int32.toNatClampNeg q1) v12)) (if q2 = 1 then q3 else mww (Int32.toNatClampNeg q1))) = r := by subst ev10; exact hr
            refine fr_iast C w 3 rfl (trc_L4 (by assumption) hmt).vi (ws' := [(am, .inr (7, [.int mpl, .ref ama, .int msc, .int mtc, .ref amb, .ref amc, .ref amd, .int msr, .int mal, .int mns, .int mnn, .int mnt, .int mfi, .int mnw, .ref ame, .int mmy, .ref amf, .long mbe, .ref amg, .long mmf, .ref amp, .ref amo, .int mbs, .int mco, .long mh])), (ama, .inl (cI, 47, .inl mpg)), (amb, .inl (cI, 16, .inl mam)), (amc, .inl (cI, 4, .inl (upd mwa (Int32.toNatClampNeg q1) v10))), (amd, .inl (cI, 4, .inl mww)), (ame, .inl (cI, 16, .inl mna)), (amf, .inl (cI, 4, .inl mmb)), (amg, .inl (cJ, 4, .inr (.inl msh))), (amp, .inl (cJ, 9, .inr (.inl mpa))), (amo, .inl (cJ, 3, .inr (.inl mgo)))]) rfl dX7_set_96 (fun H locs w => ?_)
            refine lv_aload_n hx hb dX7_set_97 rfl (lv_at hl 2 rfl) ?_
            refine fr_get C w fg_X7_19 0 rfl rfl dX7_set_98 ?_
            refine lv_iload_n hx hb dX7_set_101 rfl (lv_at hl 3 rfl) ?_
            refine lv_iload_n hx hb dX7_set_102 rfl (lv_at hl 4 rfl) ?_
            refine lv_iconst (v := 1) hx hb dX7_set_103 (by decide) ?_
            have J117_13 : ∀ (v12 : Int32), v12 = (if q2 = 1 then q3 else mww (Int32.toNatClampNeg q1)) → W p l e (rl 2) s m args below meth c H locs 0 0 Q (F0 m 117 ls [.int v12, .int q1, .ref amd]) := by
              intro v12 ev12
              have hr : ((Int32.toInt64 v8), mal + 1, upd mwa (Int32.toNatClampNeg q1) v10, upd mww (Int32.toNatClampNeg q1) v12) = r := by subst ev12; exact hr
              refine fr_iast C w 4 rfl (trc_L4 (by assumption) hmt).vi (ws' := [(am, .inr (7, [.int mpl, .ref ama, .int msc, .int mtc, .ref amb, .ref amc, .ref amd, .int msr, .int mal, .int mns, .int mnn, .int mnt, .int mfi, .int mnw, .ref ame, .int mmy, .ref amf, .long mbe, .ref amg, .long mmf, .ref amp, .ref amo, .int mbs, .int mco, .long mh])), (ama, .inl (cI, 47, .inl mpg)), (amb, .inl (cI, 16, .inl mam)), (amc, .inl (cI, 4, .inl (upd mwa (Int32.toNatClampNeg q1) v10))), (amd, .inl (cI, 4, .inl (upd mww (Int32.toNatClampNeg q1) v12))), (ame, .inl (cI, 16, .inl mna)), (amf, .inl (cI, 4, .inl mmb)), (amg, .inl (cJ, 4, .inr (.inl msh))), (amp, .inl (cJ, 9, .inr (.inl mpa))), (amo, .inl (cJ, 3, .inr (.inl mgo)))]) rfl dX7_set_117 (fun H locs w => ?_)
              refine lv_aload_n hx hb dX7_set_118 rfl (lv_at hl 2 rfl) ?_
              refine lv_dup hx hb dX7_set_119 rfl ?_
              refine fr_get C w fg_X7_92 0 rfl rfl dX7_set_120 ?_
              refine lv_iconst (v := 1) hx hb dX7_set_123 (by decide) ?_
              refine lv_iadd hx hb dX7_set_124 ?_
              refine fr_put C w fp_X7_92 0 rfl rfl rfl rfl (ws' := [(am, .inr (7, [.int mpl, .ref ama, .int msc, .int mtc, .ref amb, .ref amc, .ref amd, .int msr, .int (mal + 1), .int mns, .int mnn, .int mnt, .int mfi, .int mnw, .ref ame, .int mmy, .ref amf, .long mbe, .ref amg, .long mmf, .ref amp, .ref amo, .int mbs, .int mco, .long mh])), (ama, .inl (cI, 47, .inl mpg)), (amb, .inl (cI, 16, .inl mam)), (amc, .inl (cI, 4, .inl (upd mwa (Int32.toNatClampNeg q1) v10))), (amd, .inl (cI, 4, .inl (upd mww (Int32.toNatClampNeg q1) v12))), (ame, .inl (cI, 16, .inl mna)), (amf, .inl (cI, 4, .inl mmb)), (amg, .inl (cJ, 4, .inr (.inl msh))), (amp, .inl (cJ, 9, .inr (.inl mpa))), (amo, .inl (cJ, 3, .inr (.inl mgo)))]) rfl dX7_set_125 (fun H locs w => ?_)
              refine lv_iload hx hb dX7_set_128 (lv_at hl 0 rfl) ?_
              refine lv_i2l (v := (Int32.toInt64 v8)) hx hb dX7_set_130 rfl ?_
              subst hr hQ
              exact fr_lret C hret hlk w rfl rfl dX7_set_131
            refine lv_icmp_ne (tgt := 111) hx hb dX7_set_104 (by decide) (fun c104_11 => ?_) (fun c104_11 => ?_)
            · refine lv_aload_n hx hb dX7_set_111 rfl (lv_at hl 2 rfl) ?_
              refine fr_get C w fg_X7_19 0 rfl rfl dX7_set_112 ?_
              refine lv_iload_n hx hb dX7_set_115 rfl (lv_at hl 3 rfl) ?_
              refine fr_iald C w 4 rfl (trc_L4 (by assumption) hmt).vi dX7_set_116 ?_
              exact J117_13 (mww (Int32.toNatClampNeg q1)) (by rw [if_neg c104_11])
            · refine lv_iload_n hx hb dX7_set_107 rfl (lv_at hl 5 rfl) ?_
              refine lv_goto (tgt := 117) hx hb dX7_set_108 (by decide) ?_
              exact J117_13 q3 (by rw [if_pos c104_11])
          refine lv_if_ne (tgt := 90) hx hb dX7_set_83 (by decide) (fun c83_9 => ?_) (fun c83_9 => ?_)
          · refine lv_aload_n hx hb dX7_set_90 rfl (lv_at hl 2 rfl) ?_
            refine fr_get C w fg_X7_16 0 rfl rfl dX7_set_91 ?_
            refine lv_iload_n hx hb dX7_set_94 rfl (lv_at hl 3 rfl) ?_
            refine fr_iald C w 3 rfl (trc_L4 (by assumption) hmt).vi dX7_set_95 ?_
            exact J96_14 (mwa (Int32.toNatClampNeg q1)) (by rw [if_neg c83_9])
          · refine lv_iload_n hx hb dX7_set_86 rfl (lv_at hl 5 rfl) ?_
            refine lv_goto (tgt := 96) hx hb dX7_set_87 (by decide) ?_
            exact J96_14 q3 (by rw [if_pos c83_9])
        refine lv_if_ne (tgt := 69) hx hb dX7_set_57 (by decide) (fun c57_7 => ?_) (fun c57_7 => ?_)
        · refine lv_aload_n hx hb dX7_set_69 rfl (lv_at hl 1 rfl) ?_
          refine fr_get C w fg_X7_19 0 rfl rfl dX7_set_70 ?_
          refine lv_iload_n hx hb dX7_set_73 rfl (lv_at hl 2 rfl) ?_
          refine fr_iald C w 4 rfl (trc_L4 (by assumption) hmt).vi dX7_set_74 ?_
          exact J75_15 (mww (Int32.toNatClampNeg q1)) (by rw [if_neg c57_7])
        · refine lv_aload_n hx hb dX7_set_60 rfl (lv_at hl 1 rfl) ?_
          refine fr_get C w fg_X7_16 0 rfl rfl dX7_set_61 ?_
          refine lv_iload_n hx hb dX7_set_64 rfl (lv_at hl 2 rfl) ?_
          refine fr_iald C w 3 rfl (trc_L4 (by assumption) hmt).vi dX7_set_65 ?_
          refine lv_goto (tgt := 75) hx hb dX7_set_66 (by decide) ?_
          exact J75_15 (mwa (Int32.toNatClampNeg q1)) (by rw [if_pos c57_7])
      · have hr := (if_pos c49_6).symm.trans hr
        refine lv_ldc2 hx hb C.2.2.2.1 (C.2.2.2.2.1 _ mw_5_15) dX7_set_52 ?_
        subst hr hQ
        exact fr_lret C hret hlk w rfl rfl dX7_set_55
    refine lv_if_ne (tgt := 26) hx hb dX7_set_13 (by decide) (fun c13_2 => ?_) (fun c13_2 => ?_)
    · refine lv_iload_n hx hb dX7_set_26 rfl (lv_at hl 2 rfl) ?_
      refine lv_iconst (v := 1) hx hb dX7_set_27 (by decide) ?_
      refine lv_icmp_ne (tgt := 44) hx hb dX7_set_28 (by decide) (fun c28_3 => ?_) (fun c28_3 => ?_)
      · refine lv_iconst (v := 0) hx hb dX7_set_44 (by decide) ?_
        exact J45_16 0 (by rw [if_neg c13_2, if_neg c28_3]) _ _ w
      · refine lv_iload_n hx hb dX7_set_31 rfl (lv_at hl 3 rfl) ?_
        refine lv_iconst (v := 1) hx hb dX7_set_32 (by decide) ?_
        refine lv_iconst (v := 5) hx hb dX7_set_33 (by decide) ?_
        refine fr_callIS (As := [.int q3, .int 1, .int 5]) (rest := []) C w kf_X7_within mw_5_18 (c_X7_within l D cI cJ q3 1 5) ⟨Nat.le_of_ble_eq_true rfl, Nat.le_of_ble_eq_true rfl⟩ ⟨Nat.le_refl 0, Nat.le_refl 0⟩ [] rfl rfl rfl (ws' := [(am, .inr (7, [.int mpl, .ref ama, .int msc, .int mtc, .ref amb, .ref amc, .ref amd, .int msr, .int mal, .int mns, .int mnn, .int mnt, .int mfi, .int mnw, .ref ame, .int mmy, .ref amf, .long mbe, .ref amg, .long mmf, .ref amp, .ref amo, .int mbs, .int mco, .long mh])), (ama, .inl (cI, 47, .inl mpg)), (amb, .inl (cI, 16, .inl mam)), (amc, .inl (cI, 4, .inl mwa)), (amd, .inl (cI, 4, .inl mww)), (ame, .inl (cI, 16, .inl mna)), (amf, .inl (cI, 4, .inl mmb)), (amg, .inl (cJ, 4, .inr (.inl msh))), (amp, .inl (cJ, 9, .inr (.inl mpa))), (amo, .inl (cJ, 3, .inr (.inl mgo)))]) rfl rfl hl.1 rfl (Nat.le_of_ble_eq_true rfl) dX7_set_34 (fun H locs w => ?_)
        refine lv_if_eq (tgt := 44) hx hb dX7_set_37 (by decide) (fun c37_4 => ?_) (fun c37_4 => ?_)
        · refine lv_iconst (v := 0) hx hb dX7_set_44 (by decide) ?_
          exact J45_16 0 (by rw [if_neg c13_2, if_pos c28_3, if_pos c37_4]) _ _ w
        · refine lv_iconst (v := 1) hx hb dX7_set_40 (by decide) ?_
          refine lv_goto (tgt := 45) hx hb dX7_set_41 (by decide) ?_
          exact J45_16 1 (by rw [if_neg c13_2, if_pos c28_3, if_neg c37_4]) _ _ w
    · refine lv_iload_n hx hb dX7_set_16 rfl (lv_at hl 3 rfl) ?_
      refine lv_iconst (v := 0) hx hb dX7_set_17 (by decide) ?_
      refine lv_bipush (v := 20) hx hb dX7_set_18 (by decide) ?_
      refine fr_callIS (As := [.int q3, .int 0, .int 20]) (rest := []) C w kf_X7_within mw_5_18 (c_X7_within l D cI cJ q3 0 20) ⟨Nat.le_of_ble_eq_true rfl, Nat.le_of_ble_eq_true rfl⟩ ⟨Nat.le_refl 0, Nat.le_refl 0⟩ [] rfl rfl rfl (ws' := [(am, .inr (7, [.int mpl, .ref ama, .int msc, .int mtc, .ref amb, .ref amc, .ref amd, .int msr, .int mal, .int mns, .int mnn, .int mnt, .int mfi, .int mnw, .ref ame, .int mmy, .ref amf, .long mbe, .ref amg, .long mmf, .ref amp, .ref amo, .int mbs, .int mco, .long mh])), (ama, .inl (cI, 47, .inl mpg)), (amb, .inl (cI, 16, .inl mam)), (amc, .inl (cI, 4, .inl mwa)), (amd, .inl (cI, 4, .inl mww)), (ame, .inl (cI, 16, .inl mna)), (amf, .inl (cI, 4, .inl mmb)), (amg, .inl (cJ, 4, .inr (.inl msh))), (amp, .inl (cJ, 9, .inr (.inl mpa))), (amo, .inl (cJ, 3, .inr (.inl mgo)))]) rfl rfl hl.1 rfl (Nat.le_of_ble_eq_true rfl) dX7_set_20 (fun H locs w => ?_)
      refine lv_goto (tgt := 45) hx hb dX7_set_23 (by decide) ?_
      exact J45_16 (f_X7_within q3 0 20) (by rw [if_pos c13_2]) _ _ w
  · have hr := (if_pos c5_1).symm.trans hr
    refine lv_ldc2 hx hb C.2.2.2.1 (C.2.2.2.2.1 _ mw_12_8) dX7_set_8 ?_
    subst hr hQ
    exact fr_lret C hret hlk w rfl rfl dX7_set_11
def f_X7_alter (msc : Int32) (mtc : Int32) (mal : Int32) (mam : Nat → Int32) (q1 : Int32) (q2 : Int32) (q3 : Int32) : Int64 × Int32 × (Nat → Int32) := (if (f_X7_isSource msc q1) = 0 then ((-1000002), mal, mam) else (if (f_X7_isTracer mtc q2) = 0 then ((-1000002), mal, mam) else (if (f_X7_within q3 0 20) = 0 then ((-1000003), mal, mam) else ((Int32.toInt64 (mam (Int32.toNatClampNeg ((4 * q1) + q2)))), mal + 1, upd mam (Int32.toNatClampNeg ((4 * q1) + q2)) q3))))
set_option maxRecDepth 100000 in
set_option maxHeartbeats 4000000 in
theorem c_X7_alter (l : Launch) (D : va_G) (cI cJ : ClassId) (am ama amb amc amd ame amf amg amp amo : Nat) (mpl : Int32) (msc : Int32) (mtc : Int32) (msr : Int32) (mal : Int32) (mns : Int32) (mnn : Int32) (mnt : Int32) (mfi : Int32) (mnw : Int32) (mmy : Int32) (mbe : Int64) (mmf : Int64) (mbs : Int32) (mco : Int32) (mh : Int64) (mpg : Nat → Int32) (mam : Nat → Int32) (mwa : Nat → Int32) (mww : Nat → Int32) (mna : Nat → Int32) (mmb : Nat → Int32) (msh : Nat → Int64) (mpa : Nat → Int64) (mgo : Nat → Int64) (q1 : Int32) (q2 : Int32) (q3 : Int32) (hms : LE4 msc) (hmt : LE4 mtc) : CL l yX7_alter cX7_alter 5 2 D cI cJ [.ref am, .int q1, .int q2, .int q3] [(am, .inr (7, [.int mpl, .ref ama, .int msc, .int mtc, .ref amb, .ref amc, .ref amd, .int msr, .int mal, .int mns, .int mnn, .int mnt, .int mfi, .int mnw, .ref ame, .int mmy, .ref amf, .long mbe, .ref amg, .long mmf, .ref amp, .ref amo, .int mbs, .int mco, .long mh])), (ama, .inl (cI, 47, .inl mpg)), (amb, .inl (cI, 16, .inl mam)), (amc, .inl (cI, 4, .inl mwa)), (amd, .inl (cI, 4, .inl mww)), (ame, .inl (cI, 16, .inl mna)), (amf, .inl (cI, 4, .inl mmb)), (amg, .inl (cJ, 4, .inr (.inl msh))), (amp, .inl (cJ, 9, .inr (.inl mpa))), (amo, .inl (cJ, 3, .inr (.inl mgo)))] [(am, .inr (7, [.int mpl, .ref ama, .int msc, .int mtc, .ref amb, .ref amc, .ref amd, .int msr, .int ((f_X7_alter msc mtc mal mam q1 q2 q3).2.1), .int mns, .int mnn, .int mnt, .int mfi, .int mnw, .ref ame, .int mmy, .ref amf, .long mbe, .ref amg, .long mmf, .ref amp, .ref amo, .int mbs, .int mco, .long mh])), (ama, .inl (cI, 47, .inl mpg)), (amb, .inl (cI, 16, .inl ((f_X7_alter msc mtc mal mam q1 q2 q3).2.2))), (amc, .inl (cI, 4, .inl mwa)), (amd, .inl (cI, 4, .inl mww)), (ame, .inl (cI, 16, .inl mna)), (amf, .inl (cI, 4, .inl mmb)), (amg, .inl (cJ, 4, .inr (.inl msh))), (amp, .inl (cJ, 9, .inr (.inl mpa))), (amo, .inl (cJ, 3, .inr (.inl mgo)))] ((f_X7_alter msc mtc mal mam q1 q2 q3).1) := by
  generalize hr : f_X7_alter msc mtc mal mam q1 q2 q3 = r
  refine fr_entryL (by decide) rfl ?_
  intro p e s m args below meth c A Q H locs hQ C hret hlk w ls hl
  have hx := C.1
  have hb := C.2.1
  have hl : lv_has ls 5 [(0, .ref am), (1, .int q1), (2, .int q2), (3, .int q3)] := hl
  have hr : (if (f_X7_isSource msc q1) = 0 then ((-1000002), mal, mam) else (if (f_X7_isTracer mtc q2) = 0 then ((-1000002), mal, mam) else (if (f_X7_within q3 0 20) = 0 then ((-1000003), mal, mam) else ((Int32.toInt64 (mam (Int32.toNatClampNeg ((4 * q1) + q2)))), mal + 1, upd mam (Int32.toNatClampNeg ((4 * q1) + q2)) q3)))) = r := hr
  refine lv_aload_n hx hb dX7_alter_0 rfl (lv_at hl 0 rfl) ?_
  refine lv_iload_n hx hb dX7_alter_1 rfl (lv_at hl 1 rfl) ?_
  refine fr_callIV (As := [.int q1]) (rest := []) C w kf_X7_isSource mw_13_2 (c_X7_isSource l D cI cJ am ama amb amc amd ame amf amg amp amo mpl msc mtc msr mal mns mnn mnt mfi mnw mmy mbe mmf mbs mco mh mpg mam mwa mww mna mmb msh mpa mgo q1) ⟨Nat.le_of_ble_eq_true rfl, Nat.le_of_ble_eq_true rfl⟩ ⟨Nat.le_refl 0, Nat.le_refl 0⟩ [0, 1, 2, 3, 4, 5, 6, 7, 8, 9] rfl rfl rfl (ws' := [(am, .inr (7, [.int mpl, .ref ama, .int msc, .int mtc, .ref amb, .ref amc, .ref amd, .int msr, .int mal, .int mns, .int mnn, .int mnt, .int mfi, .int mnw, .ref ame, .int mmy, .ref amf, .long mbe, .ref amg, .long mmf, .ref amp, .ref amo, .int mbs, .int mco, .long mh])), (ama, .inl (cI, 47, .inl mpg)), (amb, .inl (cI, 16, .inl mam)), (amc, .inl (cI, 4, .inl mwa)), (amd, .inl (cI, 4, .inl mww)), (ame, .inl (cI, 16, .inl mna)), (amf, .inl (cI, 4, .inl mmb)), (amg, .inl (cJ, 4, .inr (.inl msh))), (amp, .inl (cJ, 9, .inr (.inl mpa))), (amo, .inl (cJ, 3, .inr (.inl mgo)))]) rfl rfl rfl rfl hl.1 rfl (Nat.le_of_ble_eq_true rfl) dX7_alter_2 (fun H locs w => ?_)
  refine lv_if_eq (tgt := 16) hx hb dX7_alter_5 (by decide) (fun c5_1 => ?_) (fun c5_1 => ?_)
  · have hr := (if_pos c5_1).symm.trans hr
    refine lv_ldc2 hx hb C.2.2.2.1 (C.2.2.2.2.1 _ mw_12_8) dX7_alter_16 ?_
    subst hr hQ
    exact fr_lret C hret hlk w rfl rfl dX7_alter_19
  · have hr := (if_neg c5_1).symm.trans hr
    refine lv_aload_n hx hb dX7_alter_8 rfl (lv_at hl 0 rfl) ?_
    refine lv_iload_n hx hb dX7_alter_9 rfl (lv_at hl 2 rfl) ?_
    refine fr_callIV (As := [.int q2]) (rest := []) C w kf_X7_isTracer mw_12_10 (c_X7_isTracer l D cI cJ am ama amb amc amd ame amf amg amp amo mpl msc mtc msr mal mns mnn mnt mfi mnw mmy mbe mmf mbs mco mh mpg mam mwa mww mna mmb msh mpa mgo q2) ⟨Nat.le_of_ble_eq_true rfl, Nat.le_of_ble_eq_true rfl⟩ ⟨Nat.le_refl 0, Nat.le_refl 0⟩ [0, 1, 2, 3, 4, 5, 6, 7, 8, 9] rfl rfl rfl (ws' := [(am, .inr (7, [.int mpl, .ref ama, .int msc, .int mtc, .ref amb, .ref amc, .ref amd, .int msr, .int mal, .int mns, .int mnn, .int mnt, .int mfi, .int mnw, .ref ame, .int mmy, .ref amf, .long mbe, .ref amg, .long mmf, .ref amp, .ref amo, .int mbs, .int mco, .long mh])), (ama, .inl (cI, 47, .inl mpg)), (amb, .inl (cI, 16, .inl mam)), (amc, .inl (cI, 4, .inl mwa)), (amd, .inl (cI, 4, .inl mww)), (ame, .inl (cI, 16, .inl mna)), (amf, .inl (cI, 4, .inl mmb)), (amg, .inl (cJ, 4, .inr (.inl msh))), (amp, .inl (cJ, 9, .inr (.inl mpa))), (amo, .inl (cJ, 3, .inr (.inl mgo)))]) rfl rfl rfl rfl hl.1 rfl (Nat.le_of_ble_eq_true rfl) dX7_alter_10 (fun H locs w => ?_)
    refine lv_if_ne (tgt := 20) hx hb dX7_alter_13 (by decide) (fun c13_2 => ?_) (fun c13_2 => ?_)
    · have hr := (if_neg c13_2).symm.trans hr
      refine lv_iload_n hx hb dX7_alter_20 rfl (lv_at hl 3 rfl) ?_
      refine lv_iconst (v := 0) hx hb dX7_alter_21 (by decide) ?_
      refine lv_bipush (v := 20) hx hb dX7_alter_22 (by decide) ?_
      refine fr_callIS (As := [.int q3, .int 0, .int 20]) (rest := []) C w kf_X7_within mw_5_18 (c_X7_within l D cI cJ q3 0 20) ⟨Nat.le_of_ble_eq_true rfl, Nat.le_of_ble_eq_true rfl⟩ ⟨Nat.le_refl 0, Nat.le_refl 0⟩ [] rfl rfl rfl (ws' := [(am, .inr (7, [.int mpl, .ref ama, .int msc, .int mtc, .ref amb, .ref amc, .ref amd, .int msr, .int mal, .int mns, .int mnn, .int mnt, .int mfi, .int mnw, .ref ame, .int mmy, .ref amf, .long mbe, .ref amg, .long mmf, .ref amp, .ref amo, .int mbs, .int mco, .long mh])), (ama, .inl (cI, 47, .inl mpg)), (amb, .inl (cI, 16, .inl mam)), (amc, .inl (cI, 4, .inl mwa)), (amd, .inl (cI, 4, .inl mww)), (ame, .inl (cI, 16, .inl mna)), (amf, .inl (cI, 4, .inl mmb)), (amg, .inl (cJ, 4, .inr (.inl msh))), (amp, .inl (cJ, 9, .inr (.inl mpa))), (amo, .inl (cJ, 3, .inr (.inl mgo)))]) rfl rfl hl.1 rfl (Nat.le_of_ble_eq_true rfl) dX7_alter_24 (fun H locs w => ?_)
      refine lv_if_ne (tgt := 34) hx hb dX7_alter_27 (by decide) (fun c27_3 => ?_) (fun c27_3 => ?_)
      · have hr := (if_neg c27_3).symm.trans hr
        refine lv_aload_n hx hb dX7_alter_34 rfl (lv_at hl 0 rfl) ?_
        refine fr_get C w fg_X7_13 0 rfl rfl dX7_alter_35 ?_
        refine lv_iconst (v := 4) hx hb dX7_alter_38 (by decide) ?_
        refine lv_iload_n hx hb dX7_alter_39 rfl (lv_at hl 1 rfl) ?_
        refine lv_imul hx hb dX7_alter_40 ?_
        refine lv_iload_n hx hb dX7_alter_41 rfl (lv_at hl 2 rfl) ?_
        refine lv_iadd hx hb dX7_alter_42 ?_
        refine fr_iald C w 2 rfl (vi_4 (trc_L4 (by assumption) hms) (trc_L4 (by assumption) hmt)) dX7_alter_43 ?_
        refine lv_istore (lv' := [(4, .int (mam (Int32.toNatClampNeg ((4 * q1) + q2)))), (0, .ref am), (1, .int q1), (2, .int q2), (3, .int q3)]) hx hb dX7_alter_44 hl (by decide) rfl (fun ls hl => ?_)
        refine lv_aload_n hx hb dX7_alter_46 rfl (lv_at hl 1 rfl) ?_
        refine fr_get C w fg_X7_13 0 rfl rfl dX7_alter_47 ?_
        refine lv_iconst (v := 4) hx hb dX7_alter_50 (by decide) ?_
        refine lv_iload_n hx hb dX7_alter_51 rfl (lv_at hl 2 rfl) ?_
        refine lv_imul hx hb dX7_alter_52 ?_
        refine lv_iload_n hx hb dX7_alter_53 rfl (lv_at hl 3 rfl) ?_
        refine lv_iadd hx hb dX7_alter_54 ?_
        refine lv_iload_n hx hb dX7_alter_55 rfl (lv_at hl 4 rfl) ?_
        refine fr_iast C w 2 rfl (vi_4 (trc_L4 (by assumption) hms) (trc_L4 (by assumption) hmt)) (ws' := [(am, .inr (7, [.int mpl, .ref ama, .int msc, .int mtc, .ref amb, .ref amc, .ref amd, .int msr, .int mal, .int mns, .int mnn, .int mnt, .int mfi, .int mnw, .ref ame, .int mmy, .ref amf, .long mbe, .ref amg, .long mmf, .ref amp, .ref amo, .int mbs, .int mco, .long mh])), (ama, .inl (cI, 47, .inl mpg)), (amb, .inl (cI, 16, .inl (upd mam (Int32.toNatClampNeg ((4 * q1) + q2)) q3))), (amc, .inl (cI, 4, .inl mwa)), (amd, .inl (cI, 4, .inl mww)), (ame, .inl (cI, 16, .inl mna)), (amf, .inl (cI, 4, .inl mmb)), (amg, .inl (cJ, 4, .inr (.inl msh))), (amp, .inl (cJ, 9, .inr (.inl mpa))), (amo, .inl (cJ, 3, .inr (.inl mgo)))]) rfl dX7_alter_56 (fun H locs w => ?_)
        refine lv_aload_n hx hb dX7_alter_57 rfl (lv_at hl 1 rfl) ?_
        refine lv_dup hx hb dX7_alter_58 rfl ?_
        refine fr_get C w fg_X7_92 0 rfl rfl dX7_alter_59 ?_
        refine lv_iconst (v := 1) hx hb dX7_alter_62 (by decide) ?_
        refine lv_iadd hx hb dX7_alter_63 ?_
        refine fr_put C w fp_X7_92 0 rfl rfl rfl rfl (ws' := [(am, .inr (7, [.int mpl, .ref ama, .int msc, .int mtc, .ref amb, .ref amc, .ref amd, .int msr, .int (mal + 1), .int mns, .int mnn, .int mnt, .int mfi, .int mnw, .ref ame, .int mmy, .ref amf, .long mbe, .ref amg, .long mmf, .ref amp, .ref amo, .int mbs, .int mco, .long mh])), (ama, .inl (cI, 47, .inl mpg)), (amb, .inl (cI, 16, .inl (upd mam (Int32.toNatClampNeg ((4 * q1) + q2)) q3))), (amc, .inl (cI, 4, .inl mwa)), (amd, .inl (cI, 4, .inl mww)), (ame, .inl (cI, 16, .inl mna)), (amf, .inl (cI, 4, .inl mmb)), (amg, .inl (cJ, 4, .inr (.inl msh))), (amp, .inl (cJ, 9, .inr (.inl mpa))), (amo, .inl (cJ, 3, .inr (.inl mgo)))]) rfl dX7_alter_64 (fun H locs w => ?_)
        refine lv_iload hx hb dX7_alter_67 (lv_at hl 0 rfl) ?_
        refine lv_i2l (v := (Int32.toInt64 (mam (Int32.toNatClampNeg ((4 * q1) + q2))))) hx hb dX7_alter_69 rfl ?_
        subst hr hQ
        exact fr_lret C hret hlk w rfl rfl dX7_alter_70
      · have hr := (if_pos c27_3).symm.trans hr
        refine lv_ldc2 hx hb C.2.2.2.1 (C.2.2.2.2.1 _ mw_5_15) dX7_alter_30 ?_
        subst hr hQ
        exact fr_lret C hret hlk w rfl rfl dX7_alter_33
    · have hr := (if_pos c13_2).symm.trans hr
      refine lv_ldc2 hx hb C.2.2.2.1 (C.2.2.2.2.1 _ mw_12_8) dX7_alter_16 ?_
      subst hr hQ
      exact fr_lret C hret hlk w rfl rfl dX7_alter_19
def L_X7_sumBy_8 (msc : Int32) (mam : Nat → Int32) (q1 : Int32) : Nat → Int32 → Int32 → Int32 → Int32 × Int32 × Int32
  | 0, _, _, _ => (0, 0, 0)
  | n8 + 1, i1, i2, i3 => (if msc ≤ i3 then (i1, i2, i3) else L_X7_sumBy_8 msc mam q1 n8 (i1 + ((i2 - i2 / 10 * 10) * (mam (Int32.toNatClampNeg ((4 * i3) + q1))))) (i2 / 10) (i3 + 1))
def f_X7_sumBy (msc : Int32) (mam : Nat → Int32) (q1 : Int32) (q2 : Int32) : Int32 := ((fun (y8 : Int32 × Int32 × Int32) => y8.1) (L_X7_sumBy_8 msc mam q1 5 0 q2 0))
set_option maxRecDepth 100000 in
set_option maxHeartbeats 4000000 in
theorem c_X7_sumBy (l : Launch) (D : va_G) (cI cJ : ClassId) (am ama amb amc amd ame amf amg amp amo : Nat) (mpl : Int32) (msc : Int32) (mtc : Int32) (msr : Int32) (mal : Int32) (mns : Int32) (mnn : Int32) (mnt : Int32) (mfi : Int32) (mnw : Int32) (mmy : Int32) (mbe : Int64) (mmf : Int64) (mbs : Int32) (mco : Int32) (mh : Int64) (mpg : Nat → Int32) (mam : Nat → Int32) (mwa : Nat → Int32) (mww : Nat → Int32) (mna : Nat → Int32) (mmb : Nat → Int32) (msh : Nat → Int64) (mpa : Nat → Int64) (mgo : Nat → Int64) (q1 : Int32) (q2 : Int32) (hms : LE4 msc) (hq1 : L4 q1) : CI l yX7_sumBy cX7_sumBy 6 .int 0 D cI cJ [.ref am, .int q1, .int q2] [(am, .inr (7, [.int mpl, .ref ama, .int msc, .int mtc, .ref amb, .ref amc, .ref amd, .int msr, .int mal, .int mns, .int mnn, .int mnt, .int mfi, .int mnw, .ref ame, .int mmy, .ref amf, .long mbe, .ref amg, .long mmf, .ref amp, .ref amo, .int mbs, .int mco, .long mh])), (ama, .inl (cI, 47, .inl mpg)), (amb, .inl (cI, 16, .inl mam)), (amc, .inl (cI, 4, .inl mwa)), (amd, .inl (cI, 4, .inl mww)), (ame, .inl (cI, 16, .inl mna)), (amf, .inl (cI, 4, .inl mmb)), (amg, .inl (cJ, 4, .inr (.inl msh))), (amp, .inl (cJ, 9, .inr (.inl mpa))), (amo, .inl (cJ, 3, .inr (.inl mgo)))] [(am, .inr (7, [.int mpl, .ref ama, .int msc, .int mtc, .ref amb, .ref amc, .ref amd, .int msr, .int mal, .int mns, .int mnn, .int mnt, .int mfi, .int mnw, .ref ame, .int mmy, .ref amf, .long mbe, .ref amg, .long mmf, .ref amp, .ref amo, .int mbs, .int mco, .long mh])), (ama, .inl (cI, 47, .inl mpg)), (amb, .inl (cI, 16, .inl mam)), (amc, .inl (cI, 4, .inl mwa)), (amd, .inl (cI, 4, .inl mww)), (ame, .inl (cI, 16, .inl mna)), (amf, .inl (cI, 4, .inl mmb)), (amg, .inl (cJ, 4, .inr (.inl msh))), (amp, .inl (cJ, 9, .inr (.inl mpa))), (amo, .inl (cJ, 3, .inr (.inl mgo)))] (f_X7_sumBy msc mam q1 q2) := by
  generalize hr : f_X7_sumBy msc mam q1 q2 = r
  obtain ⟨nms, hms1, hms2⟩ := id hms
  refine fr_entryI (by decide) rfl ?_
  intro p e s m args below meth c A Q H locs hQ C hret hlk w ls hl
  have hx := C.1
  have hb := C.2.1
  have hl : lv_has ls 6 [(0, .ref am), (1, .int q1), (2, .int q2)] := hl
  have hr : ((fun (y8 : Int32 × Int32 × Int32) => y8.1) (L_X7_sumBy_8 msc mam q1 5 0 q2 0)) = r := hr
  refine lv_iconst (v := 0) hx hb dX7_sumBy_0 (by decide) ?_
  refine lv_istore_n (lv' := [(3, .int 0), (0, .ref am), (1, .int q1), (2, .int q2)]) hx hb dX7_sumBy_1 rfl hl (by decide) rfl (fun ls hl => ?_)
  refine lv_iload_n hx hb dX7_sumBy_2 rfl (lv_at hl 3 rfl) ?_
  refine lv_istore (lv' := [(4, .int q2), (3, .int 0), (0, .ref am), (1, .int q1), (2, .int q2)]) hx hb dX7_sumBy_3 hl (by decide) rfl (fun ls hl => ?_)
  refine lv_iconst (v := 0) hx hb dX7_sumBy_5 (by decide) ?_
  refine lv_istore (lv' := [(5, .int 0), (4, .int q2), (3, .int 0), (0, .ref am), (1, .int q1), (2, .int q2)]) hx hb dX7_sumBy_6 hl (by decide) rfl (fun ls hl => ?_)
  obtain ⟨y8, hy8⟩ : ∃ y, y = L_X7_sumBy_8 msc mam q1 5 0 q2 0 := ⟨_, rfl⟩
  have hr : y8.1 = r := by rw [hy8]; exact hr
  have X8 : ∀ (H : Heap) (locs : List Loc), Wd D A s.heap H locs [(am, .inr (7, [.int mpl, .ref ama, .int msc, .int mtc, .ref amb, .ref amc, .ref amd, .int msr, .int mal, .int mns, .int mnn, .int mnt, .int mfi, .int mnw, .ref ame, .int mmy, .ref amf, .long mbe, .ref amg, .long mmf, .ref amp, .ref amo, .int mbs, .int mco, .long mh])), (ama, .inl (cI, 47, .inl mpg)), (amb, .inl (cI, 16, .inl mam)), (amc, .inl (cI, 4, .inl mwa)), (amd, .inl (cI, 4, .inl mww)), (ame, .inl (cI, 16, .inl mna)), (amf, .inl (cI, 4, .inl mmb)), (amg, .inl (cJ, 4, .inr (.inl msh))), (amp, .inl (cJ, 9, .inr (.inl mpa))), (amo, .inl (cJ, 3, .inr (.inl mgo)))] → ∀ (ls : Array Slot), lv_has ls 6 [(0, .ref am), (1, .int q1), (2, .int q2), (3, .int y8.1), (4, .int y8.2.1), (5, .int y8.2.2)] → W p l e (rl 0) s m args below meth c H locs 0 0 Q (F0 m 50 ls []) := by
    intro H locs w ls hl
    refine lv_iload_n hx hb dX7_sumBy_50 rfl (lv_at hl 3 rfl) ?_
    subst hr hQ
    exact fr_iret (W0 := []) C hret hlk w rfl rfl rfl dX7_sumBy_51
  have LP8 : ∀ (n8 : Nat) (k8 : Nat) (i1 : Int32) (i2 : Int32) (i3 : Int32), i3 = nI k8 → k8 ≤ nms → nms < k8 + n8 → L_X7_sumBy_8 msc mam q1 n8 i1 i2 i3 = y8 → ∀ (H : Heap) (locs : List Loc), Wd D A s.heap H locs [(am, .inr (7, [.int mpl, .ref ama, .int msc, .int mtc, .ref amb, .ref amc, .ref amd, .int msr, .int mal, .int mns, .int mnn, .int mnt, .int mfi, .int mnw, .ref ame, .int mmy, .ref amf, .long mbe, .ref amg, .long mmf, .ref amp, .ref amo, .int mbs, .int mco, .long mh])), (ama, .inl (cI, 47, .inl mpg)), (amb, .inl (cI, 16, .inl mam)), (amc, .inl (cI, 4, .inl mwa)), (amd, .inl (cI, 4, .inl mww)), (ame, .inl (cI, 16, .inl mna)), (amf, .inl (cI, 4, .inl mmb)), (amg, .inl (cJ, 4, .inr (.inl msh))), (amp, .inl (cJ, 9, .inr (.inl mpa))), (amo, .inl (cJ, 3, .inr (.inl mgo)))] → ∀ (ls : Array Slot), lv_has ls 6 [(0, .ref am), (1, .int q1), (2, .int q2), (3, .int i1), (4, .int i2), (5, .int i3)] → W p l e (rl 0) s m args below meth c H locs 0 0 Q (F0 m 8 ls []) := by
    clear hr
    intro n8
    induction n8 with
    | zero => intro k8 i1 i2 i3 hk8 hkN8 hn8; exact absurd hn8 (by omega)
    | succ n8 ih8 =>
      intro k8 i1 i2 i3 hk8 hkN8 hn8 hr H locs w ls hl
      have hr : (if msc ≤ i3 then (i1, i2, i3) else L_X7_sumBy_8 msc mam q1 n8 (i1 + ((i2 - i2 / 10 * 10) * (mam (Int32.toNatClampNeg ((4 * i3) + q1))))) (i2 / 10) (i3 + 1)) = y8 := hr
      refine lv_iload hx hb dX7_sumBy_8 (lv_at hl 5 rfl) ?_
      refine lv_aload_n hx hb dX7_sumBy_10 rfl (lv_at hl 0 rfl) ?_
      refine fr_get C w fg_X7_78 0 rfl rfl dX7_sumBy_11 ?_
      refine lv_icmp_ge (tgt := 50) hx hb dX7_sumBy_14 (by decide) (fun c14_4 => ?_) (fun c14_4 => ?_)
      · have hr := (if_pos c14_4).symm.trans hr
        subst hr
        exact X8 H locs w ls (lv_sub hl [0, 1, 2, 3, 4, 5] rfl)
      · have hr := (if_neg c14_4).symm.trans hr
        have hkl8 := kl_of hk8 hkN8 (N := nms) hms2 (by omega) c14_4
        refine lv_iload_n hx hb dX7_sumBy_17 rfl (lv_at hl 3 rfl) ?_
        refine lv_iload hx hb dX7_sumBy_18 (lv_at hl 4 rfl) ?_
        refine lv_bipush (v := 10) hx hb dX7_sumBy_20 (by decide) ?_
        refine lv_irem hx hb dX7_sumBy_22 (by decide) ?_
        refine lv_aload_n hx hb dX7_sumBy_23 rfl (lv_at hl 0 rfl) ?_
        refine fr_get C w fg_X7_13 0 rfl rfl dX7_sumBy_24 ?_
        refine lv_iconst (v := 4) hx hb dX7_sumBy_27 (by decide) ?_
        refine lv_iload hx hb dX7_sumBy_28 (lv_at hl 5 rfl) ?_
        refine lv_imul hx hb dX7_sumBy_30 ?_
        refine lv_iload_n hx hb dX7_sumBy_31 rfl (lv_at hl 1 rfl) ?_
        refine lv_iadd hx hb dX7_sumBy_32 ?_
        refine fr_iald C w 2 rfl (vi_4 ⟨k8, by omega, hk8⟩ hq1) dX7_sumBy_33 ?_
        refine lv_imul hx hb dX7_sumBy_34 ?_
        refine lv_iadd hx hb dX7_sumBy_35 ?_
        refine lv_istore_n (lv' := [(3, .int (i1 + ((i2 - i2 / 10 * 10) * (mam (Int32.toNatClampNeg ((4 * i3) + q1)))))), (0, .ref am), (1, .int q1), (2, .int q2), (4, .int i2), (5, .int i3)]) hx hb dX7_sumBy_36 rfl hl (by decide) rfl (fun ls hl => ?_)
        refine lv_iload hx hb dX7_sumBy_37 (lv_at hl 4 rfl) ?_
        refine lv_bipush (v := 10) hx hb dX7_sumBy_39 (by decide) ?_
        refine lv_idiv hx hb dX7_sumBy_41 (by decide) ?_
        refine lv_istore (lv' := [(4, .int (i2 / 10)), (3, .int (i1 + ((i2 - i2 / 10 * 10) * (mam (Int32.toNatClampNeg ((4 * i3) + q1)))))), (0, .ref am), (1, .int q1), (2, .int q2), (5, .int i3)]) hx hb dX7_sumBy_42 hl (by decide) rfl (fun ls hl => ?_)
        refine lv_iinc (v := i3 + 1) (lv' := [(5, .int (i3 + 1)), (4, .int (i2 / 10)), (3, .int (i1 + ((i2 - i2 / 10 * 10) * (mam (Int32.toNatClampNeg ((4 * i3) + q1)))))), (0, .ref am), (1, .int q1), (2, .int q2)]) hx hb dX7_sumBy_44 hl (k := 5) rfl rfl (by decide) rfl (fun ls hl => ?_)
        refine lv_goto (tgt := 8) hx hb dX7_sumBy_47 (by decide) ?_
        exact ih8 (k8 + 1) (i1 + ((i2 - i2 / 10 * 10) * (mam (Int32.toNatClampNeg ((4 * i3) + q1))))) (i2 / 10) (i3 + 1) (by rw [hk8]; exact nI_1 k8) (by omega) (by omega) hr H locs w ls (lv_sub hl [3, 4, 5, 2, 1, 0] rfl)
  exact LP8 5 0 0 q2 0 (by decide) (by omega) (by omega) hy8.symm H locs w ls (lv_sub hl [3, 4, 5, 2, 1, 0] rfl)
