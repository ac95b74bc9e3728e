theorem mw_29_22 : Cond.constantLong RX7 206 (1709) ∈ wsL_law := ck_29 _ (List.mem_of_getElem? (i := 22) rfl)
theorem mw_30_5 : Cond.methodLink RX7 208 yX7_mixBy ∈ wsL_law := ck_30 _ (List.mem_of_getElem? (i := 5) rfl)
theorem mw_30_8 : Cond.code yX7_mixBy cX7_mixBy 3 none ∈ wsL_law := ck_30 _ (List.mem_of_getElem? (i := 8) rfl)
theorem mw_30_6 : Cond.instanceMethod yX7_mixBy ∈ wsL_law := ck_30 _ (List.mem_of_getElem? (i := 6) rfl)
theorem mw_30_7 : Cond.selects RX7 yX7_mixBy yX7_mixBy ∈ wsL_law := ck_30 _ (List.mem_of_getElem? (i := 7) rfl)
theorem kf_X7_mixBy : KV RX7 yX7_mixBy cX7_mixBy 3 none 1 := ⟨mw_30_8, mw_30_6, mw_30_7, mw_1_5, by decide, by decide, by decide +kernel⟩
def L_X7_digest_19 (mtc : Int32) (mam : Nat → Int32) (i1 : Int32) : Nat → Int32 → Int64 → Int32 × Int64
  | 0, _, _ => (0, 0)
  | n19 + 1, i4, w5 => (if 4 ≤ i4 then (i4, w5) else ((fun (z28_7 : Int64) => ((fun (z31_8 : Int64) => L_X7_digest_19 mtc mam i1 n19 (i4 + 1) z31_8) (f_X7_mix w5 z28_7))) (f_X7_hasNow mtc mam i1 i4)))
def L_X7_digest_9 (msc : Int32) (mtc : Int32) (mam : Nat → Int32) : Nat → Int32 → Int64 → Int32 × Int64
  | 0, _, _ => (0, 0)
  | n9 + 1, i1, w2 => (if msc ≤ i1 then (i1, w2) else ((fun (y19 : Int32 × Int64) => L_X7_digest_9 msc mtc mam n9 (i1 + 1) y19.2) (L_X7_digest_19 mtc mam i1 5 0 w2)))
def L_X7_digest_48 (mtc : Int32) (mwa : Nat → Int32) (mww : Nat → Int32) : Nat → Int32 → Int64 → Int32 × Int64
  | 0, _, _ => (0, 0)
  | n48 + 1, i9, w10 => (if mtc ≤ i9 then (i9, w10) else ((fun (z64_12 : Int64) => ((fun (z75_13 : Int64) => L_X7_digest_48 mtc mwa mww n48 (i9 + 1) z75_13) (f_X7_mix z64_12 (Int32.toInt64 (mww (Int32.toNatClampNeg i9)))))) (f_X7_mix w10 (Int32.toInt64 (mwa (Int32.toNatClampNeg i9))))))
def L_X7_digest_105 (msc : Int32) (mtc : Int32) (mam : Nat → Int32) (mwa : Nat → Int32) (mww : Nat → Int32) : Nat → Int32 → Int32 → Int64 → Int64 → Int32 → Int32 → Int64 → (Nat → Int32) → (Nat → Int64) → (Nat → Int64) → (Nat → Int64) → Int32 × Int32 × Int64 × Int64 × Int32 × Int32 × Int64 × (Nat → Int32) × (Nat → Int64) × (Nat → Int64) × (Nat → Int64)
  | 0, _, _, _, _, _, _, _, _, _, _, _ => (0, 0, 0, 0, 0, 0, 0, fun _ => 0, fun _ => 0, fun _ => 0, fun _ => 0)
  | n105 + 1, i15, w16, w17, w18, w19, w20, w21, w22, w23, w24, w25 => (if mtc ≤ i15 then (i15, w16, w17, w18, w19, w20, w21, w22, w23, w24, w25) else (if mtc ≤ 1 then (i15, w16, w17, w18, w19, w20, w21, w22, w23, w24, w25) else ((fun (z136_28 : Int32 × Int64 × Int64 × Int32 × Int32 × Int64 × (Nat → Int32) × (Nat → Int64) × (Nat → Int64) × (Nat → Int64)) => L_X7_digest_105 msc mtc mam mwa mww n105 (i15 + 1) z136_28.1 z136_28.2.1 z136_28.2.2.1 z136_28.2.2.2.1 z136_28.2.2.2.2.1 z136_28.2.2.2.2.2.1 z136_28.2.2.2.2.2.2.1 z136_28.2.2.2.2.2.2.2.1 z136_28.2.2.2.2.2.2.2.2.1 z136_28.2.2.2.2.2.2.2.2.2) (f_X7_mixBy msc mtc w16 w17 w18 w21 mam mwa mww w22 w23 w24 w25 ((((1 : Int32) <<< (mtc &&& 31)) - 1) &&& (((1 : Int32) <<< (i15 &&& 31)) ^^^ (-1)))))))
def L_X7_digest_147 (mpl : Int32) (mpg : Nat → Int32) : Nat → Int32 → Int64 → Int32 × Int64
  | 0, _, _ => (0, 0)
  | n147 + 1, i29, w30 => (if mpl ≤ i29 then (i29, w30) else ((fun (z163_32 : Int64) => L_X7_digest_147 mpl mpg n147 (i29 + 1) z163_32) (f_X7_mix w30 (Int32.toInt64 (mpg (Int32.toNatClampNeg i29))))))
def L_X7_digest_174 (mpl : Int32) (msc : Int32) (mtc : Int32) (msr : Int32) (mal : Int32) : Nat → Int32 → Int64 → Int32 × Int64
  | 0, _, _ => (0, 0)
  | n174 + 1, i33, w34 => (if 5 ≤ i33 then (i33, w34) else ((fun (z182_36 : Int64) => ((fun (z185_37 : Int64) => L_X7_digest_174 mpl msc mtc msr mal n174 (i33 + 1) z185_37) (f_X7_mix w34 z182_36))) (f_X7_howMany mpl msc mtc msr mal i33)))
def L_X7_digest_105b (msc : Int32) (mtc : Int32) (mam : Nat → Int32) (mwa : Nat → Int32) (mww : Nat → Int32) : Nat → Int32 → Int32 → Int64 → Int64 → Int32 → Int32 → Int64 → (Nat → Int32) → (Nat → Int64) → (Nat → Int64) → (Nat → Int64) → Int32 × Int32 × Int64 × Int64 × Int32 × Int32 × Int64 × (Nat → Int32) × (Nat → Int64) × (Nat → Int64) × (Nat → Int64)
  | 0, _, _, _, _, _, _, _, _, _, _, _ => (0, 0, 0, 0, 0, 0, 0, fun _ => 0, fun _ => 0, fun _ => 0, fun _ => 0)
  | n105 + 1, i39, w40, w41, w42, w43, w44, w45, w46, w47, w48, w49 => (if mtc ≤ i39 then (i39, w40, w41, w42, w43, w44, w45, w46, w47, w48, w49) else (if mtc ≤ 1 then (i39, w40, w41, w42, w43, w44, w45, w46, w47, w48, w49) else ((fun (z136_52 : Int32 × Int64 × Int64 × Int32 × Int32 × Int64 × (Nat → Int32) × (Nat → Int64) × (Nat → Int64) × (Nat → Int64)) => L_X7_digest_105b msc mtc mam mwa mww n105 (i39 + 1) z136_52.1 z136_52.2.1 z136_52.2.2.1 z136_52.2.2.2.1 z136_52.2.2.2.2.1 z136_52.2.2.2.2.2.1 z136_52.2.2.2.2.2.2.1 z136_52.2.2.2.2.2.2.2.1 z136_52.2.2.2.2.2.2.2.2.1 z136_52.2.2.2.2.2.2.2.2.2) (f_X7_mixBy msc mtc w40 w41 w42 w45 mam mwa mww w46 w47 w48 w49 ((((1 : Int32) <<< (mtc &&& 31)) - 1) &&& (((1 : Int32) <<< (i39 &&& 31)) ^^^ (-1)))))))
def L_X7_digest_147b (mpl : Int32) (mpg : Nat → Int32) : Nat → Int32 → Int64 → Int32 × Int64
  | 0, _, _ => (0, 0)
  | n147 + 1, i53, w54 => (if mpl ≤ i53 then (i53, w54) else ((fun (z163_56 : Int64) => L_X7_digest_147b mpl mpg n147 (i53 + 1) z163_56) (f_X7_mix w54 (Int32.toInt64 (mpg (Int32.toNatClampNeg i53))))))
def L_X7_digest_174b (mpl : Int32) (msc : Int32) (mtc : Int32) (msr : Int32) (mal : Int32) : Nat → Int32 → Int64 → Int32 × Int64
  | 0, _, _ => (0, 0)
  | n174 + 1, i57, w58 => (if 5 ≤ i57 then (i57, w58) else ((fun (z182_60 : Int64) => ((fun (z185_61 : Int64) => L_X7_digest_174b mpl msc mtc msr mal n174 (i57 + 1) z185_61) (f_X7_mix w58 z182_60))) (f_X7_howMany mpl msc mtc msr mal i57)))
def f_X7_digest (mpl : Int32) (msc : Int32) (mtc : Int32) (msr : Int32) (mal : Int32) (mmy : Int32) (mbe : Int64) (mmf : Int64) (mbs : Int32) (mco : Int32) (mpg : Nat → Int32) (mam : Nat → Int32) (mwa : Nat → Int32) (mww : Nat → Int32) (mmb : Nat → Int32) (msh : Nat → Int64) (mpa : Nat → Int64) (mgo : Nat → Int64) : Int64 × Int32 × Int64 × Int64 × Int32 × Int32 × Int64 × (Nat → Int32) × (Nat → Int64) × (Nat → Int64) × (Nat → Int64) := ((fun (y9 : Int32 × Int64) => ((fun (y48 : Int32 × Int64) => (if msc ≤ 0 then ((fun (y105 : Int32 × Int32 × Int64 × Int64 × Int32 × Int32 × Int64 × (Nat → Int32) × (Nat → Int64) × (Nat → Int64) × (Nat → Int64)) => ((fun (y147 : Int32 × Int64) => ((fun (y174 : Int32 × Int64) => (y174.2, y105.2.1, y105.2.2.1, y105.2.2.2.1, y105.2.2.2.2.1, y105.2.2.2.2.2.1, y174.2, y105.2.2.2.2.2.2.2.1, y105.2.2.2.2.2.2.2.2.1, y105.2.2.2.2.2.2.2.2.2.1, y105.2.2.2.2.2.2.2.2.2.2)) (L_X7_digest_174 mpl msc mtc msr mal 6 0 y147.2))) (L_X7_digest_147 mpl mpg 48 0 y105.2.2.2.2.2.2.1))) (L_X7_digest_105 msc mtc mam mwa mww 5 0 mmy mbe mmf mbs mco y48.2 mmb msh mpa mgo)) else ((fun (z100_38 : Int32 × Int64 × Int64 × Int32 × Int32 × Int64 × (Nat → Int32) × (Nat → Int64) × (Nat → Int64) × (Nat → Int64)) => ((fun (y105 : Int32 × Int32 × Int64 × Int64 × Int32 × Int32 × Int64 × (Nat → Int32) × (Nat → Int64) × (Nat → Int64) × (Nat → Int64)) => ((fun (y147 : Int32 × Int64) => ((fun (y174 : Int32 × Int64) => (y174.2, y105.2.1, y105.2.2.1, y105.2.2.2.1, y105.2.2.2.2.1, y105.2.2.2.2.2.1, y174.2, y105.2.2.2.2.2.2.2.1, y105.2.2.2.2.2.2.2.2.1, y105.2.2.2.2.2.2.2.2.2.1, y105.2.2.2.2.2.2.2.2.2.2)) (L_X7_digest_174b mpl msc mtc msr mal 6 0 y147.2))) (L_X7_digest_147b mpl mpg 48 0 y105.2.2.2.2.2.2.1))) (L_X7_digest_105b msc mtc mam mwa mww 5 0 z100_38.1 z100_38.2.1 z100_38.2.2.1 z100_38.2.2.2.1 z100_38.2.2.2.2.1 z100_38.2.2.2.2.2.1 z100_38.2.2.2.2.2.2.1 z100_38.2.2.2.2.2.2.2.1 z100_38.2.2.2.2.2.2.2.2.1 z100_38.2.2.2.2.2.2.2.2.2))) (f_X7_mixBy msc mtc mmy mbe mmf y48.2 mam mwa mww mmb msh mpa mgo (((1 : Int32) <<< (mtc &&& 31)) - 1))))) (L_X7_digest_48 mtc mwa mww 5 0 y9.2))) (L_X7_digest_9 msc mtc mam 5 0 1709))
set_option maxRecDepth 100000 in
set_option maxHeartbeats 4000000 in
theorem c_X7_digest (l : Launch) (D : va_G) (cI cJ : ClassId) (am ama amb amc amd ame amf amg amp amo : Nat) (mpl : Int32) (msc : Int32) (mtc : Int32) (msr : Int32) (mal : Int32) (mns : Int32) (mnn : Int32) (mnt : Int32) (mfi : Int32) (mnw : Int32) (mmy : Int32) (mbe : Int64) (mmf : Int64) (mbs : Int32) (mco : Int32) (mh : Int64) (mpg : Nat → Int32) (mam : Nat → Int32) (mwa : Nat → Int32) (mww : Nat → Int32) (mna : Nat → Int32) (mmb : Nat → Int32) (msh : Nat → Int64) (mpa : Nat → Int64) (mgo : Nat → Int64)  (hmp : ∃ n : Nat, n ≤ 47 ∧ mpl = nI n) (hms : LE4 msc) (hmt : LE4 mtc) (hmb : MB mmb) (hpos : HPOSd msc mtc mam mwa mww) (hbe : HBEd msc mtc mam mwa mww) : CL l yX7_digest cX7_digest 3 5 D cI cJ [.ref am] [(am, .inr (7, [.int mpl, .ref ama, .int msc, .int mtc, .ref amb, .ref amc, .ref amd, .int msr, .int mal, .int mns, .int mnn, .int mnt, .int mfi, .int mnw, .ref ame, .int mmy, .ref amf, .long mbe, .ref amg, .long mmf, .ref amp, .ref amo, .int mbs, .int mco, .long mh])), (ama, .inl (cI, 47, .inl mpg)), (amb, .inl (cI, 16, .inl mam)), (amc, .inl (cI, 4, .inl mwa)), (amd, .inl (cI, 4, .inl mww)), (ame, .inl (cI, 16, .inl mna)), (amf, .inl (cI, 4, .inl mmb)), (amg, .inl (cJ, 4, .inr (.inl msh))), (amp, .inl (cJ, 9, .inr (.inl mpa))), (amo, .inl (cJ, 3, .inr (.inl mgo)))] [(am, .inr (7, [.int mpl, .ref ama, .int msc, .int mtc, .ref amb, .ref amc, .ref amd, .int msr, .int mal, .int mns, .int mnn, .int mnt, .int mfi, .int mnw, .ref ame, .int ((f_X7_digest mpl msc mtc msr mal mmy mbe mmf mbs mco mpg mam mwa mww mmb msh mpa mgo).2.1), .ref amf, .long ((f_X7_digest mpl msc mtc msr mal mmy mbe mmf mbs mco mpg mam mwa mww mmb msh mpa mgo).2.2.1), .ref amg, .long ((f_X7_digest mpl msc mtc msr mal mmy mbe mmf mbs mco mpg mam mwa mww mmb msh mpa mgo).2.2.2.1), .ref amp, .ref amo, .int ((f_X7_digest mpl msc mtc msr mal mmy mbe mmf mbs mco mpg mam mwa mww mmb msh mpa mgo).2.2.2.2.1), .int ((f_X7_digest mpl msc mtc msr mal mmy mbe mmf mbs mco mpg mam mwa mww mmb msh mpa mgo).2.2.2.2.2.1), .long ((f_X7_digest mpl msc mtc msr mal mmy mbe mmf mbs mco mpg mam mwa mww mmb msh mpa mgo).2.2.2.2.2.2.1)])), (ama, .inl (cI, 47, .inl mpg)), (amb, .inl (cI, 16, .inl mam)), (amc, .inl (cI, 4, .inl mwa)), (amd, .inl (cI, 4, .inl mww)), (ame, .inl (cI, 16, .inl mna)), (amf, .inl (cI, 4, .inl ((f_X7_digest mpl msc mtc msr mal mmy mbe mmf mbs mco mpg mam mwa mww mmb msh mpa mgo).2.2.2.2.2.2.2.1))), (amg, .inl (cJ, 4, .inr (.inl ((f_X7_digest mpl msc mtc msr mal mmy mbe mmf mbs mco mpg mam mwa mww mmb msh mpa mgo).2.2.2.2.2.2.2.2.1)))), (amp, .inl (cJ, 9, .inr (.inl ((f_X7_digest mpl msc mtc msr mal mmy mbe mmf mbs mco mpg mam mwa mww mmb msh mpa mgo).2.2.2.2.2.2.2.2.2.1)))), (amo, .inl (cJ, 3, .inr (.inl ((f_X7_digest mpl msc mtc msr mal mmy mbe mmf mbs mco mpg mam mwa mww mmb msh mpa mgo).2.2.2.2.2.2.2.2.2.2))))] ((f_X7_digest mpl msc mtc msr mal mmy mbe mmf mbs mco mpg mam mwa mww mmb msh mpa mgo).1) := by
  generalize hr : f_X7_digest mpl msc mtc msr mal mmy mbe mmf mbs mco mpg mam mwa mww mmb msh mpa mgo = r
  obtain ⟨nmp, hmp1, hmp2⟩ := id hmp
  obtain ⟨nms, hms1, hms2⟩ := id hms
  obtain ⟨nmt, hmt1, hmt2⟩ := id hmt
  refine fr_entryL (by decide) rfl ?_
  intro p e s m args below meth c A Q H locs hQ C hret hlk w ls hl
  have hx := C.1
  have hb := C.2.1
  have hl : lv_has ls 3 [(0, .ref am)] := hl
  have hr : ((fun (y9 : Int32 × Int64) => ((fun (y48 : Int32 × Int64) => (if msc ≤ 0 then ((fun (y105 : Int32 × Int32 × Int64 × Int64 × Int32 × Int32 × Int64 × (Nat → Int32) × (Nat → Int64) × (Nat → Int64) × (Nat → Int64)) => ((fun (y147 : Int32 × Int64) => ((fun (y174 : Int32 × Int64) => (y174.2, y105.2.1, y105.2.2.1, y105.2.2.2.1, y105.2.2.2.2.1, y105.2.2.2.2.2.1, y174.2, y105.2.2.2.2.2.2.2.1, y105.2.2.2.2.2.2.2.2.1, y105.2.2.2.2.2.2.2.2.2.1, y105.2.2.2.2.2.2.2.2.2.2)) (L_X7_digest_174 mpl msc mtc msr mal 6 0 y147.2))) (L_X7_digest_147 mpl mpg 48 0 y105.2.2.2.2.2.2.1))) (L_X7_digest_105 msc mtc mam mwa mww 5 0 mmy mbe mmf mbs mco y48.2 mmb msh mpa mgo)) else ((fun (z100_38 : Int32 × Int64 × Int64 × Int32 × Int32 × Int64 × (Nat → Int32) × (Nat → Int64) × (Nat → Int64) × (Nat → Int64)) => ((fun (y105 : Int32 × Int32 × Int64 × Int64 × Int32 × Int32 × Int64 × (Nat → Int32) × (Nat → Int64) × (Nat → Int64) × (Nat → Int64)) => ((fun (y147 : Int32 × Int64) => ((fun (y174 : Int32 × Int64) => (y174.2, y105.2.1, y105.2.2.1, y105.2.2.2.1, y105.2.2.2.2.1, y105.2.2.2.2.2.1, y174.2, y105.2.2.2.2.2.2.2.1, y105.2.2.2.2.2.2.2.2.1, y105.2.2.2.2.2.2.2.2.2.1, y105.2.2.2.2.2.2.2.2.2.2)) (L_X7_digest_174b mpl msc mtc msr mal 6 0 y147.2))) (L_X7_digest_147b mpl mpg 48 0 y105.2.2.2.2.2.2.1))) (L_X7_digest_105b msc mtc mam mwa mww 5 0 z100_38.1 z100_38.2.1 z100_38.2.2.1 z100_38.2.2.2.1 z100_38.2.2.2.2.1 z100_38.2.2.2.2.2.1 z100_38.2.2.2.2.2.2.1 z100_38.2.2.2.2.2.2.2.1 z100_38.2.2.2.2.2.2.2.2.1 z100_38.2.2.2.2.2.2.2.2.2))) (f_X7_mixBy msc mtc mmy mbe mmf y48.2 mam mwa mww mmb msh mpa mgo (((1 : Int32) <<< (mtc &&& 31)) - 1))))) (L_X7_digest_48 mtc mwa mww 5 0 y9.2))) (L_X7_digest_9 msc mtc mam 5 0 1709)) = r := hr
  refine lv_aload_n hx hb dX7_digest_0 rfl (lv_at hl 0 rfl) ?_
  refine lv_ldc2 hx hb C.2.2.2.1 (C.2.2.2.2.1 _ mw_29_22) dX7_digest_1 ?_
  refine fr_put C w fp_X7_199 0 rfl rfl rfl rfl (ws' := [(am, .inr (7, [.int mpl, .ref ama, .int msc, .int mtc, .ref amb, .ref amc, .ref amd, .int msr, .int mal, .int mns, .int mnn, .int mnt, .int mfi, .int mnw, .ref ame, .int mmy, .ref amf, .long mbe, .ref amg, .long mmf, .ref amp, .ref amo, .int mbs, .int mco, .long 1709])), (ama, .inl (cI, 47, .inl mpg)), (amb, .inl (cI, 16, .inl mam)), (amc, .inl (cI, 4, .inl mwa)), (amd, .inl (cI, 4, .inl mww)), (ame, .inl (cI, 16, .inl mna)), (amf, .inl (cI, 4, .inl mmb)), (amg, .inl (cJ, 4, .inr (.inl msh))), (amp, .inl (cJ, 9, .inr (.inl mpa))), (amo, .inl (cJ, 3, .inr (.inl mgo)))]) rfl dX7_digest_4 (fun H locs w => ?_)
  refine lv_iconst (v := 0) hx hb dX7_digest_7 (by decide) ?_
  refine lv_istore_n (lv' := [(1, .int 0), (0, .ref am)]) hx hb dX7_digest_8 rfl hl (by decide) rfl (fun ls hl => ?_)
  obtain ⟨y9, hy9⟩ : ∃ y, y = L_X7_digest_9 msc mtc mam 5 0 1709 := ⟨_, rfl⟩
  have hr : ((fun (y48 : Int32 × Int64) => (if msc ≤ 0 then ((fun (y105 : Int32 × Int32 × Int64 × Int64 × Int32 × Int32 × Int64 × (Nat → Int32) × (Nat → Int64) × (Nat → Int64) × (Nat → Int64)) => ((fun (y147 : Int32 × Int64) => ((fun (y174 : Int32 × Int64) => (y174.2, y105.2.1, y105.2.2.1, y105.2.2.2.1, y105.2.2.2.2.1, y105.2.2.2.2.2.1, y174.2, y105.2.2.2.2.2.2.2.1, y105.2.2.2.2.2.2.2.2.1, y105.2.2.2.2.2.2.2.2.2.1, y105.2.2.2.2.2.2.2.2.2.2)) (L_X7_digest_174 mpl msc mtc msr mal 6 0 y147.2))) (L_X7_digest_147 mpl mpg 48 0 y105.2.2.2.2.2.2.1))) (L_X7_digest_105 msc mtc mam mwa mww 5 0 mmy mbe mmf mbs mco y48.2 mmb msh mpa mgo)) else ((fun (z100_38 : Int32 × Int64 × Int64 × Int32 × Int32 × Int64 × (Nat → Int32) × (Nat → Int64) × (Nat → Int64) × (Nat → Int64)) => ((fun (y105 : Int32 × Int32 × Int64 × Int64 × Int32 × Int32 × Int64 × (Nat → Int32) × (Nat → Int64) × (Nat → Int64) × (Nat → Int64)) => ((fun (y147 : Int32 × Int64) => ((fun (y174 : Int32 × Int64) => (y174.2, y105.2.1, y105.2.2.1, y105.2.2.2.1, y105.2.2.2.2.1, y105.2.2.2.2.2.1, y174.2, y105.2.2.2.2.2.2.2.1, y105.2.2.2.2.2.2.2.2.1, y105.2.2.2.2.2.2.2.2.2.1, y105.2.2.2.2.2.2.2.2.2.2)) (L_X7_digest_174b mpl msc mtc msr mal 6 0 y147.2))) (L_X7_digest_147b mpl mpg 48 0 y105.2.2.2.2.2.2.1))) (L_X7_digest_105b msc mtc mam mwa mww 5 0 z100_38.1 z100_38.2.1 z100_38.2.2.1 z100_38.2.2.2.1 z100_38.2.2.2.2.1 z100_38.2.2.2.2.2.1 z100_38.2.2.2.2.2.2.1 z100_38.2.2.2.2.2.2.2.1 z100_38.2.2.2.2.2.2.2.2.1 z100_38.2.2.2.2.2.2.2.2.2))) (f_X7_mixBy msc mtc mmy mbe mmf y48.2 mam mwa mww mmb msh mpa mgo (((1 : Int32) <<< (mtc &&& 31)) - 1))))) (L_X7_digest_48 mtc mwa mww 5 0 y9.2)) = r := by rw [hy9]; exact hr
  have X9 : ∀ (H : Heap) (locs : List Loc), Wd D A s.heap H locs [(am, .inr (7, [.int mpl, .ref ama, .int msc, .int mtc, .ref amb, .ref amc, .ref amd, .int msr, .int mal, .int mns, .int mnn, .int mnt, .int mfi, .int mnw, .ref ame, .int mmy, .ref amf, .long mbe, .ref amg, .long mmf, .ref amp, .ref amo, .int mbs, .int mco, .long y9.2])), (ama, .inl (cI, 47, .inl mpg)), (amb, .inl (cI, 16, .inl mam)), (amc, .inl (cI, 4, .inl mwa)), (amd, .inl (cI, 4, .inl mww)), (ame, .inl (cI, 16, .inl mna)), (amf, .inl (cI, 4, .inl mmb)), (amg, .inl (cJ, 4, .inr (.inl msh))), (amp, .inl (cJ, 9, .inr (.inl mpa))), (amo, .inl (cJ, 3, .inr (.inl mgo)))] → ∀ (ls : Array Slot), lv_has ls 3 [(0, .ref am), (1, .int y9.1)] → W p l e (rl 5) s m args below meth c H locs 0 0 Q (F0 m 46 ls []) := by
    intro H locs w ls hl
    refine lv_iconst (v := 0) hx hb dX7_digest_46 (by decide) ?_
    refine lv_istore_n (lv' := [(1, .int 0), (0, .ref am)]) hx hb dX7_digest_47 rfl hl (by decide) rfl (fun ls hl => ?_)
    obtain ⟨y48, hy48⟩ : ∃ y, y = L_X7_digest_48 mtc mwa mww 5 0 y9.2 := ⟨_, rfl⟩
    have hr : (if msc ≤ 0 then ((fun (y105 : Int32 × Int32 × Int64 × Int64 × Int32 × Int32 × Int64 × (Nat → Int32) × (Nat → Int64) × (Nat → Int64) × (Nat → Int64)) => ((fun (y147 : Int32 × Int64) => ((fun (y174 : Int32 × Int64) => (y174.2, y105.2.1, y105.2.2.1, y105.2.2.2.1, y105.2.2.2.2.1, y105.2.2.2.2.2.1, y174.2, y105.2.2.2.2.2.2.2.1, y105.2.2.2.2.2.2.2.2.1, y105.2.2.2.2.2.2.2.2.2.1, y105.2.2.2.2.2.2.2.2.2.2)) (L_X7_digest_174 mpl msc mtc msr mal 6 0 y147.2))) (L_X7_digest_147 mpl mpg 48 0 y105.2.2.2.2.2.2.1))) (L_X7_digest_105 msc mtc mam mwa mww 5 0 mmy mbe mmf mbs mco y48.2 mmb msh mpa mgo)) else ((fun (z100_38 : Int32 × Int64 × Int64 × Int32 × Int32 × Int64 × (Nat → Int32) × (Nat → Int64) × (Nat → Int64) × (Nat → Int64)) => ((fun (y105 : Int32 × Int32 × Int64 × Int64 × Int32 × Int32 × Int64 × (Nat → Int32) × (Nat → Int64) × (Nat → Int64) × (Nat → Int64)) => ((fun (y147 : Int32 × Int64) => ((fun (y174 : Int32 × Int64) => (y174.2, y105.2.1, y105.2.2.1, y105.2.2.2.1, y105.2.2.2.2.1, y105.2.2.2.2.2.1, y174.2, y105.2.2.2.2.2.2.2.1, y105.2.2.2.2.2.2.2.2.1, y105.2.2.2.2.2.2.2.2.2.1, y105.2.2.2.2.2.2.2.2.2.2)) (L_X7_digest_174b mpl msc mtc msr mal 6 0 y147.2))) (L_X7_digest_147b mpl mpg 48 0 y105.2.2.2.2.2.2.1))) (L_X7_digest_105b msc mtc mam mwa mww 5 0 z100_38.1 z100_38.2.1 z100_38.2.2.1 z100_38.2.2.2.1 z100_38.2.2.2.2.1 z100_38.2.2.2.2.2.1 z100_38.2.2.2.2.2.2.1 z100_38.2.2.2.2.2.2.2.1 z100_38.2.2.2.2.2.2.2.2.1 z100_38.2.2.2.2.2.2.2.2.2))) (f_X7_mixBy msc mtc mmy mbe mmf y48.2 mam mwa mww mmb msh mpa mgo (((1 : Int32) <<< (mtc &&& 31)) - 1)))) = r := by rw [hy48]; exact hr
    have X48 : ∀ (H : Heap) (locs : List Loc), Wd D A s.heap H locs [(am, .inr (7, [.int mpl, .ref ama, .int msc, .int mtc, .ref amb, .ref amc, .ref amd, .int msr, .int mal, .int mns, .int mnn, .int mnt, .int mfi, .int mnw, .ref ame, .int mmy, .ref amf, .long mbe, .ref amg, .long mmf, .ref amp, .ref amo, .int mbs, .int mco, .long y48.2])), (ama, .inl (cI, 47, .inl mpg)), (amb, .inl (cI, 16, .inl mam)), (amc, .inl (cI, 4, .inl mwa)), (amd, .inl (cI, 4, .inl mww)), (ame, .inl (cI, 16, .inl mna)), (amf, .inl (cI, 4, .inl mmb)), (amg, .inl (cJ, 4, .inr (.inl msh))), (amp, .inl (cJ, 9, .inr (.inl mpa))), (amo, .inl (cJ, 3, .inr (.inl mgo)))] → ∀ (ls : Array Slot), lv_has ls 3 [(0, .ref am), (1, .int y48.1)] → W p l e (rl 5) s m args below meth c H locs 0 0 Q (F0 m 84 ls []) := by
      intro H locs w ls hl
      refine lv_aload_n hx hb dX7_digest_84 rfl (lv_at hl 0 rfl) ?_
      refine fr_get C w fg_X7_78 0 rfl rfl dX7_digest_85 ?_
      refine lv_if_le (tgt := 103) hx hb dX7_digest_88 (by decide) (fun c88_14 => ?_) (fun c88_14 => ?_)
      · have hr := (if_pos c88_14).symm.trans hr
        refine lv_iconst (v := 0) hx hb dX7_digest_103 (by decide) ?_
        refine lv_istore_n (lv' := [(1, .int 0), (0, .ref am)]) hx hb dX7_digest_104 rfl hl (by decide) rfl (fun ls hl => ?_)
        obtain ⟨y105, hy105⟩ : ∃ y, y = L_X7_digest_105 msc mtc mam mwa mww 5 0 mmy mbe mmf mbs mco y48.2 mmb msh mpa mgo := ⟨_, rfl⟩
        have hr : ((fun (y147 : Int32 × Int64) => ((fun (y174 : Int32 × Int64) => (y174.2, y105.2.1, y105.2.2.1, y105.2.2.2.1, y105.2.2.2.2.1, y105.2.2.2.2.2.1, y174.2, y105.2.2.2.2.2.2.2.1, y105.2.2.2.2.2.2.2.2.1, y105.2.2.2.2.2.2.2.2.2.1, y105.2.2.2.2.2.2.2.2.2.2)) (L_X7_digest_174 mpl msc mtc msr mal 6 0 y147.2))) (L_X7_digest_147 mpl mpg 48 0 y105.2.2.2.2.2.2.1)) = r := by rw [hy105]; exact hr
        have X105 : ∀ (H : Heap) (locs : List Loc), Wd D A s.heap H locs [(am, .inr (7, [.int mpl, .ref ama, .int msc, .int mtc, .ref amb, .ref amc, .ref amd, .int msr, .int mal, .int mns, .int mnn, .int mnt, .int mfi, .int mnw, .ref ame, .int y105.2.1, .ref amf, .long y105.2.2.1, .ref amg, .long y105.2.2.2.1, .ref amp, .ref amo, .int y105.2.2.2.2.1, .int y105.2.2.2.2.2.1, .long y105.2.2.2.2.2.2.1])), (ama, .inl (cI, 47, .inl mpg)), (amb, .inl (cI, 16, .inl mam)), (amc, .inl (cI, 4, .inl mwa)), (amd, .inl (cI, 4, .inl mww)), (ame, .inl (cI, 16, .inl mna)), (amf, .inl (cI, 4, .inl y105.2.2.2.2.2.2.2.1)), (amg, .inl (cJ, 4, .inr (.inl y105.2.2.2.2.2.2.2.2.1))), (amp, .inl (cJ, 9, .inr (.inl y105.2.2.2.2.2.2.2.2.2.1))), (amo, .inl (cJ, 3, .inr (.inl y105.2.2.2.2.2.2.2.2.2.2)))] → ∀ (ls : Array Slot), lv_has ls 3 [(0, .ref am), (1, .int y105.1)] → W p l e (rl 5) s m args below meth c H locs 0 0 Q (F0 m 145 ls []) := by
          intro H locs w ls hl
          refine lv_iconst (v := 0) hx hb dX7_digest_145 (by decide) ?_
          refine lv_istore_n (lv' := [(1, .int 0), (0, .ref am)]) hx hb dX7_digest_146 rfl hl (by decide) rfl (fun ls hl => ?_)
          obtain ⟨y147, hy147⟩ : ∃ y, y = L_X7_digest_147 mpl mpg 48 0 y105.2.2.2.2.2.2.1 := ⟨_, rfl⟩
          have hr : ((fun (y174 : Int32 × Int64) => (y174.2, y105.2.1, y105.2.2.1, y105.2.2.2.1, y105.2.2.2.2.1, y105.2.2.2.2.2.1, y174.2, y105.2.2.2.2.2.2.2.1, y105.2.2.2.2.2.2.2.2.1, y105.2.2.2.2.2.2.2.2.2.1, y105.2.2.2.2.2.2.2.2.2.2)) (L_X7_digest_174 mpl msc mtc msr mal 6 0 y147.2)) = r := by rw [hy147]; exact hr
          have X147 : ∀ (H : Heap) (locs : List Loc), Wd D A s.heap H locs [(am, .inr (7, [.int mpl, .ref ama, .int msc, .int mtc, .ref amb, .ref amc, .ref amd, .int msr, .int mal, .int mns, .int mnn, .int mnt, .int mfi, .int mnw, .ref ame, .int y105.2.1, .ref amf, .long y105.2.2.1, .ref amg, .long y105.2.2.2.1, .ref amp, .ref amo, .int y105.2.2.2.2.1, .int y105.2.2.2.2.2.1, .long y147.2])), (ama, .inl (cI, 47, .inl mpg)), (amb, .inl (cI, 16, .inl mam)), (amc, .inl (cI, 4, .inl mwa)), (amd, .inl (cI, 4, .inl mww)), (ame, .inl (cI, 16, .inl mna)), (amf, .inl (cI, 4, .inl y105.2.2.2.2.2.2.2.1)), (amg, .inl (cJ, 4, .inr (.inl y105.2.2.2.2.2.2.2.2.1))), (amp, .inl (cJ, 9, .inr (.inl y105.2.2.2.2.2.2.2.2.2.1))), (amo, .inl (cJ, 3, .inr (.inl y105.2.2.2.2.2.2.2.2.2.2)))] → ∀ (ls : Array Slot), lv_has ls 3 [(0, .ref am), (1, .int y147.1)] → W p l e (rl 5) s m args below meth c H locs 0 0 Q (F0 m 172 ls []) := by
            intro H locs w ls hl
            refine lv_iconst (v := 0) hx hb dX7_digest_172 (by decide) ?_
            refine lv_istore_n (lv' := [(1, .int 0), (0, .ref am)]) hx hb dX7_digest_173 rfl hl (by decide) rfl (fun ls hl => ?_)
            obtain ⟨y174, hy174⟩ : ∃ y, y = L_X7_digest_174 mpl msc mtc msr mal 6 0 y147.2 := ⟨_, rfl⟩
            have hr : (y174.2, y105.2.1, y105.2.2.1, y105.2.2.2.1, y105.2.2.2.2.1, y105.2.2.2.2.2.1, y174.2, y105.2.2.2.2.2.2.2.1, y105.2.2.2.2.2.2.2.2.1, y105.2.2.2.2.2.2.2.2.2.1, y105.2.2.2.2.2.2.2.2.2.2) = r := by rw [hy174]; exact hr
            have X174 : ∀ (H : Heap) (locs : List Loc), Wd D A s.heap H locs [(am, .inr (7, [.int mpl, .ref ama, .int msc, .int mtc, .ref amb, .ref amc, .ref amd, .int msr, .int mal, .int mns, .int mnn, .int mnt, .int mfi, .int mnw, .ref ame, .int y105.2.1, .ref amf, .long y105.2.2.1, .ref amg, .long y105.2.2.2.1, .ref amp, .ref amo, .int y105.2.2.2.2.1, .int y105.2.2.2.2.2.1, .long y174.2])), (ama, .inl (cI, 47, .inl mpg)), (amb, .inl (cI, 16, .inl mam)), (amc, .inl (cI, 4, .inl mwa)), (amd, .inl (cI, 4, .inl mww)), (ame, .inl (cI, 16, .inl mna)), (amf, .inl (cI, 4, .inl y105.2.2.2.2.2.2.2.1)), (amg, .inl (cJ, 4, .inr (.inl y105.2.2.2.2.2.2.2.2.1))), (amp, .inl (cJ, 9, .inr (.inl y105.2.2.2.2.2.2.2.2.2.1))), (amo, .inl (cJ, 3, .inr (.inl y105.2.2.2.2.2.2.2.2.2.2)))] → ∀ (ls : Array Slot), lv_has ls 3 [(0, .ref am), (1, .int y174.1)] → W p l e (rl 5) s m args below meth c H locs 0 0 Q (F0 m 194 ls []) := by
              intro H locs w ls hl
              refine lv_aload_n hx hb dX7_digest_194 rfl (lv_at hl 0 rfl) ?_
              refine fr_get C w fg_X7_199 0 rfl rfl dX7_digest_195 ?_
              subst hr hQ
              exact fr_lret C hret hlk w rfl rfl dX7_digest_198
            have LP174 : ∀ (n174 : Nat) (k174 : Nat) (i33 : Int32) (w34 : Int64), i33 = nI k174 → k174 ≤ 5 → 5 < k174 + n174 → L_X7_digest_174 mpl msc mtc msr mal n174 i33 w34 = y174 → ∀ (H : Heap) (locs : List Loc), Wd D A s.heap H locs [(am, .inr (7, [.int mpl, .ref ama, .int msc, .int mtc, .ref amb, .ref amc, .ref amd, .int msr, .int mal, .int mns, .int mnn, .int mnt, .int mfi, .int mnw, .ref ame, .int y105.2.1, .ref amf, .long y105.2.2.1, .ref amg, .long y105.2.2.2.1, .ref amp, .ref amo, .int y105.2.2.2.2.1, .int y105.2.2.2.2.2.1, .long w34])), (ama, .inl (cI, 47, .inl mpg)), (amb, .inl (cI, 16, .inl mam)), (amc, .inl (cI, 4, .inl mwa)), (amd, .inl (cI, 4, .inl mww)), (ame, .inl (cI, 16, .inl mna)), (amf, .inl (cI, 4, .inl y105.2.2.2.2.2.2.2.1)), (amg, .inl (cJ, 4, .inr (.inl y105.2.2.2.2.2.2.2.2.1))), (amp, .inl (cJ, 9, .inr (.inl y105.2.2.2.2.2.2.2.2.2.1))), (amo, .inl (cJ, 3, .inr (.inl y105.2.2.2.2.2.2.2.2.2.2)))] → ∀ (ls : Array Slot), lv_has ls 3 [(0, .ref am), (1, .int i33)] → W p l e (rl 5) s m args below meth c H locs 0 0 Q (F0 m 174 ls []) := by
              clear hr
              intro n174
              induction n174 with
              | zero => intro k174 i33 w34 hk174 hkN174 hn174; exact absurd hn174 (by omega)
              | succ n174 ih174 =>
                intro k174 i33 w34 hk174 hkN174 hn174 hr H locs w ls hl
                have hr : (if 5 ≤ i33 then (i33, w34) else ((fun (z182_36 : Int64) => ((fun (z185_37 : Int64) => L_X7_digest_174 mpl msc mtc msr mal n174 (i33 + 1) z185_37) (f_X7_mix w34 z182_36))) (f_X7_howMany mpl msc mtc msr mal i33))) = y174 := hr
                refine lv_iload_n hx hb dX7_digest_174 rfl (lv_at hl 1 rfl) ?_
                refine lv_iconst (v := 5) hx hb dX7_digest_175 (by decide) ?_
                refine lv_icmp_ge (tgt := 194) hx hb dX7_digest_176 (by decide) (fun c176_35 => ?_) (fun c176_35 => ?_)
                · have hr := (if_pos c176_35).symm.trans hr
                  subst hr
                  exact X174 H locs w ls (lv_sub hl [0, 1] rfl)
                · have hr := (if_neg c176_35).symm.trans hr
                  have hkl174 := kl_of hk174 hkN174 (N := 5) (by decide) (by omega) c176_35
                  refine lv_aload_n hx hb dX7_digest_179 rfl (lv_at hl 0 rfl) ?_
                  refine lv_aload_n hx hb dX7_digest_180 rfl (lv_at hl 0 rfl) ?_
                  refine lv_iload_n hx hb dX7_digest_181 rfl (lv_at hl 1 rfl) ?_
                  obtain ⟨z182_36, hz182_36⟩ : ∃ y, (f_X7_howMany mpl msc mtc msr mal i33) = y := ⟨_, rfl⟩
                  have hcz182_36 := c_X7_howMany l D cI cJ am ama amb amc amd ame amf amg amp amo mpl msc mtc msr mal mns mnn mnt mfi mnw y105.2.1 y105.2.2.1 y105.2.2.2.1 y105.2.2.2.2.1 y105.2.2.2.2.2.1 w34 mpg mam mwa mww mna y105.2.2.2.2.2.2.2.1 y105.2.2.2.2.2.2.2.2.1 y105.2.2.2.2.2.2.2.2.2.1 y105.2.2.2.2.2.2.2.2.2.2 i33
                  rw [hz182_36] at hcz182_36
                  have hr : ((fun (z185_37 : Int64) => L_X7_digest_174 mpl msc mtc msr mal n174 (i33 + 1) z185_37) (f_X7_mix w34 z182_36)) = y174 := by subst hz182_36; exact hr
                  refine fr_callLV (As := [.int i33]) (rest := [.ref am]) C w kf_X7_howMany mw_28_19 (hcz182_36) ⟨Nat.le_of_ble_eq_true rfl, Nat.le_of_ble_eq_true rfl⟩ ⟨Nat.le_refl 0, Nat.le_refl 0⟩ [0, 1, 2, 3, 4, 5, 6, 7, 8, 9] rfl rfl rfl (ws' := [(am, .inr (7, [.int mpl, .ref ama, .int msc, .int mtc, .ref amb, .ref amc, .ref amd, .int msr, .int mal, .int mns, .int mnn, .int mnt, .int mfi, .int mnw, .ref ame, .int y105.2.1, .ref amf, .long y105.2.2.1, .ref amg, .long y105.2.2.2.1, .ref amp, .ref amo, .int y105.2.2.2.2.1, .int y105.2.2.2.2.2.1, .long w34])), (ama, .inl (cI, 47, .inl mpg)), (amb, .inl (cI, 16, .inl mam)), (amc, .inl (cI, 4, .inl mwa)), (amd, .inl (cI, 4, .inl mww)), (ame, .inl (cI, 16, .inl mna)), (amf, .inl (cI, 4, .inl y105.2.2.2.2.2.2.2.1)), (amg, .inl (cJ, 4, .inr (.inl y105.2.2.2.2.2.2.2.2.1))), (amp, .inl (cJ, 9, .inr (.inl y105.2.2.2.2.2.2.2.2.2.1))), (amo, .inl (cJ, 3, .inr (.inl y105.2.2.2.2.2.2.2.2.2.2)))]) rfl rfl rfl rfl hl.1 rfl (Nat.le_of_ble_eq_true rfl) dX7_digest_182 (fun H locs w => ?_)
                  obtain ⟨z185_37, hz185_37⟩ : ∃ y, (f_X7_mix w34 z182_36) = y := ⟨_, rfl⟩
                  have hcz185_37 := c_X7_mix l D cI cJ am ama amb amc amd ame amf amg amp amo mpl msc mtc msr mal mns mnn mnt mfi mnw y105.2.1 y105.2.2.1 y105.2.2.2.1 y105.2.2.2.2.1 y105.2.2.2.2.2.1 w34 mpg mam mwa mww mna y105.2.2.2.2.2.2.2.1 y105.2.2.2.2.2.2.2.2.1 y105.2.2.2.2.2.2.2.2.2.1 y105.2.2.2.2.2.2.2.2.2.2 z182_36
                  rw [hz185_37] at hcz185_37
                  have hr : L_X7_digest_174 mpl msc mtc msr mal n174 (i33 + 1) z185_37 = y174 := by subst hz185_37; exact hr
                  refine fr_callVV (As := [.long z182_36]) (rest := []) C w kf_X7_mix mw_30_0 (hcz185_37) ⟨Nat.le_of_ble_eq_true rfl, Nat.le_of_ble_eq_true rfl⟩ ⟨Nat.le_refl 0, Nat.le_refl 0⟩ [0, 1, 2, 3, 4, 5, 6, 7, 8, 9] rfl rfl rfl (ws' := [(am, .inr (7, [.int mpl, .ref ama, .int msc, .int mtc, .ref amb, .ref amc, .ref amd, .int msr, .int mal, .int mns, .int mnn, .int mnt, .int mfi, .int mnw, .ref ame, .int y105.2.1, .ref amf, .long y105.2.2.1, .ref amg, .long y105.2.2.2.1, .ref amp, .ref amo, .int y105.2.2.2.2.1, .int y105.2.2.2.2.2.1, .long z185_37])), (ama, .inl (cI, 47, .inl mpg)), (amb, .inl (cI, 16, .inl mam)), (amc, .inl (cI, 4, .inl mwa)), (amd, .inl (cI, 4, .inl mww)), (ame, .inl (cI, 16, .inl mna)), (amf, .inl (cI, 4, .inl y105.2.2.2.2.2.2.2.1)), (amg, .inl (cJ, 4, .inr (.inl y105.2.2.2.2.2.2.2.2.1))), (amp, .inl (cJ, 9, .inr (.inl y105.2.2.2.2.2.2.2.2.2.1))), (amo, .inl (cJ, 3, .inr (.inl y105.2.2.2.2.2.2.2.2.2.2)))]) rfl rfl rfl rfl hl.1 rfl (Nat.le_of_ble_eq_true rfl) dX7_digest_185 (fun H locs w => ?_)
                  refine lv_iinc (v := i33 + 1) (lv' := [(1, .int (i33 + 1)), (0, .ref am)]) hx hb dX7_digest_188 hl (k := 1) rfl rfl (by decide) rfl (fun ls hl => ?_)
                  refine lv_goto (tgt := 174) hx hb dX7_digest_191 (by decide) ?_
                  exact ih174 (k174 + 1) (i33 + 1) z185_37 (by rw [hk174]; exact nI_1 k174) (by omega) (by omega) hr H locs w ls (lv_sub hl [1, 0] rfl)
            exact LP174 6 0 0 y147.2 (by decide) (by omega) (by omega) hy174.symm H locs w ls (lv_sub hl [1, 0] rfl)
          have LP147 : ∀ (n147 : Nat) (k147 : Nat) (i29 : Int32) (w30 : Int64), i29 = nI k147 → k147 ≤ nmp → nmp < k147 + n147 → L_X7_digest_147 mpl mpg n147 i29 w30 = y147 → ∀ (H : Heap) (locs : List Loc), Wd D A s.heap H locs [(am, .inr (7, [.int mpl, .ref ama, .int msc, .int mtc, .ref amb, .ref amc, .ref amd, .int msr, .int mal, .int mns, .int mnn, .int mnt, .int mfi, .int mnw, .ref ame, .int y105.2.1, .ref amf, .long y105.2.2.1, .ref amg, .long y105.2.2.2.1, .ref amp, .ref amo, .int y105.2.2.2.2.1, .int y105.2.2.2.2.2.1, .long w30])), (ama, .inl (cI, 47, .inl mpg)), (amb, .inl (cI, 16, .inl mam)), (amc, .inl (cI, 4, .inl mwa)), (amd, .inl (cI, 4, .inl mww)), (ame, .inl (cI, 16, .inl mna)), (amf, .inl (cI, 4, .inl y105.2.2.2.2.2.2.2.1)), (amg, .inl (cJ, 4, .inr (.inl y105.2.2.2.2.2.2.2.2.1))), (amp, .inl (cJ, 9, .inr (.inl y105.2.2.2.2.2.2.2.2.2.1))), (amo, .inl (cJ, 3, .inr (.inl y105.2.2.2.2.2.2.2.2.2.2)))] → ∀ (ls : Array Slot), lv_has ls 3 [(0, .ref am), (1, .int i29)] → W p l e (rl 5) s m args below meth c H locs 0 0 Q (F0 m 147 ls []) := by
            clear hr
            intro n147
            induction n147 with
            | zero => intro k147 i29 w30 hk147 hkN147 hn147; exact absurd hn147 (by omega)
            | succ n147 ih147 =>
              intro k147 i29 w30 hk147 hkN147 hn147 hr H locs w ls hl
              have hr : (if mpl ≤ i29 then (i29, w30) else ((fun (z163_32 : Int64) => L_X7_digest_147 mpl mpg n147 (i29 + 1) z163_32) (f_X7_mix w30 (Int32.toInt64 (mpg (Int32.toNatClampNeg i29)))))) = y147 := hr
              refine lv_iload_n hx hb dX7_digest_147 rfl (lv_at hl 1 rfl) ?_
              refine lv_aload_n hx hb dX7_digest_148 rfl (lv_at hl 0 rfl) ?_
              refine fr_get C w fg_X7_44 0 rfl rfl dX7_digest_149 ?_
              refine lv_icmp_ge (tgt := 172) hx hb dX7_digest_152 (by decide) (fun c152_31 => ?_) (fun c152_31 => ?_)
              · have hr := (if_pos c152_31).symm.trans hr
                subst hr
                exact X147 H locs w ls (lv_sub hl [0, 1] rfl)
              · have hr := (if_neg c152_31).symm.trans hr
                have hkl147 := kl_of hk147 hkN147 (N := nmp) hmp2 (by omega) c152_31
                refine lv_aload_n hx hb dX7_digest_155 rfl (lv_at hl 0 rfl) ?_
                refine lv_aload_n hx hb dX7_digest_156 rfl (lv_at hl 0 rfl) ?_
                refine fr_get C w fg_X7_7 0 rfl rfl dX7_digest_157 ?_
                refine lv_iload_n hx hb dX7_digest_160 rfl (lv_at hl 1 rfl) ?_
                refine fr_iald C w 1 rfl (vi_ctr hk147 hkl147 (by omega) (by decide)) dX7_digest_161 ?_
                refine lv_i2l (v := (Int32.toInt64 (mpg (Int32.toNatClampNeg i29)))) hx hb dX7_digest_162 rfl ?_
                obtain ⟨z163_32, hz163_32⟩ : ∃ y, (f_X7_mix w30 (Int32.toInt64 (mpg (Int32.toNatClampNeg i29)))) = y := ⟨_, rfl⟩
                have hcz163_32 := c_X7_mix l D cI cJ am ama amb amc amd ame amf amg amp amo mpl msc mtc msr mal mns mnn mnt mfi mnw y105.2.1 y105.2.2.1 y105.2.2.2.1 y105.2.2.2.2.1 y105.2.2.2.2.2.1 w30 mpg mam mwa mww mna y105.2.2.2.2.2.2.2.1 y105.2.2.2.2.2.2.2.2.1 y105.2.2.2.2.2.2.2.2.2.1 y105.2.2.2.2.2.2.2.2.2.2 (Int32.toInt64 (mpg (Int32.toNatClampNeg i29)))
                rw [hz163_32] at hcz163_32
                have hr : L_X7_digest_147 mpl mpg n147 (i29 + 1) z163_32 = y147 := by subst hz163_32; exact hr
                refine fr_callVV (As := [.long (Int32.toInt64 (mpg (Int32.toNatClampNeg i29)))]) (rest := []) C w kf_X7_mix mw_30_0 (hcz163_32) ⟨Nat.le_of_ble_eq_true rfl, Nat.le_of_ble_eq_true rfl⟩ ⟨Nat.le_refl 0, Nat.le_refl 0⟩ [0, 1, 2, 3, 4, 5, 6, 7, 8, 9] rfl rfl rfl (ws' := [(am, .inr (7, [.int mpl, .ref ama, .int msc, .int mtc, .ref amb, .ref amc, .ref amd, .int msr, .int mal, .int mns, .int mnn, .int mnt, .int mfi, .int mnw, .ref ame, .int y105.2.1, .ref amf, .long y105.2.2.1, .ref amg, .long y105.2.2.2.1, .ref amp, .ref amo, .int y105.2.2.2.2.1, .int y105.2.2.2.2.2.1, .long z163_32])), (ama, .inl (cI, 47, .inl mpg)), (amb, .inl (cI, 16, .inl mam)), (amc, .inl (cI, 4, .inl mwa)), (amd, .inl (cI, 4, .inl mww)), (ame, .inl (cI, 16, .inl mna)), (amf, .inl (cI, 4, .inl y105.2.2.2.2.2.2.2.1)), (amg, .inl (cJ, 4, .inr (.inl y105.2.2.2.2.2.2.2.2.1))), (amp, .inl (cJ, 9, .inr (.inl y105.2.2.2.2.2.2.2.2.2.1))), (amo, .inl (cJ, 3, .inr (.inl y105.2.2.2.2.2.2.2.2.2.2)))]) rfl rfl rfl rfl hl.1 rfl (Nat.le_of_ble_eq_true rfl) dX7_digest_163 (fun H locs w => ?_)
                refine lv_iinc (v := i29 + 1) (lv' := [(1, .int (i29 + 1)), (0, .ref am)]) hx hb dX7_digest_166 hl (k := 1) rfl rfl (by decide) rfl (fun ls hl => ?_)
                refine lv_goto (tgt := 147) hx hb dX7_digest_169 (by decide) ?_
                exact ih147 (k147 + 1) (i29 + 1) z163_32 (by rw [hk147]; exact nI_1 k147) (by omega) (by omega) hr H locs w ls (lv_sub hl [1, 0] rfl)
          exact LP147 48 0 0 y105.2.2.2.2.2.2.1 (by decide) (by omega) (by omega) hy147.symm H locs w ls (lv_sub hl [1, 0] rfl)
        have LP105 : ∀ (n105 : Nat) (k105 : Nat) (i15 : Int32) (w16 : Int32) (w17 : Int64) (w18 : Int64) (w19 : Int32) (w20 : Int32) (w21 : Int64) (w22 : Nat → Int32) (w23 : Nat → Int64) (w24 : Nat → Int64) (w25 : Nat → Int64), i15 = nI k105 → k105 ≤ nmt → nmt < k105 + n105 → MB w22 → L_X7_digest_105 msc mtc mam mwa mww n105 i15 w16 w17 w18 w19 w20 w21 w22 w23 w24 w25 = y105 → ∀ (H : Heap) (locs : List Loc), Wd D A s.heap H locs [(am, .inr (7, [.int mpl, .ref ama, .int msc, .int mtc, .ref amb, .ref amc, .ref amd, .int msr, .int mal, .int mns, .int mnn, .int mnt, .int mfi, .int mnw, .ref ame, .int w16, .ref amf, .long w17, .ref amg, .long w18, .ref amp, .ref amo, .int w19, .int w20, .long w21])), (ama, .inl (cI, 47, .inl mpg)), (amb, .inl (cI, 16, .inl mam)), (amc, .inl (cI, 4, .inl mwa)), (amd, .inl (cI, 4, .inl mww)), (ame, .inl (cI, 16, .inl mna)), (amf, .inl (cI, 4, .inl w22)), (amg, .inl (cJ, 4, .inr (.inl w23))), (amp, .inl (cJ, 9, .inr (.inl w24))), (amo, .inl (cJ, 3, .inr (.inl w25)))] → ∀ (ls : Array Slot), lv_has ls 3 [(0, .ref am), (1, .int i15)] → W p l e (rl 5) s m args below meth c H locs 0 0 Q (F0 m 105 ls []) := by
          clear hr
          intro n105
          induction n105 with
          | zero => intro k105 i15 w16 w17 w18 w19 w20 w21 w22 w23 w24 w25 hk105 hkN105 hn105 hmb105; exact absurd hn105 (by omega)
          | succ n105 ih105 =>
            intro k105 i15 w16 w17 w18 w19 w20 w21 w22 w23 w24 w25 hk105 hkN105 hn105 hmb105 hr H locs w ls hl
            have hr : (if mtc ≤ i15 then (i15, w16, w17, w18, w19, w20, w21, w22, w23, w24, w25) else (if mtc ≤ 1 then (i15, w16, w17, w18, w19, w20, w21, w22, w23, w24, w25) else ((fun (z136_28 : Int32 × Int64 × Int64 × Int32 × Int32 × Int64 × (Nat → Int32) × (Nat → Int64) × (Nat → Int64) × (Nat → Int64)) => L_X7_digest_105 msc mtc mam mwa mww n105 (i15 + 1) z136_28.1 z136_28.2.1 z136_28.2.2.1 z136_28.2.2.2.1 z136_28.2.2.2.2.1 z136_28.2.2.2.2.2.1 z136_28.2.2.2.2.2.2.1 z136_28.2.2.2.2.2.2.2.1 z136_28.2.2.2.2.2.2.2.2.1 z136_28.2.2.2.2.2.2.2.2.2) (f_X7_mixBy msc mtc w16 w17 w18 w21 mam mwa mww w22 w23 w24 w25 ((((1 : Int32) <<< (mtc &&& 31)) - 1) &&& (((1 : Int32) <<< (i15 &&& 31)) ^^^ (-1))))))) = y105 := hr
            refine lv_iload_n hx hb dX7_digest_105 rfl (lv_at hl 1 rfl) ?_
            refine lv_aload_n hx hb dX7_digest_106 rfl (lv_at hl 0 rfl) ?_
            refine fr_get C w fg_X7_81 0 rfl rfl dX7_digest_107 ?_
            refine lv_icmp_ge (tgt := 145) hx hb dX7_digest_110 (by decide) (fun c110_26 => ?_) (fun c110_26 => ?_)
            · have hr := (if_pos c110_26).symm.trans hr
              subst hr
              exact X105 H locs w ls (lv_sub hl [0, 1] rfl)
            · have hr := (if_neg c110_26).symm.trans hr
              have hkl105 := kl_of hk105 hkN105 (N := nmt) hmt2 (by omega) c110_26
              refine lv_aload_n hx hb dX7_digest_113 rfl (lv_at hl 0 rfl) ?_
              refine fr_get C w fg_X7_81 0 rfl rfl dX7_digest_114 ?_
              refine lv_iconst (v := 1) hx hb dX7_digest_117 (by decide) ?_
              refine lv_icmp_le (tgt := 145) hx hb dX7_digest_118 (by decide) (fun c118_27 => ?_) (fun c118_27 => ?_)
              · have hr := (if_pos c118_27).symm.trans hr
                subst hr
                exact X105 H locs w ls (lv_sub hl [0, 1] rfl)
              · have hr := (if_neg c118_27).symm.trans hr
                refine lv_aload_n hx hb dX7_digest_121 rfl (lv_at hl 0 rfl) ?_
                refine lv_iconst (v := 1) hx hb dX7_digest_122 (by decide) ?_
                refine lv_aload_n hx hb dX7_digest_123 rfl (lv_at hl 0 rfl) ?_
                refine fr_get C w fg_X7_81 0 rfl rfl dX7_digest_124 ?_
                refine lv_ishl hx hb dX7_digest_127 ?_
                refine lv_iconst (v := 1) hx hb dX7_digest_128 (by decide) ?_
                refine lv_isub hx hb dX7_digest_129 ?_
                refine lv_iconst (v := 1) hx hb dX7_digest_130 (by decide) ?_
                refine lv_iload_n hx hb dX7_digest_131 rfl (lv_at hl 1 rfl) ?_
                refine lv_ishl hx hb dX7_digest_132 ?_
                refine lv_iconst (v := -1) hx hb dX7_digest_133 (by decide) ?_
                refine lv_ixor hx hb dX7_digest_134 ?_
                refine lv_iand hx hb dX7_digest_135 ?_
                obtain ⟨z136_28, hz136_28⟩ : ∃ y, (f_X7_mixBy msc mtc w16 w17 w18 w21 mam mwa mww w22 w23 w24 w25 ((((1 : Int32) <<< (mtc &&& 31)) - 1) &&& (((1 : Int32) <<< (i15 &&& 31)) ^^^ (-1)))) = y := ⟨_, rfl⟩
                have hcz136_28 := c_X7_mixBy l D cI cJ am ama amb amc amd ame amf amg amp amo mpl msc mtc msr mal mns mnn mnt mfi mnw w16 w17 w18 w19 w20 w21 mpg mam mwa mww mna w22 w23 w24 w25 ((((1 : Int32) <<< (mtc &&& 31)) - 1) &&& (((1 : Int32) <<< (i15 &&& 31)) ^^^ (-1))) hms hmt hmb105 hpos hbe
                rw [hz136_28] at hcz136_28
                have hr : L_X7_digest_105 msc mtc mam mwa mww n105 (i15 + 1) z136_28.1 z136_28.2.1 z136_28.2.2.1 z136_28.2.2.2.1 z136_28.2.2.2.2.1 z136_28.2.2.2.2.2.1 z136_28.2.2.2.2.2.2.1 z136_28.2.2.2.2.2.2.2.1 z136_28.2.2.2.2.2.2.2.2.1 z136_28.2.2.2.2.2.2.2.2.2 = y105 := by subst hz136_28; exact hr
                refine fr_callVV (As := [.int ((((1 : Int32) <<< (mtc &&& 31)) - 1) &&& (((1 : Int32) <<< (i15 &&& 31)) ^^^ (-1)))]) (rest := []) C w kf_X7_mixBy mw_30_5 (hcz136_28) ⟨Nat.le_of_ble_eq_true rfl, Nat.le_of_ble_eq_true rfl⟩ ⟨Nat.le_refl 0, Nat.le_refl 0⟩ [0, 1, 2, 3, 4, 5, 6, 7, 8, 9] rfl rfl rfl (ws' := [(am, .inr (7, [.int mpl, .ref ama, .int msc, .int mtc, .ref amb, .ref amc, .ref amd, .int msr, .int mal, .int mns, .int mnn, .int mnt, .int mfi, .int mnw, .ref ame, .int z136_28.1, .ref amf, .long z136_28.2.1, .ref amg, .long z136_28.2.2.1, .ref amp, .ref amo, .int z136_28.2.2.2.1, .int z136_28.2.2.2.2.1, .long z136_28.2.2.2.2.2.1])), (ama, .inl (cI, 47, .inl mpg)), (amb, .inl (cI, 16, .inl mam)), (amc, .inl (cI, 4, .inl mwa)), (amd, .inl (cI, 4, .inl mww)), (ame, .inl (cI, 16, .inl mna)), (amf, .inl (cI, 4, .inl z136_28.2.2.2.2.2.2.1)), (amg, .inl (cJ, 4, .inr (.inl z136_28.2.2.2.2.2.2.2.1))), (amp, .inl (cJ, 9, .inr (.inl z136_28.2.2.2.2.2.2.2.2.1))), (amo, .inl (cJ, 3, .inr (.inl z136_28.2.2.2.2.2.2.2.2.2)))]) rfl rfl rfl rfl hl.1 rfl (Nat.le_of_ble_eq_true rfl) dX7_digest_136 (fun H locs w => ?_)
                refine lv_iinc (v := i15 + 1) (lv' := [(1, .int (i15 + 1)), (0, .ref am)]) hx hb dX7_digest_139 hl (k := 1) rfl rfl (by decide) rfl (fun ls hl => ?_)
                refine lv_goto (tgt := 105) hx hb dX7_digest_142 (by decide) ?_
                exact ih105 (k105 + 1) (i15 + 1) z136_28.1 z136_28.2.1 z136_28.2.2.1 z136_28.2.2.2.1 z136_28.2.2.2.2.1 z136_28.2.2.2.2.2.1 z136_28.2.2.2.2.2.2.1 z136_28.2.2.2.2.2.2.2.1 z136_28.2.2.2.2.2.2.2.2.1 z136_28.2.2.2.2.2.2.2.2.2 (by rw [hk105]; exact nI_1 k105) (by omega) (by omega) (by subst_vars; exact mixBy_MB hms hmb105) hr H locs w ls (lv_sub hl [1, 0] rfl)
        exact LP105 5 0 0 mmy mbe mmf mbs mco y48.2 mmb msh mpa mgo (by decide) (by omega) (by omega) (by first | exact hmb | (subst_vars; exact mixBy_MB hms hmb)) hy105.symm H locs w ls (lv_sub hl [1, 0] rfl)
      · have hr := (if_neg c88_14).symm.trans hr
        refine lv_aload_n hx hb dX7_digest_91 rfl (lv_at hl 0 rfl) ?_
        refine lv_iconst (v := 1) hx hb dX7_digest_92 (by decide) ?_
        refine lv_aload_n hx hb dX7_digest_93 rfl (lv_at hl 0 rfl) ?_
        refine fr_get C w fg_X7_81 0 rfl rfl dX7_digest_94 ?_
        refine lv_ishl hx hb dX7_digest_97 ?_
        refine lv_iconst (v := 1) hx hb dX7_digest_98 (by decide) ?_
        refine lv_isub hx hb dX7_digest_99 ?_
        obtain ⟨z100_38, hz100_38⟩ : ∃ y, (f_X7_mixBy msc mtc mmy mbe mmf y48.2 mam mwa mww mmb msh mpa mgo (((1 : Int32) <<< (mtc &&& 31)) - 1)) = y := ⟨_, rfl⟩
        have hcz100_38 := c_X7_mixBy l D cI cJ am ama amb amc amd ame amf amg amp amo mpl msc mtc msr mal mns mnn mnt mfi mnw mmy mbe mmf mbs mco y48.2 mpg mam mwa mww mna mmb msh mpa mgo (((1 : Int32) <<< (mtc &&& 31)) - 1) (by assumption) (by assumption) (by assumption) (by assumption) (by assumption)
        rw [hz100_38] at hcz100_38
        have hr : ((fun (y105 : Int32 × Int32 × Int64 × Int64 × Int32 × Int32 × Int64 × (Nat → Int32) × (Nat → Int64) × (Nat → Int64) × (Nat → Int64)) => ((fun (y147 : Int32 × Int64) => ((fun (y174 : Int32 × Int64) => (y174.2, y105.2.1, y105.2.2.1, y105.2.2.2.1, y105.2.2.2.2.1, y105.2.2.2.2.2.1, y174.2, y105.2.2.2.2.2.2.2.1, y105.2.2.2.2.2.2.2.2.1, y105.2.2.2.2.2.2.2.2.2.1, y105.2.2.2.2.2.2.2.2.2.2)) (L_X7_digest_174b mpl msc mtc msr mal 6 0 y147.2))) (L_X7_digest_147b mpl mpg 48 0 y105.2.2.2.2.2.2.1))) (L_X7_digest_105b msc mtc mam mwa mww 5 0 z100_38.1 z100_38.2.1 z100_38.2.2.1 z100_38.2.2.2.1 z100_38.2.2.2.2.1 z100_38.2.2.2.2.2.1 z100_38.2.2.2.2.2.2.1 z100_38.2.2.2.2.2.2.2.1 z100_38.2.2.2.2.2.2.2.2.1 z100_38.2.2.2.2.2.2.2.2.2)) = r := by subst hz100_38; exact hr
        refine fr_callVV (As := [.int (((1 : Int32) <<< (mtc &&& 31)) - 1)]) (rest := []) C w kf_X7_mixBy mw_30_5 (hcz100_38) ⟨Nat.le_of_ble_eq_true rfl, Nat.le_of_ble_eq_true rfl⟩ ⟨Nat.le_refl 0, Nat.le_refl 0⟩ [0, 1, 2, 3, 4, 5, 6, 7, 8, 9] rfl rfl rfl (ws' := [(am, .inr (7, [.int mpl, .ref ama, .int msc, .int mtc, .ref amb, .ref amc, .ref amd, .int msr, .int mal, .int mns, .int mnn, .int mnt, .int mfi, .int mnw, .ref ame, .int z100_38.1, .ref amf, .long z100_38.2.1, .ref amg, .long z100_38.2.2.1, .ref amp, .ref amo, .int z100_38.2.2.2.1, .int z100_38.2.2.2.2.1, .long z100_38.2.2.2.2.2.1])), (ama, .inl (cI, 47, .inl mpg)), (amb, .inl (cI, 16, .inl mam)), (amc, .inl (cI, 4, .inl mwa)), (amd, .inl (cI, 4, .inl mww)), (ame, .inl (cI, 16, .inl mna)), (amf, .inl (cI, 4, .inl z100_38.2.2.2.2.2.2.1)), (amg, .inl (cJ, 4, .inr (.inl z100_38.2.2.2.2.2.2.2.1))), (amp, .inl (cJ, 9, .inr (.inl z100_38.2.2.2.2.2.2.2.2.1))), (amo, .inl (cJ, 3, .inr (.inl z100_38.2.2.2.2.2.2.2.2.2)))]) rfl rfl rfl rfl hl.1 rfl (Nat.le_of_ble_eq_true rfl) dX7_digest_100 (fun H locs w => ?_)
        refine lv_iconst (v := 0) hx hb dX7_digest_103 (by decide) ?_
        refine lv_istore_n (lv' := [(1, .int 0), (0, .ref am)]) hx hb dX7_digest_104 rfl hl (by decide) rfl (fun ls hl => ?_)
        obtain ⟨y105, hy105⟩ : ∃ y, y = L_X7_digest_105b msc mtc mam mwa mww 5 0 z100_38.1 z100_38.2.1 z100_38.2.2.1 z100_38.2.2.2.1 z100_38.2.2.2.2.1 z100_38.2.2.2.2.2.1 z100_38.2.2.2.2.2.2.1 z100_38.2.2.2.2.2.2.2.1 z100_38.2.2.2.2.2.2.2.2.1 z100_38.2.2.2.2.2.2.2.2.2 := ⟨_, rfl⟩
        have hr : ((fun (y147 : Int32 × Int64) => ((fun (y174 : Int32 × Int64) => (y174.2, y105.2.1, y105.2.2.1, y105.2.2.2.1, y105.2.2.2.2.1, y105.2.2.2.2.2.1, y174.2, y105.2.2.2.2.2.2.2.1, y105.2.2.2.2.2.2.2.2.1, y105.2.2.2.2.2.2.2.2.2.1, y105.2.2.2.2.2.2.2.2.2.2)) (L_X7_digest_174b mpl msc mtc msr mal 6 0 y147.2))) (L_X7_digest_147b mpl mpg 48 0 y105.2.2.2.2.2.2.1)) = r := by rw [hy105]; exact hr
        have X105 : ∀ (H : Heap) (locs : List Loc), Wd D A s.heap H locs [(am, .inr (7, [.int mpl, .ref ama, .int msc, .int mtc, .ref amb, .ref amc, .ref amd, .int msr, .int mal, .int mns, .int mnn, .int mnt, .int mfi, .int mnw, .ref ame, .int y105.2.1, .ref amf, .long y105.2.2.1, .ref amg, .long y105.2.2.2.1, .ref amp, .ref amo, .int y105.2.2.2.2.1, .int y105.2.2.2.2.2.1, .long y105.2.2.2.2.2.2.1])), (ama, .inl (cI, 47, .inl mpg)), (amb, .inl (cI, 16, .inl mam)), (amc, .inl (cI, 4, .inl mwa)), (amd, .inl (cI, 4, .inl mww)), (ame, .inl (cI, 16, .inl mna)), (amf, .inl (cI, 4, .inl y105.2.2.2.2.2.2.2.1)), (amg, .inl (cJ, 4, .inr (.inl y105.2.2.2.2.2.2.2.2.1))), (amp, .inl (cJ, 9, .inr (.inl y105.2.2.2.2.2.2.2.2.2.1))), (amo, .inl (cJ, 3, .inr (.inl y105.2.2.2.2.2.2.2.2.2.2)))] → ∀ (ls : Array Slot), lv_has ls 3 [(0, .ref am), (1, .int y105.1)] → W p l e (rl 5) s m args below meth c H locs 0 0 Q (F0 m 145 ls []) := by
          intro H locs w ls hl
          refine lv_iconst (v := 0) hx hb dX7_digest_145 (by decide) ?_
          refine lv_istore_n (lv' := [(1, .int 0), (0, .ref am)]) hx hb dX7_digest_146 rfl hl (by decide) rfl (fun ls hl => ?_)
          obtain ⟨y147, hy147⟩ : ∃ y, y = L_X7_digest_147b mpl mpg 48 0 y105.2.2.2.2.2.2.1 := ⟨_, rfl⟩
          have hr : ((fun (y174 : Int32 × Int64) => (y174.2, y105.2.1, y105.2.2.1, y105.2.2.2.1, y105.2.2.2.2.1, y105.2.2.2.2.2.1, y174.2, y105.2.2.2.2.2.2.2.1, y105.2.2.2.2.2.2.2.2.1, y105.2.2.2.2.2.2.2.2.2.1, y105.2.2.2.2.2.2.2.2.2.2)) (L_X7_digest_174b mpl msc mtc msr mal 6 0 y147.2)) = r := by rw [hy147]; exact hr
          have X147 : ∀ (H : Heap) (locs : List Loc), Wd D A s.heap H locs [(am, .inr (7, [.int mpl, .ref ama, .int msc, .int mtc, .ref amb, .ref amc, .ref amd, .int msr, .int mal, .int mns, .int mnn, .int mnt, .int mfi, .int mnw, .ref ame, .int y105.2.1, .ref amf, .long y105.2.2.1, .ref amg, .long y105.2.2.2.1, .ref amp, .ref amo, .int y105.2.2.2.2.1, .int y105.2.2.2.2.2.1, .long y147.2])), (ama, .inl (cI, 47, .inl mpg)), (amb, .inl (cI, 16, .inl mam)), (amc, .inl (cI, 4, .inl mwa)), (amd, .inl (cI, 4, .inl mww)), (ame, .inl (cI, 16, .inl mna)), (amf, .inl (cI, 4, .inl y105.2.2.2.2.2.2.2.1)), (amg, .inl (cJ, 4, .inr (.inl y105.2.2.2.2.2.2.2.2.1))), (amp, .inl (cJ, 9, .inr (.inl y105.2.2.2.2.2.2.2.2.2.1))), (amo, .inl (cJ, 3, .inr (.inl y105.2.2.2.2.2.2.2.2.2.2)))] → ∀ (ls : Array Slot), lv_has ls 3 [(0, .ref am), (1, .int y147.1)] → W p l e (rl 5) s m args below meth c H locs 0 0 Q (F0 m 172 ls []) := by
            intro H locs w ls hl
            refine lv_iconst (v := 0) hx hb dX7_digest_172 (by decide) ?_
            refine lv_istore_n (lv' := [(1, .int 0), (0, .ref am)]) hx hb dX7_digest_173 rfl hl (by decide) rfl (fun ls hl => ?_)
            obtain ⟨y174, hy174⟩ : ∃ y, y = L_X7_digest_174b mpl msc mtc msr mal 6 0 y147.2 := ⟨_, rfl⟩
            have hr : (y174.2, y105.2.1, y105.2.2.1, y105.2.2.2.1, y105.2.2.2.2.1, y105.2.2.2.2.2.1, y174.2, y105.2.2.2.2.2.2.2.1, y105.2.2.2.2.2.2.2.2.1, y105.2.2.2.2.2.2.2.2.2.1, y105.2.2.2.2.2.2.2.2.2.2) = r := by rw [hy174]; exact hr
            have X174 : ∀ (H : Heap) (locs : List Loc), Wd D A s.heap H locs [(am, .inr (7, [.int mpl, .ref ama, .int msc, .int mtc, .ref amb, .ref amc, .ref amd, .int msr, .int mal, .int mns, .int mnn, .int mnt, .int mfi, .int mnw, .ref ame, .int y105.2.1, .ref amf, .long y105.2.2.1, .ref amg, .long y105.2.2.2.1, .ref amp, .ref amo, .int y105.2.2.2.2.1, .int y105.2.2.2.2.2.1, .long y174.2])), (ama, .inl (cI, 47, .inl mpg)), (amb, .inl (cI, 16, .inl mam)), (amc, .inl (cI, 4, .inl mwa)), (amd, .inl (cI, 4, .inl mww)), (ame, .inl (cI, 16, .inl mna)), (amf, .inl (cI, 4, .inl y105.2.2.2.2.2.2.2.1)), (amg, .inl (cJ, 4, .inr (.inl y105.2.2.2.2.2.2.2.2.1))), (amp, .inl (cJ, 9, .inr (.inl y105.2.2.2.2.2.2.2.2.2.1))), (amo, .inl (cJ, 3, .inr (.inl y105.2.2.2.2.2.2.2.2.2.2)))] → ∀ (ls : Array Slot), lv_has ls 3 [(0, .ref am), (1, .int y174.1)] → W p l e (rl 5) s m args below meth c H locs 0 0 Q (F0 m 194 ls []) := by
              intro H locs w ls hl
              refine lv_aload_n hx hb dX7_digest_194 rfl (lv_at hl 0 rfl) ?_
              refine fr_get C w fg_X7_199 0 rfl rfl dX7_digest_195 ?_
              subst hr hQ
              exact fr_lret C hret hlk w rfl rfl dX7_digest_198
            have LP174 : ∀ (n174 : Nat) (k174 : Nat) (i57 : Int32) (w58 : Int64), i57 = nI k174 → k174 ≤ 5 → 5 < k174 + n174 → L_X7_digest_174b mpl msc mtc msr mal n174 i57 w58 = y174 → ∀ (H : Heap) (locs : List Loc), Wd D A s.heap H locs [(am, .inr (7, [.int mpl, .ref ama, .int msc, .int mtc, .ref amb, .ref amc, .ref amd, .int msr, .int mal, .int mns, .int mnn, .int mnt, .int mfi, .int mnw, .ref ame, .int y105.2.1, .ref amf, .long y105.2.2.1, .ref amg, .long y105.2.2.2.1, .ref amp, .ref amo, .int y105.2.2.2.2.1, .int y105.2.2.2.2.2.1, .long w58])), (ama, .inl (cI, 47, .inl mpg)), (amb, .inl (cI, 16, .inl mam)), (amc, .inl (cI, 4, .inl mwa)), (amd, .inl (cI, 4, .inl mww)), (ame, .inl (cI, 16, .inl mna)), (amf, .inl (cI, 4, .inl y105.2.2.2.2.2.2.2.1)), (amg, .inl (cJ, 4, .inr (.inl y105.2.2.2.2.2.2.2.2.1))), (amp, .inl (cJ, 9, .inr (.inl y105.2.2.2.2.2.2.2.2.2.1))), (amo, .inl (cJ, 3, .inr (.inl y105.2.2.2.2.2.2.2.2.2.2)))] → ∀ (ls : Array Slot), lv_has ls 3 [(0, .ref am), (1, .int i57)] → W p l e (rl 5) s m args below meth c H locs 0 0 Q (F0 m 174 ls []) := by
              clear hr
              intro n174
              induction n174 with
              | zero => intro k174 i57 w58 hk174 hkN174 hn174; exact absurd hn174 (by omega)
              | succ n174 ih174 =>
                intro k174 i57 w58 hk174 hkN174 hn174 hr H locs w ls hl
                have hr : (if 5 ≤ i57 then (i57, w58) else ((fun (z182_60 : Int64) => ((fun (z185_61 : Int64) => L_X7_digest_174b mpl msc mtc msr mal n174 (i57 + 1) z185_61) (f_X7_mix w58 z182_60))) (f_X7_howMany mpl msc mtc msr mal i57))) = y174 := hr
                refine lv_iload_n hx hb dX7_digest_174 rfl (lv_at hl 1 rfl) ?_
                refine lv_iconst (v := 5) hx hb dX7_digest_175 (by decide) ?_
                refine lv_icmp_ge (tgt := 194) hx hb dX7_digest_176 (by decide) (fun c176_59 => ?_) (fun c176_59 => ?_)
                · have hr := (if_pos c176_59).symm.trans hr
                  subst hr
                  exact X174 H locs w ls (lv_sub hl [0, 1] rfl)
                · have hr := (if_neg c176_59).symm.trans hr
                  have hkl174 := kl_of hk174 hkN174 (N := 5) (by decide) (by omega) c176_59
                  refine lv_aload_n hx hb dX7_digest_179 rfl (lv_at hl 0 rfl) ?_
                  refine lv_aload_n hx hb dX7_digest_180 rfl (lv_at hl 0 rfl) ?_
                  refine lv_iload_n hx hb dX7_digest_181 rfl (lv_at hl 1 rfl) ?_
                  obtain ⟨z182_60, hz182_60⟩ : ∃ y, (f_X7_howMany mpl msc mtc msr mal i57) = y := ⟨_, rfl⟩
                  have hcz182_60 := c_X7_howMany l D cI cJ am ama amb amc amd ame amf amg amp amo mpl msc mtc msr mal mns mnn mnt mfi mnw y105.2.1 y105.2.2.1 y105.2.2.2.1 y105.2.2.2.2.1 y105.2.2.2.2.2.1 w58 mpg mam mwa mww mna y105.2.2.2.2.2.2.2.1 y105.2.2.2.2.2.2.2.2.1 y105.2.2.2.2.2.2.2.2.2.1 y105.2.2.2.2.2.2.2.2.2.2 i57
                  rw [hz182_60] at hcz182_60
                  have hr : ((fun (z185_61 : Int64) => L_X7_digest_174b mpl msc mtc msr mal n174 (i57 + 1) z185_61) (f_X7_mix w58 z182_60)) = y174 := by subst hz182_60; exact hr
                  refine fr_callLV (As := [.int i57]) (rest := [.ref am]) C w kf_X7_howMany mw_28_19 (hcz182_60) ⟨Nat.le_of_ble_eq_true rfl, Nat.le_of_ble_eq_true rfl⟩ ⟨Nat.le_refl 0, Nat.le_refl 0⟩ [0, 1, 2, 3, 4, 5, 6, 7, 8, 9] rfl rfl rfl (ws' := [(am, .inr (7, [.int mpl, .ref ama, .int msc, .int mtc, .ref amb, .ref amc, .ref amd, .int msr, .int mal, .int mns, .int mnn, .int mnt, .int mfi, .int mnw, .ref ame, .int y105.2.1, .ref amf, .long y105.2.2.1, .ref amg, .long y105.2.2.2.1, .ref amp, .ref amo, .int y105.2.2.2.2.1, .int y105.2.2.2.2.2.1, .long w58])), (ama, .inl (cI, 47, .inl mpg)), (amb, .inl (cI, 16, .inl mam)), (amc, .inl (cI, 4, .inl mwa)), (amd, .inl (cI, 4, .inl mww)), (ame, .inl (cI, 16, .inl mna)), (amf, .inl (cI, 4, .inl y105.2.2.2.2.2.2.2.1)), (amg, .inl (cJ, 4, .inr (.inl y105.2.2.2.2.2.2.2.2.1))), (amp, .inl (cJ, 9, .inr (.inl y105.2.2.2.2.2.2.2.2.2.1))), (amo, .inl (cJ, 3, .inr (.inl y105.2.2.2.2.2.2.2.2.2.2)))]) rfl rfl rfl rfl hl.1 rfl (Nat.le_of_ble_eq_true rfl) dX7_digest_182 (fun H locs w => ?_)
                  obtain ⟨z185_61, hz185_61⟩ : ∃ y, (f_X7_mix w58 z182_60) = y := ⟨_, rfl⟩
                  have hcz185_61 := c_X7_mix l D cI cJ am ama amb amc amd ame amf amg amp amo mpl msc mtc msr mal mns mnn mnt mfi mnw y105.2.1 y105.2.2.1 y105.2.2.2.1 y105.2.2.2.2.1 y105.2.2.2.2.2.1 w58 mpg mam mwa mww mna y105.2.2.2.2.2.2.2.1 y105.2.2.2.2.2.2.2.2.1 y105.2.2.2.2.2.2.2.2.2.1 y105.2.2.2.2.2.2.2.2.2.2 z182_60
                  rw [hz185_61] at hcz185_61
                  have hr : L_X7_digest_174b mpl msc mtc msr mal n174 (i57 + 1) z185_61 = y174 := by subst hz185_61; exact hr
                  refine fr_callVV (As := [.long z182_60]) (rest := []) C w kf_X7_mix mw_30_0 (hcz185_61) ⟨Nat.le_of_ble_eq_true rfl, Nat.le_of_ble_eq_true rfl⟩ ⟨Nat.le_refl 0, Nat.le_refl 0⟩ [0, 1, 2, 3, 4, 5, 6, 7, 8, 9] rfl rfl rfl (ws' := [(am, .inr (7, [.int mpl, .ref ama, .int msc, .int mtc, .ref amb, .ref amc, .ref amd, .int msr, .int mal, .int mns, .int mnn, .int mnt, .int mfi, .int mnw, .ref ame, .int y105.2.1, .ref amf, .long y105.2.2.1, .ref amg, .long y105.2.2.2.1, .ref amp, .ref amo, .int y105.2.2.2.2.1, .int y105.2.2.2.2.2.1, .long z185_61])), (ama, .inl (cI, 47, .inl mpg)), (amb, .inl (cI, 16, .inl mam)), (amc, .inl (cI, 4, .inl mwa)), (amd, .inl (cI, 4, .inl mww)), (ame, .inl (cI, 16, .inl mna)), (amf, .inl (cI, 4, .inl y105.2.2.2.2.2.2.2.1)), (amg, .inl (cJ, 4, .inr (.inl y105.2.2.2.2.2.2.2.2.1))), (amp, .inl (cJ, 9, .inr (.inl y105.2.2.2.2.2.2.2.2.2.1))), (amo, .inl (cJ, 3, .inr (.inl y105.2.2.2.2.2.2.2.2.2.2)))]) rfl rfl rfl rfl hl.1 rfl (Nat.le_of_ble_eq_true rfl) dX7_digest_185 (fun H locs w => ?_)
                  refine lv_iinc (v := i57 + 1) (lv' := [(1, .int (i57 + 1)), (0, .ref am)]) hx hb dX7_digest_188 hl (k := 1) rfl rfl (by decide) rfl (fun ls hl => ?_)
                  refine lv_goto (tgt := 174) hx hb dX7_digest_191 (by decide) ?_
                  exact ih174 (k174 + 1) (i57 + 1) z185_61 (by rw [hk174]; exact nI_1 k174) (by omega) (by omega) hr H locs w ls (lv_sub hl [1, 0] rfl)
            exact LP174 6 0 0 y147.2 (by decide) (by omega) (by omega) hy174.symm H locs w ls (lv_sub hl [1, 0] rfl)
          have LP147 : ∀ (n147 : Nat) (k147 : Nat) (i53 : Int32) (w54 : Int64), i53 = nI k147 → k147 ≤ nmp → nmp < k147 + n147 → L_X7_digest_147b mpl mpg n147 i53 w54 = y147 → ∀ (H : Heap) (locs : List Loc), Wd D A s.heap H locs [(am, .inr (7, [.int mpl, .ref ama, .int msc, .int mtc, .ref amb, .ref amc, .ref amd, .int msr, .int mal, .int mns, .int mnn, .int mnt, .int mfi, .int mnw, .ref ame, .int y105.2.1, .ref amf, .long y105.2.2.1, .ref amg, .long y105.2.2.2.1, .ref amp, .ref amo, .int y105.2.2.2.2.1, .int y105.2.2.2.2.2.1, .long w54])), (ama, .inl (cI, 47, .inl mpg)), (amb, .inl (cI, 16, .inl mam)), (amc, .inl (cI, 4, .inl mwa)), (amd, .inl (cI, 4, .inl mww)), (ame, .inl (cI, 16, .inl mna)), (amf, .inl (cI, 4, .inl y105.2.2.2.2.2.2.2.1)), (amg, .inl (cJ, 4, .inr (.inl y105.2.2.2.2.2.2.2.2.1))), (amp, .inl (cJ, 9, .inr (.inl y105.2.2.2.2.2.2.2.2.2.1))), (amo, .inl (cJ, 3, .inr (.inl y105.2.2.2.2.2.2.2.2.2.2)))] → ∀ (ls : Array Slot), lv_has ls 3 [(0, .ref am), (1, .int i53)] → W p l e (rl 5) s m args below meth c H locs 0 0 Q (F0 m 147 ls []) := by
            clear hr
            intro n147
            induction n147 with
            | zero => intro k147 i53 w54 hk147 hkN147 hn147; exact absurd hn147 (by omega)
            | succ n147 ih147 =>
              intro k147 i53 w54 hk147 hkN147 hn147 hr H locs w ls hl
              have hr : (if mpl ≤ i53 then (i53, w54) else ((fun (z163_56 : Int64) => L_X7_digest_147b mpl mpg n147 (i53 + 1) z163_56) (f_X7_mix w54 (Int32.toInt64 (mpg (Int32.toNatClampNeg i53)))))) = y147 := hr
              refine lv_iload_n hx hb dX7_digest_147 rfl (lv_at hl 1 rfl) ?_
              refine lv_aload_n hx hb dX7_digest_148 rfl (lv_at hl 0 rfl) ?_
              refine fr_get C w fg_X7_44 0 rfl rfl dX7_digest_149 ?_
              refine lv_icmp_ge (tgt := 172) hx hb dX7_digest_152 (by decide) (fun c152_55 => ?_) (fun c152_55 => ?_)
              · have hr := (if_pos c152_55).symm.trans hr
                subst hr
                exact X147 H locs w ls (lv_sub hl [0, 1] rfl)
              · have hr := (if_neg c152_55).symm.trans hr
                have hkl147 := kl_of hk147 hkN147 (N := nmp) hmp2 (by omega) c152_55
                refine lv_aload_n hx hb dX7_digest_155 rfl (lv_at hl 0 rfl) ?_
                refine lv_aload_n hx hb dX7_digest_156 rfl (lv_at hl 0 rfl) ?_
                refine fr_get C w fg_X7_7 0 rfl rfl dX7_digest_157 ?_
                refine lv_iload_n hx hb dX7_digest_160 rfl (lv_at hl 1 rfl) ?_
                refine fr_iald C w 1 rfl (vi_ctr hk147 hkl147 (by omega) (by decide)) dX7_digest_161 ?_
                refine lv_i2l (v := (Int32.toInt64 (mpg (Int32.toNatClampNeg i53)))) hx hb dX7_digest_162 rfl ?_
                obtain ⟨z163_56, hz163_56⟩ : ∃ y, (f_X7_mix w54 (Int32.toInt64 (mpg (Int32.toNatClampNeg i53)))) = y := ⟨_, rfl⟩
                have hcz163_56 := c_X7_mix l D cI cJ am ama amb amc amd ame amf amg amp amo mpl msc mtc msr mal mns mnn mnt mfi mnw y105.2.1 y105.2.2.1 y105.2.2.2.1 y105.2.2.2.2.1 y105.2.2.2.2.2.1 w54 mpg mam mwa mww mna y105.2.2.2.2.2.2.2.1 y105.2.2.2.2.2.2.2.2.1 y105.2.2.2.2.2.2.2.2.2.1 y105.2.2.2.2.2.2.2.2.2.2 (Int32.toInt64 (mpg (Int32.toNatClampNeg i53)))
                rw [hz163_56] at hcz163_56
                have hr : L_X7_digest_147b mpl mpg n147 (i53 + 1) z163_56 = y147 := by subst hz163_56; exact hr
                refine fr_callVV (As := [.long (Int32.toInt64 (mpg (Int32.toNatClampNeg i53)))]) (rest := []) C w kf_X7_mix mw_30_0 (hcz163_56) ⟨Nat.le_of_ble_eq_true rfl, Nat.le_of_ble_eq_true rfl⟩ ⟨Nat.le_refl 0, Nat.le_refl 0⟩ [0, 1, 2, 3, 4, 5, 6, 7, 8, 9] rfl rfl rfl (ws' := [(am, .inr (7, [.int mpl, .ref ama, .int msc, .int mtc, .ref amb, .ref amc, .ref amd, .int msr, .int mal, .int mns, .int mnn, .int mnt, .int mfi, .int mnw, .ref ame, .int y105.2.1, .ref amf, .long y105.2.2.1, .ref amg, .long y105.2.2.2.1, .ref amp, .ref amo, .int y105.2.2.2.2.1, .int y105.2.2.2.2.2.1, .long z163_56])), (ama, .inl (cI, 47, .inl mpg)), (amb, .inl (cI, 16, .inl mam)), (amc, .inl (cI, 4, .inl mwa)), (amd, .inl (cI, 4, .inl mww)), (ame, .inl (cI, 16, .inl mna)), (amf, .inl (cI, 4, .inl y105.2.2.2.2.2.2.2.1)), (amg, .inl (cJ, 4, .inr (.inl y105.2.2.2.2.2.2.2.2.1))), (amp, .inl (cJ, 9, .inr (.inl y105.2.2.2.2.2.2.2.2.2.1))), (amo, .inl (cJ, 3, .inr (.inl y105.2.2.2.2.2.2.2.2.2.2)))]) rfl rfl rfl rfl hl.1 rfl (Nat.le_of_ble_eq_true rfl) dX7_digest_163 (fun H locs w => ?_)
                refine lv_iinc (v := i53 + 1) (lv' := [(1, .int (i53 + 1)), (0, .ref am)]) hx hb dX7_digest_166 hl (k := 1) rfl rfl (by decide) rfl (fun ls hl => ?_)
                refine lv_goto (tgt := 147) hx hb dX7_digest_169 (by decide) ?_
                exact ih147 (k147 + 1) (i53 + 1) z163_56 (by rw [hk147]; exact nI_1 k147) (by omega) (by omega) hr H locs w ls (lv_sub hl [1, 0] rfl)
          exact LP147 48 0 0 y105.2.2.2.2.2.2.1 (by decide) (by omega) (by omega) hy147.symm H locs w ls (lv_sub hl [1, 0] rfl)
        have LP105 : ∀ (n105 : Nat) (k105 : Nat) (i39 : Int32) (w40 : Int32) (w41 : Int64) (w42 : Int64) (w43 : Int32) (w44 : Int32) (w45 : Int64) (w46 : Nat → Int32) (w47 : Nat → Int64) (w48 : Nat → Int64) (w49 : Nat → Int64), i39 = nI k105 → k105 ≤ nmt → nmt < k105 + n105 → MB w46 → L_X7_digest_105b msc mtc mam mwa mww n105 i39 w40 w41 w42 w43 w44 w45 w46 w47 w48 w49 = y105 → ∀ (H : Heap) (locs : List Loc), Wd D A s.heap H locs [(am, .inr (7, [.int mpl, .ref ama, .int msc, .int mtc, .ref amb, .ref amc, .ref amd, .int msr, .int mal, .int mns, .int mnn, .int mnt, .int mfi, .int mnw, .ref ame, .int w40, .ref amf, .long w41, .ref amg, .long w42, .ref amp, .ref amo, .int w43, .int w44, .long w45])), (ama, .inl (cI, 47, .inl mpg)), (amb, .inl (cI, 16, .inl mam)), (amc, .inl (cI, 4, .inl mwa)), (amd, .inl (cI, 4, .inl mww)), (ame, .inl (cI, 16, .inl mna)), (amf, .inl (cI, 4, .inl w46)), (amg, .inl (cJ, 4, .inr (.inl w47))), (amp, .inl (cJ, 9, .inr (.inl w48))), (amo, .inl (cJ, 3, .inr (.inl w49)))] → ∀ (ls : Array Slot), lv_has ls 3 [(0, .ref am), (1, .int i39)] → W p l e (rl 5) s m args below meth c H locs 0 0 Q (F0 m 105 ls []) := by
          clear hr
          intro n105
          induction n105 with
          | zero => intro k105 i39 w40 w41 w42 w43 w44 w45 w46 w47 w48 w49 hk105 hkN105 hn105 hmb105; exact absurd hn105 (by omega)
          | succ n105 ih105 =>
            intro k105 i39 w40 w41 w42 w43 w44 w45 w46 w47 w48 w49 hk105 hkN105 hn105 hmb105 hr H locs w ls hl
            have hr : (if mtc ≤ i39 then (i39, w40, w41, w42, w43, w44, w45, w46, w47, w48, w49) else (if mtc ≤ 1 then (i39, w40, w41, w42, w43, w44, w45, w46, w47, w48, w49) else ((fun (z136_52 : Int32 × Int64 × Int64 × Int32 × Int32 × Int64 × (Nat → Int32) × (Nat → Int64) × (Nat → Int64) × (Nat → Int64)) => L_X7_digest_105b msc mtc mam mwa mww n105 (i39 + 1) z136_52.1 z136_52.2.1 z136_52.2.2.1 z136_52.2.2.2.1 z136_52.2.2.2.2.1 z136_52.2.2.2.2.2.1 z136_52.2.2.2.2.2.2.1 z136_52.2.2.2.2.2.2.2.1 z136_52.2.2.2.2.2.2.2.2.1 z136_52.2.2.2.2.2.2.2.2.2) (f_X7_mixBy msc mtc w40 w41 w42 w45 mam mwa mww w46 w47 w48 w49 ((((1 : Int32) <<< (mtc &&& 31)) - 1) &&& (((1 : Int32) <<< (i39 &&& 31)) ^^^ (-1))))))) = y105 := hr
            refine lv_iload_n hx hb dX7_digest_105 rfl (lv_at hl 1 rfl) ?_
            refine lv_aload_n hx hb dX7_digest_106 rfl (lv_at hl 0 rfl) ?_
            refine fr_get C w fg_X7_81 0 rfl rfl dX7_digest_107 ?_
            refine lv_icmp_ge (tgt := 145) hx hb dX7_digest_110 (by decide) (fun c110_50 => ?_) (fun c110_50 => ?_)
            · have hr := (if_pos c110_50).symm.trans hr
              subst hr
              exact X105 H locs w ls (lv_sub hl [0, 1] rfl)
            · have hr := (if_neg c110_50).symm.trans hr
              have hkl105 := kl_of hk105 hkN105 (N := nmt) hmt2 (by omega) c110_50
              refine lv_aload_n hx hb dX7_digest_113 rfl (lv_at hl 0 rfl) ?_
              refine fr_get C w fg_X7_81 0 rfl rfl dX7_digest_114 ?_
              refine lv_iconst (v := 1) hx hb dX7_digest_117 (by decide) ?_
              refine lv_icmp_le (tgt := 145) hx hb dX7_digest_118 (by decide) (fun c118_51 => ?_) (fun c118_51 => ?_)
              · have hr := (if_pos c118_51).symm.trans hr
                subst hr
                exact X105 H locs w ls (lv_sub hl [0, 1] rfl)
              · have hr := (if_neg c118_51).symm.trans hr
                refine lv_aload_n hx hb dX7_digest_121 rfl (lv_at hl 0 rfl) ?_
                refine lv_iconst (v := 1) hx hb dX7_digest_122 (by decide) ?_
                refine lv_aload_n hx hb dX7_digest_123 rfl (lv_at hl 0 rfl) ?_
                refine fr_get C w fg_X7_81 0 rfl rfl dX7_digest_124 ?_
                refine lv_ishl hx hb dX7_digest_127 ?_
                refine lv_iconst (v := 1) hx hb dX7_digest_128 (by decide) ?_
                refine lv_isub hx hb dX7_digest_129 ?_
                refine lv_iconst (v := 1) hx hb dX7_digest_130 (by decide) ?_
                refine lv_iload_n hx hb dX7_digest_131 rfl (lv_at hl 1 rfl) ?_
                refine lv_ishl hx hb dX7_digest_132 ?_
                refine lv_iconst (v := -1) hx hb dX7_digest_133 (by decide) ?_
                refine lv_ixor hx hb dX7_digest_134 ?_
                refine lv_iand hx hb dX7_digest_135 ?_
                obtain ⟨z136_52, hz136_52⟩ : ∃ y, (f_X7_mixBy msc mtc w40 w41 w42 w45 mam mwa mww w46 w47 w48 w49 ((((1 : Int32) <<< (mtc &&& 31)) - 1) &&& (((1 : Int32) <<< (i39 &&& 31)) ^^^ (-1)))) = y := ⟨_, rfl⟩
                have hcz136_52 := c_X7_mixBy l D cI cJ am ama amb amc amd ame amf amg amp amo mpl msc mtc msr mal mns mnn mnt mfi mnw w40 w41 w42 w43 w44 w45 mpg mam mwa mww mna w46 w47 w48 w49 ((((1 : Int32) <<< (mtc &&& 31)) - 1) &&& (((1 : Int32) <<< (i39 &&& 31)) ^^^ (-1))) hms hmt hmb105 hpos hbe
                rw [hz136_52] at hcz136_52
                have hr : L_X7_digest_105b msc mtc mam mwa mww n105 (i39 + 1) z136_52.1 z136_52.2.1 z136_52.2.2.1 z136_52.2.2.2.1 z136_52.2.2.2.2.1 z136_52.2.2.2.2.2.1 z136_52.2.2.2.2.2.2.1 z136_52.2.2.2.2.2.2.2.1 z136_52.2.2.2.2.2.2.2.2.1 z136_52.2.2.2.2.2.2.2.2.2 = y105 := by subst hz136_52; exact hr
                refine fr_callVV (As := [.int ((((1 : Int32) <<< (mtc &&& 31)) - 1) &&& (((1 : Int32) <<< (i39 &&& 31)) ^^^ (-1)))]) (rest := []) C w kf_X7_mixBy mw_30_5 (hcz136_52) ⟨Nat.le_of_ble_eq_true rfl, Nat.le_of_ble_eq_true rfl⟩ ⟨Nat.le_refl 0, Nat.le_refl 0⟩ [0, 1, 2, 3, 4, 5, 6, 7, 8, 9] rfl rfl rfl (ws' := [(am, .inr (7, [.int mpl, .ref ama, .int msc, .int mtc, .ref amb, .ref amc, .ref amd, .int msr, .int mal, .int mns, .int mnn, .int mnt, .int mfi, .int mnw, .ref ame, .int z136_52.1, .ref amf, .long z136_52.2.1, .ref amg, .long z136_52.2.2.1, .ref amp, .ref amo, .int z136_52.2.2.2.1, .int z136_52.2.2.2.2.1, .long z136_52.2.2.2.2.2.1])), (ama, .inl (cI, 47, .inl mpg)), (amb, .inl (cI, 16, .inl mam)), (amc, .inl (cI, 4, .inl mwa)), (amd, .inl (cI, 4, .inl mww)), (ame, .inl (cI, 16, .inl mna)), (amf, .inl (cI, 4, .inl z136_52.2.2.2.2.2.2.1)), (amg, .inl (cJ, 4, .inr (.inl z136_52.2.2.2.2.2.2.2.1))), (amp, .inl (cJ, 9, .inr (.inl z136_52.2.2.2.2.2.2.2.2.1))), (amo, .inl (cJ, 3, .inr (.inl z136_52.2.2.2.2.2.2.2.2.2)))]) rfl rfl rfl rfl hl.1 rfl (Nat.le_of_ble_eq_true rfl) dX7_digest_136 (fun H locs w => ?_)
                refine lv_iinc (v := i39 + 1) (lv' := [(1, .int (i39 + 1)), (0, .ref am)]) hx hb dX7_digest_139 hl (k := 1) rfl rfl (by decide) rfl (fun ls hl => ?_)
                refine lv_goto (tgt := 105) hx hb dX7_digest_142 (by decide) ?_
                exact ih105 (k105 + 1) (i39 + 1) z136_52.1 z136_52.2.1 z136_52.2.2.1 z136_52.2.2.2.1 z136_52.2.2.2.2.1 z136_52.2.2.2.2.2.1 z136_52.2.2.2.2.2.2.1 z136_52.2.2.2.2.2.2.2.1 z136_52.2.2.2.2.2.2.2.2.1 z136_52.2.2.2.2.2.2.2.2.2 (by rw [hk105]; exact nI_1 k105) (by omega) (by omega) (by subst_vars; exact mixBy_MB hms hmb105) hr H locs w ls (lv_sub hl [1, 0] rfl)
        exact LP105 5 0 0 z100_38.1 z100_38.2.1 z100_38.2.2.1 z100_38.2.2.2.1 z100_38.2.2.2.2.1 z100_38.2.2.2.2.2.1 z100_38.2.2.2.2.2.2.1 z100_38.2.2.2.2.2.2.2.1 z100_38.2.2.2.2.2.2.2.2.1 z100_38.2.2.2.2.2.2.2.2.2 (by decide) (by omega) (by omega) (by first | exact hmb | (subst_vars; exact mixBy_MB hms hmb)) hy105.symm H locs w ls (lv_sub hl [1, 0] rfl)
    have LP48 : ∀ (n48 : Nat) (k48 : Nat) (i9 : Int32) (w10 : Int64), i9 = nI k48 → k48 ≤ nmt → nmt < k48 + n48 → L_X7_digest_48 mtc mwa mww n48 i9 w10 = y48 → ∀ (H : Heap) (locs : List Loc), Wd D A s.heap H locs [(am, .inr (7, [.int mpl, .ref ama, .int msc, .int mtc, .ref amb, .ref amc, .ref amd, .int msr, .int mal, .int mns, .int mnn, .int mnt, .int mfi, .int mnw, .ref ame, .int mmy, .ref amf, .long mbe, .ref amg, .long mmf, .ref amp, .ref amo, .int mbs, .int mco, .long w10])), (ama, .inl (cI, 47, .inl mpg)), (amb, .inl (cI, 16, .inl mam)), (amc, .inl (cI, 4, .inl mwa)), (amd, .inl (cI, 4, .inl mww)), (ame, .inl (cI, 16, .inl mna)), (amf, .inl (cI, 4, .inl mmb)), (amg, .inl (cJ, 4, .inr (.inl msh))), (amp, .inl (cJ, 9, .inr (.inl mpa))), (amo, .inl (cJ, 3, .inr (.inl mgo)))] → ∀ (ls : Array Slot), lv_has ls 3 [(0, .ref am), (1, .int i9)] → W p l e (rl 5) s m args below meth c H locs 0 0 Q (F0 m 48 ls []) := by
      clear hr
      intro n48
      induction n48 with
      | zero => intro k48 i9 w10 hk48 hkN48 hn48; exact absurd hn48 (by omega)
      | succ n48 ih48 =>
        intro k48 i9 w10 hk48 hkN48 hn48 hr H locs w ls hl
        have hr : (if mtc ≤ i9 then (i9, w10) else ((fun (z64_12 : Int64) => ((fun (z75_13 : Int64) => L_X7_digest_48 mtc mwa mww n48 (i9 + 1) z75_13) (f_X7_mix z64_12 (Int32.toInt64 (mww (Int32.toNatClampNeg i9)))))) (f_X7_mix w10 (Int32.toInt64 (mwa (Int32.toNatClampNeg i9)))))) = y48 := hr
        refine lv_iload_n hx hb dX7_digest_48 rfl (lv_at hl 1 rfl) ?_
        refine lv_aload_n hx hb dX7_digest_49 rfl (lv_at hl 0 rfl) ?_
        refine fr_get C w fg_X7_81 0 rfl rfl dX7_digest_50 ?_
        refine lv_icmp_ge (tgt := 84) hx hb dX7_digest_53 (by decide) (fun c53_11 => ?_) (fun c53_11 => ?_)
        · have hr := (if_pos c53_11).symm.trans hr
          subst hr
          exact X48 H locs w ls (lv_sub hl [0, 1] rfl)
        · have hr := (if_neg c53_11).symm.trans hr
          have hkl48 := kl_of hk48 hkN48 (N := nmt) hmt2 (by omega) c53_11
          refine lv_aload_n hx hb dX7_digest_56 rfl (lv_at hl 0 rfl) ?_
          refine lv_aload_n hx hb dX7_digest_57 rfl (lv_at hl 0 rfl) ?_
          refine fr_get C w fg_X7_16 0 rfl rfl dX7_digest_58 ?_
          refine lv_iload_n hx hb dX7_digest_61 rfl (lv_at hl 1 rfl) ?_
          refine fr_iald C w 3 rfl (vi_ctr hk48 hkl48 (by omega) (by decide)) dX7_digest_62 ?_
          refine lv_i2l (v := (Int32.toInt64 (mwa (Int32.toNatClampNeg i9)))) hx hb dX7_digest_63 rfl ?_
          obtain ⟨z64_12, hz64_12⟩ : ∃ y, (f_X7_mix w10 (Int32.toInt64 (mwa (Int32.toNatClampNeg i9)))) = y := ⟨_, rfl⟩
          have hcz64_12 := c_X7_mix l D cI cJ am ama amb amc amd ame amf amg amp amo mpl msc mtc msr mal mns mnn mnt mfi mnw mmy mbe mmf mbs mco w10 mpg mam mwa mww mna mmb msh mpa mgo (Int32.toInt64 (mwa (Int32.toNatClampNeg i9)))
          rw [hz64_12] at hcz64_12
          have hr : ((fun (z75_13 : Int64) => L_X7_digest_48 mtc mwa mww n48 (i9 + 1) z75_13) (f_X7_mix z64_12 (Int32.toInt64 (mww (Int32.toNatClampNeg i9))))) = y48 := by subst hz64_12; exact hr
          refine fr_callVV (As := [.long (Int32.toInt64 (mwa (Int32.toNatClampNeg i9)))]) (rest := []) C w kf_X7_mix mw_30_0 (hcz64_12) ⟨Nat.le_of_ble_eq_true rfl, Nat.le_of_ble_eq_true rfl⟩ ⟨Nat.le_refl 0, Nat.le_refl 0⟩ [0, 1, 2, 3, 4, 5, 6, 7, 8, 9] rfl rfl rfl (ws' := [(am, .inr (7, [.int mpl, .ref ama, .int msc, .int mtc, .ref amb, .ref amc, .ref amd, .int msr, .int mal, .int mns, .int mnn, .int mnt, .int mfi, .int mnw, .ref ame, .int mmy, .ref amf, .long mbe, .ref amg, .long mmf, .ref amp, .ref amo, .int mbs, .int mco, .long z64_12])), (ama, .inl (cI, 47, .inl mpg)), (amb, .inl (cI, 16, .inl mam)), (amc, .inl (cI, 4, .inl mwa)), (amd, .inl (cI, 4, .inl mww)), (ame, .inl (cI, 16, .inl mna)), (amf, .inl (cI, 4, .inl mmb)), (amg, .inl (cJ, 4, .inr (.inl msh))), (amp, .inl (cJ, 9, .inr (.inl mpa))), (amo, .inl (cJ, 3, .inr (.inl mgo)))]) rfl rfl rfl rfl hl.1 rfl (Nat.le_of_ble_eq_true rfl) dX7_digest_64 (fun H locs w => ?_)
          refine lv_aload_n hx hb dX7_digest_67 rfl (lv_at hl 0 rfl) ?_
          refine lv_aload_n hx hb dX7_digest_68 rfl (lv_at hl 0 rfl) ?_
          refine fr_get C w fg_X7_19 0 rfl rfl dX7_digest_69 ?_
          refine lv_iload_n hx hb dX7_digest_72 rfl (lv_at hl 1 rfl) ?_
          refine fr_iald C w 4 rfl (vi_ctr hk48 hkl48 (by omega) (by decide)) dX7_digest_73 ?_
          refine lv_i2l (v := (Int32.toInt64 (mww (Int32.toNatClampNeg i9)))) hx hb dX7_digest_74 rfl ?_
          obtain ⟨z75_13, hz75_13⟩ : ∃ y, (f_X7_mix z64_12 (Int32.toInt64 (mww (Int32.toNatClampNeg i9)))) = y := ⟨_, rfl⟩
          have hcz75_13 := c_X7_mix l D cI cJ am ama amb amc amd ame amf amg amp amo mpl msc mtc msr mal mns mnn mnt mfi mnw mmy mbe mmf mbs mco z64_12 mpg mam mwa mww mna mmb msh mpa mgo (Int32.toInt64 (mww (Int32.toNatClampNeg i9)))
          rw [hz75_13] at hcz75_13
          have hr : L_X7_digest_48 mtc mwa mww n48 (i9 + 1) z75_13 = y48 := by subst hz75_13; exact hr
          refine fr_callVV (As := [.long (Int32.toInt64 (mww (Int32.toNatClampNeg i9)))]) (rest := []) C w kf_X7_mix mw_30_0 (hcz75_13) ⟨Nat.le_of_ble_eq_true rfl, Nat.le_of_ble_eq_true rfl⟩ ⟨Nat.le_refl 0, Nat.le_refl 0⟩ [0, 1, 2, 3, 4, 5, 6, 7, 8, 9] rfl rfl rfl (ws' := [(am, .inr (7, [.int mpl, .ref ama, .int msc, .int mtc, .ref amb, .ref amc, .ref amd, .int msr, .int mal, .int mns, .int mnn, .int mnt, .int mfi, .int mnw, .ref ame, .int mmy, .ref amf, .long mbe, .ref amg, .long mmf, .ref amp, .ref amo, .int mbs, .int mco, .long z75_13])), (ama, .inl (cI, 47, .inl mpg)), (amb, .inl (cI, 16, .inl mam)), (amc, .inl (cI, 4, .inl mwa)), (amd, .inl (cI, 4, .inl mww)), (ame, .inl (cI, 16, .inl mna)), (amf, .inl (cI, 4, .inl mmb)), (amg, .inl (cJ, 4, .inr (.inl msh))), (amp, .inl (cJ, 9, .inr (.inl mpa))), (amo, .inl (cJ, 3, .inr (.inl mgo)))]) rfl rfl rfl rfl hl.1 rfl (Nat.le_of_ble_eq_true rfl) dX7_digest_75 (fun H locs w => ?_)
          refine lv_iinc (v := i9 + 1) (lv' := [(1, .int (i9 + 1)), (0, .ref am)]) hx hb dX7_digest_78 hl (k := 1) rfl rfl (by decide) rfl (fun ls hl => ?_)
          refine lv_goto (tgt := 48) hx hb dX7_digest_81 (by decide) ?_
          exact ih48 (k48 + 1) (i9 + 1) z75_13 (by rw [hk48]; exact nI_1 k48) (by omega) (by omega) hr H locs w ls (lv_sub hl [1, 0] rfl)
    exact LP48 5 0 0 y9.2 (by decide) (by omega) (by omega) hy48.symm H locs w ls (lv_sub hl [1, 0] rfl)
  have LP9 : ∀ (n9 : Nat) (k9 : Nat) (i1 : Int32) (w2 : Int64), i1 = nI k9 → k9 ≤ nms → nms < k9 + n9 → L_X7_digest_9 msc mtc mam n9 i1 w2 = y9 → ∀ (H : Heap) (locs : List Loc), Wd D A s.heap H locs [(am, .inr (7, [.int mpl, .ref ama, .int msc, .int mtc, .ref amb, .ref amc, .ref amd, .int msr, .int mal, .int mns, .int mnn, .int mnt, .int mfi, .int mnw, .ref ame, .int mmy, .ref amf, .long mbe, .ref amg, .long mmf, .ref amp, .ref amo, .int mbs, .int mco, .long w2])), (ama, .inl (cI, 47, .inl mpg)), (amb, .inl (cI, 16, .inl mam)), (amc, .inl (cI, 4, .inl mwa)), (amd, .inl (cI, 4, .inl mww)), (ame, .inl (cI, 16, .inl mna)), (amf, .inl (cI, 4, .inl mmb)), (amg, .inl (cJ, 4, .inr (.inl msh))), (amp, .inl (cJ, 9, .inr (.inl mpa))), (amo, .inl (cJ, 3, .inr (.inl mgo)))] → ∀ (ls : Array Slot), lv_has ls 3 [(0, .ref am), (1, .int i1)] → W p l e (rl 5) s m args below meth c H locs 0 0 Q (F0 m 9 ls []) := by
    clear hr
    intro n9
    induction n9 with
    | zero => intro k9 i1 w2 hk9 hkN9 hn9; exact absurd hn9 (by omega)
    | succ n9 ih9 =>
      intro k9 i1 w2 hk9 hkN9 hn9 hr H locs w ls hl
      have hr : (if msc ≤ i1 then (i1, w2) else ((fun (y19 : Int32 × Int64) => L_X7_digest_9 msc mtc mam n9 (i1 + 1) y19.2) (L_X7_digest_19 mtc mam i1 5 0 w2))) = y9 := hr
      refine lv_iload_n hx hb dX7_digest_9 rfl (lv_at hl 1 rfl) ?_
      refine lv_aload_n hx hb dX7_digest_10 rfl (lv_at hl 0 rfl) ?_
      refine fr_get C w fg_X7_78 0 rfl rfl dX7_digest_11 ?_
      refine lv_icmp_ge (tgt := 46) hx hb dX7_digest_14 (by decide) (fun c14_3 => ?_) (fun c14_3 => ?_)
      · have hr := (if_pos c14_3).symm.trans hr
        subst hr
        exact X9 H locs w ls (lv_sub hl [0, 1] rfl)
      · have hr := (if_neg c14_3).symm.trans hr
        have hkl9 := kl_of hk9 hkN9 (N := nms) hms2 (by omega) c14_3
        refine lv_iconst (v := 0) hx hb dX7_digest_17 (by decide) ?_
        refine lv_istore_n (lv' := [(2, .int 0), (0, .ref am), (1, .int i1)]) hx hb dX7_digest_18 rfl hl (by decide) rfl (fun ls hl => ?_)
        obtain ⟨y19, hy19⟩ : ∃ y, y = L_X7_digest_19 mtc mam i1 5 0 w2 := ⟨_, rfl⟩
        have hr : L_X7_digest_9 msc mtc mam n9 (i1 + 1) y19.2 = y9 := by rw [hy19]; exact hr
        have X19 : ∀ (H : Heap) (locs : List Loc), Wd D A s.heap H locs [(am, .inr (7, [.int mpl, .ref ama, .int msc, .int mtc, .ref amb, .ref amc, .ref amd, .int msr, .int mal, .int mns, .int mnn, .int mnt, .int mfi, .int mnw, .ref ame, .int mmy, .ref amf, .long mbe, .ref amg, .long mmf, .ref amp, .ref amo, .int mbs, .int mco, .long y19.2])), (ama, .inl (cI, 47, .inl mpg)), (amb, .inl (cI, 16, .inl mam)), (amc, .inl (cI, 4, .inl mwa)), (amd, .inl (cI, 4, .inl mww)), (ame, .inl (cI, 16, .inl mna)), (amf, .inl (cI, 4, .inl mmb)), (amg, .inl (cJ, 4, .inr (.inl msh))), (amp, .inl (cJ, 9, .inr (.inl mpa))), (amo, .inl (cJ, 3, .inr (.inl mgo)))] → ∀ (ls : Array Slot), lv_has ls 3 [(0, .ref am), (1, .int i1), (2, .int y19.1)] → W p l e (rl 5) s m args below meth c H locs 0 0 Q (F0 m 40 ls []) := by
          intro H locs w ls hl
          refine lv_iinc (v := i1 + 1) (lv' := [(1, .int (i1 + 1)), (0, .ref am), (2, .int y19.1)]) hx hb dX7_digest_40 hl (k := 1) rfl rfl (by decide) rfl (fun ls hl => ?_)
          refine lv_goto (tgt := 9) hx hb dX7_digest_43 (by decide) ?_
          exact ih9 (k9 + 1) (i1 + 1) y19.2 (by rw [hk9]; exact nI_1 k9) (by omega) (by omega) hr H locs w ls (lv_sub hl [1, 0] rfl)
        have LP19 : ∀ (n19 : Nat) (k19 : Nat) (i4 : Int32) (w5 : Int64), i4 = nI k19 → k19 ≤ 4 → 4 < k19 + n19 → L_X7_digest_19 mtc mam i1 n19 i4 w5 = y19 → ∀ (H : Heap) (locs : List Loc), Wd D A s.heap H locs [(am, .inr (7, [.int mpl, .ref ama, .int msc, .int mtc, .ref amb, .ref amc, .ref amd, .int msr, .int mal, .int mns, .int mnn, .int mnt, .int mfi, .int mnw, .ref ame, .int mmy, .ref amf, .long mbe, .ref amg, .long mmf, .ref amp, .ref amo, .int mbs, .int mco, .long w5])), (ama, .inl (cI, 47, .inl mpg)), (amb, .inl (cI, 16, .inl mam)), (amc, .inl (cI, 4, .inl mwa)), (amd, .inl (cI, 4, .inl mww)), (ame, .inl (cI, 16, .inl mna)), (amf, .inl (cI, 4, .inl mmb)), (amg, .inl (cJ, 4, .inr (.inl msh))), (amp, .inl (cJ, 9, .inr (.inl mpa))), (amo, .inl (cJ, 3, .inr (.inl mgo)))] → ∀ (ls : Array Slot), lv_has ls 3 [(0, .ref am), (1, .int i1), (2, .int i4)] → W p l e (rl 5) s m args below meth c H locs 0 0 Q (F0 m 19 ls []) := by
          clear hr
          intro n19
          induction n19 with
          | zero => intro k19 i4 w5 hk19 hkN19 hn19; exact absurd hn19 (by omega)
          | succ n19 ih19 =>
            intro k19 i4 w5 hk19 hkN19 hn19 hr H locs w ls hl
            have hr : (if 4 ≤ i4 then (i4, w5) else ((fun (z28_7 : Int64) => ((fun (z31_8 : Int64) => L_X7_digest_19 mtc mam i1 n19 (i4 + 1) z31_8) (f_X7_mix w5 z28_7))) (f_X7_hasNow mtc mam i1 i4))) = y19 := hr
            refine lv_iload_n hx hb dX7_digest_19 rfl (lv_at hl 2 rfl) ?_
            refine lv_iconst (v := 4) hx hb dX7_digest_20 (by decide) ?_
            refine lv_icmp_ge (tgt := 40) hx hb dX7_digest_21 (by decide) (fun c21_6 => ?_) (fun c21_6 => ?_)
            · have hr := (if_pos c21_6).symm.trans hr
              subst hr
              exact X19 H locs w ls (lv_sub hl [0, 1, 2] rfl)
            · have hr := (if_neg c21_6).symm.trans hr
              have hkl19 := kl_of hk19 hkN19 (N := 4) (by decide) (by omega) c21_6
              refine lv_aload_n hx hb dX7_digest_24 rfl (lv_at hl 0 rfl) ?_
              refine lv_aload_n hx hb dX7_digest_25 rfl (lv_at hl 0 rfl) ?_
              refine lv_iload_n hx hb dX7_digest_26 rfl (lv_at hl 1 rfl) ?_
              refine lv_iload_n hx hb dX7_digest_27 rfl (lv_at hl 2 rfl) ?_
              obtain ⟨z28_7, hz28_7⟩ : ∃ y, (f_X7_hasNow mtc mam i1 i4) = y := ⟨_, rfl⟩
              have hcz28_7 := c_X7_hasNow l D cI cJ am ama amb amc amd ame amf amg amp amo mpl msc mtc msr mal mns mnn mnt mfi mnw mmy mbe mmf mbs mco w5 mpg mam mwa mww mna mmb msh mpa mgo i1 i4 ⟨k9, by omega, hk9⟩ hmt
              rw [hz28_7] at hcz28_7
              have hr : ((fun (z31_8 : Int64) => L_X7_digest_19 mtc mam i1 n19 (i4 + 1) z31_8) (f_X7_mix w5 z28_7)) = y19 := by subst hz28_7; exact hr
              refine fr_callLV (As := [.int i1, .int i4]) (rest := [.ref am]) C w kf_X7_hasNow mw_14_20 (hcz28_7) ⟨Nat.le_of_ble_eq_true rfl, Nat.le_of_ble_eq_true rfl⟩ ⟨Nat.le_refl 0, Nat.le_refl 0⟩ [0, 1, 2, 3, 4, 5, 6, 7, 8, 9] rfl rfl rfl (ws' := [(am, .inr (7, [.int mpl, .ref ama, .int msc, .int mtc, .ref amb, .ref amc, .ref amd, .int msr, .int mal, .int mns, .int mnn, .int mnt, .int mfi, .int mnw, .ref ame, .int mmy, .ref amf, .long mbe, .ref amg, .long mmf, .ref amp, .ref amo, .int mbs, .int mco, .long w5])), (ama, .inl (cI, 47, .inl mpg)), (amb, .inl (cI, 16, .inl mam)), (amc, .inl (cI, 4, .inl mwa)), (amd, .inl (cI, 4, .inl mww)), (ame, .inl (cI, 16, .inl mna)), (amf, .inl (cI, 4, .inl mmb)), (amg, .inl (cJ, 4, .inr (.inl msh))), (amp, .inl (cJ, 9, .inr (.inl mpa))), (amo, .inl (cJ, 3, .inr (.inl mgo)))]) rfl rfl rfl rfl hl.1 rfl (Nat.le_of_ble_eq_true rfl) dX7_digest_28 (fun H locs w => ?_)
              obtain ⟨z31_8, hz31_8⟩ : ∃ y, (f_X7_mix w5 z28_7) = y := ⟨_, rfl⟩
              have hcz31_8 := c_X7_mix l D cI cJ am ama amb amc amd ame amf amg amp amo mpl msc mtc msr mal mns mnn mnt mfi mnw mmy mbe mmf mbs mco w5 mpg mam mwa mww mna mmb msh mpa mgo z28_7
              rw [hz31_8] at hcz31_8
              have hr : L_X7_digest_19 mtc mam i1 n19 (i4 + 1) z31_8 = y19 := by subst hz31_8; exact hr
              refine fr_callVV (As := [.long z28_7]) (rest := []) C w kf_X7_mix mw_30_0 (hcz31_8) ⟨Nat.le_of_ble_eq_true rfl, Nat.le_of_ble_eq_true rfl⟩ ⟨Nat.le_refl 0, Nat.le_refl 0⟩ [0, 1, 2, 3, 4, 5, 6, 7, 8, 9] rfl rfl rfl (ws' := [(am, .inr (7, [.int mpl, .ref ama, .int msc, .int mtc, .ref amb, .ref amc, .ref amd, .int msr, .int mal, .int mns, .int mnn, .int mnt, .int mfi, .int mnw, .ref ame, .int mmy, .ref amf, .long mbe, .ref amg, .long mmf, .ref amp, .ref amo, .int mbs, .int mco, .long z31_8])), (ama, .inl (cI, 47, .inl mpg)), (amb, .inl (cI, 16, .inl mam)), (amc, .inl (cI, 4, .inl mwa)), (amd, .inl (cI, 4, .inl mww)), (ame, .inl (cI, 16, .inl mna)), (amf, .inl (cI, 4, .inl mmb)), (amg, .inl (cJ, 4, .inr (.inl msh))), (amp, .inl (cJ, 9, .inr (.inl mpa))), (amo, .inl (cJ, 3, .inr (.inl mgo)))]) rfl rfl rfl rfl hl.1 rfl (Nat.le_of_ble_eq_true rfl) dX7_digest_31 (fun H locs w => ?_)
              refine lv_iinc (v := i4 + 1) (lv' := [(2, .int (i4 + 1)), (0, .ref am), (1, .int i1)]) hx hb dX7_digest_34 hl (k := 2) rfl rfl (by decide) rfl (fun ls hl => ?_)
              refine lv_goto (tgt := 19) hx hb dX7_digest_37 (by decide) ?_
              exact ih19 (k19 + 1) (i4 + 1) z31_8 (by rw [hk19]; exact nI_1 k19) (by omega) (by omega) hr H locs w ls (lv_sub hl [1, 2, 0] rfl)
        exact LP19 5 0 0 w2 (by decide) (by omega) (by omega) hy19.symm H locs w ls (lv_sub hl [1, 2, 0] rfl)
  exact LP9 5 0 0 1709 (by decide) (by omega) (by omega) hy9.symm H locs w ls (lv_sub hl [1, 0] rfl)
