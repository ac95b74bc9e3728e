theorem mw_4_16 : Cond.fieldLink RX7 28 "MudSharesModel" "shareAbove" "[J" ∈ wsL_law := ck_4 _ (List.mem_of_getElem? (i := 16) rfl)
theorem mw_23_4 : Cond.methodLink RX7 135 yX7_layPairs ∈ wsL_law := ck_23 _ (List.mem_of_getElem? (i := 4) rfl)
theorem mw_23_7 : Cond.code yX7_layPairs cX7_layPairs 7 none ∈ wsL_law := ck_23 _ (List.mem_of_getElem? (i := 7) rfl)
theorem mw_23_5 : Cond.instanceMethod yX7_layPairs ∈ wsL_law := ck_23 _ (List.mem_of_getElem? (i := 5) rfl)
theorem mw_23_6 : Cond.selects RX7 yX7_layPairs yX7_layPairs ∈ wsL_law := ck_23 _ (List.mem_of_getElem? (i := 6) rfl)
theorem mw_23_16 : Cond.methodLink RX7 139 yX7_determinant ∈ wsL_law := ck_23 _ (List.mem_of_getElem? (i := 16) rfl)
theorem mw_23_19 : Cond.code yX7_determinant cX7_determinant 7 (some .long) ∈ wsL_law := ck_23 _ (List.mem_of_getElem? (i := 19) rfl)
theorem mw_23_17 : Cond.instanceMethod yX7_determinant ∈ wsL_law := ck_23 _ (List.mem_of_getElem? (i := 17) rfl)
theorem mw_23_18 : Cond.selects RX7 yX7_determinant yX7_determinant ∈ wsL_law := ck_23 _ (List.mem_of_getElem? (i := 18) rfl)
theorem mw_22_22 : Cond.fieldLink RX7 142 "MudSharesModel" "below" "J" ∈ wsL_law := ck_22 _ (List.mem_of_getElem? (i := 22) rfl)
theorem mw_22_21 : Cond.fieldLink RX7 146 "MudSharesModel" "misfitAbove" "J" ∈ wsL_law := ck_22 _ (List.mem_of_getElem? (i := 21) rfl)
theorem fp_X7_121 : FP RX7 121 7 15 .int := ⟨RX7, TX7, 25, tyX7, rfl, by decide, inlX7, mw_23_3, tyX7_ok, nmX7, rfl, by decide +kernel⟩
theorem fg_X7_28 : FG RX7 28 7 18 := ⟨RX7, TX7, 25, rfl, by decide, inlX7, mw_4_16⟩
theorem fp_X7_142 : FP RX7 142 7 17 .long := ⟨RX7, TX7, 25, tyX7, rfl, by decide, inlX7, mw_22_22, tyX7_ok, nmX7, rfl, by decide +kernel⟩
theorem fp_X7_146 : FP RX7 146 7 19 .long := ⟨RX7, TX7, 25, tyX7, rfl, by decide, inlX7, mw_22_21, tyX7_ok, nmX7, rfl, by decide +kernel⟩
theorem fg_X7_146 : FG RX7 146 7 19 := ⟨RX7, TX7, 25, rfl, by decide, inlX7, mw_22_21⟩
theorem fg_X7_142 : FG RX7 142 7 17 := ⟨RX7, TX7, 25, rfl, by decide, inlX7, mw_22_22⟩
theorem kf_X7_layPairs : KV RX7 yX7_layPairs cX7_layPairs 7 none 1 := ⟨mw_23_7, mw_23_5, mw_23_6, mw_1_5, by decide, by decide, by decide +kernel⟩
theorem kf_X7_determinant : KV RX7 yX7_determinant cX7_determinant 7 (some .long) 1 := ⟨mw_23_19, mw_23_17, mw_23_18, mw_1_5, by decide, by decide, by decide +kernel⟩
def L_X7_laySet_7 (msc : Int32) (q1 : Int32) : Nat → Int32 → Int32 → (Nat → Int32) → (Nat → Int64) → Int32 × Int32 × (Nat → Int32) × (Nat → Int64)
  | 0, _, _, _, _ => (0, 0, fun _ => 0, fun _ => 0)
  | n7 + 1, i1, w2, w3, w4 => (if msc ≤ i1 then (i1, w2, w3, w4) else (if (f_X7_hasBit q1 i1) = 0 then L_X7_laySet_7 msc q1 n7 (i1 + 1) w2 w3 (vp_updL w4 (Int32.toNatClampNeg i1) 0) else L_X7_laySet_7 msc q1 n7 (i1 + 1) (w2 + 1) (upd w3 (Int32.toNatClampNeg w2) i1) (vp_updL w4 (Int32.toNatClampNeg i1) 0)))
def L_X7_laySet_77 (mtc : Int32) (mam : Nat → Int32) (mwa : Nat → Int32) (mww : Nat → Int32) (us : Int32) (y7 : Int32 × Int32 × (Nat → Int32) × (Nat → Int64)) (z58_7 : (Nat → Int64) × (Nat → Int64)) : Nat → Int32 → Int64 → Int32 × Int64
  | 0, _, _ => (0, 0)
  | n77 + 1, i8, w9 => (if mtc ≤ i8 then (i8, w9) else ((fun (v12 : Int64) => L_X7_laySet_77 mtc mam mwa mww us y7 z58_7 n77 (i8 + 1) (w9 + v12)) (if (f_X7_hasBit us i8) = 0 then 0 else (((Int32.toInt64 (mww (Int32.toNatClampNeg i8))) * (f_X7_short0 mam mwa y7.2.2.1 i8)) * (f_X7_short0 mam mwa y7.2.2.1 i8)) * (f_X7_determinant z58_7.1 z58_7.2 3))))
def L_X7_laySet_144 (y7 : Int32 × Int32 × (Nat → Int32) × (Nat → Int64)) (z58_7 : (Nat → Int64) × (Nat → Int64)) : Nat → Int64 → Int32 → Int64 → (Nat → Int64) → Int64 × Int32 × Int64 × (Nat → Int64)
  | 0, _, _, _, _ => (0, 0, 0, fun _ => 0)
  | n144 + 1, i14, i15, w16, w17 => (if y7.2.1 ≤ (i15 + 1) then (i14, i15, w16, w17) else L_X7_laySet_144 y7 z58_7 n144 (i14 - (f_X7_determinant z58_7.1 z58_7.2 i15)) (i15 + 1) (w16 - ((z58_7.2 (Int32.toNatClampNeg i15)) * (f_X7_determinant z58_7.1 z58_7.2 i15))) (vp_updL w17 (Int32.toNatClampNeg (y7.2.2.1 (Int32.toNatClampNeg (i15 + 1)))) (f_X7_determinant z58_7.1 z58_7.2 i15)))
def f_X7_laySet (msc : Int32) (mtc : Int32) (mam : Nat → Int32) (mwa : Nat → Int32) (mww : Nat → Int32) (mmb : Nat → Int32) (msh : Nat → Int64) (mpa : Nat → Int64) (mgo : Nat → Int64) (q1 : Int32) (us : Int32) : Int32 × Int64 × Int64 × (Nat → Int32) × (Nat → Int64) × (Nat → Int64) × (Nat → Int64) := ((fun (y7 : Int32 × Int32 × (Nat → Int32) × (Nat → Int64)) => ((fun (z58_7 : (Nat → Int64) × (Nat → Int64)) => ((fun (y77 : Int32 × Int64) => ((fun (y144 : Int64 × Int32 × Int64 × (Nat → Int64)) => (y7.2.1, (f_X7_determinant z58_7.1 z58_7.2 3), y144.2.2.1, y7.2.2.1, vp_updL y144.2.2.2 (Int32.toNatClampNeg (y7.2.2.1 (Int32.toNatClampNeg 0))) y144.1, z58_7.1, z58_7.2)) (L_X7_laySet_144 y7 z58_7 4 (f_X7_determinant z58_7.1 z58_7.2 3) 0 y77.2 y7.2.2.2))) (L_X7_laySet_77 mtc mam mwa mww us y7 z58_7 5 0 0))) (f_X7_layPairs mtc y7.2.1 mam mwa mww y7.2.2.1 mpa mgo us))) (L_X7_laySet_7 msc q1 5 0 0 mmb msh))
theorem layL_facts {q1 : Int32} {nms : Nat} (hn : nms ≤ 4) : ∀ (n k : Nat) (i m : Int32) (mb : Nat → Int32) (sh : Nat → Int64), i = nI k → k ≤ nms → (∃ j : Nat, j ≤ k ∧ m = nI j) → MB mb → LE4 (L_X7_laySet_7 (nI nms) q1 n i m mb sh).2.1 ∧ MB (L_X7_laySet_7 (nI nms) q1 n i m mb sh).2.2.1 := by
  intro n
  induction n with
  | zero => intro k i m mb sh h1 h2 h3 h4; exact ⟨⟨0, by omega, nI_0.symm⟩, fun j => ⟨0, by decide, nI_0.symm⟩⟩
  | succ n ih =>
    intro k i m mb sh h1 h2 h3 h4
    rw [L_X7_laySet_7]
    by_cases c : nI nms ≤ i
    · rw [if_pos c]
      obtain ⟨j, hj, e⟩ := h3
      exact ⟨⟨j, by omega, e⟩, h4⟩
    · rw [if_neg c]
      have hk := kl_of h1 h2 rfl (by omega) c
      split
      · exact ih (k + 1) _ _ _ _ (by rw [h1]; exact nI_1 k) hk (my_keep h3) h4
      · exact ih (k + 1) _ _ _ _ (by rw [h1]; exact nI_1 k) hk (my_inc h3) (MB_upd h4 ⟨k, by omega, h1⟩)
set_option maxRecDepth 100000 in
set_option maxHeartbeats 4000000 in
theorem c_X7_laySet (l : Launch) (D : va_G) (cI cJ : ClassId) (am ama amb amc amd ame amf amg amp amo : Nat) (mpl : Int32) (msc : Int32) (mtc : Int32) (msr : Int32) (mal : Int32) (mns : Int32) (mnn : Int32) (mnt : Int32) (mfi : Int32) (mnw : Int32) (mmy : Int32) (mbe : Int64) (mmf : Int64) (mbs : Int32) (mco : Int32) (mh : Int64) (mpg : Nat → Int32) (mam : Nat → Int32) (mwa : Nat → Int32) (mww : Nat → Int32) (mna : Nat → Int32) (mmb : Nat → Int32) (msh : Nat → Int64) (mpa : Nat → Int64) (mgo : Nat → Int64) (q1 : Int32) (us : Int32) (hms : LE4 msc) (hmt : LE4 mtc) (hmb : MB mmb) : CV l yX7_laySet cX7_laySet 8 2 D cI cJ [.ref am, .int q1, .int us] [(am, .inr (7, [.int mpl, .ref ama, .int msc, .int mtc, .ref amb, .ref amc, .ref amd, .int msr, .int mal, .int mns, .int mnn, .int mnt, .int mfi, .int mnw, .ref ame, .int mmy, .ref amf, .long mbe, .ref amg, .long mmf, .ref amp, .ref amo, .int mbs, .int mco, .long mh])), (ama, .inl (cI, 47, .inl mpg)), (amb, .inl (cI, 16, .inl mam)), (amc, .inl (cI, 4, .inl mwa)), (amd, .inl (cI, 4, .inl mww)), (ame, .inl (cI, 16, .inl mna)), (amf, .inl (cI, 4, .inl mmb)), (amg, .inl (cJ, 4, .inr (.inl msh))), (amp, .inl (cJ, 9, .inr (.inl mpa))), (amo, .inl (cJ, 3, .inr (.inl mgo)))] [(am, .inr (7, [.int mpl, .ref ama, .int msc, .int mtc, .ref amb, .ref amc, .ref amd, .int msr, .int mal, .int mns, .int mnn, .int mnt, .int mfi, .int mnw, .ref ame, .int ((f_X7_laySet msc mtc mam mwa mww mmb msh mpa mgo q1 us).1), .ref amf, .long ((f_X7_laySet msc mtc mam mwa mww mmb msh mpa mgo q1 us).2.1), .ref amg, .long ((f_X7_laySet msc mtc mam mwa mww mmb msh mpa mgo q1 us).2.2.1), .ref amp, .ref amo, .int mbs, .int mco, .long mh])), (ama, .inl (cI, 47, .inl mpg)), (amb, .inl (cI, 16, .inl mam)), (amc, .inl (cI, 4, .inl mwa)), (amd, .inl (cI, 4, .inl mww)), (ame, .inl (cI, 16, .inl mna)), (amf, .inl (cI, 4, .inl ((f_X7_laySet msc mtc mam mwa mww mmb msh mpa mgo q1 us).2.2.2.1))), (amg, .inl (cJ, 4, .inr (.inl ((f_X7_laySet msc mtc mam mwa mww mmb msh mpa mgo q1 us).2.2.2.2.1)))), (amp, .inl (cJ, 9, .inr (.inl ((f_X7_laySet msc mtc mam mwa mww mmb msh mpa mgo q1 us).2.2.2.2.2.1)))), (amo, .inl (cJ, 3, .inr (.inl ((f_X7_laySet msc mtc mam mwa mww mmb msh mpa mgo q1 us).2.2.2.2.2.2))))] := by
  generalize hr : f_X7_laySet msc mtc mam mwa mww mmb msh mpa mgo q1 us = r
  obtain ⟨nms, hms1, hms2⟩ := id hms
  obtain ⟨nmt, hmt1, hmt2⟩ := id hmt
  refine fr_entryV (by decide) rfl ?_
  intro p e s m args below meth c A Q H locs hQ C hret hlk w ls hl
  have hx := C.1
  have hb := C.2.1
  have hl : lv_has ls 8 [(0, .ref am), (1, .int q1), (2, .int us)] := hl
  have hr : ((fun (y7 : Int32 × Int32 × (Nat → Int32) × (Nat → Int64)) => ((fun (z58_7 : (Nat → Int64) × (Nat → Int64)) => ((fun (y77 : Int32 × Int64) => ((fun (y144 : Int64 × Int32 × Int64 × (Nat → Int64)) => (y7.2.1, (f_X7_determinant z58_7.1 z58_7.2 3), y144.2.2.1, y7.2.2.1, vp_updL y144.2.2.2 (Int32.toNatClampNeg (y7.2.2.1 (Int32.toNatClampNeg 0))) y144.1, z58_7.1, z58_7.2)) (L_X7_laySet_144 y7 z58_7 4 (f_X7_determinant z58_7.1 z58_7.2 3) 0 y77.2 y7.2.2.2))) (L_X7_laySet_77 mtc mam mwa mww us y7 z58_7 5 0 0))) (f_X7_layPairs mtc y7.2.1 mam mwa mww y7.2.2.1 mpa mgo us))) (L_X7_laySet_7 msc q1 5 0 0 mmb msh)) = r := hr
  refine lv_aload_n hx hb dX7_laySet_0 rfl (lv_at hl 0 rfl) ?_
  refine lv_iconst (v := 0) hx hb dX7_laySet_1 (by decide) ?_
  refine fr_put C w fp_X7_121 0 rfl rfl rfl rfl (ws' := [(am, .inr (7, [.int mpl, .ref ama, .int msc, .int mtc, .ref amb, .ref amc, .ref amd, .int msr, .int mal, .int mns, .int mnn, .int mnt, .int mfi, .int mnw, .ref ame, .int 0, .ref amf, .long mbe, .ref amg, .long mmf, .ref amp, .ref amo, .int mbs, .int mco, .long mh])), (ama, .inl (cI, 47, .inl mpg)), (amb, .inl (cI, 16, .inl mam)), (amc, .inl (cI, 4, .inl mwa)), (amd, .inl (cI, 4, .inl mww)), (ame, .inl (cI, 16, .inl mna)), (amf, .inl (cI, 4, .inl mmb)), (amg, .inl (cJ, 4, .inr (.inl msh))), (amp, .inl (cJ, 9, .inr (.inl mpa))), (amo, .inl (cJ, 3, .inr (.inl mgo)))]) rfl dX7_laySet_2 (fun H locs w => ?_)
  refine lv_iconst (v := 0) hx hb dX7_laySet_5 (by decide) ?_
  refine lv_istore_n (lv' := [(3, .int 0), (0, .ref am), (1, .int q1), (2, .int us)]) hx hb dX7_laySet_6 rfl hl (by decide) rfl (fun ls hl => ?_)
  obtain ⟨y7, hy7⟩ : ∃ y, y = L_X7_laySet_7 msc q1 5 0 0 mmb msh := ⟨_, rfl⟩
  have hr : ((fun (z58_7 : (Nat → Int64) × (Nat → Int64)) => ((fun (y77 : Int32 × Int64) => ((fun (y144 : Int64 × Int32 × Int64 × (Nat → Int64)) => (y7.2.1, (f_X7_determinant z58_7.1 z58_7.2 3), y144.2.2.1, y7.2.2.1, vp_updL y144.2.2.2 (Int32.toNatClampNeg (y7.2.2.1 (Int32.toNatClampNeg 0))) y144.1, z58_7.1, z58_7.2)) (L_X7_laySet_144 y7 z58_7 4 (f_X7_determinant z58_7.1 z58_7.2 3) 0 y77.2 y7.2.2.2))) (L_X7_laySet_77 mtc mam mwa mww us y7 z58_7 5 0 0))) (f_X7_layPairs mtc y7.2.1 mam mwa mww y7.2.2.1 mpa mgo us)) = r := by rw [hy7]; exact hr
  have hf7 : LE4 y7.2.1 ∧ MB y7.2.2.1 := by rw [hy7, hms2]; exact layL_facts hms1 5 0 _ _ _ _ (by decide) (Nat.zero_le _) ⟨0, Nat.le_refl 0, by decide⟩ hmb
  have X7 : ∀ (H : Heap) (locs : List Loc), Wd D A s.heap H locs [(am, .inr (7, [.int mpl, .ref ama, .int msc, .int mtc, .ref amb, .ref amc, .ref amd, .int msr, .int mal, .int mns, .int mnn, .int mnt, .int mfi, .int mnw, .ref ame, .int y7.2.1, .ref amf, .long mbe, .ref amg, .long mmf, .ref amp, .ref amo, .int mbs, .int mco, .long mh])), (ama, .inl (cI, 47, .inl mpg)), (amb, .inl (cI, 16, .inl mam)), (amc, .inl (cI, 4, .inl mwa)), (amd, .inl (cI, 4, .inl mww)), (ame, .inl (cI, 16, .inl mna)), (amf, .inl (cI, 4, .inl y7.2.2.1)), (amg, .inl (cJ, 4, .inr (.inl y7.2.2.2))), (amp, .inl (cJ, 9, .inr (.inl mpa))), (amo, .inl (cJ, 3, .inr (.inl mgo)))] → ∀ (ls : Array Slot), lv_has ls 8 [(0, .ref am), (1, .int q1), (2, .int us), (3, .int y7.1)] → W p l e (rl 2) s m args below meth c H locs 0 0 Q (F0 m 56 ls []) := by
    intro H locs w ls hl
    refine lv_aload_n hx hb dX7_laySet_56 rfl (lv_at hl 0 rfl) ?_
    refine lv_iload_n hx hb dX7_laySet_57 rfl (lv_at hl 2 rfl) ?_
    obtain ⟨z58_7, hz58_7⟩ : ∃ y, (f_X7_layPairs mtc y7.2.1 mam mwa mww y7.2.2.1 mpa mgo us) = y := ⟨_, rfl⟩
    have hcz58_7 := c_X7_layPairs l D cI cJ am ama amb amc amd ame amf amg amp amo mpl msc mtc msr mal mns mnn mnt mfi mnw y7.2.1 mbe mmf mbs mco mh mpg mam mwa mww mna y7.2.2.1 y7.2.2.2 mpa mgo us hf7.2 hmt
    rw [hz58_7] at hcz58_7
    have hr : ((fun (y77 : Int32 × Int64) => ((fun (y144 : Int64 × Int32 × Int64 × (Nat → Int64)) => (y7.2.1, (f_X7_determinant z58_7.1 z58_7.2 3), y144.2.2.1, y7.2.2.1, vp_updL y144.2.2.2 (Int32.toNatClampNeg (y7.2.2.1 (Int32.toNatClampNeg 0))) y144.1, z58_7.1, z58_7.2)) (L_X7_laySet_144 y7 z58_7 4 (f_X7_determinant z58_7.1 z58_7.2 3) 0 y77.2 y7.2.2.2))) (L_X7_laySet_77 mtc mam mwa mww us y7 z58_7 5 0 0)) = r := by subst hz58_7; exact hr
    refine fr_callVV (As := [.int us]) (rest := []) C w kf_X7_layPairs mw_23_4 (hcz58_7) ⟨Nat.le_of_ble_eq_true rfl, Nat.le_of_ble_eq_true rfl⟩ ⟨Nat.le_refl 0, Nat.le_refl 0⟩ [0, 1, 2, 3, 4, 5, 6, 7, 8, 9] rfl rfl rfl (ws' := [(am, .inr (7, [.int mpl, .ref ama, .int msc, .int mtc, .ref amb, .ref amc, .ref amd, .int msr, .int mal, .int mns, .int mnn, .int mnt, .int mfi, .int mnw, .ref ame, .int y7.2.1, .ref amf, .long mbe, .ref amg, .long mmf, .ref amp, .ref amo, .int mbs, .int mco, .long mh])), (ama, .inl (cI, 47, .inl mpg)), (amb, .inl (cI, 16, .inl mam)), (amc, .inl (cI, 4, .inl mwa)), (amd, .inl (cI, 4, .inl mww)), (ame, .inl (cI, 16, .inl mna)), (amf, .inl (cI, 4, .inl y7.2.2.1)), (amg, .inl (cJ, 4, .inr (.inl y7.2.2.2))), (amp, .inl (cJ, 9, .inr (.inl z58_7.1))), (amo, .inl (cJ, 3, .inr (.inl z58_7.2)))]) rfl rfl rfl rfl hl.1 rfl (Nat.le_of_ble_eq_true rfl) dX7_laySet_58 (fun H locs w => ?_)
    refine lv_aload_n hx hb dX7_laySet_61 rfl (lv_at hl 0 rfl) ?_
    refine lv_aload_n hx hb dX7_laySet_62 rfl (lv_at hl 0 rfl) ?_
    refine lv_iconst (v := 3) hx hb dX7_laySet_63 (by decide) ?_
    refine fr_callLV (As := [.int 3]) (rest := [.ref am]) C w kf_X7_determinant mw_23_16 (c_X7_determinant l D cI cJ am ama amb amc amd ame amf amg amp amo mpl msc mtc msr mal mns mnn mnt mfi mnw y7.2.1 mbe mmf mbs mco mh mpg mam mwa mww mna y7.2.2.1 y7.2.2.2 z58_7.1 z58_7.2 3) ⟨Nat.le_of_ble_eq_true rfl, Nat.le_of_ble_eq_true rfl⟩ ⟨Nat.le_refl 0, Nat.le_refl 0⟩ [0, 1, 2, 3, 4, 5, 6, 7, 8, 9] rfl rfl rfl (ws' := [(am, .inr (7, [.int mpl, .ref ama, .int msc, .int mtc, .ref amb, .ref amc, .ref amd, .int msr, .int mal, .int mns, .int mnn, .int mnt, .int mfi, .int mnw, .ref ame, .int y7.2.1, .ref amf, .long mbe, .ref amg, .long mmf, .ref amp, .ref amo, .int mbs, .int mco, .long mh])), (ama, .inl (cI, 47, .inl mpg)), (amb, .inl (cI, 16, .inl mam)), (amc, .inl (cI, 4, .inl mwa)), (amd, .inl (cI, 4, .inl mww)), (ame, .inl (cI, 16, .inl mna)), (amf, .inl (cI, 4, .inl y7.2.2.1)), (amg, .inl (cJ, 4, .inr (.inl y7.2.2.2))), (amp, .inl (cJ, 9, .inr (.inl z58_7.1))), (amo, .inl (cJ, 3, .inr (.inl z58_7.2)))]) rfl rfl rfl rfl hl.1 rfl (Nat.le_of_ble_eq_true rfl) dX7_laySet_64 (fun H locs w => ?_)
    refine fr_put C w fp_X7_142 0 rfl rfl rfl rfl (ws' := [(am, .inr (7, [.int mpl, .ref ama, .int msc, .int mtc, .ref amb, .ref amc, .ref amd, .int msr, .int mal, .int mns, .int mnn, .int mnt, .int mfi, .int mnw, .ref ame, .int y7.2.1, .ref amf, .long (f_X7_determinant z58_7.1 z58_7.2 3), .ref amg, .long mmf, .ref amp, .ref amo, .int mbs, .int mco, .long mh])), (ama, .inl (cI, 47, .inl mpg)), (amb, .inl (cI, 16, .inl mam)), (amc, .inl (cI, 4, .inl mwa)), (amd, .inl (cI, 4, .inl mww)), (ame, .inl (cI, 16, .inl mna)), (amf, .inl (cI, 4, .inl y7.2.2.1)), (amg, .inl (cJ, 4, .inr (.inl y7.2.2.2))), (amp, .inl (cJ, 9, .inr (.inl z58_7.1))), (amo, .inl (cJ, 3, .inr (.inl z58_7.2)))]) rfl dX7_laySet_67 (fun H locs w => ?_)
    refine lv_aload_n hx hb dX7_laySet_70 rfl (lv_at hl 0 rfl) ?_
    refine lv_lconst (v := 0) hx hb dX7_laySet_71 (by decide) ?_
    refine fr_put C w fp_X7_146 0 rfl rfl rfl rfl (ws' := [(am, .inr (7, [.int mpl, .ref ama, .int msc, .int mtc, .ref amb, .ref amc, .ref amd, .int msr, .int mal, .int mns, .int mnn, .int mnt, .int mfi, .int mnw, .ref ame, .int y7.2.1, .ref amf, .long (f_X7_determinant z58_7.1 z58_7.2 3), .ref amg, .long 0, .ref amp, .ref amo, .int mbs, .int mco, .long mh])), (ama, .inl (cI, 47, .inl mpg)), (amb, .inl (cI, 16, .inl mam)), (amc, .inl (cI, 4, .inl mwa)), (amd, .inl (cI, 4, .inl mww)), (ame, .inl (cI, 16, .inl mna)), (amf, .inl (cI, 4, .inl y7.2.2.1)), (amg, .inl (cJ, 4, .inr (.inl y7.2.2.2))), (amp, .inl (cJ, 9, .inr (.inl z58_7.1))), (amo, .inl (cJ, 3, .inr (.inl z58_7.2)))]) rfl dX7_laySet_72 (fun H locs w => ?_)
    refine lv_iconst (v := 0) hx hb dX7_laySet_75 (by decide) ?_
    refine lv_istore_n (lv' := [(3, .int 0), (0, .ref am), (1, .int q1), (2, .int us)]) hx hb dX7_laySet_76 rfl hl (by decide) rfl (fun ls hl => ?_)
    obtain ⟨y77, hy77⟩ : ∃ y, y = L_X7_laySet_77 mtc mam mwa mww us y7 z58_7 5 0 0 := ⟨_, rfl⟩
    have hr : ((fun (y144 : Int64 × Int32 × Int64 × (Nat → Int64)) => (y7.2.1, (f_X7_determinant z58_7.1 z58_7.2 3), y144.2.2.1, y7.2.2.1, vp_updL y144.2.2.2 (Int32.toNatClampNeg (y7.2.2.1 (Int32.toNatClampNeg 0))) y144.1, z58_7.1, z58_7.2)) (L_X7_laySet_144 y7 z58_7 4 (f_X7_determinant z58_7.1 z58_7.2 3) 0 y77.2 y7.2.2.2)) = r := by rw [hy77]; exact hr
    have X77 : ∀ (H : Heap) (locs : List Loc), Wd D A s.heap H locs [(am, .inr (7, [.int mpl, .ref ama, .int msc, .int mtc, .ref amb, .ref amc, .ref amd, .int msr, .int mal, .int mns, .int mnn, .int mnt, .int mfi, .int mnw, .ref ame, .int y7.2.1, .ref amf, .long (f_X7_determinant z58_7.1 z58_7.2 3), .ref amg, .long y77.2, .ref amp, .ref amo, .int mbs, .int mco, .long mh])), (ama, .inl (cI, 47, .inl mpg)), (amb, .inl (cI, 16, .inl mam)), (amc, .inl (cI, 4, .inl mwa)), (amd, .inl (cI, 4, .inl mww)), (ame, .inl (cI, 16, .inl mna)), (amf, .inl (cI, 4, .inl y7.2.2.1)), (amg, .inl (cJ, 4, .inr (.inl y7.2.2.2))), (amp, .inl (cJ, 9, .inr (.inl z58_7.1))), (amo, .inl (cJ, 3, .inr (.inl z58_7.2)))] → ∀ (ls : Array Slot), lv_has ls 8 [(0, .ref am), (1, .int q1), (2, .int us), (3, .int y77.1)] → W p l e (rl 2) s m args below meth c H locs 0 0 Q (F0 m 136 ls []) := by
      intro H locs w ls hl
      refine lv_aload_n hx hb dX7_laySet_136 rfl (lv_at hl 0 rfl) ?_
      refine fr_get C w fg_X7_142 0 rfl rfl dX7_laySet_137 ?_
      refine lv_lstore_n (lv' := [(3, .long (f_X7_determinant z58_7.1 z58_7.2 3)), (0, .ref am), (1, .int q1), (2, .int us)]) hx hb dX7_laySet_140 rfl hl (by decide) rfl (fun ls hl => ?_)
      refine lv_iconst (v := 0) hx hb dX7_laySet_141 (by decide) ?_
      refine lv_istore (lv' := [(5, .int 0), (3, .long (f_X7_determinant z58_7.1 z58_7.2 3)), (0, .ref am), (1, .int q1), (2, .int us)]) hx hb dX7_laySet_142 hl (by decide) rfl (fun ls hl => ?_)
      obtain ⟨y144, hy144⟩ : ∃ y, y = L_X7_laySet_144 y7 z58_7 4 (f_X7_determinant z58_7.1 z58_7.2 3) 0 y77.2 y7.2.2.2 := ⟨_, rfl⟩
      have hr : (y7.2.1, (f_X7_determinant z58_7.1 z58_7.2 3), y144.2.2.1, y7.2.2.1, vp_updL y144.2.2.2 (Int32.toNatClampNeg (y7.2.2.1 (Int32.toNatClampNeg 0))) y144.1, z58_7.1, z58_7.2) = r := by rw [hy144]; exact hr
      have X144 : ∀ (H : Heap) (locs : List Loc), Wd D A s.heap H locs [(am, .inr (7, [.int mpl, .ref ama, .int msc, .int mtc, .ref amb, .ref amc, .ref amd, .int msr, .int mal, .int mns, .int mnn, .int mnt, .int mfi, .int mnw, .ref ame, .int y7.2.1, .ref amf, .long (f_X7_determinant z58_7.1 z58_7.2 3), .ref amg, .long y144.2.2.1, .ref amp, .ref amo, .int mbs, .int mco, .long mh])), (ama, .inl (cI, 47, .inl mpg)), (amb, .inl (cI, 16, .inl mam)), (amc, .inl (cI, 4, .inl mwa)), (amd, .inl (cI, 4, .inl mww)), (ame, .inl (cI, 16, .inl mna)), (amf, .inl (cI, 4, .inl y7.2.2.1)), (amg, .inl (cJ, 4, .inr (.inl y144.2.2.2))), (amp, .inl (cJ, 9, .inr (.inl z58_7.1))), (amo, .inl (cJ, 3, .inr (.inl z58_7.2)))] → ∀ (ls : Array Slot), lv_has ls 8 [(0, .ref am), (1, .int q1), (2, .int us), (3, .long y144.1), (5, .int y144.2.1)] → W p l e (rl 2) s m args below meth c H locs 0 0 Q (F0 m 209 ls []) := by
        intro H locs w ls hl
        refine lv_aload_n hx hb dX7_laySet_209 rfl (lv_at hl 0 rfl) ?_
        refine fr_get C w fg_X7_28 0 rfl rfl dX7_laySet_210 ?_
        refine lv_aload_n hx hb dX7_laySet_213 rfl (lv_at hl 0 rfl) ?_
        refine fr_get C w fg_X7_25 0 rfl rfl dX7_laySet_214 ?_
        refine lv_iconst (v := 0) hx hb dX7_laySet_217 (by decide) ?_
        refine fr_iald C w 6 rfl vi_00 dX7_laySet_218 ?_
        refine lv_lload_n hx hb dX7_laySet_219 rfl (lv_at hl 3 rfl) ?_
        refine fr_last C w 7 rfl (hf7.2 _).vi (ws' := [(am, .inr (7, [.int mpl, .ref ama, .int msc, .int mtc, .ref amb, .ref amc, .ref amd, .int msr, .int mal, .int mns, .int mnn, .int mnt, .int mfi, .int mnw, .ref ame, .int y7.2.1, .ref amf, .long (f_X7_determinant z58_7.1 z58_7.2 3), .ref amg, .long y144.2.2.1, .ref amp, .ref amo, .int mbs, .int mco, .long mh])), (ama, .inl (cI, 47, .inl mpg)), (amb, .inl (cI, 16, .inl mam)), (amc, .inl (cI, 4, .inl mwa)), (amd, .inl (cI, 4, .inl mww)), (ame, .inl (cI, 16, .inl mna)), (amf, .inl (cI, 4, .inl y7.2.2.1)), (amg, .inl (cJ, 4, .inr (.inl (vp_updL y144.2.2.2 (Int32.toNatClampNeg (y7.2.2.1 (Int32.toNatClampNeg 0))) y144.1)))), (amp, .inl (cJ, 9, .inr (.inl z58_7.1))), (amo, .inl (cJ, 3, .inr (.inl z58_7.2)))]) rfl dX7_laySet_220 (fun H locs w => ?_)
        subst hr hQ
        exact fr_vret C hret hlk w rfl dX7_laySet_221
      have LP144 : ∀ (n144 : Nat) (k144 : Nat) (i14 : Int64) (i15 : Int32) (w16 : Int64) (w17 : Nat → Int64), i15 = nI k144 → k144 ≤ 3 → 3 < k144 + n144 → L_X7_laySet_144 y7 z58_7 n144 i14 i15 w16 w17 = y144 → ∀ (H : Heap) (locs : List Loc), Wd D A s.heap H locs [(am, .inr (7, [.int mpl, .ref ama, .int msc, .int mtc, .ref amb, .ref amc, .ref amd, .int msr, .int mal, .int mns, .int mnn, .int mnt, .int mfi, .int mnw, .ref ame, .int y7.2.1, .ref amf, .long (f_X7_determinant z58_7.1 z58_7.2 3), .ref amg, .long w16, .ref amp, .ref amo, .int mbs, .int mco, .long mh])), (ama, .inl (cI, 47, .inl mpg)), (amb, .inl (cI, 16, .inl mam)), (amc, .inl (cI, 4, .inl mwa)), (amd, .inl (cI, 4, .inl mww)), (ame, .inl (cI, 16, .inl mna)), (amf, .inl (cI, 4, .inl y7.2.2.1)), (amg, .inl (cJ, 4, .inr (.inl w17))), (amp, .inl (cJ, 9, .inr (.inl z58_7.1))), (amo, .inl (cJ, 3, .inr (.inl z58_7.2)))] → ∀ (ls : Array Slot), lv_has ls 8 [(0, .ref am), (1, .int q1), (2, .int us), (3, .long i14), (5, .int i15)] → W p l e (rl 2) s m args below meth c H locs 0 0 Q (F0 m 144 ls []) := by
        clear hr
        intro n144
        induction n144 with
        | zero => intro k144 i14 i15 w16 w17 hk144 hkN144 hn144; exact absurd hn144 (by omega)
        | succ n144 ih144 =>
          intro k144 i14 i15 w16 w17 hk144 hkN144 hn144 hr H locs w ls hl
          have hr : (if y7.2.1 ≤ (i15 + 1) then (i14, i15, w16, w17) else L_X7_laySet_144 y7 z58_7 n144 (i14 - (f_X7_determinant z58_7.1 z58_7.2 i15)) (i15 + 1) (w16 - ((z58_7.2 (Int32.toNatClampNeg i15)) * (f_X7_determinant z58_7.1 z58_7.2 i15))) (vp_updL w17 (Int32.toNatClampNeg (y7.2.2.1 (Int32.toNatClampNeg (i15 + 1)))) (f_X7_determinant z58_7.1 z58_7.2 i15))) = y144 := hr
          refine lv_iload hx hb dX7_laySet_144 (lv_at hl 4 rfl) ?_
          refine lv_iconst (v := 1) hx hb dX7_laySet_146 (by decide) ?_
          refine lv_iadd hx hb dX7_laySet_147 ?_
          refine lv_aload_n hx hb dX7_laySet_148 rfl (lv_at hl 0 rfl) ?_
          refine fr_get C w fg_X7_121 0 rfl rfl dX7_laySet_149 ?_
          refine lv_icmp_ge (tgt := 209) hx hb dX7_laySet_152 (by decide) (fun c152_18 => ?_) (fun c152_18 => ?_)
          · have hr := (if_pos c152_18).symm.trans hr
            subst hr
            exact X144 H locs w ls (lv_sub hl [0, 1, 2, 3, 4] rfl)
          · have hr := (if_neg c152_18).symm.trans hr
            have hkl144 := sub_of hf7.1 hk144 hkN144 c152_18
            refine lv_aload_n hx hb dX7_laySet_155 rfl (lv_at hl 0 rfl) ?_
            refine lv_iload hx hb dX7_laySet_156 (lv_at hl 4 rfl) ?_
            refine fr_callLV (As := [.int i15]) (rest := []) C w kf_X7_determinant mw_23_16 (c_X7_determinant l D cI cJ am ama amb amc amd ame amf amg amp amo mpl msc mtc msr mal mns mnn mnt mfi mnw y7.2.1 (f_X7_determinant z58_7.1 z58_7.2 3) w16 mbs mco mh mpg mam mwa mww mna y7.2.2.1 w17 z58_7.1 z58_7.2 i15) ⟨Nat.le_of_ble_eq_true rfl, Nat.le_of_ble_eq_true rfl⟩ ⟨Nat.le_refl 0, Nat.le_refl 0⟩ [0, 1, 2, 3, 4, 5, 6, 7, 8, 9] rfl rfl rfl (ws' := [(am, .inr (7, [.int mpl, .ref ama, .int msc, .int mtc, .ref amb, .ref amc, .ref amd, .int msr, .int mal, .int mns, .int mnn, .int mnt, .int mfi, .int mnw, .ref ame, .int y7.2.1, .ref amf, .long (f_X7_determinant z58_7.1 z58_7.2 3), .ref amg, .long w16, .ref amp, .ref amo, .int mbs, .int mco, .long mh])), (ama, .inl (cI, 47, .inl mpg)), (amb, .inl (cI, 16, .inl mam)), (amc, .inl (cI, 4, .inl mwa)), (amd, .inl (cI, 4, .inl mww)), (ame, .inl (cI, 16, .inl mna)), (amf, .inl (cI, 4, .inl y7.2.2.1)), (amg, .inl (cJ, 4, .inr (.inl w17))), (amp, .inl (cJ, 9, .inr (.inl z58_7.1))), (amo, .inl (cJ, 3, .inr (.inl z58_7.2)))]) rfl rfl rfl rfl hl.1 rfl (Nat.le_of_ble_eq_true rfl) dX7_laySet_158 (fun H locs w => ?_)
            refine lv_lstore (lv' := [(6, .long (f_X7_determinant z58_7.1 z58_7.2 i15)), (0, .ref am), (1, .int q1), (2, .int us), (3, .long i14), (5, .int i15)]) hx hb dX7_laySet_161 hl (by decide) rfl (fun ls hl => ?_)
            refine lv_aload_n hx hb dX7_laySet_163 rfl (lv_at hl 1 rfl) ?_
            refine fr_get C w fg_X7_28 0 rfl rfl dX7_laySet_164 ?_
            refine lv_aload_n hx hb dX7_laySet_167 rfl (lv_at hl 1 rfl) ?_
            refine fr_get C w fg_X7_25 0 rfl rfl dX7_laySet_168 ?_
            refine lv_iload hx hb dX7_laySet_171 (lv_at hl 5 rfl) ?_
            refine lv_iconst (v := 1) hx hb dX7_laySet_173 (by decide) ?_
            refine lv_iadd hx hb dX7_laySet_174 ?_
            refine fr_iald C w 6 rfl (vi_p1 hk144 hkl144) dX7_laySet_175 ?_
            refine lv_lload hx hb dX7_laySet_176 (lv_at hl 0 rfl) ?_
            refine fr_last C w 7 rfl (hf7.2 _).vi (ws' := [(am, .inr (7, [.int mpl, .ref ama, .int msc, .int mtc, .ref amb, .ref amc, .ref amd, .int msr, .int mal, .int mns, .int mnn, .int mnt, .int mfi, .int mnw, .ref ame, .int y7.2.1, .ref amf, .long (f_X7_determinant z58_7.1 z58_7.2 3), .ref amg, .long w16, .ref amp, .ref amo, .int mbs, .int mco, .long mh])), (ama, .inl (cI, 47, .inl mpg)), (amb, .inl (cI, 16, .inl mam)), (amc, .inl (cI, 4, .inl mwa)), (amd, .inl (cI, 4, .inl mww)), (ame, .inl (cI, 16, .inl mna)), (amf, .inl (cI, 4, .inl y7.2.2.1)), (amg, .inl (cJ, 4, .inr (.inl (vp_updL w17 (Int32.toNatClampNeg (y7.2.2.1 (Int32.toNatClampNeg (i15 + 1)))) (f_X7_determinant z58_7.1 z58_7.2 i15))))), (amp, .inl (cJ, 9, .inr (.inl z58_7.1))), (amo, .inl (cJ, 3, .inr (.inl z58_7.2)))]) rfl dX7_laySet_178 (fun H locs w => ?_)
            refine lv_lload_n hx hb dX7_laySet_179 rfl (lv_at hl 4 rfl) ?_
            refine lv_lload hx hb dX7_laySet_180 (lv_at hl 0 rfl) ?_
            refine lv_lsub hx hb dX7_laySet_182 ?_
            refine lv_lstore_n (lv' := [(3, .long (i14 - (f_X7_determinant z58_7.1 z58_7.2 i15))), (6, .long (f_X7_determinant z58_7.1 z58_7.2 i15)), (0, .ref am), (1, .int q1), (2, .int us), (5, .int i15)]) hx hb dX7_laySet_183 rfl hl (by decide) rfl (fun ls hl => ?_)
            refine lv_aload_n hx hb dX7_laySet_184 rfl (lv_at hl 2 rfl) ?_
            refine lv_dup hx hb dX7_laySet_185 rfl ?_
            refine fr_get C w fg_X7_146 0 rfl rfl dX7_laySet_186 ?_
            refine lv_aload_n hx hb dX7_laySet_189 rfl (lv_at hl 2 rfl) ?_
            refine fr_get C w fg_X7_35 0 rfl rfl dX7_laySet_190 ?_
            refine lv_iload hx hb dX7_laySet_193 (lv_at hl 5 rfl) ?_
            refine fr_lald C w 9 rfl (vi_ctr hk144 hkl144 (by omega) (by decide)) dX7_laySet_195 ?_
            refine lv_lload hx hb dX7_laySet_196 (lv_at hl 1 rfl) ?_
            refine lv_lmul hx hb dX7_laySet_198 ?_
            refine lv_lsub hx hb dX7_laySet_199 ?_
            refine fr_put C w fp_X7_146 0 rfl rfl rfl rfl (ws' := [(am, .inr (7, [.int mpl, .ref ama, .int msc, .int mtc, .ref amb, .ref amc, .ref amd, .int msr, .int mal, .int mns, .int mnn, .int mnt, .int mfi, .int mnw, .ref ame, .int y7.2.1, .ref amf, .long (f_X7_determinant z58_7.1 z58_7.2 3), .ref amg, .long (w16 - ((z58_7.2 (Int32.toNatClampNeg i15)) * (f_X7_determinant z58_7.1 z58_7.2 i15))), .ref amp, .ref amo, .int mbs, .int mco, .long mh])), (ama, .inl (cI, 47, .inl mpg)), (amb, .inl (cI, 16, .inl mam)), (amc, .inl (cI, 4, .inl mwa)), (amd, .inl (cI, 4, .inl mww)), (ame, .inl (cI, 16, .inl mna)), (amf, .inl (cI, 4, .inl y7.2.2.1)), (amg, .inl (cJ, 4, .inr (.inl (vp_updL w17 (Int32.toNatClampNeg (y7.2.2.1 (Int32.toNatClampNeg (i15 + 1)))) (f_X7_determinant z58_7.1 z58_7.2 i15))))), (amp, .inl (cJ, 9, .inr (.inl z58_7.1))), (amo, .inl (cJ, 3, .inr (.inl z58_7.2)))]) rfl dX7_laySet_200 (fun H locs w => ?_)
            refine lv_iinc (v := i15 + 1) (lv' := [(5, .int (i15 + 1)), (3, .long (i14 - (f_X7_determinant z58_7.1 z58_7.2 i15))), (6, .long (f_X7_determinant z58_7.1 z58_7.2 i15)), (0, .ref am), (1, .int q1), (2, .int us)]) hx hb dX7_laySet_203 hl (k := 5) rfl rfl (by decide) rfl (fun ls hl => ?_)
            refine lv_goto (tgt := 144) hx hb dX7_laySet_206 (by decide) ?_
            exact ih144 (k144 + 1) (i14 - (f_X7_determinant z58_7.1 z58_7.2 i15)) (i15 + 1) (w16 - ((z58_7.2 (Int32.toNatClampNeg i15)) * (f_X7_determinant z58_7.1 z58_7.2 i15))) (vp_updL w17 (Int32.toNatClampNeg (y7.2.2.1 (Int32.toNatClampNeg (i15 + 1)))) (f_X7_determinant z58_7.1 z58_7.2 i15)) (by rw [hk144]; exact nI_1 k144) (by omega) (by omega) hr H locs w ls (lv_sub hl [3, 4, 5, 1, 0] rfl)
      exact LP144 4 0 (f_X7_determinant z58_7.1 z58_7.2 3) 0 y77.2 y7.2.2.2 (by decide) (by omega) (by omega) hy144.symm H locs w ls (lv_sub hl [2, 3, 4, 1, 0] rfl)
    have LP77 : ∀ (n77 : Nat) (k77 : Nat) (i8 : Int32) (w9 : Int64), i8 = nI k77 → k77 ≤ nmt → nmt < k77 + n77 → L_X7_laySet_77 mtc mam mwa mww us y7 z58_7 n77 i8 w9 = y77 → ∀ (H : Heap) (locs : List Loc), Wd D A s.heap H locs [(am, .inr (7, [.int mpl, .ref ama, .int msc, .int mtc, .ref amb, .ref amc, .ref amd, .int msr, .int mal, .int mns, .int mnn, .int mnt, .int mfi, .int mnw, .ref ame, .int y7.2.1, .ref amf, .long (f_X7_determinant z58_7.1 z58_7.2 3), .ref amg, .long w9, .ref amp, .ref amo, .int mbs, .int mco, .long mh])), (ama, .inl (cI, 47, .inl mpg)), (amb, .inl (cI, 16, .inl mam)), (amc, .inl (cI, 4, .inl mwa)), (amd, .inl (cI, 4, .inl mww)), (ame, .inl (cI, 16, .inl mna)), (amf, .inl (cI, 4, .inl y7.2.2.1)), (amg, .inl (cJ, 4, .inr (.inl y7.2.2.2))), (amp, .inl (cJ, 9, .inr (.inl z58_7.1))), (amo, .inl (cJ, 3, .inr (.inl z58_7.2)))] → ∀ (ls : Array Slot), lv_has ls 8 [(0, .ref am), (1, .int q1), (2, .int us), (3, .int i8)] → W p l e (rl 2) s m args below meth c H locs 0 0 Q (F0 m 77 ls []) := by
      clear hr
      intro n77
      induction n77 with
      | zero => intro k77 i8 w9 hk77 hkN77 hn77; exact absurd hn77 (by omega)
      | succ n77 ih77 =>
        intro k77 i8 w9 hk77 hkN77 hn77 hr H locs w ls hl
        have hr : (if mtc ≤ i8 then (i8, w9) else ((fun (v12 : Int64) => L_X7_laySet_77 mtc mam mwa mww us y7 z58_7 n77 (i8 + 1) (w9 + v12)) (if (f_X7_hasBit us i8) = 0 then 0 else (((Int32.toInt64 (mww (Int32.toNatClampNeg i8))) * (f_X7_short0 mam mwa y7.2.2.1 i8)) * (f_X7_short0 mam mwa y7.2.2.1 i8)) * (f_X7_determinant z58_7.1 z58_7.2 3)))) = y77 := hr
        refine lv_iload_n hx hb dX7_laySet_77 rfl (lv_at hl 3 rfl) ?_
        refine lv_aload_n hx hb dX7_laySet_78 rfl (lv_at hl 0 rfl) ?_
        refine fr_get C w fg_X7_81 0 rfl rfl dX7_laySet_79 ?_
        refine lv_icmp_ge (tgt := 136) hx hb dX7_laySet_82 (by decide) (fun c82_10 => ?_) (fun c82_10 => ?_)
        · have hr := (if_pos c82_10).symm.trans hr
          subst hr
          exact X77 H locs w ls (lv_sub hl [0, 1, 2, 3] rfl)
        · have hr := (if_neg c82_10).symm.trans hr
          have hkl77 := kl_of hk77 hkN77 (N := nmt) hmt2 (by omega) c82_10
          refine lv_aload_n hx hb dX7_laySet_85 rfl (lv_at hl 0 rfl) ?_
          refine lv_dup hx hb dX7_laySet_86 rfl ?_
          refine fr_get C w fg_X7_146 0 rfl rfl dX7_laySet_87 ?_
          refine lv_iload_n hx hb dX7_laySet_90 rfl (lv_at hl 2 rfl) ?_
          refine lv_iload_n hx hb dX7_laySet_91 rfl (lv_at hl 3 rfl) ?_
          refine fr_callIS (As := [.int us, .int i8]) (rest := [.long w9, .ref am]) C w kf_X7_hasBit mw_16_23 (c_X7_hasBit l D cI cJ us i8) ⟨Nat.le_of_ble_eq_true rfl, Nat.le_of_ble_eq_true rfl⟩ ⟨Nat.le_refl 0, Nat.le_refl 0⟩ [] rfl rfl rfl (ws' := [(am, .inr (7, [.int mpl, .ref ama, .int msc, .int mtc, .ref amb, .ref amc, .ref amd, .int msr, .int mal, .int mns, .int mnn, .int mnt, .int mfi, .int mnw, .ref ame, .int y7.2.1, .ref amf, .long (f_X7_determinant z58_7.1 z58_7.2 3), .ref amg, .long w9, .ref amp, .ref amo, .int mbs, .int mco, .long mh])), (ama, .inl (cI, 47, .inl mpg)), (amb, .inl (cI, 16, .inl mam)), (amc, .inl (cI, 4, .inl mwa)), (amd, .inl (cI, 4, .inl mww)), (ame, .inl (cI, 16, .inl mna)), (amf, .inl (cI, 4, .inl y7.2.2.1)), (amg, .inl (cJ, 4, .inr (.inl y7.2.2.2))), (amp, .inl (cJ, 9, .inr (.inl z58_7.1))), (amo, .inl (cJ, 3, .inr (.inl z58_7.2)))]) rfl rfl hl.1 rfl (Nat.le_of_ble_eq_true rfl) dX7_laySet_92 (fun H locs w => ?_)
          have J126_13 : ∀ (v12 : Int64), v12 = (if (f_X7_hasBit us i8) = 0 then 0 else (((Int32.toInt64 (mww (Int32.toNatClampNeg i8))) * (f_X7_short0 mam mwa y7.2.2.1 i8)) * (f_X7_short0 mam mwa y7.2.2.1 i8)) * (f_X7_determinant z58_7.1 z58_7.2 3)) → ∀ (H : Heap) (locs : List Loc), Wd D A s.heap H locs [(am, .inr (7, [.int mpl, .ref ama, .int msc, .int mtc, .ref amb, .ref amc, .ref amd, .int msr, .int mal, .int mns, .int mnn, .int mnt, .int mfi, .int mnw, .ref ame, .int y7.2.1, .ref amf, .long (f_X7_determinant z58_7.1 z58_7.2 3), .ref amg, .long w9, .ref amp, .ref amo, .int mbs, .int mco, .long mh])), (ama, .inl (cI, 47, .inl mpg)), (amb, .inl (cI, 16, .inl mam)), (amc, .inl (cI, 4, .inl mwa)), (amd, .inl (cI, 4, .inl mww)), (ame, .inl (cI, 16, .inl mna)), (amf, .inl (cI, 4, .inl y7.2.2.1)), (amg, .inl (cJ, 4, .inr (.inl y7.2.2.2))), (amp, .inl (cJ, 9, .inr (.inl z58_7.1))), (amo, .inl (cJ, 3, .inr (.inl z58_7.2)))] → W p l e (rl 2) s m args below meth c H locs 0 0 Q (F0 m 126 ls [.long v12, .long w9, .ref am]) := by
            intro v12 ev12 H locs w
            have hr : L_X7_laySet_77 mtc mam mwa mww us y7 z58_7 n77 (i8 + 1) (w9 + v12) = y77 := by subst ev12; exact hr
            refine lv_ladd hx hb dX7_laySet_126 ?_
            refine fr_put C w fp_X7_146 0 rfl rfl rfl rfl (ws' := [(am, .inr (7, [.int mpl, .ref ama, .int msc, .int mtc, .ref amb, .ref amc, .ref amd, .int msr, .int mal, .int mns, .int mnn, .int mnt, .int mfi, .int mnw, .ref ame, .int y7.2.1, .ref amf, .long (f_X7_determinant z58_7.1 z58_7.2 3), .ref amg, .long (w9 + v12), .ref amp, .ref amo, .int mbs, .int mco, .long mh])), (ama, .inl (cI, 47, .inl mpg)), (amb, .inl (cI, 16, .inl mam)), (amc, .inl (cI, 4, .inl mwa)), (amd, .inl (cI, 4, .inl mww)), (ame, .inl (cI, 16, .inl mna)), (amf, .inl (cI, 4, .inl y7.2.2.1)), (amg, .inl (cJ, 4, .inr (.inl y7.2.2.2))), (amp, .inl (cJ, 9, .inr (.inl z58_7.1))), (amo, .inl (cJ, 3, .inr (.inl z58_7.2)))]) rfl dX7_laySet_127 (fun H locs w => ?_)
            refine lv_iinc (v := i8 + 1) (lv' := [(3, .int (i8 + 1)), (0, .ref am), (1, .int q1), (2, .int us)]) hx hb dX7_laySet_130 hl (k := 3) rfl rfl (by decide) rfl (fun ls hl => ?_)
            refine lv_goto (tgt := 77) hx hb dX7_laySet_133 (by decide) ?_
            exact ih77 (k77 + 1) (i8 + 1) (w9 + v12) (by rw [hk77]; exact nI_1 k77) (by omega) (by omega) hr H locs w ls (lv_sub hl [1, 2, 3, 0] rfl)
          refine lv_if_eq (tgt := 125) hx hb dX7_laySet_95 (by decide) (fun c95_11 => ?_) (fun c95_11 => ?_)
          · refine lv_lconst (v := 0) hx hb dX7_laySet_125 (by decide) ?_
            exact J126_13 0 (by rw [if_pos c95_11]) _ _ w
          · refine lv_aload_n hx hb dX7_laySet_98 rfl (lv_at hl 0 rfl) ?_
            refine fr_get C w fg_X7_19 0 rfl rfl dX7_laySet_99 ?_
            refine lv_iload_n hx hb dX7_laySet_102 rfl (lv_at hl 3 rfl) ?_
            refine fr_iald C w 4 rfl (vi_ctr hk77 hkl77 (by omega) (by decide)) dX7_laySet_103 ?_
            refine lv_i2l (v := (Int32.toInt64 (mww (Int32.toNatClampNeg i8)))) hx hb dX7_laySet_104 rfl ?_
            refine lv_aload_n hx hb dX7_laySet_105 rfl (lv_at hl 0 rfl) ?_
            refine lv_iload_n hx hb dX7_laySet_106 rfl (lv_at hl 3 rfl) ?_
            refine fr_callLV (As := [.int i8]) (rest := [.long (Int32.toInt64 (mww (Int32.toNatClampNeg i8))), .long w9, .ref am]) C w kf_X7_short0 mw_23_12 (c_X7_short0 l D cI cJ am ama amb amc amd ame amf amg amp amo mpl msc mtc msr mal mns mnn mnt mfi mnw y7.2.1 (f_X7_determinant z58_7.1 z58_7.2 3) w9 mbs mco mh mpg mam mwa mww mna y7.2.2.1 y7.2.2.2 z58_7.1 z58_7.2 i8 hf7.2 ⟨k77, by omega, hk77⟩) ⟨Nat.le_of_ble_eq_true rfl, Nat.le_of_ble_eq_true rfl⟩ ⟨Nat.le_refl 0, Nat.le_refl 0⟩ [0, 1, 2, 3, 4, 5, 6, 7, 8, 9] rfl rfl rfl (ws' := [(am, .inr (7, [.int mpl, .ref ama, .int msc, .int mtc, .ref amb, .ref amc, .ref amd, .int msr, .int mal, .int mns, .int mnn, .int mnt, .int mfi, .int mnw, .ref ame, .int y7.2.1, .ref amf, .long (f_X7_determinant z58_7.1 z58_7.2 3), .ref amg, .long w9, .ref amp, .ref amo, .int mbs, .int mco, .long mh])), (ama, .inl (cI, 47, .inl mpg)), (amb, .inl (cI, 16, .inl mam)), (amc, .inl (cI, 4, .inl mwa)), (amd, .inl (cI, 4, .inl mww)), (ame, .inl (cI, 16, .inl mna)), (amf, .inl (cI, 4, .inl y7.2.2.1)), (amg, .inl (cJ, 4, .inr (.inl y7.2.2.2))), (amp, .inl (cJ, 9, .inr (.inl z58_7.1))), (amo, .inl (cJ, 3, .inr (.inl z58_7.2)))]) rfl rfl rfl rfl hl.1 rfl (Nat.le_of_ble_eq_true rfl) dX7_laySet_107 (fun H locs w => ?_)
            refine lv_lmul hx hb dX7_laySet_110 ?_
            refine lv_aload_n hx hb dX7_laySet_111 rfl (lv_at hl 0 rfl) ?_
            refine lv_iload_n hx hb dX7_laySet_112 rfl (lv_at hl 3 rfl) ?_
            refine fr_callLV (As := [.int i8]) (rest := [.long ((Int32.toInt64 (mww (Int32.toNatClampNeg i8))) * (f_X7_short0 mam mwa y7.2.2.1 i8)), .long w9, .ref am]) C w kf_X7_short0 mw_23_12 (c_X7_short0 l D cI cJ am ama amb amc amd ame amf amg amp amo mpl msc mtc msr mal mns mnn mnt mfi mnw y7.2.1 (f_X7_determinant z58_7.1 z58_7.2 3) w9 mbs mco mh mpg mam mwa mww mna y7.2.2.1 y7.2.2.2 z58_7.1 z58_7.2 i8 hf7.2 ⟨k77, by omega, hk77⟩) ⟨Nat.le_of_ble_eq_true rfl, Nat.le_of_ble_eq_true rfl⟩ ⟨Nat.le_refl 0, Nat.le_refl 0⟩ [0, 1, 2, 3, 4, 5, 6, 7, 8, 9] rfl rfl rfl (ws' := [(am, .inr (7, [.int mpl, .ref ama, .int msc, .int mtc, .ref amb, .ref amc, .ref amd, .int msr, .int mal, .int mns, .int mnn, .int mnt, .int mfi, .int mnw, .ref ame, .int y7.2.1, .ref amf, .long (f_X7_determinant z58_7.1 z58_7.2 3), .ref amg, .long w9, .ref amp, .ref amo, .int mbs, .int mco, .long mh])), (ama, .inl (cI, 47, .inl mpg)), (amb, .inl (cI, 16, .inl mam)), (amc, .inl (cI, 4, .inl mwa)), (amd, .inl (cI, 4, .inl mww)), (ame, .inl (cI, 16, .inl mna)), (amf, .inl (cI, 4, .inl y7.2.2.1)), (amg, .inl (cJ, 4, .inr (.inl y7.2.2.2))), (amp, .inl (cJ, 9, .inr (.inl z58_7.1))), (amo, .inl (cJ, 3, .inr (.inl z58_7.2)))]) rfl rfl rfl rfl hl.1 rfl (Nat.le_of_ble_eq_true rfl) dX7_laySet_113 (fun H locs w => ?_)
            refine lv_lmul hx hb dX7_laySet_116 ?_
            refine lv_aload_n hx hb dX7_laySet_117 rfl (lv_at hl 0 rfl) ?_
            refine fr_get C w fg_X7_142 0 rfl rfl dX7_laySet_118 ?_
            refine lv_lmul hx hb dX7_laySet_121 ?_
            refine lv_goto (tgt := 126) hx hb dX7_laySet_122 (by decide) ?_
            exact J126_13 ((((Int32.toInt64 (mww (Int32.toNatClampNeg i8))) * (f_X7_short0 mam mwa y7.2.2.1 i8)) * (f_X7_short0 mam mwa y7.2.2.1 i8)) * (f_X7_determinant z58_7.1 z58_7.2 3)) (by rw [if_neg c95_11]) _ _ w
    exact LP77 5 0 0 0 (by decide) (by omega) (by omega) hy77.symm H locs w ls (lv_sub hl [1, 2, 3, 0] rfl)
  have LP7 : ∀ (n7 : Nat) (k7 : Nat) (i1 : Int32) (w2 : Int32) (w3 : Nat → Int32) (w4 : Nat → Int64), i1 = nI k7 → k7 ≤ nms → nms < k7 + n7 → (∃ n : Nat, n ≤ k7 ∧ w2 = nI n) → MB w3 → L_X7_laySet_7 msc q1 n7 i1 w2 w3 w4 = y7 → ∀ (H : Heap) (locs : List Loc), Wd D A s.heap H locs [(am, .inr (7, [.int mpl, .ref ama, .int msc, .int mtc, .ref amb, .ref amc, .ref amd, .int msr, .int mal, .int mns, .int mnn, .int mnt, .int mfi, .int mnw, .ref ame, .int w2, .ref amf, .long mbe, .ref amg, .long mmf, .ref amp, .ref amo, .int mbs, .int mco, .long mh])), (ama, .inl (cI, 47, .inl mpg)), (amb, .inl (cI, 16, .inl mam)), (amc, .inl (cI, 4, .inl mwa)), (amd, .inl (cI, 4, .inl mww)), (ame, .inl (cI, 16, .inl mna)), (amf, .inl (cI, 4, .inl w3)), (amg, .inl (cJ, 4, .inr (.inl w4))), (amp, .inl (cJ, 9, .inr (.inl mpa))), (amo, .inl (cJ, 3, .inr (.inl mgo)))] → ∀ (ls : Array Slot), lv_has ls 8 [(0, .ref am), (1, .int q1), (2, .int us), (3, .int i1)] → W p l e (rl 2) s m args below meth c H locs 0 0 Q (F0 m 7 ls []) := by
    clear hr
    intro n7
    induction n7 with
    | zero => intro k7 i1 w2 w3 w4 hk7 hkN7 hn7 hmy7 hmb7; exact absurd hn7 (by omega)
    | succ n7 ih7 =>
      intro k7 i1 w2 w3 w4 hk7 hkN7 hn7 hmy7 hmb7 hr H locs w ls hl
      have hr : (if msc ≤ i1 then (i1, w2, w3, w4) else (if (f_X7_hasBit q1 i1) = 0 then L_X7_laySet_7 msc q1 n7 (i1 + 1) w2 w3 (vp_updL w4 (Int32.toNatClampNeg i1) 0) else L_X7_laySet_7 msc q1 n7 (i1 + 1) (w2 + 1) (upd w3 (Int32.toNatClampNeg w2) i1) (vp_updL w4 (Int32.toNatClampNeg i1) 0))) = y7 := hr
      refine lv_iload_n hx hb dX7_laySet_7 rfl (lv_at hl 3 rfl) ?_
      refine lv_aload_n hx hb dX7_laySet_8 rfl (lv_at hl 0 rfl) ?_
      refine fr_get C w fg_X7_78 0 rfl rfl dX7_laySet_9 ?_
      refine lv_icmp_ge (tgt := 56) hx hb dX7_laySet_12 (by decide) (fun c12_5 => ?_) (fun c12_5 => ?_)
      · have hr := (if_pos c12_5).symm.trans hr
        subst hr
        exact X7 H locs w ls (lv_sub hl [0, 1, 2, 3] rfl)
      · have hr := (if_neg c12_5).symm.trans hr
        have hkl7 := kl_of hk7 hkN7 (N := nms) hms2 (by omega) c12_5
        refine lv_aload_n hx hb dX7_laySet_15 rfl (lv_at hl 0 rfl) ?_
        refine fr_get C w fg_X7_28 0 rfl rfl dX7_laySet_16 ?_
        refine lv_iload_n hx hb dX7_laySet_19 rfl (lv_at hl 3 rfl) ?_
        refine lv_lconst (v := 0) hx hb dX7_laySet_20 (by decide) ?_
        refine fr_last C w 7 rfl (vi_ctr hk7 hkl7 (by omega) (by decide)) (ws' := [(am, .inr (7, [.int mpl, .ref ama, .int msc, .int mtc, .ref amb, .ref amc, .ref amd, .int msr, .int mal, .int mns, .int mnn, .int mnt, .int mfi, .int mnw, .ref ame, .int w2, .ref amf, .long mbe, .ref amg, .long mmf, .ref amp, .ref amo, .int mbs, .int mco, .long mh])), (ama, .inl (cI, 47, .inl mpg)), (amb, .inl (cI, 16, .inl mam)), (amc, .inl (cI, 4, .inl mwa)), (amd, .inl (cI, 4, .inl mww)), (ame, .inl (cI, 16, .inl mna)), (amf, .inl (cI, 4, .inl w3)), (amg, .inl (cJ, 4, .inr (.inl (vp_updL w4 (Int32.toNatClampNeg i1) 0)))), (amp, .inl (cJ, 9, .inr (.inl mpa))), (amo, .inl (cJ, 3, .inr (.inl mgo)))]) rfl dX7_laySet_21 (fun H locs w => ?_)
        refine lv_iload_n hx hb dX7_laySet_22 rfl (lv_at hl 1 rfl) ?_
        refine lv_iload_n hx hb dX7_laySet_23 rfl (lv_at hl 3 rfl) ?_
        refine fr_callIS (As := [.int q1, .int i1]) (rest := []) C w kf_X7_hasBit mw_16_23 (c_X7_hasBit l D cI cJ q1 i1) ⟨Nat.le_of_ble_eq_true rfl, Nat.le_of_ble_eq_true rfl⟩ ⟨Nat.le_refl 0, Nat.le_refl 0⟩ [] rfl rfl rfl (ws' := [(am, .inr (7, [.int mpl, .ref ama, .int msc, .int mtc, .ref amb, .ref amc, .ref amd, .int msr, .int mal, .int mns, .int mnn, .int mnt, .int mfi, .int mnw, .ref ame, .int w2, .ref amf, .long mbe, .ref amg, .long mmf, .ref amp, .ref amo, .int mbs, .int mco, .long mh])), (ama, .inl (cI, 47, .inl mpg)), (amb, .inl (cI, 16, .inl mam)), (amc, .inl (cI, 4, .inl mwa)), (amd, .inl (cI, 4, .inl mww)), (ame, .inl (cI, 16, .inl mna)), (amf, .inl (cI, 4, .inl w3)), (amg, .inl (cJ, 4, .inr (.inl (vp_updL w4 (Int32.toNatClampNeg i1) 0)))), (amp, .inl (cJ, 9, .inr (.inl mpa))), (amo, .inl (cJ, 3, .inr (.inl mgo)))]) rfl rfl hl.1 rfl (Nat.le_of_ble_eq_true rfl) dX7_laySet_24 (fun H locs w => ?_)
        refine lv_if_eq (tgt := 50) hx hb dX7_laySet_27 (by decide) (fun c27_6 => ?_) (fun c27_6 => ?_)
        · have hr := (if_pos c27_6).symm.trans hr
          refine lv_iinc (v := i1 + 1) (lv' := [(3, .int (i1 + 1)), (0, .ref am), (1, .int q1), (2, .int us)]) hx hb dX7_laySet_50 hl (k := 3) rfl rfl (by decide) rfl (fun ls hl => ?_)
          refine lv_goto (tgt := 7) hx hb dX7_laySet_53 (by decide) ?_
          exact ih7 (k7 + 1) (i1 + 1) w2 w3 (vp_updL w4 (Int32.toNatClampNeg i1) 0) (by rw [hk7]; exact nI_1 k7) (by omega) (by omega) (by first | exact my_keep hmy7 | exact my_inc hmy7) (by first | exact hmb7 | exact MB_upd hmb7 ⟨k7, by omega, hk7⟩) hr H locs w ls (lv_sub hl [1, 2, 3, 0] rfl)
        · have hr := (if_neg c27_6).symm.trans hr
          refine lv_aload_n hx hb dX7_laySet_30 rfl (lv_at hl 0 rfl) ?_
          refine fr_get C w fg_X7_25 0 rfl rfl dX7_laySet_31 ?_
          refine lv_aload_n hx hb dX7_laySet_34 rfl (lv_at hl 0 rfl) ?_
          refine fr_get C w fg_X7_121 0 rfl rfl dX7_laySet_35 ?_
          refine lv_iload_n hx hb dX7_laySet_38 rfl (lv_at hl 3 rfl) ?_
          refine fr_iast C w 6 rfl (by obtain ⟨n, h1, h2⟩ := hmy7; rw [h2]; exact vp_in_nI (by omega) (by decide)) (ws' := [(am, .inr (7, [.int mpl, .ref ama, .int msc, .int mtc, .ref amb, .ref amc, .ref amd, .int msr, .int mal, .int mns, .int mnn, .int mnt, .int mfi, .int mnw, .ref ame, .int w2, .ref amf, .long mbe, .ref amg, .long mmf, .ref amp, .ref amo, .int mbs, .int mco, .long mh])), (ama, .inl (cI, 47, .inl mpg)), (amb, .inl (cI, 16, .inl mam)), (amc, .inl (cI, 4, .inl mwa)), (amd, .inl (cI, 4, .inl mww)), (ame, .inl (cI, 16, .inl mna)), (amf, .inl (cI, 4, .inl (upd w3 (Int32.toNatClampNeg w2) i1))), (amg, .inl (cJ, 4, .inr (.inl (vp_updL w4 (Int32.toNatClampNeg i1) 0)))), (amp, .inl (cJ, 9, .inr (.inl mpa))), (amo, .inl (cJ, 3, .inr (.inl mgo)))]) rfl dX7_laySet_39 (fun H locs w => ?_)
          refine lv_aload_n hx hb dX7_laySet_40 rfl (lv_at hl 0 rfl) ?_
          refine lv_dup hx hb dX7_laySet_41 rfl ?_
          refine fr_get C w fg_X7_121 0 rfl rfl dX7_laySet_42 ?_
          refine lv_iconst (v := 1) hx hb dX7_laySet_45 (by decide) ?_
          refine lv_iadd hx hb dX7_laySet_46 ?_
          refine fr_put C w fp_X7_121 0 rfl rfl rfl rfl (ws' := [(am, .inr (7, [.int mpl, .ref ama, .int msc, .int mtc, .ref amb, .ref amc, .ref amd, .int msr, .int mal, .int mns, .int mnn, .int mnt, .int mfi, .int mnw, .ref ame, .int (w2 + 1), .ref amf, .long mbe, .ref amg, .long mmf, .ref amp, .ref amo, .int mbs, .int mco, .long mh])), (ama, .inl (cI, 47, .inl mpg)), (amb, .inl (cI, 16, .inl mam)), (amc, .inl (cI, 4, .inl mwa)), (amd, .inl (cI, 4, .inl mww)), (ame, .inl (cI, 16, .inl mna)), (amf, .inl (cI, 4, .inl (upd w3 (Int32.toNatClampNeg w2) i1))), (amg, .inl (cJ, 4, .inr (.inl (vp_updL w4 (Int32.toNatClampNeg i1) 0)))), (amp, .inl (cJ, 9, .inr (.inl mpa))), (amo, .inl (cJ, 3, .inr (.inl mgo)))]) rfl dX7_laySet_47 (fun H locs w => ?_)
          refine lv_iinc (v := i1 + 1) (lv' := [(3, .int (i1 + 1)), (0, .ref am), (1, .int q1), (2, .int us)]) hx hb dX7_laySet_50 hl (k := 3) rfl rfl (by decide) rfl (fun ls hl => ?_)
          refine lv_goto (tgt := 7) hx hb dX7_laySet_53 (by decide) ?_
          exact ih7 (k7 + 1) (i1 + 1) (w2 + 1) (upd w3 (Int32.toNatClampNeg w2) i1) (vp_updL w4 (Int32.toNatClampNeg i1) 0) (by rw [hk7]; exact nI_1 k7) (by omega) (by omega) (by first | exact my_keep hmy7 | exact my_inc hmy7) (by first | exact hmb7 | exact MB_upd hmb7 ⟨k7, by omega, hk7⟩) hr H locs w ls (lv_sub hl [1, 2, 3, 0] rfl)
  exact LP7 5 0 0 0 mmb msh (by decide) (by omega) (by omega) ⟨0, Nat.le_refl 0, by decide⟩ hmb hy7.symm H locs w ls (lv_sub hl [1, 2, 3, 0] rfl)
def L_X7_isGood_17 (mmy : Int32) (mmb : Nat → Int32) (msh : Nat → Int64) : Nat → Int32 → Int32 → Int32 × Int32
  | 0, _, _ => (0, 0)
  | n17 + 1, i3, i4 => (if mmy ≤ i4 then (i3, i4) else ((fun (v8 : Int32) => L_X7_isGood_17 mmy mmb msh n17 v8 (i4 + 1)) (if i3 = 0 then 0 else (if (msh (Int32.toNatClampNeg (mmb (Int32.toNatClampNeg i4)))) ≤ 0 then 0 else 1))))
def f_X7_isGood (mmy : Int32) (mbe : Int64) (mmb : Nat → Int32) (msh : Nat → Int64) : Int32 := ((fun (v2 : Int32) => ((fun (y17 : Int32 × Int32) => y17.1) (L_X7_isGood_17 mmy mmb msh 5 v2 0))) (if mbe ≤ 0 then 0 else 1))
theorem isgL_b {mmy : Int32} {mmb : Nat → Int32} {msh : Nat → Int64} : ∀ (n : Nat) (v i : Int32), (v = 0 ∨ v = 1) → (L_X7_isGood_17 mmy mmb msh n v i).1 = 0 ∨ (L_X7_isGood_17 mmy mmb msh n v i).1 = 1 := by
  intro n
  induction n with
  | zero => intro v i h; exact Or.inl rfl
  | succ n ih =>
    intro v i h
    rw [L_X7_isGood_17]
    split
    · exact h
    · dsimp only
      apply ih
      repeat (first | exact Or.inl rfl | exact Or.inr rfl | split)
set_option maxRecDepth 100000 in
set_option maxHeartbeats 4000000 in
theorem c_X7_isGood (l : Launch) (D : va_G) (cI cJ : ClassId) (am ama amb amc amd ame amf amg amp amo : Nat) (mpl : Int32) (msc : Int32) (mtc : Int32) (msr : Int32) (mal : Int32) (mns : Int32) (mnn : Int32) (mnt : Int32) (mfi : Int32) (mnw : Int32) (mmy : Int32) (mbe : Int64) (mmf : Int64) (mbs : Int32) (mco : Int32) (mh : Int64) (mpg : Nat → Int32) (mam : Nat → Int32) (mwa : Nat → Int32) (mww : Nat → Int32) (mna : Nat → Int32) (mmb : Nat → Int32) (msh : Nat → Int64) (mpa : Nat → Int64) (mgo : Nat → Int64)  (hmy : LE4 mmy) (hmb : MB mmb) : CI l yX7_isGood cX7_isGood 3 .boolean 0 D cI cJ [.ref am] [(am, .inr (7, [.int mpl, .ref ama, .int msc, .int mtc, .ref amb, .ref amc, .ref amd, .int msr, .int mal, .int mns, .int mnn, .int mnt, .int mfi, .int mnw, .ref ame, .int mmy, .ref amf, .long mbe, .ref amg, .long mmf, .ref amp, .ref amo, .int mbs, .int mco, .long mh])), (ama, .inl (cI, 47, .inl mpg)), (amb, .inl (cI, 16, .inl mam)), (amc, .inl (cI, 4, .inl mwa)), (amd, .inl (cI, 4, .inl mww)), (ame, .inl (cI, 16, .inl mna)), (amf, .inl (cI, 4, .inl mmb)), (amg, .inl (cJ, 4, .inr (.inl msh))), (amp, .inl (cJ, 9, .inr (.inl mpa))), (amo, .inl (cJ, 3, .inr (.inl mgo)))] [(am, .inr (7, [.int mpl, .ref ama, .int msc, .int mtc, .ref amb, .ref amc, .ref amd, .int msr, .int mal, .int mns, .int mnn, .int mnt, .int mfi, .int mnw, .ref ame, .int mmy, .ref amf, .long mbe, .ref amg, .long mmf, .ref amp, .ref amo, .int mbs, .int mco, .long mh])), (ama, .inl (cI, 47, .inl mpg)), (amb, .inl (cI, 16, .inl mam)), (amc, .inl (cI, 4, .inl mwa)), (amd, .inl (cI, 4, .inl mww)), (ame, .inl (cI, 16, .inl mna)), (amf, .inl (cI, 4, .inl mmb)), (amg, .inl (cJ, 4, .inr (.inl msh))), (amp, .inl (cJ, 9, .inr (.inl mpa))), (amo, .inl (cJ, 3, .inr (.inl mgo)))] (f_X7_isGood mmy mbe mmb msh) := by
  generalize hr : f_X7_isGood mmy mbe mmb msh = r
  obtain ⟨nmy, hmy1, hmy2⟩ := id hmy
  refine fr_entryI (by decide) rfl ?_
  intro p e s m args below meth c A Q H locs hQ C hret hlk w ls hl
  have hx := C.1
  have hb := C.2.1
  have hl : lv_has ls 3 [(0, .ref am)] := hl
  have hr : ((fun (v2 : Int32) => ((fun (y17 : Int32 × Int32) => y17.1) (L_X7_isGood_17 mmy mmb msh 5 v2 0))) (if mbe ≤ 0 then 0 else 1)) = r := hr
  refine lv_aload_n hx hb dX7_isGood_0 rfl (lv_at hl 0 rfl) ?_
  refine fr_get C w fg_X7_142 0 rfl rfl dX7_isGood_1 ?_
  refine lv_lconst (v := 0) hx hb dX7_isGood_4 (by decide) ?_
  have J14_10 : ∀ (v2 : Int32), v2 = (if mbe ≤ 0 then 0 else 1) → W p l e (rl 0) s m args below meth c H locs 0 0 Q (F0 m 14 ls [.int v2]) := by
    intro v2 ev2
    have hr : ((fun (y17 : Int32 × Int32) => y17.1) (L_X7_isGood_17 mmy mmb msh 5 v2 0)) = r := by subst ev2; exact hr
    refine lv_istore_n (lv' := [(1, .int v2), (0, .ref am)]) hx hb dX7_isGood_14 rfl hl (by decide) rfl (fun ls hl => ?_)
    refine lv_iconst (v := 0) hx hb dX7_isGood_15 (by decide) ?_
    refine lv_istore_n (lv' := [(2, .int 0), (1, .int v2), (0, .ref am)]) hx hb dX7_isGood_16 rfl hl (by decide) rfl (fun ls hl => ?_)
    obtain ⟨y17, hy17⟩ : ∃ y, y = L_X7_isGood_17 mmy mmb msh 5 v2 0 := ⟨_, rfl⟩
    have hr : y17.1 = r := by rw [hy17]; exact hr
    have X17 : ∀ (H : Heap) (locs : List Loc), Wd D A s.heap H locs [(am, .inr (7, [.int mpl, .ref ama, .int msc, .int mtc, .ref amb, .ref amc, .ref amd, .int msr, .int mal, .int mns, .int mnn, .int mnt, .int mfi, .int mnw, .ref ame, .int mmy, .ref amf, .long mbe, .ref amg, .long mmf, .ref amp, .ref amo, .int mbs, .int mco, .long mh])), (ama, .inl (cI, 47, .inl mpg)), (amb, .inl (cI, 16, .inl mam)), (amc, .inl (cI, 4, .inl mwa)), (amd, .inl (cI, 4, .inl mww)), (ame, .inl (cI, 16, .inl mna)), (amf, .inl (cI, 4, .inl mmb)), (amg, .inl (cJ, 4, .inr (.inl msh))), (amp, .inl (cJ, 9, .inr (.inl mpa))), (amo, .inl (cJ, 3, .inr (.inl mgo)))] → ∀ (ls : Array Slot), lv_has ls 3 [(0, .ref am), (1, .int y17.1), (2, .int y17.2)] → W p l e (rl 0) s m args below meth c H locs 0 0 Q (F0 m 57 ls []) := by
      intro H locs w ls hl
      refine lv_iload_n hx hb dX7_isGood_57 rfl (lv_at hl 1 rfl) ?_
      subst hr hQ
      exact fr_iret (W0 := []) C hret hlk w (nb_of (by rw [hy17]; refine isgL_b _ _ _ ?_; subst_vars; repeat (first | exact Or.inl rfl | exact Or.inr rfl | split))) rfl rfl dX7_isGood_58
    have LP17 : ∀ (n17 : Nat) (k17 : Nat) (i3 : Int32) (i4 : Int32), i4 = nI k17 → k17 ≤ nmy → nmy < k17 + n17 → L_X7_isGood_17 mmy mmb msh n17 i3 i4 = y17 → ∀ (H : Heap) (locs : List Loc), Wd D A s.heap H locs [(am, .inr (7, [.int mpl, .ref ama, .int msc, .int mtc, .ref amb, .ref amc, .ref amd, .int msr, .int mal, .int mns, .int mnn, .int mnt, .int mfi, .int mnw, .ref ame, .int mmy, .ref amf, .long mbe, .ref amg, .long mmf, .ref amp, .ref amo, .int mbs, .int mco, .long mh])), (ama, .inl (cI, 47, .inl mpg)), (amb, .inl (cI, 16, .inl mam)), (amc, .inl (cI, 4, .inl mwa)), (amd, .inl (cI, 4, .inl mww)), (ame, .inl (cI, 16, .inl mna)), (amf, .inl (cI, 4, .inl mmb)), (amg, .inl (cJ, 4, .inr (.inl msh))), (amp, .inl (cJ, 9, .inr (.inl mpa))), (amo, .inl (cJ, 3, .inr (.inl mgo)))] → ∀ (ls : Array Slot), lv_has ls 3 [(0, .ref am), (1, .int i3), (2, .int i4)] → W p l e (rl 0) s m args below meth c H locs 0 0 Q (F0 m 17 ls []) := by
      clear hr
      intro n17
      induction n17 with
      | zero => intro k17 i3 i4 hk17 hkN17 hn17; exact absurd hn17 (by omega)
      | succ n17 ih17 =>
        intro k17 i3 i4 hk17 hkN17 hn17 hr H locs w ls hl
        have hr : (if mmy ≤ i4 then (i3, i4) else ((fun (v8 : Int32) => L_X7_isGood_17 mmy mmb msh n17 v8 (i4 + 1)) (if i3 = 0 then 0 else (if (msh (Int32.toNatClampNeg (mmb (Int32.toNatClampNeg i4)))) ≤ 0 then 0 else 1)))) = y17 := hr
        refine lv_iload_n hx hb dX7_isGood_17 rfl (lv_at hl 2 rfl) ?_
        refine lv_aload_n hx hb dX7_isGood_18 rfl (lv_at hl 0 rfl) ?_
        refine fr_get C w fg_X7_121 0 rfl rfl dX7_isGood_19 ?_
        refine lv_icmp_ge (tgt := 57) hx hb dX7_isGood_22 (by decide) (fun c22_5 => ?_) (fun c22_5 => ?_)
        · have hr := (if_pos c22_5).symm.trans hr
          subst hr
          exact X17 H locs w ls (lv_sub hl [0, 1, 2] rfl)
        · have hr := (if_neg c22_5).symm.trans hr
          have hkl17 := kl_of hk17 hkN17 (N := nmy) hmy2 (by omega) c22_5
          refine lv_iload_n hx hb dX7_isGood_25 rfl (lv_at hl 1 rfl) ?_
          have J50_9 : ∀ (v8 : Int32), v8 = (if i3 = 0 then 0 else (if (msh (Int32.toNatClampNeg (mmb (Int32.toNatClampNeg i4)))) ≤ 0 then 0 else 1)) → W p l e (rl 0) s m args below meth c H locs 0 0 Q (F0 m 50 ls [.int v8]) := by
            intro v8 ev8
            have hr : L_X7_isGood_17 mmy mmb msh n17 v8 (i4 + 1) = y17 := by subst ev8; exact hr
            refine lv_istore_n (lv' := [(1, .int v8), (0, .ref am), (2, .int i4)]) hx hb dX7_isGood_50 rfl hl (by decide) rfl (fun ls hl => ?_)
            refine lv_iinc (v := i4 + 1) (lv' := [(2, .int (i4 + 1)), (1, .int v8), (0, .ref am)]) hx hb dX7_isGood_51 hl (k := 2) rfl rfl (by decide) rfl (fun ls hl => ?_)
            refine lv_goto (tgt := 17) hx hb dX7_isGood_54 (by decide) ?_
            exact ih17 (k17 + 1) v8 (i4 + 1) (by rw [hk17]; exact nI_1 k17) (by omega) (by omega) hr H locs w ls (lv_sub hl [2, 1, 0] rfl)
          refine lv_if_eq (tgt := 49) hx hb dX7_isGood_26 (by decide) (fun c26_6 => ?_) (fun c26_6 => ?_)
          · refine lv_iconst (v := 0) hx hb dX7_isGood_49 (by decide) ?_
            exact J50_9 0 (by rw [if_pos c26_6])
          · refine lv_aload_n hx hb dX7_isGood_29 rfl (lv_at hl 0 rfl) ?_
            refine fr_get C w fg_X7_28 0 rfl rfl dX7_isGood_30 ?_
            refine lv_aload_n hx hb dX7_isGood_33 rfl (lv_at hl 0 rfl) ?_
            refine fr_get C w fg_X7_25 0 rfl rfl dX7_isGood_34 ?_
            refine lv_iload_n hx hb dX7_isGood_37 rfl (lv_at hl 2 rfl) ?_
            refine fr_iald C w 6 rfl (vi_ctr hk17 hkl17 (by omega) (by decide)) dX7_isGood_38 ?_
            refine fr_lald C w 7 rfl (hmb _).vi dX7_isGood_39 ?_
            refine lv_lconst (v := 0) hx hb dX7_isGood_40 (by decide) ?_
            refine fr_lle (tgt := 49) hx hb dX7_isGood_41 dX7_isGood_42 (by decide) (fun c42_7 => ?_) (fun c42_7 => ?_)
            · refine lv_iconst (v := 0) hx hb dX7_isGood_49 (by decide) ?_
              exact J50_9 0 (by rw [if_neg c26_6, if_pos c42_7])
            · refine lv_iconst (v := 1) hx hb dX7_isGood_45 (by decide) ?_
              refine lv_goto (tgt := 50) hx hb dX7_isGood_46 (by decide) ?_
              exact J50_9 1 (by rw [if_neg c26_6, if_neg c42_7])
    exact LP17 5 0 v2 0 (by decide) (by omega) (by omega) hy17.symm H locs w ls (lv_sub hl [2, 1, 0] rfl)
  refine fr_lle (tgt := 13) hx hb dX7_isGood_5 dX7_isGood_6 (by decide) (fun c6_1 => ?_) (fun c6_1 => ?_)
  · refine lv_iconst (v := 0) hx hb dX7_isGood_13 (by decide) ?_
    exact J14_10 0 (by rw [if_pos c6_1])
  · refine lv_iconst (v := 1) hx hb dX7_isGood_9 (by decide) ?_
    refine lv_goto (tgt := 14) hx hb dX7_isGood_10 (by decide) ?_
    exact J14_10 1 (by rw [if_neg c6_1])
