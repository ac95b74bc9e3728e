theorem mw_24_17 : Cond.methodLink RX7 171 yX7_divisor ∈ wsL_law := ck_24 _ (List.mem_of_getElem? (i := 17) rfl)
theorem mw_24_19 : Cond.code yX7_divisor cX7_divisor 10 (some .long) ∈ wsL_law := ck_24 _ (List.mem_of_getElem? (i := 19) rfl)
theorem mw_1_5 : Cond.initialized RX7 ∈ wsL_law := ck_1 _ (List.mem_of_getElem? (i := 5) rfl)
theorem mw_24_18 : Cond.static yX7_divisor ∈ wsL_law := ck_24 _ (List.mem_of_getElem? (i := 18) rfl)
theorem mw_5_18 : Cond.methodLink RX7 38 yX7_within ∈ wsL_law := ck_5 _ (List.mem_of_getElem? (i := 18) rfl)
theorem mw_5_20 : Cond.code yX7_within cX7_within 3 (some .boolean) ∈ wsL_law := ck_5 _ (List.mem_of_getElem? (i := 20) rfl)
theorem mw_5_19 : Cond.static yX7_within ∈ wsL_law := ck_5 _ (List.mem_of_getElem? (i := 19) rfl)
theorem mw_5_16 : Cond.fieldLink RX7 44 "MudSharesModel" "pageLength" "I" ∈ wsL_law := ck_5 _ (List.mem_of_getElem? (i := 16) rfl)
theorem mw_4_10 : Cond.fieldLink RX7 7 "MudSharesModel" "page" "[I" ∈ wsL_law := ck_4 _ (List.mem_of_getElem? (i := 10) rfl)
theorem mw_5_17 : Cond.constantLong RX7 48 (-1000005) ∈ wsL_law := ck_5 _ (List.mem_of_getElem? (i := 17) rfl)
theorem mw_5_15 : Cond.constantLong RX7 42 (-1000003) ∈ wsL_law := ck_5 _ (List.mem_of_getElem? (i := 15) rfl)
theorem mw_4_14 : Cond.fieldLink RX7 22 "MudSharesModel" "newAmounts" "[I" ∈ wsL_law := ck_4 _ (List.mem_of_getElem? (i := 14) rfl)
theorem mw_8_14 : Cond.fieldLink RX7 50 "MudSharesModel" "newSources" "I" ∈ wsL_law := ck_8 _ (List.mem_of_getElem? (i := 14) rfl)
theorem mw_8_15 : Cond.fieldLink RX7 53 "MudSharesModel" "newNumbers" "I" ∈ wsL_law := ck_8 _ (List.mem_of_getElem? (i := 15) rfl)
theorem mw_8_18 : Cond.fieldLink RX7 56 "MudSharesModel" "newNow" "I" ∈ wsL_law := ck_8 _ (List.mem_of_getElem? (i := 18) rfl)
theorem mw_8_17 : Cond.fieldLink RX7 59 "MudSharesModel" "figures" "I" ∈ wsL_law := ck_8 _ (List.mem_of_getElem? (i := 17) rfl)
theorem mw_8_16 : Cond.fieldLink RX7 62 "MudSharesModel" "newTracers" "I" ∈ wsL_law := ck_8 _ (List.mem_of_getElem? (i := 16) rfl)
theorem mw_8_23 : Cond.methodLink RX7 65 yX7_endNumber ∈ wsL_law := ck_8 _ (List.mem_of_getElem? (i := 23) rfl)
theorem mw_9_2 : Cond.code yX7_endNumber cX7_endNumber 1 none ∈ wsL_law := ck_9 _ (List.mem_of_getElem? (i := 2) rfl)
theorem mw_9_0 : Cond.instanceMethod yX7_endNumber ∈ wsL_law := ck_9 _ (List.mem_of_getElem? (i := 0) rfl)
theorem mw_9_1 : Cond.selects RX7 yX7_endNumber yX7_endNumber ∈ wsL_law := ck_9 _ (List.mem_of_getElem? (i := 1) rfl)
theorem fg_X7_44 : FG RX7 44 7 0 := ⟨RX7, TX7, 25, rfl, by decide, inlX7, mw_5_16⟩
theorem fg_X7_7 : FG RX7 7 7 1 := ⟨RX7, TX7, 25, rfl, by decide, inlX7, mw_4_10⟩
theorem fp_X7_44 : FP RX7 44 7 0 .int := ⟨RX7, TX7, 25, tyX7, rfl, by decide, inlX7, mw_5_16, tyX7_ok, nmX7, rfl, by decide +kernel⟩
theorem fg_X7_22 : FG RX7 22 7 14 := ⟨RX7, TX7, 25, rfl, by decide, inlX7, mw_4_14⟩
theorem fg_X7_50 : FG RX7 50 7 9 := ⟨RX7, TX7, 25, rfl, by decide, inlX7, mw_8_14⟩
theorem fg_X7_53 : FG RX7 53 7 10 := ⟨RX7, TX7, 25, rfl, by decide, inlX7, mw_8_15⟩
theorem fg_X7_56 : FG RX7 56 7 13 := ⟨RX7, TX7, 25, rfl, by decide, inlX7, mw_8_18⟩
theorem fp_X7_53 : FP RX7 53 7 10 .int := ⟨RX7, TX7, 25, tyX7, rfl, by decide, inlX7, mw_8_15, tyX7_ok, nmX7, rfl, by decide +kernel⟩
theorem fp_X7_59 : FP RX7 59 7 12 .int := ⟨RX7, TX7, 25, tyX7, rfl, by decide, inlX7, mw_8_17, tyX7_ok, nmX7, rfl, by decide +kernel⟩
theorem fp_X7_56 : FP RX7 56 7 13 .int := ⟨RX7, TX7, 25, tyX7, rfl, by decide, inlX7, mw_8_18, tyX7_ok, nmX7, rfl, by decide +kernel⟩
theorem fg_X7_62 : FG RX7 62 7 11 := ⟨RX7, TX7, 25, rfl, by decide, inlX7, mw_8_16⟩
theorem fg_X7_59 : FG RX7 59 7 12 := ⟨RX7, TX7, 25, rfl, by decide, inlX7, mw_8_17⟩
theorem fp_X7_62 : FP RX7 62 7 11 .int := ⟨RX7, TX7, 25, tyX7, rfl, by decide, inlX7, mw_8_16, tyX7_ok, nmX7, rfl, by decide +kernel⟩
theorem fp_X7_50 : FP RX7 50 7 9 .int := ⟨RX7, TX7, 25, tyX7, rfl, by decide, inlX7, mw_8_14, tyX7_ok, nmX7, rfl, by decide +kernel⟩
theorem kf_X7_divisor : KS yX7_divisor cX7_divisor 10 (some .long) 2 := ⟨mw_24_19, mw_24_18, mw_1_5, by decide, by decide, by decide +kernel⟩
theorem kf_X7_within : KS yX7_within cX7_within 3 (some .boolean) 3 := ⟨mw_5_20, mw_5_19, mw_1_5, by decide, by decide, by decide +kernel⟩
theorem kf_X7_endNumber : KV RX7 yX7_endNumber cX7_endNumber 1 none 0 := ⟨mw_9_2, mw_9_0, mw_9_1, mw_1_5, by decide, by decide, by decide +kernel⟩
def f_X7_lowest (ab : Int64) (ov : Int64) (pt : Int32) : Int64 := ((fun (v2 : Int64) => v2 / (f_X7_divisor ab ov)) (if pt = 0 then ab else ov))
set_option maxRecDepth 100000 in
set_option maxHeartbeats 4000000 in
theorem c_X7_lowest (l : Launch) (D : va_G) (cI cJ : ClassId) (ab : Int64) (ov : Int64) (pt : Int32) (hov : ¬ ov = 0) : CL l yX7_lowest cX7_lowest 5 1 D cI cJ [.long ab, .long ov, .int pt] [] [] (f_X7_lowest ab ov pt) := by
  generalize hr : f_X7_lowest ab ov pt = r
  refine fr_entryL (by decide) rfl ?_
  intro p e s m args below meth c A Q H locs hQ C hret hlk w ls hl
  have hx := C.1
  have hb := C.2.1
  have hl : lv_has ls 5 [(0, .long ab), (2, .long ov), (4, .int pt)] := hl
  have hr : ((fun (v2 : Int64) => v2 / (f_X7_divisor ab ov)) (if pt = 0 then ab else ov)) = r := hr
  refine lv_iload hx hb dX7_lowest_0 (lv_at hl 2 rfl) ?_
  have J10_3 : ∀ (v2 : Int64), v2 = (if pt = 0 then ab else ov) → W p l e (rl 1) s m args below meth c H locs 0 0 Q (F0 m 10 ls [.long v2]) := by
    intro v2 ev2
    have hr : v2 / (f_X7_divisor ab ov) = r := by subst ev2; exact hr
    refine lv_lload_n hx hb dX7_lowest_10 rfl (lv_at hl 0 rfl) ?_
    refine lv_lload_n hx hb dX7_lowest_11 rfl (lv_at hl 1 rfl) ?_
    refine fr_callLS (As := [.long ab, .long ov]) (rest := [.long v2]) C w kf_X7_divisor mw_24_17 (c_X7_divisor l D cI cJ ab ov) ⟨Nat.le_of_ble_eq_true rfl, Nat.le_of_ble_eq_true rfl⟩ ⟨Nat.le_refl 0, Nat.le_refl 0⟩ [] rfl rfl rfl (ws' := []) rfl rfl hl.1 rfl (Nat.le_of_ble_eq_true rfl) dX7_lowest_12 (fun H locs w => ?_)
    refine lv_ldiv hx hb dX7_lowest_15 (divisor_ne (by assumption)) ?_
    subst hr hQ
    exact fr_lret C hret hlk w rfl rfl dX7_lowest_16
  refine lv_if_ne (tgt := 9) hx hb dX7_lowest_2 (by decide) (fun c2_1 => ?_) (fun c2_1 => ?_)
  · refine lv_lload_n hx hb dX7_lowest_9 rfl (lv_at hl 1 rfl) ?_
    exact J10_3 ov (by rw [if_neg c2_1])
  · refine lv_lload_n hx hb dX7_lowest_5 rfl (lv_at hl 0 rfl) ?_
    refine lv_goto (tgt := 10) hx hb dX7_lowest_6 (by decide) ?_
    exact J10_3 ab (by rw [if_pos c2_1])
def f_X7_letter (mpl : Int32) (mpg : Nat → Int32) (q1 : Int32) : Int64 × Int32 × (Nat → Int32) := (if (f_X7_within q1 32 126) = 0 then ((-1000003), mpl, mpg) else (if mpl = 47 then ((-1000005), mpl, mpg) else ((Int32.toInt64 (mpl + 1)), mpl + 1, upd mpg (Int32.toNatClampNeg mpl) q1)))
set_option maxRecDepth 100000 in
set_option maxHeartbeats 4000000 in
theorem c_X7_letter (l : Launch) (D : va_G) (cI cJ : ClassId) (am ama amb amc amd ame amf amg amp amo : Nat) (mpl : Int32) (msc : Int32) (mtc : Int32) (msr : Int32) (mal : Int32) (mns : Int32) (mnn : Int32) (mnt : Int32) (mfi : Int32) (mnw : Int32) (mmy : Int32) (mbe : Int64) (mmf : Int64) (mbs : Int32) (mco : Int32) (mh : Int64) (mpg : Nat → Int32) (mam : Nat → Int32) (mwa : Nat → Int32) (mww : Nat → Int32) (mna : Nat → Int32) (mmb : Nat → Int32) (msh : Nat → Int64) (mpa : Nat → Int64) (mgo : Nat → Int64) (q1 : Int32) (hmp : ∃ n : Nat, n ≤ 47 ∧ mpl = nI n) : CL l yX7_letter cX7_letter 2 1 D cI cJ [.ref am, .int q1] [(am, .inr (7, [.int mpl, .ref ama, .int msc, .int mtc, .ref amb, .ref amc, .ref amd, .int msr, .int mal, .int mns, .int mnn, .int mnt, .int mfi, .int mnw, .ref ame, .int mmy, .ref amf, .long mbe, .ref amg, .long mmf, .ref amp, .ref amo, .int mbs, .int mco, .long mh])), (ama, .inl (cI, 47, .inl mpg)), (amb, .inl (cI, 16, .inl mam)), (amc, .inl (cI, 4, .inl mwa)), (amd, .inl (cI, 4, .inl mww)), (ame, .inl (cI, 16, .inl mna)), (amf, .inl (cI, 4, .inl mmb)), (amg, .inl (cJ, 4, .inr (.inl msh))), (amp, .inl (cJ, 9, .inr (.inl mpa))), (amo, .inl (cJ, 3, .inr (.inl mgo)))] [(am, .inr (7, [.int ((f_X7_letter mpl mpg q1).2.1), .ref ama, .int msc, .int mtc, .ref amb, .ref amc, .ref amd, .int msr, .int mal, .int mns, .int mnn, .int mnt, .int mfi, .int mnw, .ref ame, .int mmy, .ref amf, .long mbe, .ref amg, .long mmf, .ref amp, .ref amo, .int mbs, .int mco, .long mh])), (ama, .inl (cI, 47, .inl ((f_X7_letter mpl mpg q1).2.2))), (amb, .inl (cI, 16, .inl mam)), (amc, .inl (cI, 4, .inl mwa)), (amd, .inl (cI, 4, .inl mww)), (ame, .inl (cI, 16, .inl mna)), (amf, .inl (cI, 4, .inl mmb)), (amg, .inl (cJ, 4, .inr (.inl msh))), (amp, .inl (cJ, 9, .inr (.inl mpa))), (amo, .inl (cJ, 3, .inr (.inl mgo)))] ((f_X7_letter mpl mpg q1).1) := by
  generalize hr : f_X7_letter mpl mpg q1 = r
  refine fr_entryL (by decide) rfl ?_
  intro p e s m args below meth c A Q H locs hQ C hret hlk w ls hl
  have hx := C.1
  have hb := C.2.1
  have hl : lv_has ls 2 [(0, .ref am), (1, .int q1)] := hl
  have hr : (if (f_X7_within q1 32 126) = 0 then ((-1000003), mpl, mpg) else (if mpl = 47 then ((-1000005), mpl, mpg) else ((Int32.toInt64 (mpl + 1)), mpl + 1, upd mpg (Int32.toNatClampNeg mpl) q1))) = r := hr
  refine lv_iload_n hx hb dX7_letter_0 rfl (lv_at hl 1 rfl) ?_
  refine lv_bipush (v := 32) hx hb dX7_letter_1 (by decide) ?_
  refine lv_bipush (v := 126) hx hb dX7_letter_3 (by decide) ?_
  refine fr_callIS (As := [.int q1, .int 32, .int 126]) (rest := []) C w kf_X7_within mw_5_18 (c_X7_within l D cI cJ q1 32 126) ⟨Nat.le_of_ble_eq_true rfl, Nat.le_of_ble_eq_true rfl⟩ ⟨Nat.le_refl 0, Nat.le_refl 0⟩ [] rfl rfl rfl (ws' := [(am, .inr (7, [.int mpl, .ref ama, .int msc, .int mtc, .ref amb, .ref amc, .ref amd, .int msr, .int mal, .int mns, .int mnn, .int mnt, .int mfi, .int mnw, .ref ame, .int mmy, .ref amf, .long mbe, .ref amg, .long mmf, .ref amp, .ref amo, .int mbs, .int mco, .long mh])), (ama, .inl (cI, 47, .inl mpg)), (amb, .inl (cI, 16, .inl mam)), (amc, .inl (cI, 4, .inl mwa)), (amd, .inl (cI, 4, .inl mww)), (ame, .inl (cI, 16, .inl mna)), (amf, .inl (cI, 4, .inl mmb)), (amg, .inl (cJ, 4, .inr (.inl msh))), (amp, .inl (cJ, 9, .inr (.inl mpa))), (amo, .inl (cJ, 3, .inr (.inl mgo)))]) rfl rfl hl.1 rfl (Nat.le_of_ble_eq_true rfl) dX7_letter_5 (fun H locs w => ?_)
  refine lv_if_ne (tgt := 15) hx hb dX7_letter_8 (by decide) (fun c8_1 => ?_) (fun c8_1 => ?_)
  · have hr := (if_neg c8_1).symm.trans hr
    refine lv_aload_n hx hb dX7_letter_15 rfl (lv_at hl 0 rfl) ?_
    refine fr_get C w fg_X7_44 0 rfl rfl dX7_letter_16 ?_
    refine lv_bipush (v := 47) hx hb dX7_letter_19 (by decide) ?_
    refine lv_icmp_ne (tgt := 28) hx hb dX7_letter_21 (by decide) (fun c21_2 => ?_) (fun c21_2 => ?_)
    · have hr := (if_neg c21_2).symm.trans hr
      refine lv_aload_n hx hb dX7_letter_28 rfl (lv_at hl 0 rfl) ?_
      refine fr_get C w fg_X7_7 0 rfl rfl dX7_letter_29 ?_
      refine lv_aload_n hx hb dX7_letter_32 rfl (lv_at hl 0 rfl) ?_
      refine fr_get C w fg_X7_44 0 rfl rfl dX7_letter_33 ?_
      refine lv_iload_n hx hb dX7_letter_36 rfl (lv_at hl 1 rfl) ?_
      refine fr_iast C w 1 rfl (by obtain ⟨n, h1, h2⟩ := hmp; rw [h2]; refine vp_in_nI (Nat.lt_of_le_of_ne h1 (fun e => ?_)) (by decide); subst e; rename_i h _; first | exact absurd h2 h | (exact absurd h2 (by assumption))) (ws' := [(am, .inr (7, [.int mpl, .ref ama, .int msc, .int mtc, .ref amb, .ref amc, .ref amd, .int msr, .int mal, .int mns, .int mnn, .int mnt, .int mfi, .int mnw, .ref ame, .int mmy, .ref amf, .long mbe, .ref amg, .long mmf, .ref amp, .ref amo, .int mbs, .int mco, .long mh])), (ama, .inl (cI, 47, .inl (upd mpg (Int32.toNatClampNeg mpl) q1))), (amb, .inl (cI, 16, .inl mam)), (amc, .inl (cI, 4, .inl mwa)), (amd, .inl (cI, 4, .inl mww)), (ame, .inl (cI, 16, .inl mna)), (amf, .inl (cI, 4, .inl mmb)), (amg, .inl (cJ, 4, .inr (.inl msh))), (amp, .inl (cJ, 9, .inr (.inl mpa))), (amo, .inl (cJ, 3, .inr (.inl mgo)))]) rfl dX7_letter_37 (fun H locs w => ?_)
      refine lv_aload_n hx hb dX7_letter_38 rfl (lv_at hl 0 rfl) ?_
      refine lv_dup hx hb dX7_letter_39 rfl ?_
      refine fr_get C w fg_X7_44 0 rfl rfl dX7_letter_40 ?_
      refine lv_iconst (v := 1) hx hb dX7_letter_43 (by decide) ?_
      refine lv_iadd hx hb dX7_letter_44 ?_
      refine fr_put C w fp_X7_44 0 rfl rfl rfl rfl (ws' := [(am, .inr (7, [.int (mpl + 1), .ref ama, .int msc, .int mtc, .ref amb, .ref amc, .ref amd, .int msr, .int mal, .int mns, .int mnn, .int mnt, .int mfi, .int mnw, .ref ame, .int mmy, .ref amf, .long mbe, .ref amg, .long mmf, .ref amp, .ref amo, .int mbs, .int mco, .long mh])), (ama, .inl (cI, 47, .inl (upd mpg (Int32.toNatClampNeg mpl) q1))), (amb, .inl (cI, 16, .inl mam)), (amc, .inl (cI, 4, .inl mwa)), (amd, .inl (cI, 4, .inl mww)), (ame, .inl (cI, 16, .inl mna)), (amf, .inl (cI, 4, .inl mmb)), (amg, .inl (cJ, 4, .inr (.inl msh))), (amp, .inl (cJ, 9, .inr (.inl mpa))), (amo, .inl (cJ, 3, .inr (.inl mgo)))]) rfl dX7_letter_45 (fun H locs w => ?_)
      refine lv_aload_n hx hb dX7_letter_48 rfl (lv_at hl 0 rfl) ?_
      refine fr_get C w fg_X7_44 0 rfl rfl dX7_letter_49 ?_
      refine lv_i2l (v := (Int32.toInt64 (mpl + 1))) hx hb dX7_letter_52 rfl ?_
      subst hr hQ
      exact fr_lret C hret hlk w rfl rfl dX7_letter_53
    · have hr := (if_pos c21_2).symm.trans hr
      refine lv_ldc2 hx hb C.2.2.2.1 (C.2.2.2.2.1 _ mw_5_17) dX7_letter_24 ?_
      subst hr hQ
      exact fr_lret C hret hlk w rfl rfl dX7_letter_27
  · have hr := (if_pos c8_1).symm.trans hr
    refine lv_ldc2 hx hb C.2.2.2.1 (C.2.2.2.2.1 _ mw_5_15) dX7_letter_11 ?_
    subst hr hQ
    exact fr_lret C hret hlk w rfl rfl dX7_letter_14
def f_X7_blank (mpl : Int32) : Int64 × Int32 := ((Int32.toInt64 mpl), 0)
set_option maxRecDepth 100000 in
set_option maxHeartbeats 4000000 in
theorem c_X7_blank (l : Launch) (D : va_G) (cI cJ : ClassId) (am ama amb amc amd ame amf amg amp amo : Nat) (mpl : Int32) (msc : Int32) (mtc : Int32) (msr : Int32) (mal : Int32) (mns : Int32) (mnn : Int32) (mnt : Int32) (mfi : Int32) (mnw : Int32) (mmy : Int32) (mbe : Int64) (mmf : Int64) (mbs : Int32) (mco : Int32) (mh : Int64) (mpg : Nat → Int32) (mam : Nat → Int32) (mwa : Nat → Int32) (mww : Nat → Int32) (mna : Nat → Int32) (mmb : Nat → Int32) (msh : Nat → Int64) (mpa : Nat → Int64) (mgo : Nat → Int64)  : CL l yX7_blank cX7_blank 2 0 D cI cJ [.ref am] [(am, .inr (7, [.int mpl, .ref ama, .int msc, .int mtc, .ref amb, .ref amc, .ref amd, .int msr, .int mal, .int mns, .int mnn, .int mnt, .int mfi, .int mnw, .ref ame, .int mmy, .ref amf, .long mbe, .ref amg, .long mmf, .ref amp, .ref amo, .int mbs, .int mco, .long mh])), (ama, .inl (cI, 47, .inl mpg)), (amb, .inl (cI, 16, .inl mam)), (amc, .inl (cI, 4, .inl mwa)), (amd, .inl (cI, 4, .inl mww)), (ame, .inl (cI, 16, .inl mna)), (amf, .inl (cI, 4, .inl mmb)), (amg, .inl (cJ, 4, .inr (.inl msh))), (amp, .inl (cJ, 9, .inr (.inl mpa))), (amo, .inl (cJ, 3, .inr (.inl mgo)))] [(am, .inr (7, [.int ((f_X7_blank mpl).2), .ref ama, .int msc, .int mtc, .ref amb, .ref amc, .ref amd, .int msr, .int mal, .int mns, .int mnn, .int mnt, .int mfi, .int mnw, .ref ame, .int mmy, .ref amf, .long mbe, .ref amg, .long mmf, .ref amp, .ref amo, .int mbs, .int mco, .long mh])), (ama, .inl (cI, 47, .inl mpg)), (amb, .inl (cI, 16, .inl mam)), (amc, .inl (cI, 4, .inl mwa)), (amd, .inl (cI, 4, .inl mww)), (ame, .inl (cI, 16, .inl mna)), (amf, .inl (cI, 4, .inl mmb)), (amg, .inl (cJ, 4, .inr (.inl msh))), (amp, .inl (cJ, 9, .inr (.inl mpa))), (amo, .inl (cJ, 3, .inr (.inl mgo)))] ((f_X7_blank mpl).1) := by
  generalize hr : f_X7_blank mpl = r
  refine fr_entryL (by decide) rfl ?_
  intro p e s m args below meth c A Q H locs hQ C hret hlk w ls hl
  have hx := C.1
  have hb := C.2.1
  have hl : lv_has ls 2 [(0, .ref am)] := hl
  have hr : ((Int32.toInt64 mpl), 0) = r := hr
  refine lv_aload_n hx hb dX7_blank_0 rfl (lv_at hl 0 rfl) ?_
  refine fr_get C w fg_X7_44 0 rfl rfl dX7_blank_1 ?_
  refine lv_istore_n (lv' := [(1, .int mpl), (0, .ref am)]) hx hb dX7_blank_4 rfl hl (by decide) rfl (fun ls hl => ?_)
  refine lv_aload_n hx hb dX7_blank_5 rfl (lv_at hl 1 rfl) ?_
  refine lv_iconst (v := 0) hx hb dX7_blank_6 (by decide) ?_
  refine fr_put C w fp_X7_44 0 rfl rfl rfl rfl (ws' := [(am, .inr (7, [.int 0, .ref ama, .int msc, .int mtc, .ref amb, .ref amc, .ref amd, .int msr, .int mal, .int mns, .int mnn, .int mnt, .int mfi, .int mnw, .ref ame, .int mmy, .ref amf, .long mbe, .ref amg, .long mmf, .ref amp, .ref amo, .int mbs, .int mco, .long mh])), (ama, .inl (cI, 47, .inl mpg)), (amb, .inl (cI, 16, .inl mam)), (amc, .inl (cI, 4, .inl mwa)), (amd, .inl (cI, 4, .inl mww)), (ame, .inl (cI, 16, .inl mna)), (amf, .inl (cI, 4, .inl mmb)), (amg, .inl (cJ, 4, .inr (.inl msh))), (amp, .inl (cJ, 9, .inr (.inl mpa))), (amo, .inl (cJ, 3, .inr (.inl mgo)))]) rfl dX7_blank_7 (fun H locs w => ?_)
  refine lv_iload_n hx hb dX7_blank_10 rfl (lv_at hl 0 rfl) ?_
  refine lv_i2l (v := (Int32.toInt64 mpl)) hx hb dX7_blank_11 rfl ?_
  subst hr hQ
  exact fr_lret C hret hlk w rfl rfl dX7_blank_12
def f_X7_endNumber (mns : Int32) (mnn : Int32) (mnw : Int32) (mna : Nat → Int32) : Int32 × Int32 × Int32 × (Nat → Int32) := (mnn + 1, 0, 0, upd mna (Int32.toNatClampNeg ((4 * mns) + mnn)) mnw)
set_option maxRecDepth 100000 in
set_option maxHeartbeats 4000000 in
theorem c_X7_endNumber (l : Launch) (D : va_G) (cI cJ : ClassId) (am ama amb amc amd ame amf amg amp amo : Nat) (mpl : Int32) (msc : Int32) (mtc : Int32) (msr : Int32) (mal : Int32) (mns : Int32) (mnn : Int32) (mnt : Int32) (mfi : Int32) (mnw : Int32) (mmy : Int32) (mbe : Int64) (mmf : Int64) (mbs : Int32) (mco : Int32) (mh : Int64) (mpg : Nat → Int32) (mam : Nat → Int32) (mwa : Nat → Int32) (mww : Nat → Int32) (mna : Nat → Int32) (mmb : Nat → Int32) (msh : Nat → Int64) (mpa : Nat → Int64) (mgo : Nat → Int64)  (hn1 : L4 mns) (hn2 : L4 mnn) : CV l yX7_endNumber cX7_endNumber 1 0 D cI cJ [.ref am] [(am, .inr (7, [.int mpl, .ref ama, .int msc, .int mtc, .ref amb, .ref amc, .ref amd, .int msr, .int mal, .int mns, .int mnn, .int mnt, .int mfi, .int mnw, .ref ame, .int mmy, .ref amf, .long mbe, .ref amg, .long mmf, .ref amp, .ref amo, .int mbs, .int mco, .long mh])), (ama, .inl (cI, 47, .inl mpg)), (amb, .inl (cI, 16, .inl mam)), (amc, .inl (cI, 4, .inl mwa)), (amd, .inl (cI, 4, .inl mww)), (ame, .inl (cI, 16, .inl mna)), (amf, .inl (cI, 4, .inl mmb)), (amg, .inl (cJ, 4, .inr (.inl msh))), (amp, .inl (cJ, 9, .inr (.inl mpa))), (amo, .inl (cJ, 3, .inr (.inl mgo)))] [(am, .inr (7, [.int mpl, .ref ama, .int msc, .int mtc, .ref amb, .ref amc, .ref amd, .int msr, .int mal, .int mns, .int ((f_X7_endNumber mns mnn mnw mna).1), .int mnt, .int ((f_X7_endNumber mns mnn mnw mna).2.1), .int ((f_X7_endNumber mns mnn mnw mna).2.2.1), .ref ame, .int mmy, .ref amf, .long mbe, .ref amg, .long mmf, .ref amp, .ref amo, .int mbs, .int mco, .long mh])), (ama, .inl (cI, 47, .inl mpg)), (amb, .inl (cI, 16, .inl mam)), (amc, .inl (cI, 4, .inl mwa)), (amd, .inl (cI, 4, .inl mww)), (ame, .inl (cI, 16, .inl ((f_X7_endNumber mns mnn mnw mna).2.2.2))), (amf, .inl (cI, 4, .inl mmb)), (amg, .inl (cJ, 4, .inr (.inl msh))), (amp, .inl (cJ, 9, .inr (.inl mpa))), (amo, .inl (cJ, 3, .inr (.inl mgo)))] := by
  generalize hr : f_X7_endNumber mns mnn mnw mna = r
  refine fr_entryV (by decide) rfl ?_
  intro p e s m args below meth c A Q H locs hQ C hret hlk w ls hl
  have hx := C.1
  have hb := C.2.1
  have hl : lv_has ls 1 [(0, .ref am)] := hl
  have hr : (mnn + 1, 0, 0, upd mna (Int32.toNatClampNeg ((4 * mns) + mnn)) mnw) = r := hr
  refine lv_aload_n hx hb dX7_endNumber_0 rfl (lv_at hl 0 rfl) ?_
  refine fr_get C w fg_X7_22 0 rfl rfl dX7_endNumber_1 ?_
  refine lv_iconst (v := 4) hx hb dX7_endNumber_4 (by decide) ?_
  refine lv_aload_n hx hb dX7_endNumber_5 rfl (lv_at hl 0 rfl) ?_
  refine fr_get C w fg_X7_50 0 rfl rfl dX7_endNumber_6 ?_
  refine lv_imul hx hb dX7_endNumber_9 ?_
  refine lv_aload_n hx hb dX7_endNumber_10 rfl (lv_at hl 0 rfl) ?_
  refine fr_get C w fg_X7_53 0 rfl rfl dX7_endNumber_11 ?_
  refine lv_iadd hx hb dX7_endNumber_14 ?_
  refine lv_aload_n hx hb dX7_endNumber_15 rfl (lv_at hl 0 rfl) ?_
  refine fr_get C w fg_X7_56 0 rfl rfl dX7_endNumber_16 ?_
  refine fr_iast C w 5 rfl (vi_4 hn1 hn2) (ws' := [(am, .inr (7, [.int mpl, .ref ama, .int msc, .int mtc, .ref amb, .ref amc, .ref amd, .int msr, .int mal, .int mns, .int mnn, .int mnt, .int mfi, .int mnw, .ref ame, .int mmy, .ref amf, .long mbe, .ref amg, .long mmf, .ref amp, .ref amo, .int mbs, .int mco, .long mh])), (ama, .inl (cI, 47, .inl mpg)), (amb, .inl (cI, 16, .inl mam)), (amc, .inl (cI, 4, .inl mwa)), (amd, .inl (cI, 4, .inl mww)), (ame, .inl (cI, 16, .inl (upd mna (Int32.toNatClampNeg ((4 * mns) + mnn)) mnw))), (amf, .inl (cI, 4, .inl mmb)), (amg, .inl (cJ, 4, .inr (.inl msh))), (amp, .inl (cJ, 9, .inr (.inl mpa))), (amo, .inl (cJ, 3, .inr (.inl mgo)))]) rfl dX7_endNumber_19 (fun H locs w => ?_)
  refine lv_aload_n hx hb dX7_endNumber_20 rfl (lv_at hl 0 rfl) ?_
  refine lv_dup hx hb dX7_endNumber_21 rfl ?_
  refine fr_get C w fg_X7_53 0 rfl rfl dX7_endNumber_22 ?_
  refine lv_iconst (v := 1) hx hb dX7_endNumber_25 (by decide) ?_
  refine lv_iadd hx hb dX7_endNumber_26 ?_
  refine fr_put C w fp_X7_53 0 rfl rfl rfl rfl (ws' := [(am, .inr (7, [.int mpl, .ref ama, .int msc, .int mtc, .ref amb, .ref amc, .ref amd, .int msr, .int mal, .int mns, .int (mnn + 1), .int mnt, .int mfi, .int mnw, .ref ame, .int mmy, .ref amf, .long mbe, .ref amg, .long mmf, .ref amp, .ref amo, .int mbs, .int mco, .long mh])), (ama, .inl (cI, 47, .inl mpg)), (amb, .inl (cI, 16, .inl mam)), (amc, .inl (cI, 4, .inl mwa)), (amd, .inl (cI, 4, .inl mww)), (ame, .inl (cI, 16, .inl (upd mna (Int32.toNatClampNeg ((4 * mns) + mnn)) mnw))), (amf, .inl (cI, 4, .inl mmb)), (amg, .inl (cJ, 4, .inr (.inl msh))), (amp, .inl (cJ, 9, .inr (.inl mpa))), (amo, .inl (cJ, 3, .inr (.inl mgo)))]) rfl dX7_endNumber_27 (fun H locs w => ?_)
  refine lv_aload_n hx hb dX7_endNumber_30 rfl (lv_at hl 0 rfl) ?_
  refine lv_iconst (v := 0) hx hb dX7_endNumber_31 (by decide) ?_
  refine fr_put C w fp_X7_59 0 rfl rfl rfl rfl (ws' := [(am, .inr (7, [.int mpl, .ref ama, .int msc, .int mtc, .ref amb, .ref amc, .ref amd, .int msr, .int mal, .int mns, .int (mnn + 1), .int mnt, .int 0, .int mnw, .ref ame, .int mmy, .ref amf, .long mbe, .ref amg, .long mmf, .ref amp, .ref amo, .int mbs, .int mco, .long mh])), (ama, .inl (cI, 47, .inl mpg)), (amb, .inl (cI, 16, .inl mam)), (amc, .inl (cI, 4, .inl mwa)), (amd, .inl (cI, 4, .inl mww)), (ame, .inl (cI, 16, .inl (upd mna (Int32.toNatClampNeg ((4 * mns) + mnn)) mnw))), (amf, .inl (cI, 4, .inl mmb)), (amg, .inl (cJ, 4, .inr (.inl msh))), (amp, .inl (cJ, 9, .inr (.inl mpa))), (amo, .inl (cJ, 3, .inr (.inl mgo)))]) rfl dX7_endNumber_32 (fun H locs w => ?_)
  refine lv_aload_n hx hb dX7_endNumber_35 rfl (lv_at hl 0 rfl) ?_
  refine lv_iconst (v := 0) hx hb dX7_endNumber_36 (by decide) ?_
  refine fr_put C w fp_X7_56 0 rfl rfl rfl rfl (ws' := [(am, .inr (7, [.int mpl, .ref ama, .int msc, .int mtc, .ref amb, .ref amc, .ref amd, .int msr, .int mal, .int mns, .int (mnn + 1), .int mnt, .int 0, .int 0, .ref ame, .int mmy, .ref amf, .long mbe, .ref amg, .long mmf, .ref amp, .ref amo, .int mbs, .int mco, .long mh])), (ama, .inl (cI, 47, .inl mpg)), (amb, .inl (cI, 16, .inl mam)), (amc, .inl (cI, 4, .inl mwa)), (amd, .inl (cI, 4, .inl mww)), (ame, .inl (cI, 16, .inl (upd mna (Int32.toNatClampNeg ((4 * mns) + mnn)) mnw))), (amf, .inl (cI, 4, .inl mmb)), (amg, .inl (cJ, 4, .inr (.inl msh))), (amp, .inl (cJ, 9, .inr (.inl mpa))), (amo, .inl (cJ, 3, .inr (.inl mgo)))]) rfl dX7_endNumber_37 (fun H locs w => ?_)
  subst hr hQ
  exact fr_vret C hret hlk w rfl dX7_endNumber_40
def f_X7_takes (mns : Int32) (mnn : Int32) (mnt : Int32) (mfi : Int32) (mnw : Int32) (mna : Nat → Int32) (q1 : Int32) : Int32 × Int32 × Int32 × Int32 × Int32 × Int32 × (Nat → Int32) := (if (f_X7_within q1 48 57) = 0 then ((fun (v3 : Int32) => (if q1 = 44 then (if mfi ≤ 0 then ((fun (v18 : Int32) => (if q1 = 59 then (if v18 = 0 then (0, mns, mnn, mnt, mfi, mnw, mna) else (if 4 ≤ (mns + 1) then (0, mns, mnn, mnt, mfi, mnw, mna) else ((fun (z193_22 : Int32 × Int32 × Int32 × (Nat → Int32)) => (1, mns + 1, 0, z193_22.1, z193_22.2.1, z193_22.2.2.1, z193_22.2.2.2)) (f_X7_endNumber mns mnn mnw mna)))) else (0, mns, mnn, mnt, mfi, mnw, mna))) (if mfi ≤ 0 then 0 else (if mnt = 0 then 1 else (if (mnn + 1) = mnt then 1 else 0)))) else (if v3 ≤ (mnn + 1) then ((fun (v28 : Int32) => (if q1 = 59 then (if v28 = 0 then (0, mns, mnn, mnt, mfi, mnw, mna) else (if 4 ≤ (mns + 1) then (0, mns, mnn, mnt, mfi, mnw, mna) else ((fun (z193_32 : Int32 × Int32 × Int32 × (Nat → Int32)) => (1, mns + 1, 0, z193_32.1, z193_32.2.1, z193_32.2.2.1, z193_32.2.2.2)) (f_X7_endNumber mns mnn mnw mna)))) else (0, mns, mnn, mnt, mfi, mnw, mna))) (if mfi ≤ 0 then 0 else (if mnt = 0 then 1 else (if (mnn + 1) = mnt then 1 else 0)))) else ((fun (z134_34 : Int32 × Int32 × Int32 × (Nat → Int32)) => (1, mns, z134_34.1, mnt, z134_34.2.1, z134_34.2.2.1, z134_34.2.2.2)) (f_X7_endNumber mns mnn mnw mna)))) else ((fun (v8 : Int32) => (if q1 = 59 then (if v8 = 0 then (0, mns, mnn, mnt, mfi, mnw, mna) else (if 4 ≤ (mns + 1) then (0, mns, mnn, mnt, mfi, mnw, mna) else ((fun (z193_12 : Int32 × Int32 × Int32 × (Nat → Int32)) => (1, mns + 1, 0, z193_12.1, z193_12.2.1, z193_12.2.2.1, z193_12.2.2.2)) (f_X7_endNumber mns mnn mnw mna)))) else (0, mns, mnn, mnt, mfi, mnw, mna))) (if mfi ≤ 0 then 0 else (if mnt = 0 then 1 else (if (mnn + 1) = mnt then 1 else 0)))))) (if mnt = 0 then 4 else mnt)) else ((fun (v40 : Int32) => ((fun (v42 : Int32) => ((fun (v44 : Int32) => (v40, mns, mnn, mnt, mfi + v44, v42, mna)) (if v40 = 0 then 0 else 1))) (if v40 = 0 then mnw else ((10 * mnw) + q1) - 48))) (if mfi = 0 then 1 else (if mfi = 1 then (if mnw ≤ 0 then 0 else (if 20 < (((10 * mnw) + q1) - 48) then 0 else 1)) else 0))))
set_option maxRecDepth 100000 in
set_option maxHeartbeats 4000000 in
theorem c_X7_takes (l : Launch) (D : va_G) (cI cJ : ClassId) (am ama amb amc amd ame amf amg amp amo : Nat) (mpl : Int32) (msc : Int32) (mtc : Int32) (msr : Int32) (mal : Int32) (mns : Int32) (mnn : Int32) (mnt : Int32) (mfi : Int32) (mnw : Int32) (mmy : Int32) (mbe : Int64) (mmf : Int64) (mbs : Int32) (mco : Int32) (mh : Int64) (mpg : Nat → Int32) (mam : Nat → Int32) (mwa : Nat → Int32) (mww : Nat → Int32) (mna : Nat → Int32) (mmb : Nat → Int32) (msh : Nat → Int64) (mpa : Nat → Int64) (mgo : Nat → Int64) (q1 : Int32) (hpi : PI mns mnn mnt) : CI l yX7_takes cX7_takes 4 .boolean 1 D cI cJ [.ref am, .int q1] [(am, .inr (7, [.int mpl, .ref ama, .int msc, .int mtc, .ref amb, .ref amc, .ref amd, .int msr, .int mal, .int mns, .int mnn, .int mnt, .int mfi, .int mnw, .ref ame, .int mmy, .ref amf, .long mbe, .ref amg, .long mmf, .ref amp, .ref amo, .int mbs, .int mco, .long mh])), (ama, .inl (cI, 47, .inl mpg)), (amb, .inl (cI, 16, .inl mam)), (amc, .inl (cI, 4, .inl mwa)), (amd, .inl (cI, 4, .inl mww)), (ame, .inl (cI, 16, .inl mna)), (amf, .inl (cI, 4, .inl mmb)), (amg, .inl (cJ, 4, .inr (.inl msh))), (amp, .inl (cJ, 9, .inr (.inl mpa))), (amo, .inl (cJ, 3, .inr (.inl mgo)))] [(am, .inr (7, [.int mpl, .ref ama, .int msc, .int mtc, .ref amb, .ref amc, .ref amd, .int msr, .int mal, .int ((f_X7_takes mns mnn mnt mfi mnw mna q1).2.1), .int ((f_X7_takes mns mnn mnt mfi mnw mna q1).2.2.1), .int ((f_X7_takes mns mnn mnt mfi mnw mna q1).2.2.2.1), .int ((f_X7_takes mns mnn mnt mfi mnw mna q1).2.2.2.2.1), .int ((f_X7_takes mns mnn mnt mfi mnw mna q1).2.2.2.2.2.1), .ref ame, .int mmy, .ref amf, .long mbe, .ref amg, .long mmf, .ref amp, .ref amo, .int mbs, .int mco, .long mh])), (ama, .inl (cI, 47, .inl mpg)), (amb, .inl (cI, 16, .inl mam)), (amc, .inl (cI, 4, .inl mwa)), (amd, .inl (cI, 4, .inl mww)), (ame, .inl (cI, 16, .inl ((f_X7_takes mns mnn mnt mfi mnw mna q1).2.2.2.2.2.2))), (amf, .inl (cI, 4, .inl mmb)), (amg, .inl (cJ, 4, .inr (.inl msh))), (amp, .inl (cJ, 9, .inr (.inl mpa))), (amo, .inl (cJ, 3, .inr (.inl mgo)))] ((f_X7_takes mns mnn mnt mfi mnw mna q1).1) := by
  generalize hr : f_X7_takes mns mnn mnt mfi mnw mna q1 = r
  refine fr_entryI (by decide) rfl ?_
  intro p e s m args below meth c A Q H locs hQ C hret hlk w ls hl
  have hx := C.1
  have hb := C.2.1
  have hl : lv_has ls 4 [(0, .ref am), (1, .int q1)] := hl
  have hr : (if (f_X7_within q1 48 57) = 0 then ((fun (v3 : Int32) => (if q1 = 44 then (if mfi ≤ 0 then ((fun (v18 : Int32) => (if q1 = 59 then (if v18 = 0 then (0, mns, mnn, mnt, mfi, mnw, mna) else (if 4 ≤ (mns + 1) then (0, mns, mnn, mnt, mfi, mnw, mna) else ((fun (z193_22 : Int32 × Int32 × Int32 × (Nat → Int32)) => (1, mns + 1, 0, z193_22.1, z193_22.2.1, z193_22.2.2.1, z193_22.2.2.2)) (f_X7_endNumber mns mnn mnw mna)))) else (0, mns, mnn, mnt, mfi, mnw, mna))) (if mfi ≤ 0 then 0 else (if mnt = 0 then 1 else (if (mnn + 1) = mnt then 1 else 0)))) else (if v3 ≤ (mnn + 1) then ((fun (v28 : Int32) => (if q1 = 59 then (if v28 = 0 then (0, mns, mnn, mnt, mfi, mnw, mna) else (if 4 ≤ (mns + 1) then (0, mns, mnn, mnt, mfi, mnw, mna) else ((fun (z193_32 : Int32 × Int32 × Int32 × (Nat → Int32)) => (1, mns + 1, 0, z193_32.1, z193_32.2.1, z193_32.2.2.1, z193_32.2.2.2)) (f_X7_endNumber mns mnn mnw mna)))) else (0, mns, mnn, mnt, mfi, mnw, mna))) (if mfi ≤ 0 then 0 else (if mnt = 0 then 1 else (if (mnn + 1) = mnt then 1 else 0)))) else ((fun (z134_34 : Int32 × Int32 × Int32 × (Nat → Int32)) => (1, mns, z134_34.1, mnt, z134_34.2.1, z134_34.2.2.1, z134_34.2.2.2)) (f_X7_endNumber mns mnn mnw mna)))) else ((fun (v8 : Int32) => (if q1 = 59 then (if v8 = 0 then (0, mns, mnn, mnt, mfi, mnw, mna) else (if 4 ≤ (mns + 1) then (0, mns, mnn, mnt, mfi, mnw, mna) else ((fun (z193_12 : Int32 × Int32 × Int32 × (Nat → Int32)) => (1, mns + 1, 0, z193_12.1, z193_12.2.1, z193_12.2.2.1, z193_12.2.2.2)) (f_X7_endNumber mns mnn mnw mna)))) else (0, mns, mnn, mnt, mfi, mnw, mna))) (if mfi ≤ 0 then 0 else (if mnt = 0 then 1 else (if (mnn + 1) = mnt then 1 else 0)))))) (if mnt = 0 then 4 else mnt)) else ((fun (v40 : Int32) => ((fun (v42 : Int32) => ((fun (v44 : Int32) => (v40, mns, mnn, mnt, mfi + v44, v42, mna)) (if v40 = 0 then 0 else 1))) (if v40 = 0 then mnw else ((10 * mnw) + q1) - 48))) (if mfi = 0 then 1 else (if mfi = 1 then (if mnw ≤ 0 then 0 else (if 20 < (((10 * mnw) + q1) - 48) then 0 else 1)) else 0)))) = r := hr
  refine lv_iload_n hx hb dX7_takes_0 rfl (lv_at hl 1 rfl) ?_
  refine lv_bipush (v := 48) hx hb dX7_takes_1 (by decide) ?_
  refine lv_bipush (v := 57) hx hb dX7_takes_3 (by decide) ?_
  refine fr_callIS (As := [.int q1, .int 48, .int 57]) (rest := []) C w kf_X7_within mw_5_18 (c_X7_within l D cI cJ q1 48 57) ⟨Nat.le_of_ble_eq_true rfl, Nat.le_of_ble_eq_true rfl⟩ ⟨Nat.le_refl 0, Nat.le_refl 0⟩ [] rfl rfl rfl (ws' := [(am, .inr (7, [.int mpl, .ref ama, .int msc, .int mtc, .ref amb, .ref amc, .ref amd, .int msr, .int mal, .int mns, .int mnn, .int mnt, .int mfi, .int mnw, .ref ame, .int mmy, .ref amf, .long mbe, .ref amg, .long mmf, .ref amp, .ref amo, .int mbs, .int mco, .long mh])), (ama, .inl (cI, 47, .inl mpg)), (amb, .inl (cI, 16, .inl mam)), (amc, .inl (cI, 4, .inl mwa)), (amd, .inl (cI, 4, .inl mww)), (ame, .inl (cI, 16, .inl mna)), (amf, .inl (cI, 4, .inl mmb)), (amg, .inl (cJ, 4, .inr (.inl msh))), (amp, .inl (cJ, 9, .inr (.inl mpa))), (amo, .inl (cJ, 3, .inr (.inl mgo)))]) rfl rfl hl.1 rfl (Nat.le_of_ble_eq_true rfl) dX7_takes_5 (fun H locs w => ?_)
  refine lv_if_eq (tgt := 94) hx hb dX7_takes_8 (by decide) (fun c8_1 => ?_) (fun c8_1 => ?_)
  · have hr := (if_pos c8_1).symm.trans hr
    refine lv_aload_n hx hb dX7_takes_94 rfl (lv_at hl 0 rfl) ?_
    refine fr_get C w fg_X7_62 0 rfl rfl dX7_takes_95 ?_
    have J109_35 : ∀ (v3 : Int32), v3 = (if mnt = 0 then 4 else mnt) → W p l e (rl 1) s m args below meth c H locs 0 0 Q (F0 m 109 ls [.int v3]) := by
      intro v3 ev3
      have hr : (if q1 = 44 then (if mfi ≤ 0 then ((fun (v18 : Int32) => (if q1 = 59 then (if v18 = 0 then (0, mns, mnn, mnt, mfi, mnw, mna) else (if 4 ≤ (mns + 1) then (0, mns, mnn, mnt, mfi, mnw, mna) else ((fun (z193_22 : Int32 × Int32 × Int32 × (Nat → Int32)) => (1, mns + 1, 0, z193_22.1, z193_22.2.1, z193_22.2.2.1, z193_22.2.2.2)) (f_X7_endNumber mns mnn mnw mna)))) else (0, mns, mnn, mnt, mfi, mnw, mna))) (if mfi ≤ 0 then 0 else (if mnt = 0 then 1 else (if (mnn + 1) = mnt then 1 else 0)))) else (if v3 ≤ (mnn + 1) then ((fun (v28 : Int32) => (if q1 = 59 then (if v28 = 0 then (0, mns, mnn, mnt, mfi, mnw, mna) else (if 4 ≤ (mns + 1) then (0, mns, mnn, mnt, mfi, mnw, mna) else ((fun (z193_32 : Int32 × Int32 × Int32 × (Nat → Int32)) => (1, mns + 1, 0, z193_32.1, z193_32.2.1, z193_32.2.2.1, z193_32.2.2.2)) (f_X7_endNumber mns mnn mnw mna)))) else (0, mns, mnn, mnt, mfi, mnw, mna))) (if mfi ≤ 0 then 0 else (if mnt = 0 then 1 else (if (mnn + 1) = mnt then 1 else 0)))) else ((fun (z134_34 : Int32 × Int32 × Int32 × (Nat → Int32)) => (1, mns, z134_34.1, mnt, z134_34.2.1, z134_34.2.2.1, z134_34.2.2.2)) (f_X7_endNumber mns mnn mnw mna)))) else ((fun (v8 : Int32) => (if q1 = 59 then (if v8 = 0 then (0, mns, mnn, mnt, mfi, mnw, mna) else (if 4 ≤ (mns + 1) then (0, mns, mnn, mnt, mfi, mnw, mna) else ((fun (z193_12 : Int32 × Int32 × Int32 × (Nat → Int32)) => (1, mns + 1, 0, z193_12.1, z193_12.2.1, z193_12.2.2.1, z193_12.2.2.2)) (f_X7_endNumber mns mnn mnw mna)))) else (0, mns, mnn, mnt, mfi, mnw, mna))) (if mfi ≤ 0 then 0 else (if mnt = 0 then 1 else (if (mnn + 1) = mnt then 1 else 0))))) = r := by subst ev3; exact hr
      refine lv_istore_n (lv' := [(2, .int v3), (0, .ref am), (1, .int q1)]) hx hb dX7_takes_109 rfl hl (by decide) rfl (fun ls hl => ?_)
      refine lv_iload_n hx hb dX7_takes_110 rfl (lv_at hl 2 rfl) ?_
      refine lv_bipush (v := 44) hx hb dX7_takes_111 (by decide) ?_
      refine lv_icmp_ne (tgt := 139) hx hb dX7_takes_113 (by decide) (fun c113_4 => ?_) (fun c113_4 => ?_)
      · have hr := (if_neg c113_4).symm.trans hr
        refine lv_aload_n hx hb dX7_takes_139 rfl (lv_at hl 1 rfl) ?_
        refine fr_get C w fg_X7_59 0 rfl rfl dX7_takes_140 ?_
        have J171_13 : ∀ (v8 : Int32), v8 = (if mfi ≤ 0 then 0 else (if mnt = 0 then 1 else (if (mnn + 1) = mnt then 1 else 0))) → W p l e (rl 1) s m args below meth c H locs 0 0 Q (F0 m 171 ls [.int v8]) := by
          intro v8 ev8
          have hr : (if q1 = 59 then (if v8 = 0 then (0, mns, mnn, mnt, mfi, mnw, mna) else (if 4 ≤ (mns + 1) then (0, mns, mnn, mnt, mfi, mnw, mna) else ((fun (z193_12 : Int32 × Int32 × Int32 × (Nat → Int32)) => (1, mns + 1, 0, z193_12.1, z193_12.2.1, z193_12.2.2.1, z193_12.2.2.2)) (f_X7_endNumber mns mnn mnw mna)))) else (0, mns, mnn, mnt, mfi, mnw, mna)) = r := by subst ev8; exact hr
          refine lv_istore_n (lv' := [(3, .int v8), (2, .int v3), (0, .ref am), (1, .int q1)]) hx hb dX7_takes_171 rfl hl (by decide) rfl (fun ls hl => ?_)
          refine lv_iload_n hx hb dX7_takes_172 rfl (lv_at hl 3 rfl) ?_
          refine lv_bipush (v := 59) hx hb dX7_takes_173 (by decide) ?_
          refine lv_icmp_ne (tgt := 221) hx hb dX7_takes_175 (by decide) (fun c175_9 => ?_) (fun c175_9 => ?_)
          · have hr := (if_neg c175_9).symm.trans hr
            refine lv_iconst (v := 0) hx hb dX7_takes_221 (by decide) ?_
            subst hr hQ
            exact fr_iret (W0 := []) C hret hlk w rfl rfl rfl dX7_takes_222
          · have hr := (if_pos c175_9).symm.trans hr
            refine lv_iload_n hx hb dX7_takes_178 rfl (lv_at hl 0 rfl) ?_
            refine lv_if_eq (tgt := 221) hx hb dX7_takes_179 (by decide) (fun c179_10 => ?_) (fun c179_10 => ?_)
            · have hr := (if_pos c179_10).symm.trans hr
              refine lv_iconst (v := 0) hx hb dX7_takes_221 (by decide) ?_
              subst hr hQ
              exact fr_iret (W0 := []) C hret hlk w rfl rfl rfl dX7_takes_222
            · have hr := (if_neg c179_10).symm.trans hr
              refine lv_aload_n hx hb dX7_takes_182 rfl (lv_at hl 2 rfl) ?_
              refine fr_get C w fg_X7_50 0 rfl rfl dX7_takes_183 ?_
              refine lv_iconst (v := 1) hx hb dX7_takes_186 (by decide) ?_
              refine lv_iadd hx hb dX7_takes_187 ?_
              refine lv_iconst (v := 4) hx hb dX7_takes_188 (by decide) ?_
              refine lv_icmp_ge (tgt := 221) hx hb dX7_takes_189 (by decide) (fun c189_11 => ?_) (fun c189_11 => ?_)
              · have hr := (if_pos c189_11).symm.trans hr
                refine lv_iconst (v := 0) hx hb dX7_takes_221 (by decide) ?_
                subst hr hQ
                exact fr_iret (W0 := []) C hret hlk w rfl rfl rfl dX7_takes_222
              · have hr := (if_neg c189_11).symm.trans hr
                refine lv_aload_n hx hb dX7_takes_192 rfl (lv_at hl 2 rfl) ?_
                obtain ⟨z193_12, hz193_12⟩ : ∃ y, (f_X7_endNumber mns mnn mnw mna) = y := ⟨_, rfl⟩
                have hcz193_12 := c_X7_endNumber l D cI cJ am ama amb amc amd ame amf amg amp amo mpl msc mtc msr mal mns mnn mnt mfi mnw mmy mbe mmf mbs mco mh mpg mam mwa mww mna mmb msh mpa mgo hpi.1 hpi.2.1
                rw [hz193_12] at hcz193_12
                have hr : (1, mns + 1, 0, z193_12.1, z193_12.2.1, z193_12.2.2.1, z193_12.2.2.2) = r := by subst hz193_12; exact hr
                refine fr_callVV (As := []) (rest := []) C w kf_X7_endNumber mw_8_23 (hcz193_12) ⟨Nat.le_of_ble_eq_true rfl, Nat.le_of_ble_eq_true rfl⟩ ⟨Nat.le_refl 0, Nat.le_refl 0⟩ [0, 1, 2, 3, 4, 5, 6, 7, 8, 9] rfl rfl rfl (ws' := [(am, .inr (7, [.int mpl, .ref ama, .int msc, .int mtc, .ref amb, .ref amc, .ref amd, .int msr, .int mal, .int mns, .int z193_12.1, .int mnt, .int z193_12.2.1, .int z193_12.2.2.1, .ref ame, .int mmy, .ref amf, .long mbe, .ref amg, .long mmf, .ref amp, .ref amo, .int mbs, .int mco, .long mh])), (ama, .inl (cI, 47, .inl mpg)), (amb, .inl (cI, 16, .inl mam)), (amc, .inl (cI, 4, .inl mwa)), (amd, .inl (cI, 4, .inl mww)), (ame, .inl (cI, 16, .inl z193_12.2.2.2)), (amf, .inl (cI, 4, .inl mmb)), (amg, .inl (cJ, 4, .inr (.inl msh))), (amp, .inl (cJ, 9, .inr (.inl mpa))), (amo, .inl (cJ, 3, .inr (.inl mgo)))]) rfl rfl rfl rfl hl.1 rfl (Nat.le_of_ble_eq_true rfl) dX7_takes_193 (fun H locs w => ?_)
                refine lv_aload_n hx hb dX7_takes_196 rfl (lv_at hl 2 rfl) ?_
                refine lv_aload_n hx hb dX7_takes_197 rfl (lv_at hl 2 rfl) ?_
                refine fr_get C w fg_X7_53 0 rfl rfl dX7_takes_198 ?_
                refine fr_put C w fp_X7_62 0 rfl rfl rfl rfl (ws' := [(am, .inr (7, [.int mpl, .ref ama, .int msc, .int mtc, .ref amb, .ref amc, .ref amd, .int msr, .int mal, .int mns, .int z193_12.1, .int z193_12.1, .int z193_12.2.1, .int z193_12.2.2.1, .ref ame, .int mmy, .ref amf, .long mbe, .ref amg, .long mmf, .ref amp, .ref amo, .int mbs, .int mco, .long mh])), (ama, .inl (cI, 47, .inl mpg)), (amb, .inl (cI, 16, .inl mam)), (amc, .inl (cI, 4, .inl mwa)), (amd, .inl (cI, 4, .inl mww)), (ame, .inl (cI, 16, .inl z193_12.2.2.2)), (amf, .inl (cI, 4, .inl mmb)), (amg, .inl (cJ, 4, .inr (.inl msh))), (amp, .inl (cJ, 9, .inr (.inl mpa))), (amo, .inl (cJ, 3, .inr (.inl mgo)))]) rfl dX7_takes_201 (fun H locs w => ?_)
                refine lv_aload_n hx hb dX7_takes_204 rfl (lv_at hl 2 rfl) ?_
                refine lv_iconst (v := 0) hx hb dX7_takes_205 (by decide) ?_
                refine fr_put C w fp_X7_53 0 rfl rfl rfl rfl (ws' := [(am, .inr (7, [.int mpl, .ref ama, .int msc, .int mtc, .ref amb, .ref amc, .ref amd, .int msr, .int mal, .int mns, .int 0, .int z193_12.1, .int z193_12.2.1, .int z193_12.2.2.1, .ref ame, .int mmy, .ref amf, .long mbe, .ref amg, .long mmf, .ref amp, .ref amo, .int mbs, .int mco, .long mh])), (ama, .inl (cI, 47, .inl mpg)), (amb, .inl (cI, 16, .inl mam)), (amc, .inl (cI, 4, .inl mwa)), (amd, .inl (cI, 4, .inl mww)), (ame, .inl (cI, 16, .inl z193_12.2.2.2)), (amf, .inl (cI, 4, .inl mmb)), (amg, .inl (cJ, 4, .inr (.inl msh))), (amp, .inl (cJ, 9, .inr (.inl mpa))), (amo, .inl (cJ, 3, .inr (.inl mgo)))]) rfl dX7_takes_206 (fun H locs w => ?_)
                refine lv_aload_n hx hb dX7_takes_209 rfl (lv_at hl 2 rfl) ?_
                refine lv_dup hx hb dX7_takes_210 rfl ?_
                refine fr_get C w fg_X7_50 0 rfl rfl dX7_takes_211 ?_
                refine lv_iconst (v := 1) hx hb dX7_takes_214 (by decide) ?_
                refine lv_iadd hx hb dX7_takes_215 ?_
                refine fr_put C w fp_X7_50 0 rfl rfl rfl rfl (ws' := [(am, .inr (7, [.int mpl, .ref ama, .int msc, .int mtc, .ref amb, .ref amc, .ref amd, .int msr, .int mal, .int (mns + 1), .int 0, .int z193_12.1, .int z193_12.2.1, .int z193_12.2.2.1, .ref ame, .int mmy, .ref amf, .long mbe, .ref amg, .long mmf, .ref amp, .ref amo, .int mbs, .int mco, .long mh])), (ama, .inl (cI, 47, .inl mpg)), (amb, .inl (cI, 16, .inl mam)), (amc, .inl (cI, 4, .inl mwa)), (amd, .inl (cI, 4, .inl mww)), (ame, .inl (cI, 16, .inl z193_12.2.2.2)), (amf, .inl (cI, 4, .inl mmb)), (amg, .inl (cJ, 4, .inr (.inl msh))), (amp, .inl (cJ, 9, .inr (.inl mpa))), (amo, .inl (cJ, 3, .inr (.inl mgo)))]) rfl dX7_takes_216 (fun H locs w => ?_)
                refine lv_iconst (v := 1) hx hb dX7_takes_219 (by decide) ?_
                subst hr hQ
                exact fr_iret (W0 := []) C hret hlk w rfl rfl rfl dX7_takes_220
        refine lv_if_le (tgt := 170) hx hb dX7_takes_143 (by decide) (fun c143_5 => ?_) (fun c143_5 => ?_)
        · refine lv_iconst (v := 0) hx hb dX7_takes_170 (by decide) ?_
          exact J171_13 0 (by rw [if_pos c143_5])
        · refine lv_aload_n hx hb dX7_takes_146 rfl (lv_at hl 1 rfl) ?_
          refine fr_get C w fg_X7_62 0 rfl rfl dX7_takes_147 ?_
          refine lv_if_eq (tgt := 166) hx hb dX7_takes_150 (by decide) (fun c150_6 => ?_) (fun c150_6 => ?_)
          · refine lv_iconst (v := 1) hx hb dX7_takes_166 (by decide) ?_
            refine lv_goto (tgt := 171) hx hb dX7_takes_167 (by decide) ?_
            exact J171_13 1 (by rw [if_neg c143_5, if_pos c150_6])
          · refine lv_aload_n hx hb dX7_takes_153 rfl (lv_at hl 1 rfl) ?_
            refine fr_get C w fg_X7_53 0 rfl rfl dX7_takes_154 ?_
            refine lv_iconst (v := 1) hx hb dX7_takes_157 (by decide) ?_
            refine lv_iadd hx hb dX7_takes_158 ?_
            refine lv_aload_n hx hb dX7_takes_159 rfl (lv_at hl 1 rfl) ?_
            refine fr_get C w fg_X7_62 0 rfl rfl dX7_takes_160 ?_
            refine lv_icmp_ne (tgt := 170) hx hb dX7_takes_163 (by decide) (fun c163_7 => ?_) (fun c163_7 => ?_)
            · refine lv_iconst (v := 0) hx hb dX7_takes_170 (by decide) ?_
              exact J171_13 0 (by rw [if_neg c143_5, if_neg c150_6, if_neg c163_7])
            · refine lv_iconst (v := 1) hx hb dX7_takes_166 (by decide) ?_
              refine lv_goto (tgt := 171) hx hb dX7_takes_167 (by decide) ?_
              exact J171_13 1 (by rw [if_neg c143_5, if_neg c150_6, if_pos c163_7])
      · have hr := (if_pos c113_4).symm.trans hr
        refine lv_aload_n hx hb dX7_takes_116 rfl (lv_at hl 1 rfl) ?_
        refine fr_get C w fg_X7_59 0 rfl rfl dX7_takes_117 ?_
        refine lv_if_le (tgt := 139) hx hb dX7_takes_120 (by decide) (fun c120_14 => ?_) (fun c120_14 => ?_)
        · have hr := (if_pos c120_14).symm.trans hr
          refine lv_aload_n hx hb dX7_takes_139 rfl (lv_at hl 1 rfl) ?_
          refine fr_get C w fg_X7_59 0 rfl rfl dX7_takes_140 ?_
          have J171_23 : ∀ (v18 : Int32), v18 = (if mfi ≤ 0 then 0 else (if mnt = 0 then 1 else (if (mnn + 1) = mnt then 1 else 0))) → W p l e (rl 1) s m args below meth c H locs 0 0 Q (F0 m 171 ls [.int v18]) := by
            intro v18 ev18
            have hr : (if q1 = 59 then (if v18 = 0 then (0, mns, mnn, mnt, mfi, mnw, mna) else (if 4 ≤ (mns + 1) then (0, mns, mnn, mnt, mfi, mnw, mna) else ((fun (z193_22 : Int32 × Int32 × Int32 × (Nat → Int32)) => (1, mns + 1, 0, z193_22.1, z193_22.2.1, z193_22.2.2.1, z193_22.2.2.2)) (f_X7_endNumber mns mnn mnw mna)))) else (0, mns, mnn, mnt, mfi, mnw, mna)) = r := by subst ev18; exact hr
            refine lv_istore_n (lv' := [(3, .int v18), (2, .int v3), (0, .ref am), (1, .int q1)]) hx hb dX7_takes_171 rfl hl (by decide) rfl (fun ls hl => ?_)
            refine lv_iload_n hx hb dX7_takes_172 rfl (lv_at hl 3 rfl) ?_
            refine lv_bipush (v := 59) hx hb dX7_takes_173 (by decide) ?_
            refine lv_icmp_ne (tgt := 221) hx hb dX7_takes_175 (by decide) (fun c175_19 => ?_) (fun c175_19 => ?_)
            · have hr := (if_neg c175_19).symm.trans hr
              refine lv_iconst (v := 0) hx hb dX7_takes_221 (by decide) ?_
              subst hr hQ
              exact fr_iret (W0 := []) C hret hlk w rfl rfl rfl dX7_takes_222
            · have hr := (if_pos c175_19).symm.trans hr
              refine lv_iload_n hx hb dX7_takes_178 rfl (lv_at hl 0 rfl) ?_
              refine lv_if_eq (tgt := 221) hx hb dX7_takes_179 (by decide) (fun c179_20 => ?_) (fun c179_20 => ?_)
              · have hr := (if_pos c179_20).symm.trans hr
                refine lv_iconst (v := 0) hx hb dX7_takes_221 (by decide) ?_
                subst hr hQ
                exact fr_iret (W0 := []) C hret hlk w rfl rfl rfl dX7_takes_222
              · have hr := (if_neg c179_20).symm.trans hr
                refine lv_aload_n hx hb dX7_takes_182 rfl (lv_at hl 2 rfl) ?_
                refine fr_get C w fg_X7_50 0 rfl rfl dX7_takes_183 ?_
                refine lv_iconst (v := 1) hx hb dX7_takes_186 (by decide) ?_
                refine lv_iadd hx hb dX7_takes_187 ?_
                refine lv_iconst (v := 4) hx hb dX7_takes_188 (by decide) ?_
                refine lv_icmp_ge (tgt := 221) hx hb dX7_takes_189 (by decide) (fun c189_21 => ?_) (fun c189_21 => ?_)
                · have hr := (if_pos c189_21).symm.trans hr
                  refine lv_iconst (v := 0) hx hb dX7_takes_221 (by decide) ?_
                  subst hr hQ
                  exact fr_iret (W0 := []) C hret hlk w rfl rfl rfl dX7_takes_222
                · have hr := (if_neg c189_21).symm.trans hr
                  refine lv_aload_n hx hb dX7_takes_192 rfl (lv_at hl 2 rfl) ?_
                  obtain ⟨z193_22, hz193_22⟩ : ∃ y, (f_X7_endNumber mns mnn mnw mna) = y := ⟨_, rfl⟩
                  have hcz193_22 := c_X7_endNumber l D cI cJ am ama amb amc amd ame amf amg amp amo mpl msc mtc msr mal mns mnn mnt mfi mnw mmy mbe mmf mbs mco mh mpg mam mwa mww mna mmb msh mpa mgo hpi.1 hpi.2.1
                  rw [hz193_22] at hcz193_22
                  have hr : (1, mns + 1, 0, z193_22.1, z193_22.2.1, z193_22.2.2.1, z193_22.2.2.2) = r := by subst hz193_22; exact hr
                  refine fr_callVV (As := []) (rest := []) C w kf_X7_endNumber mw_8_23 (hcz193_22) ⟨Nat.le_of_ble_eq_true rfl, Nat.le_of_ble_eq_true rfl⟩ ⟨Nat.le_refl 0, Nat.le_refl 0⟩ [0, 1, 2, 3, 4, 5, 6, 7, 8, 9] rfl rfl rfl (ws' := [(am, .inr (7, [.int mpl, .ref ama, .int msc, .int mtc, .ref amb, .ref amc, .ref amd, .int msr, .int mal, .int mns, .int z193_22.1, .int mnt, .int z193_22.2.1, .int z193_22.2.2.1, .ref ame, .int mmy, .ref amf, .long mbe, .ref amg, .long mmf, .ref amp, .ref amo, .int mbs, .int mco, .long mh])), (ama, .inl (cI, 47, .inl mpg)), (amb, .inl (cI, 16, .inl mam)), (amc, .inl (cI, 4, .inl mwa)), (amd, .inl (cI, 4, .inl mww)), (ame, .inl (cI, 16, .inl z193_22.2.2.2)), (amf, .inl (cI, 4, .inl mmb)), (amg, .inl (cJ, 4, .inr (.inl msh))), (amp, .inl (cJ, 9, .inr (.inl mpa))), (amo, .inl (cJ, 3, .inr (.inl mgo)))]) rfl rfl rfl rfl hl.1 rfl (Nat.le_of_ble_eq_true rfl) dX7_takes_193 (fun H locs w => ?_)
                  refine lv_aload_n hx hb dX7_takes_196 rfl (lv_at hl 2 rfl) ?_
                  refine lv_aload_n hx hb dX7_takes_197 rfl (lv_at hl 2 rfl) ?_
                  refine fr_get C w fg_X7_53 0 rfl rfl dX7_takes_198 ?_
                  refine fr_put C w fp_X7_62 0 rfl rfl rfl rfl (ws' := [(am, .inr (7, [.int mpl, .ref ama, .int msc, .int mtc, .ref amb, .ref amc, .ref amd, .int msr, .int mal, .int mns, .int z193_22.1, .int z193_22.1, .int z193_22.2.1, .int z193_22.2.2.1, .ref ame, .int mmy, .ref amf, .long mbe, .ref amg, .long mmf, .ref amp, .ref amo, .int mbs, .int mco, .long mh])), (ama, .inl (cI, 47, .inl mpg)), (amb, .inl (cI, 16, .inl mam)), (amc, .inl (cI, 4, .inl mwa)), (amd, .inl (cI, 4, .inl mww)), (ame, .inl (cI, 16, .inl z193_22.2.2.2)), (amf, .inl (cI, 4, .inl mmb)), (amg, .inl (cJ, 4, .inr (.inl msh))), (amp, .inl (cJ, 9, .inr (.inl mpa))), (amo, .inl (cJ, 3, .inr (.inl mgo)))]) rfl dX7_takes_201 (fun H locs w => ?_)
                  refine lv_aload_n hx hb dX7_takes_204 rfl (lv_at hl 2 rfl) ?_
                  refine lv_iconst (v := 0) hx hb dX7_takes_205 (by decide) ?_
                  refine fr_put C w fp_X7_53 0 rfl rfl rfl rfl (ws' := [(am, .inr (7, [.int mpl, .ref ama, .int msc, .int mtc, .ref amb, .ref amc, .ref amd, .int msr, .int mal, .int mns, .int 0, .int z193_22.1, .int z193_22.2.1, .int z193_22.2.2.1, .ref ame, .int mmy, .ref amf, .long mbe, .ref amg, .long mmf, .ref amp, .ref amo, .int mbs, .int mco, .long mh])), (ama, .inl (cI, 47, .inl mpg)), (amb, .inl (cI, 16, .inl mam)), (amc, .inl (cI, 4, .inl mwa)), (amd, .inl (cI, 4, .inl mww)), (ame, .inl (cI, 16, .inl z193_22.2.2.2)), (amf, .inl (cI, 4, .inl mmb)), (amg, .inl (cJ, 4, .inr (.inl msh))), (amp, .inl (cJ, 9, .inr (.inl mpa))), (amo, .inl (cJ, 3, .inr (.inl mgo)))]) rfl dX7_takes_206 (fun H locs w => ?_)
                  refine lv_aload_n hx hb dX7_takes_209 rfl (lv_at hl 2 rfl) ?_
                  refine lv_dup hx hb dX7_takes_210 rfl ?_
                  refine fr_get C w fg_X7_50 0 rfl rfl dX7_takes_211 ?_
                  refine lv_iconst (v := 1) hx hb dX7_takes_214 (by decide) ?_
                  refine lv_iadd hx hb dX7_takes_215 ?_
                  refine fr_put C w fp_X7_50 0 rfl rfl rfl rfl (ws' := [(am, .inr (7, [.int mpl, .ref ama, .int msc, .int mtc, .ref amb, .ref amc, .ref amd, .int msr, .int mal, .int (mns + 1), .int 0, .int z193_22.1, .int z193_22.2.1, .int z193_22.2.2.1, .ref ame, .int mmy, .ref amf, .long mbe, .ref amg, .long mmf, .ref amp, .ref amo, .int mbs, .int mco, .long mh])), (ama, .inl (cI, 47, .inl mpg)), (amb, .inl (cI, 16, .inl mam)), (amc, .inl (cI, 4, .inl mwa)), (amd, .inl (cI, 4, .inl mww)), (ame, .inl (cI, 16, .inl z193_22.2.2.2)), (amf, .inl (cI, 4, .inl mmb)), (amg, .inl (cJ, 4, .inr (.inl msh))), (amp, .inl (cJ, 9, .inr (.inl mpa))), (amo, .inl (cJ, 3, .inr (.inl mgo)))]) rfl dX7_takes_216 (fun H locs w => ?_)
                  refine lv_iconst (v := 1) hx hb dX7_takes_219 (by decide) ?_
                  subst hr hQ
                  exact fr_iret (W0 := []) C hret hlk w rfl rfl rfl dX7_takes_220
          refine lv_if_le (tgt := 170) hx hb dX7_takes_143 (by decide) (fun c143_15 => ?_) (fun c143_15 => ?_)
          · refine lv_iconst (v := 0) hx hb dX7_takes_170 (by decide) ?_
            exact J171_23 0 (by rw [if_pos c143_15])
          · refine lv_aload_n hx hb dX7_takes_146 rfl (lv_at hl 1 rfl) ?_
            refine fr_get C w fg_X7_62 0 rfl rfl dX7_takes_147 ?_
            refine lv_if_eq (tgt := 166) hx hb dX7_takes_150 (by decide) (fun c150_16 => ?_) (fun c150_16 => ?_)
            · refine lv_iconst (v := 1) hx hb dX7_takes_166 (by decide) ?_
              refine lv_goto (tgt := 171) hx hb dX7_takes_167 (by decide) ?_
              exact J171_23 1 (by rw [if_neg c143_15, if_pos c150_16])
            · refine lv_aload_n hx hb dX7_takes_153 rfl (lv_at hl 1 rfl) ?_
              refine fr_get C w fg_X7_53 0 rfl rfl dX7_takes_154 ?_
              refine lv_iconst (v := 1) hx hb dX7_takes_157 (by decide) ?_
              refine lv_iadd hx hb dX7_takes_158 ?_
              refine lv_aload_n hx hb dX7_takes_159 rfl (lv_at hl 1 rfl) ?_
              refine fr_get C w fg_X7_62 0 rfl rfl dX7_takes_160 ?_
              refine lv_icmp_ne (tgt := 170) hx hb dX7_takes_163 (by decide) (fun c163_17 => ?_) (fun c163_17 => ?_)
              · refine lv_iconst (v := 0) hx hb dX7_takes_170 (by decide) ?_
                exact J171_23 0 (by rw [if_neg c143_15, if_neg c150_16, if_neg c163_17])
              · refine lv_iconst (v := 1) hx hb dX7_takes_166 (by decide) ?_
                refine lv_goto (tgt := 171) hx hb dX7_takes_167 (by decide) ?_
                exact J171_23 1 (by rw [if_neg c143_15, if_neg c150_16, if_pos c163_17])
        · have hr := (if_neg c120_14).symm.trans hr
          refine lv_aload_n hx hb dX7_takes_123 rfl (lv_at hl 1 rfl) ?_
          refine fr_get C w fg_X7_53 0 rfl rfl dX7_takes_124 ?_
          refine lv_iconst (v := 1) hx hb dX7_takes_127 (by decide) ?_
          refine lv_iadd hx hb dX7_takes_128 ?_
          refine lv_iload_n hx hb dX7_takes_129 rfl (lv_at hl 0 rfl) ?_
          refine lv_icmp_ge (tgt := 139) hx hb dX7_takes_130 (by decide) (fun c130_24 => ?_) (fun c130_24 => ?_)
          · have hr := (if_pos c130_24).symm.trans hr
            refine lv_aload_n hx hb dX7_takes_139 rfl (lv_at hl 1 rfl) ?_
            refine fr_get C w fg_X7_59 0 rfl rfl dX7_takes_140 ?_
            have J171_33 : ∀ (v28 : Int32), v28 = (if mfi ≤ 0 then 0 else (if mnt = 0 then 1 else (if (mnn + 1) = mnt then 1 else 0))) → W p l e (rl 1) s m args below meth c H locs 0 0 Q (F0 m 171 ls [.int v28]) := by
              intro v28 ev28
              have hr : (if q1 = 59 then (if v28 = 0 then (0, mns, mnn, mnt, mfi, mnw, mna) else (if 4 ≤ (mns + 1) then (0, mns, mnn, mnt, mfi, mnw, mna) else ((fun (z193_32 : Int32 × Int32 × Int32 × (Nat → Int32)) => (1, mns + 1, 0, z193_32.1, z193_32.2.1, z193_32.2.2.1, z193_32.2.2.2)) (f_X7_endNumber mns mnn mnw mna)))) else (0, mns, mnn, mnt, mfi, mnw, mna)) = r := by subst ev28; exact hr
              refine lv_istore_n (lv' := [(3, .int v28), (2, .int v3), (0, .ref am), (1, .int q1)]) hx hb dX7_takes_171 rfl hl (by decide) rfl (fun ls hl => ?_)
              refine lv_iload_n hx hb dX7_takes_172 rfl (lv_at hl 3 rfl) ?_
              refine lv_bipush (v := 59) hx hb dX7_takes_173 (by decide) ?_
              refine lv_icmp_ne (tgt := 221) hx hb dX7_takes_175 (by decide) (fun c175_29 => ?_) (fun c175_29 => ?_)
              · have hr := (if_neg c175_29).symm.trans hr
                refine lv_iconst (v := 0) hx hb dX7_takes_221 (by decide) ?_
                subst hr hQ
                exact fr_iret (W0 := []) C hret hlk w rfl rfl rfl dX7_takes_222
              · have hr := (if_pos c175_29).symm.trans hr
                refine lv_iload_n hx hb dX7_takes_178 rfl (lv_at hl 0 rfl) ?_
                refine lv_if_eq (tgt := 221) hx hb dX7_takes_179 (by decide) (fun c179_30 => ?_) (fun c179_30 => ?_)
                · have hr := (if_pos c179_30).symm.trans hr
                  refine lv_iconst (v := 0) hx hb dX7_takes_221 (by decide) ?_
                  subst hr hQ
                  exact fr_iret (W0 := []) C hret hlk w rfl rfl rfl dX7_takes_222
                · have hr := (if_neg c179_30).symm.trans hr
                  refine lv_aload_n hx hb dX7_takes_182 rfl (lv_at hl 2 rfl) ?_
                  refine fr_get C w fg_X7_50 0 rfl rfl dX7_takes_183 ?_
                  refine lv_iconst (v := 1) hx hb dX7_takes_186 (by decide) ?_
                  refine lv_iadd hx hb dX7_takes_187 ?_
                  refine lv_iconst (v := 4) hx hb dX7_takes_188 (by decide) ?_
                  refine lv_icmp_ge (tgt := 221) hx hb dX7_takes_189 (by decide) (fun c189_31 => ?_) (fun c189_31 => ?_)
                  · have hr := (if_pos c189_31).symm.trans hr
                    refine lv_iconst (v := 0) hx hb dX7_takes_221 (by decide) ?_
                    subst hr hQ
                    exact fr_iret (W0 := []) C hret hlk w rfl rfl rfl dX7_takes_222
                  · have hr := (if_neg c189_31).symm.trans hr
                    refine lv_aload_n hx hb dX7_takes_192 rfl (lv_at hl 2 rfl) ?_
                    obtain ⟨z193_32, hz193_32⟩ : ∃ y, (f_X7_endNumber mns mnn mnw mna) = y := ⟨_, rfl⟩
                    have hcz193_32 := c_X7_endNumber l D cI cJ am ama amb amc amd ame amf amg amp amo mpl msc mtc msr mal mns mnn mnt mfi mnw mmy mbe mmf mbs mco mh mpg mam mwa mww mna mmb msh mpa mgo hpi.1 hpi.2.1
                    rw [hz193_32] at hcz193_32
                    have hr : (1, mns + 1, 0, z193_32.1, z193_32.2.1, z193_32.2.2.1, z193_32.2.2.2) = r := by subst hz193_32; exact hr
                    refine fr_callVV (As := []) (rest := []) C w kf_X7_endNumber mw_8_23 (hcz193_32) ⟨Nat.le_of_ble_eq_true rfl, Nat.le_of_ble_eq_true rfl⟩ ⟨Nat.le_refl 0, Nat.le_refl 0⟩ [0, 1, 2, 3, 4, 5, 6, 7, 8, 9] rfl rfl rfl (ws' := [(am, .inr (7, [.int mpl, .ref ama, .int msc, .int mtc, .ref amb, .ref amc, .ref amd, .int msr, .int mal, .int mns, .int z193_32.1, .int mnt, .int z193_32.2.1, .int z193_32.2.2.1, .ref ame, .int mmy, .ref amf, .long mbe, .ref amg, .long mmf, .ref amp, .ref amo, .int mbs, .int mco, .long mh])), (ama, .inl (cI, 47, .inl mpg)), (amb, .inl (cI, 16, .inl mam)), (amc, .inl (cI, 4, .inl mwa)), (amd, .inl (cI, 4, .inl mww)), (ame, .inl (cI, 16, .inl z193_32.2.2.2)), (amf, .inl (cI, 4, .inl mmb)), (amg, .inl (cJ, 4, .inr (.inl msh))), (amp, .inl (cJ, 9, .inr (.inl mpa))), (amo, .inl (cJ, 3, .inr (.inl mgo)))]) rfl rfl rfl rfl hl.1 rfl (Nat.le_of_ble_eq_true rfl) dX7_takes_193 (fun H locs w => ?_)
                    refine lv_aload_n hx hb dX7_takes_196 rfl (lv_at hl 2 rfl) ?_
                    refine lv_aload_n hx hb dX7_takes_197 rfl (lv_at hl 2 rfl) ?_
                    refine fr_get C w fg_X7_53 0 rfl rfl dX7_takes_198 ?_
                    refine fr_put C w fp_X7_62 0 rfl rfl rfl rfl (ws' := [(am, .inr (7, [.int mpl, .ref ama, .int msc, .int mtc, .ref amb, .ref amc, .ref amd, .int msr, .int mal, .int mns, .int z193_32.1, .int z193_32.1, .int z193_32.2.1, .int z193_32.2.2.1, .ref ame, .int mmy, .ref amf, .long mbe, .ref amg, .long mmf, .ref amp, .ref amo, .int mbs, .int mco, .long mh])), (ama, .inl (cI, 47, .inl mpg)), (amb, .inl (cI, 16, .inl mam)), (amc, .inl (cI, 4, .inl mwa)), (amd, .inl (cI, 4, .inl mww)), (ame, .inl (cI, 16, .inl z193_32.2.2.2)), (amf, .inl (cI, 4, .inl mmb)), (amg, .inl (cJ, 4, .inr (.inl msh))), (amp, .inl (cJ, 9, .inr (.inl mpa))), (amo, .inl (cJ, 3, .inr (.inl mgo)))]) rfl dX7_takes_201 (fun H locs w => ?_)
                    refine lv_aload_n hx hb dX7_takes_204 rfl (lv_at hl 2 rfl) ?_
                    refine lv_iconst (v := 0) hx hb dX7_takes_205 (by decide) ?_
                    refine fr_put C w fp_X7_53 0 rfl rfl rfl rfl (ws' := [(am, .inr (7, [.int mpl, .ref ama, .int msc, .int mtc, .ref amb, .ref amc, .ref amd, .int msr, .int mal, .int mns, .int 0, .int z193_32.1, .int z193_32.2.1, .int z193_32.2.2.1, .ref ame, .int mmy, .ref amf, .long mbe, .ref amg, .long mmf, .ref amp, .ref amo, .int mbs, .int mco, .long mh])), (ama, .inl (cI, 47, .inl mpg)), (amb, .inl (cI, 16, .inl mam)), (amc, .inl (cI, 4, .inl mwa)), (amd, .inl (cI, 4, .inl mww)), (ame, .inl (cI, 16, .inl z193_32.2.2.2)), (amf, .inl (cI, 4, .inl mmb)), (amg, .inl (cJ, 4, .inr (.inl msh))), (amp, .inl (cJ, 9, .inr (.inl mpa))), (amo, .inl (cJ, 3, .inr (.inl mgo)))]) rfl dX7_takes_206 (fun H locs w => ?_)
                    refine lv_aload_n hx hb dX7_takes_209 rfl (lv_at hl 2 rfl) ?_
                    refine lv_dup hx hb dX7_takes_210 rfl ?_
                    refine fr_get C w fg_X7_50 0 rfl rfl dX7_takes_211 ?_
                    refine lv_iconst (v := 1) hx hb dX7_takes_214 (by decide) ?_
                    refine lv_iadd hx hb dX7_takes_215 ?_
                    refine fr_put C w fp_X7_50 0 rfl rfl rfl rfl (ws' := [(am, .inr (7, [.int mpl, .ref ama, .int msc, .int mtc, .ref amb, .ref amc, .ref amd, .int msr, .int mal, .int (mns + 1), .int 0, .int z193_32.1, .int z193_32.2.1, .int z193_32.2.2.1, .ref ame, .int mmy, .ref amf, .long mbe, .ref amg, .long mmf, .ref amp, .ref amo, .int mbs, .int mco, .long mh])), (ama, .inl (cI, 47, .inl mpg)), (amb, .inl (cI, 16, .inl mam)), (amc, .inl (cI, 4, .inl mwa)), (amd, .inl (cI, 4, .inl mww)), (ame, .inl (cI, 16, .inl z193_32.2.2.2)), (amf, .inl (cI, 4, .inl mmb)), (amg, .inl (cJ, 4, .inr (.inl msh))), (amp, .inl (cJ, 9, .inr (.inl mpa))), (amo, .inl (cJ, 3, .inr (.inl mgo)))]) rfl dX7_takes_216 (fun H locs w => ?_)
                    refine lv_iconst (v := 1) hx hb dX7_takes_219 (by decide) ?_
                    subst hr hQ
                    exact fr_iret (W0 := []) C hret hlk w rfl rfl rfl dX7_takes_220
            refine lv_if_le (tgt := 170) hx hb dX7_takes_143 (by decide) (fun c143_25 => ?_) (fun c143_25 => ?_)
            · refine lv_iconst (v := 0) hx hb dX7_takes_170 (by decide) ?_
              exact J171_33 0 (by rw [if_pos c143_25])
            · refine lv_aload_n hx hb dX7_takes_146 rfl (lv_at hl 1 rfl) ?_
              refine fr_get C w fg_X7_62 0 rfl rfl dX7_takes_147 ?_
              refine lv_if_eq (tgt := 166) hx hb dX7_takes_150 (by decide) (fun c150_26 => ?_) (fun c150_26 => ?_)
              · refine lv_iconst (v := 1) hx hb dX7_takes_166 (by decide) ?_
                refine lv_goto (tgt := 171) hx hb dX7_takes_167 (by decide) ?_
                exact J171_33 1 (by rw [if_neg c143_25, if_pos c150_26])
              · refine lv_aload_n hx hb dX7_takes_153 rfl (lv_at hl 1 rfl) ?_
                refine fr_get C w fg_X7_53 0 rfl rfl dX7_takes_154 ?_
                refine lv_iconst (v := 1) hx hb dX7_takes_157 (by decide) ?_
                refine lv_iadd hx hb dX7_takes_158 ?_
                refine lv_aload_n hx hb dX7_takes_159 rfl (lv_at hl 1 rfl) ?_
                refine fr_get C w fg_X7_62 0 rfl rfl dX7_takes_160 ?_
                refine lv_icmp_ne (tgt := 170) hx hb dX7_takes_163 (by decide) (fun c163_27 => ?_) (fun c163_27 => ?_)
                · refine lv_iconst (v := 0) hx hb dX7_takes_170 (by decide) ?_
                  exact J171_33 0 (by rw [if_neg c143_25, if_neg c150_26, if_neg c163_27])
                · refine lv_iconst (v := 1) hx hb dX7_takes_166 (by decide) ?_
                  refine lv_goto (tgt := 171) hx hb dX7_takes_167 (by decide) ?_
                  exact J171_33 1 (by rw [if_neg c143_25, if_neg c150_26, if_pos c163_27])
          · have hr := (if_neg c130_24).symm.trans hr
            refine lv_aload_n hx hb dX7_takes_133 rfl (lv_at hl 1 rfl) ?_
            obtain ⟨z134_34, hz134_34⟩ : ∃ y, (f_X7_endNumber mns mnn mnw mna) = y := ⟨_, rfl⟩
            have hcz134_34 := c_X7_endNumber l D cI cJ am ama amb amc amd ame amf amg amp amo mpl msc mtc msr mal mns mnn mnt mfi mnw mmy mbe mmf mbs mco mh mpg mam mwa mww mna mmb msh mpa mgo hpi.1 hpi.2.1
            rw [hz134_34] at hcz134_34
            have hr : (1, mns, z134_34.1, mnt, z134_34.2.1, z134_34.2.2.1, z134_34.2.2.2) = r := by subst hz134_34; exact hr
            refine fr_callVV (As := []) (rest := []) C w kf_X7_endNumber mw_8_23 (hcz134_34) ⟨Nat.le_of_ble_eq_true rfl, Nat.le_of_ble_eq_true rfl⟩ ⟨Nat.le_refl 0, Nat.le_refl 0⟩ [0, 1, 2, 3, 4, 5, 6, 7, 8, 9] rfl rfl rfl (ws' := [(am, .inr (7, [.int mpl, .ref ama, .int msc, .int mtc, .ref amb, .ref amc, .ref amd, .int msr, .int mal, .int mns, .int z134_34.1, .int mnt, .int z134_34.2.1, .int z134_34.2.2.1, .ref ame, .int mmy, .ref amf, .long mbe, .ref amg, .long mmf, .ref amp, .ref amo, .int mbs, .int mco, .long mh])), (ama, .inl (cI, 47, .inl mpg)), (amb, .inl (cI, 16, .inl mam)), (amc, .inl (cI, 4, .inl mwa)), (amd, .inl (cI, 4, .inl mww)), (ame, .inl (cI, 16, .inl z134_34.2.2.2)), (amf, .inl (cI, 4, .inl mmb)), (amg, .inl (cJ, 4, .inr (.inl msh))), (amp, .inl (cJ, 9, .inr (.inl mpa))), (amo, .inl (cJ, 3, .inr (.inl mgo)))]) rfl rfl rfl rfl hl.1 rfl (Nat.le_of_ble_eq_true rfl) dX7_takes_134 (fun H locs w => ?_)
            refine lv_iconst (v := 1) hx hb dX7_takes_137 (by decide) ?_
            subst hr hQ
            exact fr_iret (W0 := []) C hret hlk w rfl rfl rfl dX7_takes_138
    refine lv_if_ne (tgt := 105) hx hb dX7_takes_98 (by decide) (fun c98_2 => ?_) (fun c98_2 => ?_)
    · refine lv_aload_n hx hb dX7_takes_105 rfl (lv_at hl 0 rfl) ?_
      refine fr_get C w fg_X7_62 0 rfl rfl dX7_takes_106 ?_
      exact J109_35 mnt (by rw [if_neg c98_2])
    · refine lv_iconst (v := 4) hx hb dX7_takes_101 (by decide) ?_
      refine lv_goto (tgt := 109) hx hb dX7_takes_102 (by decide) ?_
      exact J109_35 4 (by rw [if_pos c98_2])
  · have hr := (if_neg c8_1).symm.trans hr
    refine lv_bipush (v := 10) hx hb dX7_takes_11 (by decide) ?_
    refine lv_aload_n hx hb dX7_takes_13 rfl (lv_at hl 0 rfl) ?_
    refine fr_get C w fg_X7_56 0 rfl rfl dX7_takes_14 ?_
    refine lv_imul hx hb dX7_takes_17 ?_
    refine lv_iload_n hx hb dX7_takes_18 rfl (lv_at hl 1 rfl) ?_
    refine lv_iadd hx hb dX7_takes_19 ?_
    refine lv_bipush (v := 48) hx hb dX7_takes_20 (by decide) ?_
    refine lv_isub hx hb dX7_takes_22 ?_
    refine lv_istore_n (lv' := [(2, .int (((10 * mnw) + q1) - 48)), (0, .ref am), (1, .int q1)]) hx hb dX7_takes_23 rfl hl (by decide) rfl (fun ls hl => ?_)
    refine lv_aload_n hx hb dX7_takes_24 rfl (lv_at hl 1 rfl) ?_
    refine fr_get C w fg_X7_59 0 rfl rfl dX7_takes_25 ?_
    have J57_47 : ∀ (v40 : Int32), v40 = (if mfi = 0 then 1 else (if mfi = 1 then (if mnw ≤ 0 then 0 else (if 20 < (((10 * mnw) + q1) - 48) then 0 else 1)) else 0)) → W p l e (rl 1) s m args below meth c H locs 0 0 Q (F0 m 57 ls [.int v40]) := by
      intro v40 ev40
      have hr : ((fun (v42 : Int32) => ((fun (v44 : Int32) => (v40, mns, mnn, mnt, mfi + v44, v42, mna)) (if v40 = 0 then 0 else 1))) (if v40 = 0 then mnw else ((10 * mnw) + q1) - 48)) = r := by subst ev40; exact hr
      refine lv_istore_n (lv' := [(3, .int v40), (2, .int (((10 * mnw) + q1) - 48)), (0, .ref am), (1, .int q1)]) hx hb dX7_takes_57 rfl hl (by decide) rfl (fun ls hl => ?_)
      refine lv_aload_n hx hb dX7_takes_58 rfl (lv_at hl 2 rfl) ?_
      refine lv_iload_n hx hb dX7_takes_59 rfl (lv_at hl 0 rfl) ?_
      have J71_46 : ∀ (v42 : Int32), v42 = (if v40 = 0 then mnw else ((10 * mnw) + q1) - 48) → W p l e (rl 1) s m args below meth c H locs 0 0 Q (F0 m 71 ls [.int v42, .ref am]) := by
        intro v42 ev42
        have hr : ((fun (v44 : Int32) => (v40, mns, mnn, mnt, mfi + v44, v42, mna)) (if v40 = 0 then 0 else 1)) = r := by subst ev42; exact hr
        refine fr_put C w fp_X7_56 0 rfl rfl rfl rfl (ws' := [(am, .inr (7, [.int mpl, .ref ama, .int msc, .int mtc, .ref amb, .ref amc, .ref amd, .int msr, .int mal, .int mns, .int mnn, .int mnt, .int mfi, .int v42, .ref ame, .int mmy, .ref amf, .long mbe, .ref amg, .long mmf, .ref amp, .ref amo, .int mbs, .int mco, .long mh])), (ama, .inl (cI, 47, .inl mpg)), (amb, .inl (cI, 16, .inl mam)), (amc, .inl (cI, 4, .inl mwa)), (amd, .inl (cI, 4, .inl mww)), (ame, .inl (cI, 16, .inl mna)), (amf, .inl (cI, 4, .inl mmb)), (amg, .inl (cJ, 4, .inr (.inl msh))), (amp, .inl (cJ, 9, .inr (.inl mpa))), (amo, .inl (cJ, 3, .inr (.inl mgo)))]) rfl dX7_takes_71 (fun H locs w => ?_)
        refine lv_aload_n hx hb dX7_takes_74 rfl (lv_at hl 2 rfl) ?_
        refine lv_dup hx hb dX7_takes_75 rfl ?_
        refine fr_get C w fg_X7_59 0 rfl rfl dX7_takes_76 ?_
        refine lv_iload_n hx hb dX7_takes_79 rfl (lv_at hl 0 rfl) ?_
        have J88_45 : ∀ (v44 : Int32), v44 = (if v40 = 0 then 0 else 1) → W p l e (rl 1) s m args below meth c H locs 0 0 Q (F0 m 88 ls [.int v44, .int mfi, .ref am]) := by
          intro v44 ev44
          have hr : (v40, mns, mnn, mnt, mfi + v44, v42, mna) = r := by subst ev44; exact hr
          refine lv_iadd hx hb dX7_takes_88 ?_
          refine fr_put C w fp_X7_59 0 rfl rfl rfl rfl (ws' := [(am, .inr (7, [.int mpl, .ref ama, .int msc, .int mtc, .ref amb, .ref amc, .ref amd, .int msr, .int mal, .int mns, .int mnn, .int mnt, .int (mfi + v44), .int v42, .ref ame, .int mmy, .ref amf, .long mbe, .ref amg, .long mmf, .ref amp, .ref amo, .int mbs, .int mco, .long mh])), (ama, .inl (cI, 47, .inl mpg)), (amb, .inl (cI, 16, .inl mam)), (amc, .inl (cI, 4, .inl mwa)), (amd, .inl (cI, 4, .inl mww)), (ame, .inl (cI, 16, .inl mna)), (amf, .inl (cI, 4, .inl mmb)), (amg, .inl (cJ, 4, .inr (.inl msh))), (amp, .inl (cJ, 9, .inr (.inl mpa))), (amo, .inl (cJ, 3, .inr (.inl mgo)))]) rfl dX7_takes_89 (fun H locs w => ?_)
          refine lv_iload_n hx hb dX7_takes_92 rfl (lv_at hl 0 rfl) ?_
          subst hr hQ
          exact fr_iret (W0 := []) C hret hlk w (nb_of (by subst_vars; repeat (first | exact Or.inl rfl | exact Or.inr rfl | split))) rfl rfl dX7_takes_93
        refine lv_if_eq (tgt := 87) hx hb dX7_takes_80 (by decide) (fun c80_43 => ?_) (fun c80_43 => ?_)
        · refine lv_iconst (v := 0) hx hb dX7_takes_87 (by decide) ?_
          exact J88_45 0 (by rw [if_pos c80_43])
        · refine lv_iconst (v := 1) hx hb dX7_takes_83 (by decide) ?_
          refine lv_goto (tgt := 88) hx hb dX7_takes_84 (by decide) ?_
          exact J88_45 1 (by rw [if_neg c80_43])
      refine lv_if_eq (tgt := 67) hx hb dX7_takes_60 (by decide) (fun c60_41 => ?_) (fun c60_41 => ?_)
      · refine lv_aload_n hx hb dX7_takes_67 rfl (lv_at hl 2 rfl) ?_
        refine fr_get C w fg_X7_56 0 rfl rfl dX7_takes_68 ?_
        exact J71_46 mnw (by rw [if_pos c60_41])
      · refine lv_iload_n hx hb dX7_takes_63 rfl (lv_at hl 1 rfl) ?_
        refine lv_goto (tgt := 71) hx hb dX7_takes_64 (by decide) ?_
        exact J71_46 (((10 * mnw) + q1) - 48) (by rw [if_neg c60_41])
    refine lv_if_eq (tgt := 52) hx hb dX7_takes_28 (by decide) (fun c28_36 => ?_) (fun c28_36 => ?_)
    · refine lv_iconst (v := 1) hx hb dX7_takes_52 (by decide) ?_
      refine lv_goto (tgt := 57) hx hb dX7_takes_53 (by decide) ?_
      exact J57_47 1 (by rw [if_pos c28_36])
    · refine lv_aload_n hx hb dX7_takes_31 rfl (lv_at hl 1 rfl) ?_
      refine fr_get C w fg_X7_59 0 rfl rfl dX7_takes_32 ?_
      refine lv_iconst (v := 1) hx hb dX7_takes_35 (by decide) ?_
      refine lv_icmp_ne (tgt := 56) hx hb dX7_takes_36 (by decide) (fun c36_37 => ?_) (fun c36_37 => ?_)
      · refine lv_iconst (v := 0) hx hb dX7_takes_56 (by decide) ?_
        exact J57_47 0 (by rw [if_neg c28_36, if_neg c36_37])
      · refine lv_aload_n hx hb dX7_takes_39 rfl (lv_at hl 1 rfl) ?_
        refine fr_get C w fg_X7_56 0 rfl rfl dX7_takes_40 ?_
        refine lv_if_le (tgt := 56) hx hb dX7_takes_43 (by decide) (fun c43_38 => ?_) (fun c43_38 => ?_)
        · refine lv_iconst (v := 0) hx hb dX7_takes_56 (by decide) ?_
          exact J57_47 0 (by rw [if_neg c28_36, if_pos c36_37, if_pos c43_38])
        · refine lv_iload_n hx hb dX7_takes_46 rfl (lv_at hl 0 rfl) ?_
          refine lv_bipush (v := 20) hx hb dX7_takes_47 (by decide) ?_
          refine lv_icmp_gt (tgt := 56) hx hb dX7_takes_49 (by decide) (fun c49_39 => ?_) (fun c49_39 => ?_)
          · refine lv_iconst (v := 0) hx hb dX7_takes_56 (by decide) ?_
            exact J57_47 0 (by rw [if_neg c28_36, if_pos c36_37, if_neg c43_38, if_pos c49_39])
          · refine lv_iconst (v := 1) hx hb dX7_takes_52 (by decide) ?_
            refine lv_goto (tgt := 57) hx hb dX7_takes_53 (by decide) ?_
            exact J57_47 1 (by rw [if_neg c28_36, if_pos c36_37, if_neg c43_38, if_neg c49_39])
