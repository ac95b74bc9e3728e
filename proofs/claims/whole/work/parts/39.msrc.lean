theorem mw_14_7 : Cond.methodLink RX7 98 yX7_sumBy ∈ wsL_law := ck_14 _ (List.mem_of_getElem? (i := 7) rfl)
theorem mw_14_10 : Cond.code yX7_sumBy cX7_sumBy 6 (some .int) ∈ wsL_law := ck_14 _ (List.mem_of_getElem? (i := 10) rfl)
theorem mw_14_8 : Cond.instanceMethod yX7_sumBy ∈ wsL_law := ck_14 _ (List.mem_of_getElem? (i := 8) rfl)
theorem mw_14_9 : Cond.selects RX7 yX7_sumBy yX7_sumBy ∈ wsL_law := ck_14 _ (List.mem_of_getElem? (i := 9) rfl)
theorem mw_15_0 : Cond.constantLong RX7 102 (-1000001) ∈ wsL_law := ck_15 _ (List.mem_of_getElem? (i := 0) rfl)
theorem mw_14_20 : Cond.methodLink RX7 104 yX7_hasNow ∈ wsL_law := ck_14 _ (List.mem_of_getElem? (i := 20) rfl)
theorem mw_14_23 : Cond.code yX7_hasNow cX7_hasNow 3 (some .long) ∈ wsL_law := ck_14 _ (List.mem_of_getElem? (i := 23) rfl)
theorem mw_14_21 : Cond.instanceMethod yX7_hasNow ∈ wsL_law := ck_14 _ (List.mem_of_getElem? (i := 21) rfl)
theorem mw_14_22 : Cond.selects RX7 yX7_hasNow yX7_hasNow ∈ wsL_law := ck_14 _ (List.mem_of_getElem? (i := 22) rfl)
theorem mw_16_23 : Cond.methodLink RX7 108 yX7_hasBit ∈ wsL_law := ck_16 _ (List.mem_of_getElem? (i := 23) rfl)
theorem mw_17_1 : Cond.code yX7_hasBit cX7_hasBit 2 (some .boolean) ∈ wsL_law := ck_17 _ (List.mem_of_getElem? (i := 1) rfl)
theorem mw_17_0 : Cond.static yX7_hasBit ∈ wsL_law := ck_17 _ (List.mem_of_getElem? (i := 0) rfl)
theorem mw_16_19 : Cond.methodLink RX7 112 yX7_areAlike ∈ wsL_law := ck_16 _ (List.mem_of_getElem? (i := 19) rfl)
theorem mw_16_22 : Cond.code yX7_areAlike cX7_areAlike 6 (some .boolean) ∈ wsL_law := ck_16 _ (List.mem_of_getElem? (i := 22) rfl)
theorem mw_16_20 : Cond.instanceMethod yX7_areAlike ∈ wsL_law := ck_16 _ (List.mem_of_getElem? (i := 20) rfl)
theorem mw_16_21 : Cond.selects RX7 yX7_areAlike yX7_areAlike ∈ wsL_law := ck_16 _ (List.mem_of_getElem? (i := 21) rfl)
theorem mw_16_11 : Cond.methodLink RX7 115 yX7_isUsed ∈ wsL_law := ck_16 _ (List.mem_of_getElem? (i := 11) rfl)
theorem mw_16_14 : Cond.code yX7_isUsed cX7_isUsed 2 (some .boolean) ∈ wsL_law := ck_16 _ (List.mem_of_getElem? (i := 14) rfl)
theorem mw_16_12 : Cond.instanceMethod yX7_isUsed ∈ wsL_law := ck_16 _ (List.mem_of_getElem? (i := 12) rfl)
theorem mw_16_13 : Cond.selects RX7 yX7_isUsed yX7_isUsed ∈ wsL_law := ck_16 _ (List.mem_of_getElem? (i := 13) rfl)
theorem mw_16_15 : Cond.methodLink RX7 118 yX7_alikeOf ∈ wsL_law := ck_16 _ (List.mem_of_getElem? (i := 15) rfl)
theorem mw_16_18 : Cond.code yX7_alikeOf cX7_alikeOf 5 (some .int) ∈ wsL_law := ck_16 _ (List.mem_of_getElem? (i := 18) rfl)
theorem mw_16_16 : Cond.instanceMethod yX7_alikeOf ∈ wsL_law := ck_16 _ (List.mem_of_getElem? (i := 16) rfl)
theorem mw_16_17 : Cond.selects RX7 yX7_alikeOf yX7_alikeOf ∈ wsL_law := ck_16 _ (List.mem_of_getElem? (i := 17) rfl)
theorem kf_X7_sumBy : KV RX7 yX7_sumBy cX7_sumBy 6 (some .int) 2 := ⟨mw_14_10, mw_14_8, mw_14_9, mw_1_5, by decide, by decide, by decide +kernel⟩
theorem kf_X7_hasNow : KV RX7 yX7_hasNow cX7_hasNow 3 (some .long) 2 := ⟨mw_14_23, mw_14_21, mw_14_22, mw_1_5, by decide, by decide, by decide +kernel⟩
theorem kf_X7_hasBit : KS yX7_hasBit cX7_hasBit 2 (some .boolean) 2 := ⟨mw_17_1, mw_17_0, mw_1_5, by decide, by decide, by decide +kernel⟩
theorem kf_X7_areAlike : KV RX7 yX7_areAlike cX7_areAlike 6 (some .boolean) 3 := ⟨mw_16_22, mw_16_20, mw_16_21, mw_1_5, by decide, by decide, by decide +kernel⟩
theorem kf_X7_isUsed : KV RX7 yX7_isUsed cX7_isUsed 2 (some .boolean) 1 := ⟨mw_16_14, mw_16_12, mw_16_13, mw_1_5, by decide, by decide, by decide +kernel⟩
theorem kf_X7_alikeOf : KV RX7 yX7_alikeOf cX7_alikeOf 5 (some .int) 2 := ⟨mw_16_18, mw_16_16, mw_16_17, mw_1_5, by decide, by decide, by decide +kernel⟩
def L_X7_made_18 (msc : Int32) (q1 : Int32) : Nat → Int32 → Int32 → Int32 → Int32 × Int32 × Int32
  | 0, _, _, _ => (0, 0, 0)
  | n18 + 1, i2, i3, i4 => (if msc ≤ i4 then (i2, i3, i4) else L_X7_made_18 msc q1 n18 (i2 + ((q1 / i3) - (q1 / i3) / 10 * 10)) (i3 * 10) (i4 + 1))
def L_X7_made_99 (msc : Int32) (mtc : Int32) (mam : Nat → Int32) (q1 : Int32) (y18 : Int32 × Int32 × Int32) : Nat → Int32 → (Nat → Int32) → Int32 × (Nat → Int32)
  | 0, _, _ => (0, fun _ => 0)
  | n99 + 1, i9, w10 => (if mtc ≤ i9 then (i9, w10) else L_X7_made_99 msc mtc mam q1 y18 n99 (i9 + 1) (upd w10 (Int32.toNatClampNeg i9) ((f_X7_sumBy msc mam i9 q1) / y18.1)))
def L_X7_made_65 (msc : Int32) (mtc : Int32) (mal : Int32) (mam : Nat → Int32) (mwa : Nat → Int32) (q1 : Int32) (y18 : Int32 × Int32 × Int32) : Nat → Int32 → Int64 × Int32 × (Nat → Int32)
  | 0, _ => (0, 0, fun _ => 0)
  | n65 + 1, i7 => (if mtc ≤ i7 then ((fun (y99 : Int32 × (Nat → Int32)) => ((Int32.toInt64 y18.1), mal + 1, y99.2)) (L_X7_made_99 msc mtc mam q1 y18 5 0 mwa)) else (if ((f_X7_sumBy msc mam i7 q1) - (f_X7_sumBy msc mam i7 q1) / y18.1 * y18.1) = 0 then L_X7_made_65 msc mtc mal mam mwa q1 y18 n65 (i7 + 1) else ((-1000004), mal, mwa)))
def f_X7_made (msc : Int32) (mtc : Int32) (mal : Int32) (mam : Nat → Int32) (mwa : Nat → Int32) (q1 : Int32) : Int64 × Int32 × (Nat → Int32) := (if msc = 0 then ((-1000004), mal, mwa) else ((fun (y18 : Int32 × Int32 × Int32) => (if (f_X7_within q1 1 (y18.2.1 - 1)) = 0 then ((-1000003), mal, mwa) else L_X7_made_65 msc mtc mal mam mwa q1 y18 5 0)) (L_X7_made_18 msc q1 5 0 1 0)))
theorem made_ne {msc q1 : Int32} {y : Int32 × Int32 × Int32} (hy : y = L_X7_made_18 msc q1 5 0 1 0) (h : ¬ f_X7_within q1 1 (y.2.1 - 1) = 0) (hs : LE4 msc) : ¬ y.1 = 0 := by
  obtain ⟨a, ha, rfl⟩ := hs
  unfold f_X7_within at h
  split at h
  · exact absurd rfl h
  rename_i h1
  split at h
  · exact absurd rfl h
  rename_i h2
  have h3 : ¬ q1 < 0 := fun q => h1 (by rw [Int32.lt_iff_toInt_lt] at q ⊢; have e0 : (0 : Int32).toInt = 0 := by decide
                                        have e1 : (1 : Int32).toInt = 1 := by decide
                                        omega)
  obtain ⟨P, hP, rfl⟩ := nI_of h3
  have hP1 : 1 ≤ P := by
    rcases Nat.eq_zero_or_pos P with e | e
    · subst e; exact absurd (by decide) h1
    · exact e
  have s1 : nI P / 1 = nI P := by have := pk_div (a := P) (d := 1) hP (by decide) (by decide); rw [Nat.div_one] at this; exact this
  have s2 : nI P / 10 = nI (P / 10) := pk_div hP (by decide) (by decide)
  have s3 : nI P / 100 = nI (P / 100) := pk_div hP (by decide) (by decide)
  have s4 : nI P / 1000 = nI (P / 1000) := pk_div hP (by decide) (by decide)
  have r : ∀ x : Nat, x < 2 ^ 31 → nI x - nI x / 10 * 10 = nI (x % 10) := fun x hx => pk_rem hx (by decide) (by decide)
  have z : ∀ x : Nat, x < 2 ^ 31 → nI x = 0 → x = 0 := fun x hx e => (nI_eq hx (by decide)).mp (e.trans nI_0.symm)
  have m1 : (1 : Int32) * 10 = 10 := by decide
  have m2 : (10 : Int32) * 10 = 100 := by decide
  have m3 : (100 : Int32) * 10 = 1000 := by decide
  have m4 : (1000 : Int32) * 10 = 10000 := by decide
  have a0 : (0 : Int32) + 1 = 1 := by decide
  have a1 : (1 : Int32) + 1 = 2 := by decide
  have a2 : (2 : Int32) + 1 = 3 := by decide
  have a3 : (3 : Int32) + 1 = 4 := by decide
  have hlt : ∀ B : Nat, B < 2 ^ 31 → ¬ nI B < nI P → P ≤ B := fun B hB hn => by
    rcases Nat.lt_or_ge B P with q | q
    · exact absurd (nI_lt q hP) hn
    · exact q
  have zz : (0 : Int32) = nI 0 := nI_0.symm
  rcases (show a = 0 ∨ a = 1 ∨ a = 2 ∨ a = 3 ∨ a = 4 by omega) with rfl | rfl | rfl | rfl | rfl
  · have e : L_X7_made_18 (nI 0) (nI P) 5 0 1 0 = (0, 1, 0) := by rw [L_X7_made_18, if_pos (by decide)]
    rw [e] at hy; subst hy
    have e9 : (1 : Int32) - 1 = nI 0 := by decide
    dsimp only at h2
    rw [e9] at h2
    have := hlt 0 (by decide) h2
    omega
  · have e : L_X7_made_18 (nI 1) (nI P) 5 0 1 0 = (nI (P % 10), 10, 1) := by
      rw [L_X7_made_18, if_neg (by decide), L_X7_made_18, m1, a0, if_pos (by decide), s1, r P hP, zz, nI_add, Nat.zero_add]
    rw [e] at hy; subst hy
    intro q
    have e9 : (10 : Int32) - 1 = nI 9 := by decide
    dsimp only at h2
    rw [e9] at h2
    have := hlt 9 (by decide) h2
    have := z _ (by omega) q
    omega
  · have e : L_X7_made_18 (nI 2) (nI P) 5 0 1 0 = (nI (P % 10 + P / 10 % 10), 100, 2) := by
      rw [L_X7_made_18, if_neg (by decide), L_X7_made_18, m1, a0, if_neg (by decide), L_X7_made_18, m2, a1, if_pos (by decide), s1, r P hP, s2, r (P / 10) (by omega), zz, nI_add, nI_add, Nat.zero_add]
    rw [e] at hy; subst hy
    intro q
    have e9 : (100 : Int32) - 1 = nI 99 := by decide
    dsimp only at h2
    rw [e9] at h2
    have := hlt 99 (by decide) h2
    have := z _ (by omega) q
    omega
  · have e : L_X7_made_18 (nI 3) (nI P) 5 0 1 0 = (nI (P % 10 + P / 10 % 10 + P / 100 % 10), 1000, 3) := by
      rw [L_X7_made_18, if_neg (by decide), L_X7_made_18, m1, a0, if_neg (by decide), L_X7_made_18, m2, a1, if_neg (by decide), L_X7_made_18, m3, a2, if_pos (by decide), s1, r P hP, s2, r (P / 10) (by omega), s3, r (P / 100) (by omega), zz, nI_add, nI_add, nI_add, Nat.zero_add]
    rw [e] at hy; subst hy
    intro q
    have e9 : (1000 : Int32) - 1 = nI 999 := by decide
    dsimp only at h2
    rw [e9] at h2
    have := hlt 999 (by decide) h2
    have := z _ (by omega) q
    omega
  · have e : L_X7_made_18 (nI 4) (nI P) 5 0 1 0 = (nI (P % 10 + P / 10 % 10 + P / 100 % 10 + P / 1000 % 10), 10000, 4) := by
      rw [L_X7_made_18, if_neg (by decide), L_X7_made_18, m1, a0, if_neg (by decide), L_X7_made_18, m2, a1, if_neg (by decide), L_X7_made_18, m3, a2, if_neg (by decide), L_X7_made_18, m4, a3, if_pos (by decide), s1, r P hP, s2, r (P / 10) (by omega), s3, r (P / 100) (by omega), s4, r (P / 1000) (by omega), zz, nI_add, nI_add, nI_add, nI_add, Nat.zero_add]
    rw [e] at hy; subst hy
    intro q
    have e9 : (10000 : Int32) - 1 = nI 9999 := by decide
    dsimp only at h2
    rw [e9] at h2
    have := hlt 9999 (by decide) h2
    have := z _ (by omega) q
    have d1 : P / 10 / 10 = P / 100 := by rw [Nat.div_div_eq_div_mul]
    have d2 : P / 100 / 10 = P / 1000 := by rw [Nat.div_div_eq_div_mul]
    have t1 : P % 10 = 0 := by omega
    have t2 : P / 10 % 10 = 0 := by omega
    have t3 : P / 100 % 10 = 0 := by omega
    have t4 : P / 1000 % 10 = 0 := by omega
    have u4 : P / 1000 = 0 := by omega
    have u3 : P / 100 = 0 := by omega
    have u2 : P / 10 = 0 := by omega
    omega
set_option maxRecDepth 100000 in
set_option maxHeartbeats 4000000 in
theorem c_X7_made (l : Launch) (D : va_G) (cI cJ : ClassId) (am ama amb amc amd ame amf amg amp amo : Nat) (mpl : Int32) (msc : Int32) (mtc : Int32) (msr : Int32) (mal : Int32) (mns : Int32) (mnn : Int32) (mnt : Int32) (mfi : Int32) (mnw : Int32) (mmy : Int32) (mbe : Int64) (mmf : Int64) (mbs : Int32) (mco : Int32) (mh : Int64) (mpg : Nat → Int32) (mam : Nat → Int32) (mwa : Nat → Int32) (mww : Nat → Int32) (mna : Nat → Int32) (mmb : Nat → Int32) (msh : Nat → Int64) (mpa : Nat → Int64) (mgo : Nat → Int64) (q1 : Int32) (hms : LE4 msc) (hmt : LE4 mtc) : CL l yX7_made cX7_made 5 1 D cI cJ [.ref am, .int q1] [(am, .inr (7, [.int mpl, .ref ama, .int msc, .int mtc, .ref amb, .ref amc, .ref amd, .int msr, .int mal, .int mns, .int mnn, .int mnt, .int mfi, .int mnw, .ref ame, .int mmy, .ref amf, .long mbe, .ref amg, .long mmf, .ref amp, .ref amo, .int mbs, .int mco, .long mh])), (ama, .inl (cI, 47, .inl mpg)), (amb, .inl (cI, 16, .inl mam)), (amc, .inl (cI, 4, .inl mwa)), (amd, .inl (cI, 4, .inl mww)), (ame, .inl (cI, 16, .inl mna)), (amf, .inl (cI, 4, .inl mmb)), (amg, .inl (cJ, 4, .inr (.inl msh))), (amp, .inl (cJ, 9, .inr (.inl mpa))), (amo, .inl (cJ, 3, .inr (.inl mgo)))] [(am, .inr (7, [.int mpl, .ref ama, .int msc, .int mtc, .ref amb, .ref amc, .ref amd, .int msr, .int ((f_X7_made msc mtc mal mam mwa q1).2.1), .int mns, .int mnn, .int mnt, .int mfi, .int mnw, .ref ame, .int mmy, .ref amf, .long mbe, .ref amg, .long mmf, .ref amp, .ref amo, .int mbs, .int mco, .long mh])), (ama, .inl (cI, 47, .inl mpg)), (amb, .inl (cI, 16, .inl mam)), (amc, .inl (cI, 4, .inl ((f_X7_made msc mtc mal mam mwa q1).2.2))), (amd, .inl (cI, 4, .inl mww)), (ame, .inl (cI, 16, .inl mna)), (amf, .inl (cI, 4, .inl mmb)), (amg, .inl (cJ, 4, .inr (.inl msh))), (amp, .inl (cJ, 9, .inr (.inl mpa))), (amo, .inl (cJ, 3, .inr (.inl mgo)))] ((f_X7_made msc mtc mal mam mwa q1).1) := by
  generalize hr : f_X7_made msc mtc mal mam mwa q1 = r
  obtain ⟨nms, hms1, hms2⟩ := id hms
  obtain ⟨nmt, hmt1, hmt2⟩ := id hmt
  refine fr_entryL (by decide) rfl ?_
  intro p e s m args below meth c A Q H locs hQ C hret hlk w ls hl
  have hx := C.1
  have hb := C.2.1
  have hl : lv_has ls 5 [(0, .ref am), (1, .int q1)] := hl
  have hr : (if msc = 0 then ((-1000004), mal, mwa) else ((fun (y18 : Int32 × Int32 × Int32) => (if (f_X7_within q1 1 (y18.2.1 - 1)) = 0 then ((-1000003), mal, mwa) else L_X7_made_65 msc mtc mal mam mwa q1 y18 5 0)) (L_X7_made_18 msc q1 5 0 1 0))) = r := hr
  refine lv_aload_n hx hb dX7_made_0 rfl (lv_at hl 0 rfl) ?_
  refine fr_get C w fg_X7_78 0 rfl rfl dX7_made_1 ?_
  refine lv_if_ne (tgt := 11) hx hb dX7_made_4 (by decide) (fun c4_1 => ?_) (fun c4_1 => ?_)
  · have hr := (if_neg c4_1).symm.trans hr
    refine lv_iconst (v := 0) hx hb dX7_made_11 (by decide) ?_
    refine lv_istore_n (lv' := [(2, .int 0), (0, .ref am), (1, .int q1)]) hx hb dX7_made_12 rfl hl (by decide) rfl (fun ls hl => ?_)
    refine lv_iconst (v := 1) hx hb dX7_made_13 (by decide) ?_
    refine lv_istore_n (lv' := [(3, .int 1), (2, .int 0), (0, .ref am), (1, .int q1)]) hx hb dX7_made_14 rfl hl (by decide) rfl (fun ls hl => ?_)
    refine lv_iconst (v := 0) hx hb dX7_made_15 (by decide) ?_
    refine lv_istore (lv' := [(4, .int 0), (3, .int 1), (2, .int 0), (0, .ref am), (1, .int q1)]) hx hb dX7_made_16 hl (by decide) rfl (fun ls hl => ?_)
    obtain ⟨y18, hy18⟩ : ∃ y, y = L_X7_made_18 msc q1 5 0 1 0 := ⟨_, rfl⟩
    have hr : (if (f_X7_within q1 1 (y18.2.1 - 1)) = 0 then ((-1000003), mal, mwa) else L_X7_made_65 msc mtc mal mam mwa q1 y18 5 0) = r := by rw [hy18]; exact hr
    have X18 : ∀ (H : Heap) (locs : List Loc), Wd D A s.heap H locs [(am, .inr (7, [.int mpl, .ref ama, .int msc, .int mtc, .ref amb, .ref amc, .ref amd, .int msr, .int mal, .int mns, .int mnn, .int mnt, .int mfi, .int mnw, .ref ame, .int mmy, .ref amf, .long mbe, .ref amg, .long mmf, .ref amp, .ref amo, .int mbs, .int mco, .long mh])), (ama, .inl (cI, 47, .inl mpg)), (amb, .inl (cI, 16, .inl mam)), (amc, .inl (cI, 4, .inl mwa)), (amd, .inl (cI, 4, .inl mww)), (ame, .inl (cI, 16, .inl mna)), (amf, .inl (cI, 4, .inl mmb)), (amg, .inl (cJ, 4, .inr (.inl msh))), (amp, .inl (cJ, 9, .inr (.inl mpa))), (amo, .inl (cJ, 3, .inr (.inl mgo)))] → ∀ (ls : Array Slot), lv_has ls 5 [(0, .ref am), (1, .int q1), (2, .int y18.1), (3, .int y18.2.1), (4, .int y18.2.2)] → W p l e (rl 1) s m args below meth c H locs 0 0 Q (F0 m 47 ls []) := by
      intro H locs w ls hl
      refine lv_iload_n hx hb dX7_made_47 rfl (lv_at hl 1 rfl) ?_
      refine lv_iconst (v := 1) hx hb dX7_made_48 (by decide) ?_
      refine lv_iload_n hx hb dX7_made_49 rfl (lv_at hl 3 rfl) ?_
      refine lv_iconst (v := 1) hx hb dX7_made_50 (by decide) ?_
      refine lv_isub hx hb dX7_made_51 ?_
      refine fr_callIS (As := [.int q1, .int 1, .int (y18.2.1 - 1)]) (rest := []) C w kf_X7_within mw_5_18 (c_X7_within l D cI cJ q1 1 (y18.2.1 - 1)) ⟨Nat.le_of_ble_eq_true rfl, Nat.le_of_ble_eq_true rfl⟩ ⟨Nat.le_refl 0, Nat.le_refl 0⟩ [] rfl rfl rfl (ws' := [(am, .inr (7, [.int mpl, .ref ama, .int msc, .int mtc, .ref amb, .ref amc, .ref amd, .int msr, .int mal, .int mns, .int mnn, .int mnt, .int mfi, .int mnw, .ref ame, .int mmy, .ref amf, .long mbe, .ref amg, .long mmf, .ref amp, .ref amo, .int mbs, .int mco, .long mh])), (ama, .inl (cI, 47, .inl mpg)), (amb, .inl (cI, 16, .inl mam)), (amc, .inl (cI, 4, .inl mwa)), (amd, .inl (cI, 4, .inl mww)), (ame, .inl (cI, 16, .inl mna)), (amf, .inl (cI, 4, .inl mmb)), (amg, .inl (cJ, 4, .inr (.inl msh))), (amp, .inl (cJ, 9, .inr (.inl mpa))), (amo, .inl (cJ, 3, .inr (.inl mgo)))]) rfl rfl hl.1 rfl (Nat.le_of_ble_eq_true rfl) dX7_made_52 (fun H locs w => ?_)
      refine lv_if_ne (tgt := 62) hx hb dX7_made_55 (by decide) (fun c55_6 => ?_) (fun c55_6 => ?_)
      · have hr := (if_neg c55_6).symm.trans hr
        refine lv_iconst (v := 0) hx hb dX7_made_62 (by decide) ?_
        refine lv_istore (lv' := [(4, .int 0), (0, .ref am), (1, .int q1), (2, .int y18.1), (3, .int y18.2.1)]) hx hb dX7_made_63 hl (by decide) rfl (fun ls hl => ?_)
        have LP65 : ∀ (n65 : Nat) (k65 : Nat) (i7 : Int32), i7 = nI k65 → k65 ≤ nmt → nmt < k65 + n65 → L_X7_made_65 msc mtc mal mam mwa q1 y18 n65 i7 = r → ∀ (H : Heap) (locs : List Loc), Wd D A s.heap H locs [(am, .inr (7, [.int mpl, .ref ama, .int msc, .int mtc, .ref amb, .ref amc, .ref amd, .int msr, .int mal, .int mns, .int mnn, .int mnt, .int mfi, .int mnw, .ref ame, .int mmy, .ref amf, .long mbe, .ref amg, .long mmf, .ref amp, .ref amo, .int mbs, .int mco, .long mh])), (ama, .inl (cI, 47, .inl mpg)), (amb, .inl (cI, 16, .inl mam)), (amc, .inl (cI, 4, .inl mwa)), (amd, .inl (cI, 4, .inl mww)), (ame, .inl (cI, 16, .inl mna)), (amf, .inl (cI, 4, .inl mmb)), (amg, .inl (cJ, 4, .inr (.inl msh))), (amp, .inl (cJ, 9, .inr (.inl mpa))), (amo, .inl (cJ, 3, .inr (.inl mgo)))] → ∀ (ls : Array Slot), lv_has ls 5 [(0, .ref am), (1, .int q1), (2, .int y18.1), (3, .int y18.2.1), (4, .int i7)] → W p l e (rl 1) s m args below meth c H locs 0 0 Q (F0 m 65 ls []) := by
          skip
          intro n65
          induction n65 with
          | zero => intro k65 i7 hk65 hkN65 hn65; exact absurd hn65 (by omega)
          | succ n65 ih65 =>
            intro k65 i7 hk65 hkN65 hn65 hr H locs w ls hl
            have hr : (if mtc ≤ i7 then ((fun (y99 : Int32 × (Nat → Int32)) => ((Int32.toInt64 y18.1), mal + 1, y99.2)) (L_X7_made_99 msc mtc mam q1 y18 5 0 mwa)) else (if ((f_X7_sumBy msc mam i7 q1) - (f_X7_sumBy msc mam i7 q1) / y18.1 * y18.1) = 0 then L_X7_made_65 msc mtc mal mam mwa q1 y18 n65 (i7 + 1) else ((-1000004), mal, mwa))) = r := hr
            refine lv_iload hx hb dX7_made_65 (lv_at hl 4 rfl) ?_
            refine lv_aload_n hx hb dX7_made_67 rfl (lv_at hl 0 rfl) ?_
            refine fr_get C w fg_X7_81 0 rfl rfl dX7_made_68 ?_
            refine lv_icmp_ge (tgt := 96) hx hb dX7_made_71 (by decide) (fun c71_8 => ?_) (fun c71_8 => ?_)
            · have hr := (if_pos c71_8).symm.trans hr
              refine lv_iconst (v := 0) hx hb dX7_made_96 (by decide) ?_
              refine lv_istore (lv' := [(4, .int 0), (0, .ref am), (1, .int q1), (2, .int y18.1), (3, .int y18.2.1)]) hx hb dX7_made_97 hl (by decide) rfl (fun ls hl => ?_)
              obtain ⟨y99, hy99⟩ : ∃ y, y = L_X7_made_99 msc mtc mam q1 y18 5 0 mwa := ⟨_, rfl⟩
              have hr : ((Int32.toInt64 y18.1), mal + 1, y99.2) = r := by rw [hy99]; exact hr
              have X99 : ∀ (H : Heap) (locs : List Loc), Wd D A s.heap H locs [(am, .inr (7, [.int mpl, .ref ama, .int msc, .int mtc, .ref amb, .ref amc, .ref amd, .int msr, .int mal, .int mns, .int mnn, .int mnt, .int mfi, .int mnw, .ref ame, .int mmy, .ref amf, .long mbe, .ref amg, .long mmf, .ref amp, .ref amo, .int mbs, .int mco, .long mh])), (ama, .inl (cI, 47, .inl mpg)), (amb, .inl (cI, 16, .inl mam)), (amc, .inl (cI, 4, .inl y99.2)), (amd, .inl (cI, 4, .inl mww)), (ame, .inl (cI, 16, .inl mna)), (amf, .inl (cI, 4, .inl mmb)), (amg, .inl (cJ, 4, .inr (.inl msh))), (amp, .inl (cJ, 9, .inr (.inl mpa))), (amo, .inl (cJ, 3, .inr (.inl mgo)))] → ∀ (ls : Array Slot), lv_has ls 5 [(0, .ref am), (1, .int q1), (2, .int y18.1), (3, .int y18.2.1), (4, .int y99.1)] → W p l e (rl 1) s m args below meth c H locs 0 0 Q (F0 m 130 ls []) := by
                intro H locs w ls hl
                refine lv_aload_n hx hb dX7_made_130 rfl (lv_at hl 0 rfl) ?_
                refine lv_dup hx hb dX7_made_131 rfl ?_
                refine fr_get C w fg_X7_92 0 rfl rfl dX7_made_132 ?_
                refine lv_iconst (v := 1) hx hb dX7_made_135 (by decide) ?_
                refine lv_iadd hx hb dX7_made_136 ?_
                refine fr_put C w fp_X7_92 0 rfl rfl rfl rfl (ws' := [(am, .inr (7, [.int mpl, .ref ama, .int msc, .int mtc, .ref amb, .ref amc, .ref amd, .int msr, .int (mal + 1), .int mns, .int mnn, .int mnt, .int mfi, .int mnw, .ref ame, .int mmy, .ref amf, .long mbe, .ref amg, .long mmf, .ref amp, .ref amo, .int mbs, .int mco, .long mh])), (ama, .inl (cI, 47, .inl mpg)), (amb, .inl (cI, 16, .inl mam)), (amc, .inl (cI, 4, .inl y99.2)), (amd, .inl (cI, 4, .inl mww)), (ame, .inl (cI, 16, .inl mna)), (amf, .inl (cI, 4, .inl mmb)), (amg, .inl (cJ, 4, .inr (.inl msh))), (amp, .inl (cJ, 9, .inr (.inl mpa))), (amo, .inl (cJ, 3, .inr (.inl mgo)))]) rfl dX7_made_137 (fun H locs w => ?_)
                refine lv_iload_n hx hb dX7_made_140 rfl (lv_at hl 2 rfl) ?_
                refine lv_i2l (v := (Int32.toInt64 y18.1)) hx hb dX7_made_141 rfl ?_
                subst hr hQ
                exact fr_lret C hret hlk w rfl rfl dX7_made_142
              have LP99 : ∀ (n99 : Nat) (k99 : Nat) (i9 : Int32) (w10 : Nat → Int32), i9 = nI k99 → k99 ≤ nmt → nmt < k99 + n99 → L_X7_made_99 msc mtc mam q1 y18 n99 i9 w10 = y99 → ∀ (H : Heap) (locs : List Loc), Wd D A s.heap H locs [(am, .inr (7, [.int mpl, .ref ama, .int msc, .int mtc, .ref amb, .ref amc, .ref amd, .int msr, .int mal, .int mns, .int mnn, .int mnt, .int mfi, .int mnw, .ref ame, .int mmy, .ref amf, .long mbe, .ref amg, .long mmf, .ref amp, .ref amo, .int mbs, .int mco, .long mh])), (ama, .inl (cI, 47, .inl mpg)), (amb, .inl (cI, 16, .inl mam)), (amc, .inl (cI, 4, .inl w10)), (amd, .inl (cI, 4, .inl mww)), (ame, .inl (cI, 16, .inl mna)), (amf, .inl (cI, 4, .inl mmb)), (amg, .inl (cJ, 4, .inr (.inl msh))), (amp, .inl (cJ, 9, .inr (.inl mpa))), (amo, .inl (cJ, 3, .inr (.inl mgo)))] → ∀ (ls : Array Slot), lv_has ls 5 [(0, .ref am), (1, .int q1), (2, .int y18.1), (3, .int y18.2.1), (4, .int i9)] → W p l e (rl 1) s m args below meth c H locs 0 0 Q (F0 m 99 ls []) := by
                clear hr
                intro n99
                induction n99 with
                | zero => intro k99 i9 w10 hk99 hkN99 hn99; exact absurd hn99 (by omega)
                | succ n99 ih99 =>
                  intro k99 i9 w10 hk99 hkN99 hn99 hr H locs w ls hl
                  have hr : (if mtc ≤ i9 then (i9, w10) else L_X7_made_99 msc mtc mam q1 y18 n99 (i9 + 1) (upd w10 (Int32.toNatClampNeg i9) ((f_X7_sumBy msc mam i9 q1) / y18.1))) = y99 := hr
                  refine lv_iload hx hb dX7_made_99 (lv_at hl 4 rfl) ?_
                  refine lv_aload_n hx hb dX7_made_101 rfl (lv_at hl 0 rfl) ?_
                  refine fr_get C w fg_X7_81 0 rfl rfl dX7_made_102 ?_
                  refine lv_icmp_ge (tgt := 130) hx hb dX7_made_105 (by decide) (fun c105_11 => ?_) (fun c105_11 => ?_)
                  · have hr := (if_pos c105_11).symm.trans hr
                    subst hr
                    exact X99 H locs w ls (lv_sub hl [0, 1, 2, 3, 4] rfl)
                  · have hr := (if_neg c105_11).symm.trans hr
                    have hkl99 := kl_of hk99 hkN99 (N := nmt) hmt2 (by omega) c105_11
                    refine lv_aload_n hx hb dX7_made_108 rfl (lv_at hl 0 rfl) ?_
                    refine fr_get C w fg_X7_16 0 rfl rfl dX7_made_109 ?_
                    refine lv_iload hx hb dX7_made_112 (lv_at hl 4 rfl) ?_
                    refine lv_aload_n hx hb dX7_made_114 rfl (lv_at hl 0 rfl) ?_
                    refine lv_iload hx hb dX7_made_115 (lv_at hl 4 rfl) ?_
                    refine lv_iload_n hx hb dX7_made_117 rfl (lv_at hl 1 rfl) ?_
                    refine fr_callIV (As := [.int i9, .int q1]) (rest := [.int i9, .ref amc]) C w kf_X7_sumBy mw_14_7 (c_X7_sumBy l D cI cJ am ama amb amc amd ame amf amg amp amo mpl msc mtc msr mal mns mnn mnt mfi mnw mmy mbe mmf mbs mco mh mpg mam w10 mww mna mmb msh mpa mgo i9 q1 hms ⟨k99, by omega, hk99⟩) ⟨Nat.le_of_ble_eq_true rfl, Nat.le_of_ble_eq_true rfl⟩ ⟨Nat.le_refl 0, Nat.le_refl 0⟩ [0, 1, 2, 3, 4, 5, 6, 7, 8, 9] rfl rfl rfl (ws' := [(am, .inr (7, [.int mpl, .ref ama, .int msc, .int mtc, .ref amb, .ref amc, .ref amd, .int msr, .int mal, .int mns, .int mnn, .int mnt, .int mfi, .int mnw, .ref ame, .int mmy, .ref amf, .long mbe, .ref amg, .long mmf, .ref amp, .ref amo, .int mbs, .int mco, .long mh])), (ama, .inl (cI, 47, .inl mpg)), (amb, .inl (cI, 16, .inl mam)), (amc, .inl (cI, 4, .inl w10)), (amd, .inl (cI, 4, .inl mww)), (ame, .inl (cI, 16, .inl mna)), (amf, .inl (cI, 4, .inl mmb)), (amg, .inl (cJ, 4, .inr (.inl msh))), (amp, .inl (cJ, 9, .inr (.inl mpa))), (amo, .inl (cJ, 3, .inr (.inl mgo)))]) rfl rfl rfl rfl hl.1 rfl (Nat.le_of_ble_eq_true rfl) dX7_made_118 (fun H locs w => ?_)
                    refine lv_iload_n hx hb dX7_made_121 rfl (lv_at hl 2 rfl) ?_
                    refine lv_idiv hx hb dX7_made_122 (made_ne hy18 (by assumption) hms) ?_
                    refine fr_iast C w 3 rfl (vi_ctr hk99 hkl99 (by omega) (by decide)) (ws' := [(am, .inr (7, [.int mpl, .ref ama, .int msc, .int mtc, .ref amb, .ref amc, .ref amd, .int msr, .int mal, .int mns, .int mnn, .int mnt, .int mfi, .int mnw, .ref ame, .int mmy, .ref amf, .long mbe, .ref amg, .long mmf, .ref amp, .ref amo, .int mbs, .int mco, .long mh])), (ama, .inl (cI, 47, .inl mpg)), (amb, .inl (cI, 16, .inl mam)), (amc, .inl (cI, 4, .inl (upd w10 (Int32.toNatClampNeg i9) ((f_X7_sumBy msc mam i9 q1) / y18.1)))), (amd, .inl (cI, 4, .inl mww)), (ame, .inl (cI, 16, .inl mna)), (amf, .inl (cI, 4, .inl mmb)), (amg, .inl (cJ, 4, .inr (.inl msh))), (amp, .inl (cJ, 9, .inr (.inl mpa))), (amo, .inl (cJ, 3, .inr (.inl mgo)))]) rfl dX7_made_123 (fun H locs w => ?_)
                    refine lv_iinc (v := i9 + 1) (lv' := [(4, .int (i9 + 1)), (0, .ref am), (1, .int q1), (2, .int y18.1), (3, .int y18.2.1)]) hx hb dX7_made_124 hl (k := 4) rfl rfl (by decide) rfl (fun ls hl => ?_)
                    refine lv_goto (tgt := 99) hx hb dX7_made_127 (by decide) ?_
                    exact ih99 (k99 + 1) (i9 + 1) (upd w10 (Int32.toNatClampNeg i9) ((f_X7_sumBy msc mam i9 q1) / y18.1)) (by rw [hk99]; exact nI_1 k99) (by omega) (by omega) hr H locs w ls (lv_sub hl [1, 2, 3, 4, 0] rfl)
              exact LP99 5 0 0 mwa (by decide) (by omega) (by omega) hy99.symm H locs w ls (lv_sub hl [1, 2, 3, 4, 0] rfl)
            · have hr := (if_neg c71_8).symm.trans hr
              have hkl65 := kl_of hk65 hkN65 (N := nmt) hmt2 (by omega) c71_8
              refine lv_aload_n hx hb dX7_made_74 rfl (lv_at hl 0 rfl) ?_
              refine lv_iload hx hb dX7_made_75 (lv_at hl 4 rfl) ?_
              refine lv_iload_n hx hb dX7_made_77 rfl (lv_at hl 1 rfl) ?_
              refine fr_callIV (As := [.int i7, .int q1]) (rest := []) C w kf_X7_sumBy mw_14_7 (c_X7_sumBy l D cI cJ am ama amb amc amd ame amf amg amp amo mpl msc mtc msr mal mns mnn mnt mfi mnw mmy mbe mmf mbs mco mh mpg mam mwa mww mna mmb msh mpa mgo i7 q1 hms ⟨k65, by omega, hk65⟩) ⟨Nat.le_of_ble_eq_true rfl, Nat.le_of_ble_eq_true rfl⟩ ⟨Nat.le_refl 0, Nat.le_refl 0⟩ [0, 1, 2, 3, 4, 5, 6, 7, 8, 9] rfl rfl rfl (ws' := [(am, .inr (7, [.int mpl, .ref ama, .int msc, .int mtc, .ref amb, .ref amc, .ref amd, .int msr, .int mal, .int mns, .int mnn, .int mnt, .int mfi, .int mnw, .ref ame, .int mmy, .ref amf, .long mbe, .ref amg, .long mmf, .ref amp, .ref amo, .int mbs, .int mco, .long mh])), (ama, .inl (cI, 47, .inl mpg)), (amb, .inl (cI, 16, .inl mam)), (amc, .inl (cI, 4, .inl mwa)), (amd, .inl (cI, 4, .inl mww)), (ame, .inl (cI, 16, .inl mna)), (amf, .inl (cI, 4, .inl mmb)), (amg, .inl (cJ, 4, .inr (.inl msh))), (amp, .inl (cJ, 9, .inr (.inl mpa))), (amo, .inl (cJ, 3, .inr (.inl mgo)))]) rfl rfl rfl rfl hl.1 rfl (Nat.le_of_ble_eq_true rfl) dX7_made_78 (fun H locs w => ?_)
              refine lv_iload_n hx hb dX7_made_81 rfl (lv_at hl 2 rfl) ?_
              refine lv_irem hx hb dX7_made_82 (made_ne hy18 (by assumption) hms) ?_
              refine lv_if_eq (tgt := 90) hx hb dX7_made_83 (by decide) (fun c83_12 => ?_) (fun c83_12 => ?_)
              · have hr := (if_pos c83_12).symm.trans hr
                refine lv_iinc (v := i7 + 1) (lv' := [(4, .int (i7 + 1)), (0, .ref am), (1, .int q1), (2, .int y18.1), (3, .int y18.2.1)]) hx hb dX7_made_90 hl (k := 4) rfl rfl (by decide) rfl (fun ls hl => ?_)
                refine lv_goto (tgt := 65) hx hb dX7_made_93 (by decide) ?_
                exact ih65 (k65 + 1) (i7 + 1) (by rw [hk65]; exact nI_1 k65) (by omega) (by omega) hr H locs w ls (lv_sub hl [1, 2, 3, 4, 0] rfl)
              · have hr := (if_neg c83_12).symm.trans hr
                refine lv_ldc2 hx hb C.2.2.2.1 (C.2.2.2.2.1 _ mw_10_12) dX7_made_86 ?_
                subst hr hQ
                exact fr_lret C hret hlk w rfl rfl dX7_made_89
        exact LP65 5 0 0 (by decide) (by omega) (by omega) hr H locs w ls (lv_sub hl [1, 2, 3, 4, 0] rfl)
      · have hr := (if_pos c55_6).symm.trans hr
        refine lv_ldc2 hx hb C.2.2.2.1 (C.2.2.2.2.1 _ mw_5_15) dX7_made_58 ?_
        subst hr hQ
        exact fr_lret C hret hlk w rfl rfl dX7_made_61
    have LP18 : ∀ (n18 : Nat) (k18 : Nat) (i2 : Int32) (i3 : Int32) (i4 : Int32), i4 = nI k18 → k18 ≤ nms → nms < k18 + n18 → i3 = nI (10 ^ k18) → L_X7_made_18 msc q1 n18 i2 i3 i4 = y18 → ∀ (H : Heap) (locs : List Loc), Wd D A s.heap H locs [(am, .inr (7, [.int mpl, .ref ama, .int msc, .int mtc, .ref amb, .ref amc, .ref amd, .int msr, .int mal, .int mns, .int mnn, .int mnt, .int mfi, .int mnw, .ref ame, .int mmy, .ref amf, .long mbe, .ref amg, .long mmf, .ref amp, .ref amo, .int mbs, .int mco, .long mh])), (ama, .inl (cI, 47, .inl mpg)), (amb, .inl (cI, 16, .inl mam)), (amc, .inl (cI, 4, .inl mwa)), (amd, .inl (cI, 4, .inl mww)), (ame, .inl (cI, 16, .inl mna)), (amf, .inl (cI, 4, .inl mmb)), (amg, .inl (cJ, 4, .inr (.inl msh))), (amp, .inl (cJ, 9, .inr (.inl mpa))), (amo, .inl (cJ, 3, .inr (.inl mgo)))] → ∀ (ls : Array Slot), lv_has ls 5 [(0, .ref am), (1, .int q1), (2, .int i2), (3, .int i3), (4, .int i4)] → W p l e (rl 1) s m args below meth c H locs 0 0 Q (F0 m 18 ls []) := by
      clear hr
      intro n18
      induction n18 with
      | zero => intro k18 i2 i3 i4 hk18 hkN18 hn18 hpa18; exact absurd hn18 (by omega)
      | succ n18 ih18 =>
        intro k18 i2 i3 i4 hk18 hkN18 hn18 hpa18 hr H locs w ls hl
        have hr : (if msc ≤ i4 then (i2, i3, i4) else L_X7_made_18 msc q1 n18 (i2 + ((q1 / i3) - (q1 / i3) / 10 * 10)) (i3 * 10) (i4 + 1)) = y18 := hr
        refine lv_iload hx hb dX7_made_18 (lv_at hl 4 rfl) ?_
        refine lv_aload_n hx hb dX7_made_20 rfl (lv_at hl 0 rfl) ?_
        refine fr_get C w fg_X7_78 0 rfl rfl dX7_made_21 ?_
        refine lv_icmp_ge (tgt := 47) hx hb dX7_made_24 (by decide) (fun c24_5 => ?_) (fun c24_5 => ?_)
        · have hr := (if_pos c24_5).symm.trans hr
          subst hr
          exact X18 H locs w ls (lv_sub hl [0, 1, 2, 3, 4] rfl)
        · have hr := (if_neg c24_5).symm.trans hr
          have hkl18 := kl_of hk18 hkN18 (N := nms) hms2 (by omega) c24_5
          refine lv_iload_n hx hb dX7_made_27 rfl (lv_at hl 2 rfl) ?_
          refine lv_iload_n hx hb dX7_made_28 rfl (lv_at hl 1 rfl) ?_
          refine lv_iload_n hx hb dX7_made_29 rfl (lv_at hl 3 rfl) ?_
          refine lv_idiv hx hb dX7_made_30 (ten_ne hpa18 (by omega)) ?_
          refine lv_bipush (v := 10) hx hb dX7_made_31 (by decide) ?_
          refine lv_irem hx hb dX7_made_33 (by decide) ?_
          refine lv_iadd hx hb dX7_made_34 ?_
          refine lv_istore_n (lv' := [(2, .int (i2 + ((q1 / i3) - (q1 / i3) / 10 * 10))), (0, .ref am), (1, .int q1), (3, .int i3), (4, .int i4)]) hx hb dX7_made_35 rfl hl (by decide) rfl (fun ls hl => ?_)
          refine lv_iload_n hx hb dX7_made_36 rfl (lv_at hl 3 rfl) ?_
          refine lv_bipush (v := 10) hx hb dX7_made_37 (by decide) ?_
          refine lv_imul hx hb dX7_made_39 ?_
          refine lv_istore_n (lv' := [(3, .int (i3 * 10)), (2, .int (i2 + ((q1 / i3) - (q1 / i3) / 10 * 10))), (0, .ref am), (1, .int q1), (4, .int i4)]) hx hb dX7_made_40 rfl hl (by decide) rfl (fun ls hl => ?_)
          refine lv_iinc (v := i4 + 1) (lv' := [(4, .int (i4 + 1)), (3, .int (i3 * 10)), (2, .int (i2 + ((q1 / i3) - (q1 / i3) / 10 * 10))), (0, .ref am), (1, .int q1)]) hx hb dX7_made_41 hl (k := 4) rfl rfl (by decide) rfl (fun ls hl => ?_)
          refine lv_goto (tgt := 18) hx hb dX7_made_44 (by decide) ?_
          exact ih18 (k18 + 1) (i2 + ((q1 / i3) - (q1 / i3) / 10 * 10)) (i3 * 10) (i4 + 1) (by rw [hk18]; exact nI_1 k18) (by omega) (by omega) (by rw [hpa18, Nat.pow_succ]; exact pk_mul (10 ^ k18) 10) hr H locs w ls (lv_sub hl [3, 4, 2, 1, 0] rfl)
    exact LP18 5 0 0 1 0 (by decide) (by omega) (by omega) (by decide) hy18.symm H locs w ls (lv_sub hl [3, 4, 2, 1, 0] rfl)
  · have hr := (if_pos c4_1).symm.trans hr
    refine lv_ldc2 hx hb C.2.2.2.1 (C.2.2.2.2.1 _ mw_10_12) dX7_made_7 ?_
    subst hr hQ
    exact fr_lret C hret hlk w rfl rfl dX7_made_10
def f_X7_hasNow (mtc : Int32) (mam : Nat → Int32) (q1 : Int32) (q2 : Int32) : Int64 := (if (f_X7_isTracer mtc q2) = 0 then (-1000001) else (Int32.toInt64 (mam (Int32.toNatClampNeg ((4 * q1) + q2)))))
set_option maxRecDepth 100000 in
set_option maxHeartbeats 4000000 in
theorem c_X7_hasNow (l : Launch) (D : va_G) (cI cJ : ClassId) (am ama amb amc amd ame amf amg amp amo : Nat) (mpl : Int32) (msc : Int32) (mtc : Int32) (msr : Int32) (mal : Int32) (mns : Int32) (mnn : Int32) (mnt : Int32) (mfi : Int32) (mnw : Int32) (mmy : Int32) (mbe : Int64) (mmf : Int64) (mbs : Int32) (mco : Int32) (mh : Int64) (mpg : Nat → Int32) (mam : Nat → Int32) (mwa : Nat → Int32) (mww : Nat → Int32) (mna : Nat → Int32) (mmb : Nat → Int32) (msh : Nat → Int64) (mpa : Nat → Int64) (mgo : Nat → Int64) (q1 : Int32) (q2 : Int32) (hq1 : L4 q1) (hmt : LE4 mtc) : CL l yX7_hasNow cX7_hasNow 3 2 D cI cJ [.ref am, .int q1, .int q2] [(am, .inr (7, [.int mpl, .ref ama, .int msc, .int mtc, .ref amb, .ref amc, .ref amd, .int msr, .int mal, .int mns, .int mnn, .int mnt, .int mfi, .int mnw, .ref ame, .int mmy, .ref amf, .long mbe, .ref amg, .long mmf, .ref amp, .ref amo, .int mbs, .int mco, .long mh])), (ama, .inl (cI, 47, .inl mpg)), (amb, .inl (cI, 16, .inl mam)), (amc, .inl (cI, 4, .inl mwa)), (amd, .inl (cI, 4, .inl mww)), (ame, .inl (cI, 16, .inl mna)), (amf, .inl (cI, 4, .inl mmb)), (amg, .inl (cJ, 4, .inr (.inl msh))), (amp, .inl (cJ, 9, .inr (.inl mpa))), (amo, .inl (cJ, 3, .inr (.inl mgo)))] [(am, .inr (7, [.int mpl, .ref ama, .int msc, .int mtc, .ref amb, .ref amc, .ref amd, .int msr, .int mal, .int mns, .int mnn, .int mnt, .int mfi, .int mnw, .ref ame, .int mmy, .ref amf, .long mbe, .ref amg, .long mmf, .ref amp, .ref amo, .int mbs, .int mco, .long mh])), (ama, .inl (cI, 47, .inl mpg)), (amb, .inl (cI, 16, .inl mam)), (amc, .inl (cI, 4, .inl mwa)), (amd, .inl (cI, 4, .inl mww)), (ame, .inl (cI, 16, .inl mna)), (amf, .inl (cI, 4, .inl mmb)), (amg, .inl (cJ, 4, .inr (.inl msh))), (amp, .inl (cJ, 9, .inr (.inl mpa))), (amo, .inl (cJ, 3, .inr (.inl mgo)))] (f_X7_hasNow mtc mam q1 q2) := by
  generalize hr : f_X7_hasNow mtc mam q1 q2 = r
  refine fr_entryL (by decide) rfl ?_
  intro p e s m args below meth c A Q H locs hQ C hret hlk w ls hl
  have hx := C.1
  have hb := C.2.1
  have hl : lv_has ls 3 [(0, .ref am), (1, .int q1), (2, .int q2)] := hl
  have hr : (if (f_X7_isTracer mtc q2) = 0 then (-1000001) else (Int32.toInt64 (mam (Int32.toNatClampNeg ((4 * q1) + q2))))) = r := hr
  refine lv_aload_n hx hb dX7_hasNow_0 rfl (lv_at hl 0 rfl) ?_
  refine lv_iload_n hx hb dX7_hasNow_1 rfl (lv_at hl 2 rfl) ?_
  refine fr_callIV (As := [.int q2]) (rest := []) C w kf_X7_isTracer mw_12_10 (c_X7_isTracer l D cI cJ am ama amb amc amd ame amf amg amp amo mpl msc mtc msr mal mns mnn mnt mfi mnw mmy mbe mmf mbs mco mh mpg mam mwa mww mna mmb msh mpa mgo q2) ⟨Nat.le_of_ble_eq_true rfl, Nat.le_of_ble_eq_true rfl⟩ ⟨Nat.le_refl 0, Nat.le_refl 0⟩ [0, 1, 2, 3, 4, 5, 6, 7, 8, 9] rfl rfl rfl (ws' := [(am, .inr (7, [.int mpl, .ref ama, .int msc, .int mtc, .ref amb, .ref amc, .ref amd, .int msr, .int mal, .int mns, .int mnn, .int mnt, .int mfi, .int mnw, .ref ame, .int mmy, .ref amf, .long mbe, .ref amg, .long mmf, .ref amp, .ref amo, .int mbs, .int mco, .long mh])), (ama, .inl (cI, 47, .inl mpg)), (amb, .inl (cI, 16, .inl mam)), (amc, .inl (cI, 4, .inl mwa)), (amd, .inl (cI, 4, .inl mww)), (ame, .inl (cI, 16, .inl mna)), (amf, .inl (cI, 4, .inl mmb)), (amg, .inl (cJ, 4, .inr (.inl msh))), (amp, .inl (cJ, 9, .inr (.inl mpa))), (amo, .inl (cJ, 3, .inr (.inl mgo)))]) rfl rfl rfl rfl hl.1 rfl (Nat.le_of_ble_eq_true rfl) dX7_hasNow_2 (fun H locs w => ?_)
  refine lv_if_eq (tgt := 22) hx hb dX7_hasNow_5 (by decide) (fun c5_1 => ?_) (fun c5_1 => ?_)
  · have hr := (if_pos c5_1).symm.trans hr
    refine lv_ldc2 hx hb C.2.2.2.1 (C.2.2.2.2.1 _ mw_15_0) dX7_hasNow_22 ?_
    subst hr hQ
    exact fr_lret C hret hlk w rfl rfl dX7_hasNow_25
  · have hr := (if_neg c5_1).symm.trans hr
    refine lv_aload_n hx hb dX7_hasNow_8 rfl (lv_at hl 0 rfl) ?_
    refine fr_get C w fg_X7_13 0 rfl rfl dX7_hasNow_9 ?_
    refine lv_iconst (v := 4) hx hb dX7_hasNow_12 (by decide) ?_
    refine lv_iload_n hx hb dX7_hasNow_13 rfl (lv_at hl 1 rfl) ?_
    refine lv_imul hx hb dX7_hasNow_14 ?_
    refine lv_iload_n hx hb dX7_hasNow_15 rfl (lv_at hl 2 rfl) ?_
    refine lv_iadd hx hb dX7_hasNow_16 ?_
    refine fr_iald C w 2 rfl (vi_4 hq1 (trc_L4 (by assumption) hmt)) dX7_hasNow_17 ?_
    refine lv_i2l (v := (Int32.toInt64 (mam (Int32.toNatClampNeg ((4 * q1) + q2))))) hx hb dX7_hasNow_18 rfl ?_
    refine lv_goto (tgt := 25) hx hb dX7_hasNow_19 (by decide) ?_
    subst hr hQ
    exact fr_lret C hret hlk w rfl rfl dX7_hasNow_25
def f_X7_has (msc : Int32) (mtc : Int32) (mam : Nat → Int32) (q1 : Int32) (q2 : Int32) : Int64 := (if (f_X7_isSource msc q1) = 0 then (-1000002) else (if (f_X7_within q2 0 3) = 0 then (-1000003) else (f_X7_hasNow mtc mam q1 q2)))
set_option maxRecDepth 100000 in
set_option maxHeartbeats 4000000 in
theorem c_X7_has (l : Launch) (D : va_G) (cI cJ : ClassId) (am ama amb amc amd ame amf amg amp amo : Nat) (mpl : Int32) (msc : Int32) (mtc : Int32) (msr : Int32) (mal : Int32) (mns : Int32) (mnn : Int32) (mnt : Int32) (mfi : Int32) (mnw : Int32) (mmy : Int32) (mbe : Int64) (mmf : Int64) (mbs : Int32) (mco : Int32) (mh : Int64) (mpg : Nat → Int32) (mam : Nat → Int32) (mwa : Nat → Int32) (mww : Nat → Int32) (mna : Nat → Int32) (mmb : Nat → Int32) (msh : Nat → Int64) (mpa : Nat → Int64) (mgo : Nat → Int64) (q1 : Int32) (q2 : Int32) (hms : LE4 msc) (hmt : LE4 mtc) : CL l yX7_has cX7_has 3 3 D cI cJ [.ref am, .int q1, .int q2] [(am, .inr (7, [.int mpl, .ref ama, .int msc, .int mtc, .ref amb, .ref amc, .ref amd, .int msr, .int mal, .int mns, .int mnn, .int mnt, .int mfi, .int mnw, .ref ame, .int mmy, .ref amf, .long mbe, .ref amg, .long mmf, .ref amp, .ref amo, .int mbs, .int mco, .long mh])), (ama, .inl (cI, 47, .inl mpg)), (amb, .inl (cI, 16, .inl mam)), (amc, .inl (cI, 4, .inl mwa)), (amd, .inl (cI, 4, .inl mww)), (ame, .inl (cI, 16, .inl mna)), (amf, .inl (cI, 4, .inl mmb)), (amg, .inl (cJ, 4, .inr (.inl msh))), (amp, .inl (cJ, 9, .inr (.inl mpa))), (amo, .inl (cJ, 3, .inr (.inl mgo)))] [(am, .inr (7, [.int mpl, .ref ama, .int msc, .int mtc, .ref amb, .ref amc, .ref amd, .int msr, .int mal, .int mns, .int mnn, .int mnt, .int mfi, .int mnw, .ref ame, .int mmy, .ref amf, .long mbe, .ref amg, .long mmf, .ref amp, .ref amo, .int mbs, .int mco, .long mh])), (ama, .inl (cI, 47, .inl mpg)), (amb, .inl (cI, 16, .inl mam)), (amc, .inl (cI, 4, .inl mwa)), (amd, .inl (cI, 4, .inl mww)), (ame, .inl (cI, 16, .inl mna)), (amf, .inl (cI, 4, .inl mmb)), (amg, .inl (cJ, 4, .inr (.inl msh))), (amp, .inl (cJ, 9, .inr (.inl mpa))), (amo, .inl (cJ, 3, .inr (.inl mgo)))] (f_X7_has msc mtc mam q1 q2) := by
  generalize hr : f_X7_has msc mtc mam q1 q2 = r
  refine fr_entryL (by decide) rfl ?_
  intro p e s m args below meth c A Q H locs hQ C hret hlk w ls hl
  have hx := C.1
  have hb := C.2.1
  have hl : lv_has ls 3 [(0, .ref am), (1, .int q1), (2, .int q2)] := hl
  have hr : (if (f_X7_isSource msc q1) = 0 then (-1000002) else (if (f_X7_within q2 0 3) = 0 then (-1000003) else (f_X7_hasNow mtc mam q1 q2))) = r := hr
  refine lv_aload_n hx hb dX7_has_0 rfl (lv_at hl 0 rfl) ?_
  refine lv_iload_n hx hb dX7_has_1 rfl (lv_at hl 1 rfl) ?_
  refine fr_callIV (As := [.int q1]) (rest := []) C w kf_X7_isSource mw_13_2 (c_X7_isSource l D cI cJ am ama amb amc amd ame amf amg amp amo mpl msc mtc msr mal mns mnn mnt mfi mnw mmy mbe mmf mbs mco mh mpg mam mwa mww mna mmb msh mpa mgo q1) ⟨Nat.le_of_ble_eq_true rfl, Nat.le_of_ble_eq_true rfl⟩ ⟨Nat.le_refl 0, Nat.le_refl 0⟩ [0, 1, 2, 3, 4, 5, 6, 7, 8, 9] rfl rfl rfl (ws' := [(am, .inr (7, [.int mpl, .ref ama, .int msc, .int mtc, .ref amb, .ref amc, .ref amd, .int msr, .int mal, .int mns, .int mnn, .int mnt, .int mfi, .int mnw, .ref ame, .int mmy, .ref amf, .long mbe, .ref amg, .long mmf, .ref amp, .ref amo, .int mbs, .int mco, .long mh])), (ama, .inl (cI, 47, .inl mpg)), (amb, .inl (cI, 16, .inl mam)), (amc, .inl (cI, 4, .inl mwa)), (amd, .inl (cI, 4, .inl mww)), (ame, .inl (cI, 16, .inl mna)), (amf, .inl (cI, 4, .inl mmb)), (amg, .inl (cJ, 4, .inr (.inl msh))), (amp, .inl (cJ, 9, .inr (.inl mpa))), (amo, .inl (cJ, 3, .inr (.inl mgo)))]) rfl rfl rfl rfl hl.1 rfl (Nat.le_of_ble_eq_true rfl) dX7_has_2 (fun H locs w => ?_)
  refine lv_if_ne (tgt := 12) hx hb dX7_has_5 (by decide) (fun c5_1 => ?_) (fun c5_1 => ?_)
  · have hr := (if_neg c5_1).symm.trans hr
    refine lv_iload_n hx hb dX7_has_12 rfl (lv_at hl 2 rfl) ?_
    refine lv_iconst (v := 0) hx hb dX7_has_13 (by decide) ?_
    refine lv_iconst (v := 3) hx hb dX7_has_14 (by decide) ?_
    refine fr_callIS (As := [.int q2, .int 0, .int 3]) (rest := []) C w kf_X7_within mw_5_18 (c_X7_within l D cI cJ q2 0 3) ⟨Nat.le_of_ble_eq_true rfl, Nat.le_of_ble_eq_true rfl⟩ ⟨Nat.le_refl 0, Nat.le_refl 0⟩ [] rfl rfl rfl (ws' := [(am, .inr (7, [.int mpl, .ref ama, .int msc, .int mtc, .ref amb, .ref amc, .ref amd, .int msr, .int mal, .int mns, .int mnn, .int mnt, .int mfi, .int mnw, .ref ame, .int mmy, .ref amf, .long mbe, .ref amg, .long mmf, .ref amp, .ref amo, .int mbs, .int mco, .long mh])), (ama, .inl (cI, 47, .inl mpg)), (amb, .inl (cI, 16, .inl mam)), (amc, .inl (cI, 4, .inl mwa)), (amd, .inl (cI, 4, .inl mww)), (ame, .inl (cI, 16, .inl mna)), (amf, .inl (cI, 4, .inl mmb)), (amg, .inl (cJ, 4, .inr (.inl msh))), (amp, .inl (cJ, 9, .inr (.inl mpa))), (amo, .inl (cJ, 3, .inr (.inl mgo)))]) rfl rfl hl.1 rfl (Nat.le_of_ble_eq_true rfl) dX7_has_15 (fun H locs w => ?_)
    refine lv_if_eq (tgt := 30) hx hb dX7_has_18 (by decide) (fun c18_2 => ?_) (fun c18_2 => ?_)
    · have hr := (if_pos c18_2).symm.trans hr
      refine lv_ldc2 hx hb C.2.2.2.1 (C.2.2.2.2.1 _ mw_5_15) dX7_has_30 ?_
      subst hr hQ
      exact fr_lret C hret hlk w rfl rfl dX7_has_33
    · have hr := (if_neg c18_2).symm.trans hr
      refine lv_aload_n hx hb dX7_has_21 rfl (lv_at hl 0 rfl) ?_
      refine lv_iload_n hx hb dX7_has_22 rfl (lv_at hl 1 rfl) ?_
      refine lv_iload_n hx hb dX7_has_23 rfl (lv_at hl 2 rfl) ?_
      refine fr_callLV (As := [.int q1, .int q2]) (rest := []) C w kf_X7_hasNow mw_14_20 (c_X7_hasNow l D cI cJ am ama amb amc amd ame amf amg amp amo mpl msc mtc msr mal mns mnn mnt mfi mnw mmy mbe mmf mbs mco mh mpg mam mwa mww mna mmb msh mpa mgo q1 q2 (trc_L4 (by assumption) hms) hmt) ⟨Nat.le_of_ble_eq_true rfl, Nat.le_of_ble_eq_true rfl⟩ ⟨Nat.le_refl 0, Nat.le_refl 0⟩ [0, 1, 2, 3, 4, 5, 6, 7, 8, 9] rfl rfl rfl (ws' := [(am, .inr (7, [.int mpl, .ref ama, .int msc, .int mtc, .ref amb, .ref amc, .ref amd, .int msr, .int mal, .int mns, .int mnn, .int mnt, .int mfi, .int mnw, .ref ame, .int mmy, .ref amf, .long mbe, .ref amg, .long mmf, .ref amp, .ref amo, .int mbs, .int mco, .long mh])), (ama, .inl (cI, 47, .inl mpg)), (amb, .inl (cI, 16, .inl mam)), (amc, .inl (cI, 4, .inl mwa)), (amd, .inl (cI, 4, .inl mww)), (ame, .inl (cI, 16, .inl mna)), (amf, .inl (cI, 4, .inl mmb)), (amg, .inl (cJ, 4, .inr (.inl msh))), (amp, .inl (cJ, 9, .inr (.inl mpa))), (amo, .inl (cJ, 3, .inr (.inl mgo)))]) rfl rfl rfl rfl hl.1 rfl (Nat.le_of_ble_eq_true rfl) dX7_has_24 (fun H locs w => ?_)
      refine lv_goto (tgt := 33) hx hb dX7_has_27 (by decide) ?_
      subst hr hQ
      exact fr_lret C hret hlk w rfl rfl dX7_has_33
  · have hr := (if_pos c5_1).symm.trans hr
    refine lv_ldc2 hx hb C.2.2.2.1 (C.2.2.2.2.1 _ mw_12_8) dX7_has_8 ?_
    subst hr hQ
    exact fr_lret C hret hlk w rfl rfl dX7_has_11
def f_X7_tracer (mtc : Int32) (mwa : Nat → Int32) (mww : Nat → Int32) (q1 : Int32) (q2 : Int32) : Int64 := (if (f_X7_isTracer mtc q1) = 0 then (-1000002) else (if q2 = 0 then (Int32.toInt64 (mwa (Int32.toNatClampNeg q1))) else (if q2 = 1 then (Int32.toInt64 (mww (Int32.toNatClampNeg q1))) else (-1000003))))
set_option maxRecDepth 100000 in
set_option maxHeartbeats 4000000 in
theorem c_X7_tracer (l : Launch) (D : va_G) (cI cJ : ClassId) (am ama amb amc amd ame amf amg amp amo : Nat) (mpl : Int32) (msc : Int32) (mtc : Int32) (msr : Int32) (mal : Int32) (mns : Int32) (mnn : Int32) (mnt : Int32) (mfi : Int32) (mnw : Int32) (mmy : Int32) (mbe : Int64) (mmf : Int64) (mbs : Int32) (mco : Int32) (mh : Int64) (mpg : Nat → Int32) (mam : Nat → Int32) (mwa : Nat → Int32) (mww : Nat → Int32) (mna : Nat → Int32) (mmb : Nat → Int32) (msh : Nat → Int64) (mpa : Nat → Int64) (mgo : Nat → Int64) (q1 : Int32) (q2 : Int32) (hmt : LE4 mtc) : CL l yX7_tracer cX7_tracer 3 2 D cI cJ [.ref am, .int q1, .int q2] [(am, .inr (7, [.int mpl, .ref ama, .int msc, .int mtc, .ref amb, .ref amc, .ref amd, .int msr, .int mal, .int mns, .int mnn, .int mnt, .int mfi, .int mnw, .ref ame, .int mmy, .ref amf, .long mbe, .ref amg, .long mmf, .ref amp, .ref amo, .int mbs, .int mco, .long mh])), (ama, .inl (cI, 47, .inl mpg)), (amb, .inl (cI, 16, .inl mam)), (amc, .inl (cI, 4, .inl mwa)), (amd, .inl (cI, 4, .inl mww)), (ame, .inl (cI, 16, .inl mna)), (amf, .inl (cI, 4, .inl mmb)), (amg, .inl (cJ, 4, .inr (.inl msh))), (amp, .inl (cJ, 9, .inr (.inl mpa))), (amo, .inl (cJ, 3, .inr (.inl mgo)))] [(am, .inr (7, [.int mpl, .ref ama, .int msc, .int mtc, .ref amb, .ref amc, .ref amd, .int msr, .int mal, .int mns, .int mnn, .int mnt, .int mfi, .int mnw, .ref ame, .int mmy, .ref amf, .long mbe, .ref amg, .long mmf, .ref amp, .ref amo, .int mbs, .int mco, .long mh])), (ama, .inl (cI, 47, .inl mpg)), (amb, .inl (cI, 16, .inl mam)), (amc, .inl (cI, 4, .inl mwa)), (amd, .inl (cI, 4, .inl mww)), (ame, .inl (cI, 16, .inl mna)), (amf, .inl (cI, 4, .inl mmb)), (amg, .inl (cJ, 4, .inr (.inl msh))), (amp, .inl (cJ, 9, .inr (.inl mpa))), (amo, .inl (cJ, 3, .inr (.inl mgo)))] (f_X7_tracer mtc mwa mww q1 q2) := by
  generalize hr : f_X7_tracer mtc mwa mww q1 q2 = r
  refine fr_entryL (by decide) rfl ?_
  intro p e s m args below meth c A Q H locs hQ C hret hlk w ls hl
  have hx := C.1
  have hb := C.2.1
  have hl : lv_has ls 3 [(0, .ref am), (1, .int q1), (2, .int q2)] := hl
  have hr : (if (f_X7_isTracer mtc q1) = 0 then (-1000002) else (if q2 = 0 then (Int32.toInt64 (mwa (Int32.toNatClampNeg q1))) else (if q2 = 1 then (Int32.toInt64 (mww (Int32.toNatClampNeg q1))) else (-1000003)))) = r := hr
  refine lv_aload_n hx hb dX7_tracer_0 rfl (lv_at hl 0 rfl) ?_
  refine lv_iload_n hx hb dX7_tracer_1 rfl (lv_at hl 1 rfl) ?_
  refine fr_callIV (As := [.int q1]) (rest := []) C w kf_X7_isTracer mw_12_10 (c_X7_isTracer l D cI cJ am ama amb amc amd ame amf amg amp amo mpl msc mtc msr mal mns mnn mnt mfi mnw mmy mbe mmf mbs mco mh mpg mam mwa mww mna mmb msh mpa mgo q1) ⟨Nat.le_of_ble_eq_true rfl, Nat.le_of_ble_eq_true rfl⟩ ⟨Nat.le_refl 0, Nat.le_refl 0⟩ [0, 1, 2, 3, 4, 5, 6, 7, 8, 9] rfl rfl rfl (ws' := [(am, .inr (7, [.int mpl, .ref ama, .int msc, .int mtc, .ref amb, .ref amc, .ref amd, .int msr, .int mal, .int mns, .int mnn, .int mnt, .int mfi, .int mnw, .ref ame, .int mmy, .ref amf, .long mbe, .ref amg, .long mmf, .ref amp, .ref amo, .int mbs, .int mco, .long mh])), (ama, .inl (cI, 47, .inl mpg)), (amb, .inl (cI, 16, .inl mam)), (amc, .inl (cI, 4, .inl mwa)), (amd, .inl (cI, 4, .inl mww)), (ame, .inl (cI, 16, .inl mna)), (amf, .inl (cI, 4, .inl mmb)), (amg, .inl (cJ, 4, .inr (.inl msh))), (amp, .inl (cJ, 9, .inr (.inl mpa))), (amo, .inl (cJ, 3, .inr (.inl mgo)))]) rfl rfl rfl rfl hl.1 rfl (Nat.le_of_ble_eq_true rfl) dX7_tracer_2 (fun H locs w => ?_)
  refine lv_if_ne (tgt := 12) hx hb dX7_tracer_5 (by decide) (fun c5_1 => ?_) (fun c5_1 => ?_)
  · have hr := (if_neg c5_1).symm.trans hr
    refine lv_iload_n hx hb dX7_tracer_12 rfl (lv_at hl 2 rfl) ?_
    refine lv_if_ne (tgt := 26) hx hb dX7_tracer_13 (by decide) (fun c13_2 => ?_) (fun c13_2 => ?_)
    · have hr := (if_neg c13_2).symm.trans hr
      refine lv_iload_n hx hb dX7_tracer_26 rfl (lv_at hl 2 rfl) ?_
      refine lv_iconst (v := 1) hx hb dX7_tracer_27 (by decide) ?_
      refine lv_icmp_ne (tgt := 41) hx hb dX7_tracer_28 (by decide) (fun c28_3 => ?_) (fun c28_3 => ?_)
      · have hr := (if_neg c28_3).symm.trans hr
        refine lv_ldc2 hx hb C.2.2.2.1 (C.2.2.2.2.1 _ mw_5_15) dX7_tracer_41 ?_
        subst hr hQ
        exact fr_lret C hret hlk w rfl rfl dX7_tracer_44
      · have hr := (if_pos c28_3).symm.trans hr
        refine lv_aload_n hx hb dX7_tracer_31 rfl (lv_at hl 0 rfl) ?_
        refine fr_get C w fg_X7_19 0 rfl rfl dX7_tracer_32 ?_
        refine lv_iload_n hx hb dX7_tracer_35 rfl (lv_at hl 1 rfl) ?_
        refine fr_iald C w 4 rfl (trc_L4 (by assumption) hmt).vi dX7_tracer_36 ?_
        refine lv_i2l (v := (Int32.toInt64 (mww (Int32.toNatClampNeg q1)))) hx hb dX7_tracer_37 rfl ?_
        refine lv_goto (tgt := 44) hx hb dX7_tracer_38 (by decide) ?_
        subst hr hQ
        exact fr_lret C hret hlk w rfl rfl dX7_tracer_44
    · have hr := (if_pos c13_2).symm.trans hr
      refine lv_aload_n hx hb dX7_tracer_16 rfl (lv_at hl 0 rfl) ?_
      refine fr_get C w fg_X7_16 0 rfl rfl dX7_tracer_17 ?_
      refine lv_iload_n hx hb dX7_tracer_20 rfl (lv_at hl 1 rfl) ?_
      refine fr_iald C w 3 rfl (trc_L4 (by assumption) hmt).vi dX7_tracer_21 ?_
      refine lv_i2l (v := (Int32.toInt64 (mwa (Int32.toNatClampNeg q1)))) hx hb dX7_tracer_22 rfl ?_
      refine lv_goto (tgt := 44) hx hb dX7_tracer_23 (by decide) ?_
      subst hr hQ
      exact fr_lret C hret hlk w rfl rfl dX7_tracer_44
  · have hr := (if_pos c5_1).symm.trans hr
    refine lv_ldc2 hx hb C.2.2.2.1 (C.2.2.2.2.1 _ mw_12_8) dX7_tracer_8 ?_
    subst hr hQ
    exact fr_lret C hret hlk w rfl rfl dX7_tracer_11
def f_X7_isUsed (mtc : Int32) (q1 : Int32) : Int32 := (f_X7_within q1 1 ((1 <<< (mtc &&& 31)) - 1))
set_option maxRecDepth 100000 in
set_option maxHeartbeats 4000000 in
theorem c_X7_isUsed (l : Launch) (D : va_G) (cI cJ : ClassId) (am ama amb amc amd ame amf amg amp amo : Nat) (mpl : Int32) (msc : Int32) (mtc : Int32) (msr : Int32) (mal : Int32) (mns : Int32) (mnn : Int32) (mnt : Int32) (mfi : Int32) (mnw : Int32) (mmy : Int32) (mbe : Int64) (mmf : Int64) (mbs : Int32) (mco : Int32) (mh : Int64) (mpg : Nat → Int32) (mam : Nat → Int32) (mwa : Nat → Int32) (mww : Nat → Int32) (mna : Nat → Int32) (mmb : Nat → Int32) (msh : Nat → Int64) (mpa : Nat → Int64) (mgo : Nat → Int64) (q1 : Int32) : CI l yX7_isUsed cX7_isUsed 2 .boolean 1 D cI cJ [.ref am, .int q1] [(am, .inr (7, [.int mpl, .ref ama, .int msc, .int mtc, .ref amb, .ref amc, .ref amd, .int msr, .int mal, .int mns, .int mnn, .int mnt, .int mfi, .int mnw, .ref ame, .int mmy, .ref amf, .long mbe, .ref amg, .long mmf, .ref amp, .ref amo, .int mbs, .int mco, .long mh])), (ama, .inl (cI, 47, .inl mpg)), (amb, .inl (cI, 16, .inl mam)), (amc, .inl (cI, 4, .inl mwa)), (amd, .inl (cI, 4, .inl mww)), (ame, .inl (cI, 16, .inl mna)), (amf, .inl (cI, 4, .inl mmb)), (amg, .inl (cJ, 4, .inr (.inl msh))), (amp, .inl (cJ, 9, .inr (.inl mpa))), (amo, .inl (cJ, 3, .inr (.inl mgo)))] [(am, .inr (7, [.int mpl, .ref ama, .int msc, .int mtc, .ref amb, .ref amc, .ref amd, .int msr, .int mal, .int mns, .int mnn, .int mnt, .int mfi, .int mnw, .ref ame, .int mmy, .ref amf, .long mbe, .ref amg, .long mmf, .ref amp, .ref amo, .int mbs, .int mco, .long mh])), (ama, .inl (cI, 47, .inl mpg)), (amb, .inl (cI, 16, .inl mam)), (amc, .inl (cI, 4, .inl mwa)), (amd, .inl (cI, 4, .inl mww)), (ame, .inl (cI, 16, .inl mna)), (amf, .inl (cI, 4, .inl mmb)), (amg, .inl (cJ, 4, .inr (.inl msh))), (amp, .inl (cJ, 9, .inr (.inl mpa))), (amo, .inl (cJ, 3, .inr (.inl mgo)))] (f_X7_isUsed mtc q1) := by
  generalize hr : f_X7_isUsed mtc q1 = r
  refine fr_entryI (by decide) rfl ?_
  intro p e s m args below meth c A Q H locs hQ C hret hlk w ls hl
  have hx := C.1
  have hb := C.2.1
  have hl : lv_has ls 2 [(0, .ref am), (1, .int q1)] := hl
  have hr : (f_X7_within q1 1 ((1 <<< (mtc &&& 31)) - 1)) = r := hr
  refine lv_iload_n hx hb dX7_isUsed_0 rfl (lv_at hl 1 rfl) ?_
  refine lv_iconst (v := 1) hx hb dX7_isUsed_1 (by decide) ?_
  refine lv_iconst (v := 1) hx hb dX7_isUsed_2 (by decide) ?_
  refine lv_aload_n hx hb dX7_isUsed_3 rfl (lv_at hl 0 rfl) ?_
  refine fr_get C w fg_X7_81 0 rfl rfl dX7_isUsed_4 ?_
  refine lv_ishl hx hb dX7_isUsed_7 ?_
  refine lv_iconst (v := 1) hx hb dX7_isUsed_8 (by decide) ?_
  refine lv_isub hx hb dX7_isUsed_9 ?_
  refine fr_callIS (As := [.int q1, .int 1, .int ((1 <<< (mtc &&& 31)) - 1)]) (rest := []) C w kf_X7_within mw_5_18 (c_X7_within l D cI cJ q1 1 ((1 <<< (mtc &&& 31)) - 1)) ⟨Nat.le_of_ble_eq_true rfl, Nat.le_of_ble_eq_true rfl⟩ ⟨Nat.le_refl 0, Nat.le_refl 0⟩ [] rfl rfl rfl (ws' := [(am, .inr (7, [.int mpl, .ref ama, .int msc, .int mtc, .ref amb, .ref amc, .ref amd, .int msr, .int mal, .int mns, .int mnn, .int mnt, .int mfi, .int mnw, .ref ame, .int mmy, .ref amf, .long mbe, .ref amg, .long mmf, .ref amp, .ref amo, .int mbs, .int mco, .long mh])), (ama, .inl (cI, 47, .inl mpg)), (amb, .inl (cI, 16, .inl mam)), (amc, .inl (cI, 4, .inl mwa)), (amd, .inl (cI, 4, .inl mww)), (ame, .inl (cI, 16, .inl mna)), (amf, .inl (cI, 4, .inl mmb)), (amg, .inl (cJ, 4, .inr (.inl msh))), (amp, .inl (cJ, 9, .inr (.inl mpa))), (amo, .inl (cJ, 3, .inr (.inl mgo)))]) rfl rfl hl.1 rfl (Nat.le_of_ble_eq_true rfl) dX7_isUsed_10 (fun H locs w => ?_)
  subst hr hQ
  exact fr_iret (W0 := []) C hret hlk w (nb_of (b_X7_within q1 1 ((1 <<< (mtc &&& 31)) - 1))) rfl rfl dX7_isUsed_13
theorem b_X7_isUsed (mtc : Int32) (q1 : Int32) : (f_X7_isUsed mtc q1) = 0 ∨ (f_X7_isUsed mtc q1) = 1 := by
  unfold f_X7_isUsed
  try dsimp only
  repeat (first | exact Or.inl rfl | exact Or.inr rfl | exact b_X7_within _ _ _ | split)
def L_X7_areAlike_6 (mtc : Int32) (mam : Nat → Int32) (q1 : Int32) (q2 : Int32) (us : Int32) : Nat → Int32 → Int32 → Int32 × Int32
  | 0, _, _ => (0, 0)
  | n6 + 1, i1, i2 => (if mtc ≤ i2 then (i1, i2) else ((fun (v7 : Int32) => L_X7_areAlike_6 mtc mam q1 q2 us n6 v7 (i2 + 1)) (if i1 = 0 then 0 else (if (f_X7_hasBit us i2) = 0 then 1 else (if (mam (Int32.toNatClampNeg ((4 * q1) + i2))) = (mam (Int32.toNatClampNeg ((4 * q2) + i2))) then 1 else 0)))))
def f_X7_areAlike (mtc : Int32) (mam : Nat → Int32) (q1 : Int32) (q2 : Int32) (us : Int32) : Int32 := ((fun (y6 : Int32 × Int32) => y6.1) (L_X7_areAlike_6 mtc mam q1 q2 us 5 1 0))
theorem alL_b {mtc : Int32} {mam : Nat → Int32} {q1 q2 us : Int32} : ∀ (n : Nat) (v i : Int32), (v = 0 ∨ v = 1) → (L_X7_areAlike_6 mtc mam q1 q2 us n v i).1 = 0 ∨ (L_X7_areAlike_6 mtc mam q1 q2 us n v i).1 = 1 := by
  intro n
  induction n with
  | zero => intro v i h; exact Or.inl rfl
  | succ n ih =>
    intro v i h
    rw [L_X7_areAlike_6]
    split
    · exact h
    · dsimp only
      apply ih
      repeat (first | exact Or.inl rfl | exact Or.inr rfl | split)
set_option maxRecDepth 100000 in
set_option maxHeartbeats 4000000 in
theorem c_X7_areAlike (l : Launch) (D : va_G) (cI cJ : ClassId) (am ama amb amc amd ame amf amg amp amo : Nat) (mpl : Int32) (msc : Int32) (mtc : Int32) (msr : Int32) (mal : Int32) (mns : Int32) (mnn : Int32) (mnt : Int32) (mfi : Int32) (mnw : Int32) (mmy : Int32) (mbe : Int64) (mmf : Int64) (mbs : Int32) (mco : Int32) (mh : Int64) (mpg : Nat → Int32) (mam : Nat → Int32) (mwa : Nat → Int32) (mww : Nat → Int32) (mna : Nat → Int32) (mmb : Nat → Int32) (msh : Nat → Int64) (mpa : Nat → Int64) (mgo : Nat → Int64) (q1 : Int32) (q2 : Int32) (us : Int32) (hq1 : L4 q1) (hq2 : L4 q2) (hmt : LE4 mtc) : CI l yX7_areAlike cX7_areAlike 6 .boolean 1 D cI cJ [.ref am, .int q1, .int q2, .int us] [(am, .inr (7, [.int mpl, .ref ama, .int msc, .int mtc, .ref amb, .ref amc, .ref amd, .int msr, .int mal, .int mns, .int mnn, .int mnt, .int mfi, .int mnw, .ref ame, .int mmy, .ref amf, .long mbe, .ref amg, .long mmf, .ref amp, .ref amo, .int mbs, .int mco, .long mh])), (ama, .inl (cI, 47, .inl mpg)), (amb, .inl (cI, 16, .inl mam)), (amc, .inl (cI, 4, .inl mwa)), (amd, .inl (cI, 4, .inl mww)), (ame, .inl (cI, 16, .inl mna)), (amf, .inl (cI, 4, .inl mmb)), (amg, .inl (cJ, 4, .inr (.inl msh))), (amp, .inl (cJ, 9, .inr (.inl mpa))), (amo, .inl (cJ, 3, .inr (.inl mgo)))] [(am, .inr (7, [.int mpl, .ref ama, .int msc, .int mtc, .ref amb, .ref amc, .ref amd, .int msr, .int mal, .int mns, .int mnn, .int mnt, .int mfi, .int mnw, .ref ame, .int mmy, .ref amf, .long mbe, .ref amg, .long mmf, .ref amp, .ref amo, .int mbs, .int mco, .long mh])), (ama, .inl (cI, 47, .inl mpg)), (amb, .inl (cI, 16, .inl mam)), (amc, .inl (cI, 4, .inl mwa)), (amd, .inl (cI, 4, .inl mww)), (ame, .inl (cI, 16, .inl mna)), (amf, .inl (cI, 4, .inl mmb)), (amg, .inl (cJ, 4, .inr (.inl msh))), (amp, .inl (cJ, 9, .inr (.inl mpa))), (amo, .inl (cJ, 3, .inr (.inl mgo)))] (f_X7_areAlike mtc mam q1 q2 us) := by
  generalize hr : f_X7_areAlike mtc mam q1 q2 us = r
  obtain ⟨nmt, hmt1, hmt2⟩ := id hmt
  refine fr_entryI (by decide) rfl ?_
  intro p e s m args below meth c A Q H locs hQ C hret hlk w ls hl
  have hx := C.1
  have hb := C.2.1
  have hl : lv_has ls 6 [(0, .ref am), (1, .int q1), (2, .int q2), (3, .int us)] := hl
  have hr : ((fun (y6 : Int32 × Int32) => y6.1) (L_X7_areAlike_6 mtc mam q1 q2 us 5 1 0)) = r := hr
  refine lv_iconst (v := 1) hx hb dX7_areAlike_0 (by decide) ?_
  refine lv_istore (lv' := [(4, .int 1), (0, .ref am), (1, .int q1), (2, .int q2), (3, .int us)]) hx hb dX7_areAlike_1 hl (by decide) rfl (fun ls hl => ?_)
  refine lv_iconst (v := 0) hx hb dX7_areAlike_3 (by decide) ?_
  refine lv_istore (lv' := [(5, .int 0), (4, .int 1), (0, .ref am), (1, .int q1), (2, .int q2), (3, .int us)]) hx hb dX7_areAlike_4 hl (by decide) rfl (fun ls hl => ?_)
  obtain ⟨y6, hy6⟩ : ∃ y, y = L_X7_areAlike_6 mtc mam q1 q2 us 5 1 0 := ⟨_, rfl⟩
  have hr : y6.1 = r := by rw [hy6]; exact hr
  have X6 : ∀ (H : Heap) (locs : List Loc), Wd D A s.heap H locs [(am, .inr (7, [.int mpl, .ref ama, .int msc, .int mtc, .ref amb, .ref amc, .ref amd, .int msr, .int mal, .int mns, .int mnn, .int mnt, .int mfi, .int mnw, .ref ame, .int mmy, .ref amf, .long mbe, .ref amg, .long mmf, .ref amp, .ref amo, .int mbs, .int mco, .long mh])), (ama, .inl (cI, 47, .inl mpg)), (amb, .inl (cI, 16, .inl mam)), (amc, .inl (cI, 4, .inl mwa)), (amd, .inl (cI, 4, .inl mww)), (ame, .inl (cI, 16, .inl mna)), (amf, .inl (cI, 4, .inl mmb)), (amg, .inl (cJ, 4, .inr (.inl msh))), (amp, .inl (cJ, 9, .inr (.inl mpa))), (amo, .inl (cJ, 3, .inr (.inl mgo)))] → ∀ (ls : Array Slot), lv_has ls 6 [(0, .ref am), (1, .int q1), (2, .int q2), (3, .int us), (4, .int y6.1), (5, .int y6.2)] → W p l e (rl 1) s m args below meth c H locs 0 0 Q (F0 m 67 ls []) := by
    intro H locs w ls hl
    refine lv_iload hx hb dX7_areAlike_67 (lv_at hl 4 rfl) ?_
    subst hr hQ
    exact fr_iret (W0 := []) C hret hlk w (nb_of (by rw [hy6]; exact alL_b _ _ _ (Or.inr rfl))) rfl rfl dX7_areAlike_69
  have LP6 : ∀ (n6 : Nat) (k6 : Nat) (i1 : Int32) (i2 : Int32), i2 = nI k6 → k6 ≤ nmt → nmt < k6 + n6 → L_X7_areAlike_6 mtc mam q1 q2 us n6 i1 i2 = y6 → ∀ (H : Heap) (locs : List Loc), Wd D A s.heap H locs [(am, .inr (7, [.int mpl, .ref ama, .int msc, .int mtc, .ref amb, .ref amc, .ref amd, .int msr, .int mal, .int mns, .int mnn, .int mnt, .int mfi, .int mnw, .ref ame, .int mmy, .ref amf, .long mbe, .ref amg, .long mmf, .ref amp, .ref amo, .int mbs, .int mco, .long mh])), (ama, .inl (cI, 47, .inl mpg)), (amb, .inl (cI, 16, .inl mam)), (amc, .inl (cI, 4, .inl mwa)), (amd, .inl (cI, 4, .inl mww)), (ame, .inl (cI, 16, .inl mna)), (amf, .inl (cI, 4, .inl mmb)), (amg, .inl (cJ, 4, .inr (.inl msh))), (amp, .inl (cJ, 9, .inr (.inl mpa))), (amo, .inl (cJ, 3, .inr (.inl mgo)))] → ∀ (ls : Array Slot), lv_has ls 6 [(0, .ref am), (1, .int q1), (2, .int q2), (3, .int us), (4, .int i1), (5, .int i2)] → W p l e (rl 1) s m args below meth c H locs 0 0 Q (F0 m 6 ls []) := by
    clear hr
    intro n6
    induction n6 with
    | zero => intro k6 i1 i2 hk6 hkN6 hn6; exact absurd hn6 (by omega)
    | succ n6 ih6 =>
      intro k6 i1 i2 hk6 hkN6 hn6 hr H locs w ls hl
      have hr : (if mtc ≤ i2 then (i1, i2) else ((fun (v7 : Int32) => L_X7_areAlike_6 mtc mam q1 q2 us n6 v7 (i2 + 1)) (if i1 = 0 then 0 else (if (f_X7_hasBit us i2) = 0 then 1 else (if (mam (Int32.toNatClampNeg ((4 * q1) + i2))) = (mam (Int32.toNatClampNeg ((4 * q2) + i2))) then 1 else 0))))) = y6 := hr
      refine lv_iload hx hb dX7_areAlike_6 (lv_at hl 5 rfl) ?_
      refine lv_aload_n hx hb dX7_areAlike_8 rfl (lv_at hl 0 rfl) ?_
      refine fr_get C w fg_X7_81 0 rfl rfl dX7_areAlike_9 ?_
      refine lv_icmp_ge (tgt := 67) hx hb dX7_areAlike_12 (by decide) (fun c12_3 => ?_) (fun c12_3 => ?_)
      · have hr := (if_pos c12_3).symm.trans hr
        subst hr
        exact X6 H locs w ls (lv_sub hl [0, 1, 2, 3, 4, 5] rfl)
      · have hr := (if_neg c12_3).symm.trans hr
        have hkl6 := kl_of hk6 hkN6 (N := nmt) hmt2 (by omega) c12_3
        refine lv_iload hx hb dX7_areAlike_15 (lv_at hl 4 rfl) ?_
        have J59_8 : ∀ (v7 : Int32), v7 = (if i1 = 0 then 0 else (if (f_X7_hasBit us i2) = 0 then 1 else (if (mam (Int32.toNatClampNeg ((4 * q1) + i2))) = (mam (Int32.toNatClampNeg ((4 * q2) + i2))) then 1 else 0))) → ∀ (H : Heap) (locs : List Loc), Wd D A s.heap H locs [(am, .inr (7, [.int mpl, .ref ama, .int msc, .int mtc, .ref amb, .ref amc, .ref amd, .int msr, .int mal, .int mns, .int mnn, .int mnt, .int mfi, .int mnw, .ref ame, .int mmy, .ref amf, .long mbe, .ref amg, .long mmf, .ref amp, .ref amo, .int mbs, .int mco, .long mh])), (ama, .inl (cI, 47, .inl mpg)), (amb, .inl (cI, 16, .inl mam)), (amc, .inl (cI, 4, .inl mwa)), (amd, .inl (cI, 4, .inl mww)), (ame, .inl (cI, 16, .inl mna)), (amf, .inl (cI, 4, .inl mmb)), (amg, .inl (cJ, 4, .inr (.inl msh))), (amp, .inl (cJ, 9, .inr (.inl mpa))), (amo, .inl (cJ, 3, .inr (.inl mgo)))] → W p l e (rl 1) s m args below meth c H locs 0 0 Q (F0 m 59 ls [.int v7]) := by
          intro v7 ev7 H locs w
          have hr : L_X7_areAlike_6 mtc mam q1 q2 us n6 v7 (i2 + 1) = y6 := by subst ev7; exact hr
          refine lv_istore (lv' := [(4, .int v7), (0, .ref am), (1, .int q1), (2, .int q2), (3, .int us), (5, .int i2)]) hx hb dX7_areAlike_59 hl (by decide) rfl (fun ls hl => ?_)
          refine lv_iinc (v := i2 + 1) (lv' := [(5, .int (i2 + 1)), (4, .int v7), (0, .ref am), (1, .int q1), (2, .int q2), (3, .int us)]) hx hb dX7_areAlike_61 hl (k := 5) rfl rfl (by decide) rfl (fun ls hl => ?_)
          refine lv_goto (tgt := 6) hx hb dX7_areAlike_64 (by decide) ?_
          exact ih6 (k6 + 1) v7 (i2 + 1) (by rw [hk6]; exact nI_1 k6) (by omega) (by omega) hr H locs w ls (lv_sub hl [2, 3, 4, 5, 1, 0] rfl)
        refine lv_if_eq (tgt := 58) hx hb dX7_areAlike_17 (by decide) (fun c17_4 => ?_) (fun c17_4 => ?_)
        · refine lv_iconst (v := 0) hx hb dX7_areAlike_58 (by decide) ?_
          exact J59_8 0 (by rw [if_pos c17_4]) _ _ w
        · refine lv_iload_n hx hb dX7_areAlike_20 rfl (lv_at hl 3 rfl) ?_
          refine lv_iload hx hb dX7_areAlike_21 (lv_at hl 5 rfl) ?_
          refine fr_callIS (As := [.int us, .int i2]) (rest := []) C w kf_X7_hasBit mw_16_23 (c_X7_hasBit l D cI cJ us i2) ⟨Nat.le_of_ble_eq_true rfl, Nat.le_of_ble_eq_true rfl⟩ ⟨Nat.le_refl 0, Nat.le_refl 0⟩ [] rfl rfl rfl (ws' := [(am, .inr (7, [.int mpl, .ref ama, .int msc, .int mtc, .ref amb, .ref amc, .ref amd, .int msr, .int mal, .int mns, .int mnn, .int mnt, .int mfi, .int mnw, .ref ame, .int mmy, .ref amf, .long mbe, .ref amg, .long mmf, .ref amp, .ref amo, .int mbs, .int mco, .long mh])), (ama, .inl (cI, 47, .inl mpg)), (amb, .inl (cI, 16, .inl mam)), (amc, .inl (cI, 4, .inl mwa)), (amd, .inl (cI, 4, .inl mww)), (ame, .inl (cI, 16, .inl mna)), (amf, .inl (cI, 4, .inl mmb)), (amg, .inl (cJ, 4, .inr (.inl msh))), (amp, .inl (cJ, 9, .inr (.inl mpa))), (amo, .inl (cJ, 3, .inr (.inl mgo)))]) rfl rfl hl.1 rfl (Nat.le_of_ble_eq_true rfl) dX7_areAlike_23 (fun H locs w => ?_)
          refine lv_if_eq (tgt := 54) hx hb dX7_areAlike_26 (by decide) (fun c26_5 => ?_) (fun c26_5 => ?_)
          · refine lv_iconst (v := 1) hx hb dX7_areAlike_54 (by decide) ?_
            refine lv_goto (tgt := 59) hx hb dX7_areAlike_55 (by decide) ?_
            exact J59_8 1 (by rw [if_neg c17_4, if_pos c26_5]) _ _ w
          · refine lv_aload_n hx hb dX7_areAlike_29 rfl (lv_at hl 0 rfl) ?_
            refine fr_get C w fg_X7_13 0 rfl rfl dX7_areAlike_30 ?_
            refine lv_iconst (v := 4) hx hb dX7_areAlike_33 (by decide) ?_
            refine lv_iload_n hx hb dX7_areAlike_34 rfl (lv_at hl 1 rfl) ?_
            refine lv_imul hx hb dX7_areAlike_35 ?_
            refine lv_iload hx hb dX7_areAlike_36 (lv_at hl 5 rfl) ?_
            refine lv_iadd hx hb dX7_areAlike_38 ?_
            refine fr_iald C w 2 rfl (vi_4 hq1 ⟨k6, by omega, hk6⟩) dX7_areAlike_39 ?_
            refine lv_aload_n hx hb dX7_areAlike_40 rfl (lv_at hl 0 rfl) ?_
            refine fr_get C w fg_X7_13 0 rfl rfl dX7_areAlike_41 ?_
            refine lv_iconst (v := 4) hx hb dX7_areAlike_44 (by decide) ?_
            refine lv_iload_n hx hb dX7_areAlike_45 rfl (lv_at hl 2 rfl) ?_
            refine lv_imul hx hb dX7_areAlike_46 ?_
            refine lv_iload hx hb dX7_areAlike_47 (lv_at hl 5 rfl) ?_
            refine lv_iadd hx hb dX7_areAlike_49 ?_
            refine fr_iald C w 2 rfl (vi_4 hq2 ⟨k6, by omega, hk6⟩) dX7_areAlike_50 ?_
            refine lv_icmp_ne (tgt := 58) hx hb dX7_areAlike_51 (by decide) (fun c51_6 => ?_) (fun c51_6 => ?_)
            · refine lv_iconst (v := 0) hx hb dX7_areAlike_58 (by decide) ?_
              exact J59_8 0 (by rw [if_neg c17_4, if_neg c26_5, if_neg c51_6]) _ _ w
            · refine lv_iconst (v := 1) hx hb dX7_areAlike_54 (by decide) ?_
              refine lv_goto (tgt := 59) hx hb dX7_areAlike_55 (by decide) ?_
              exact J59_8 1 (by rw [if_neg c17_4, if_neg c26_5, if_pos c51_6]) _ _ w
  exact LP6 5 0 1 0 (by decide) (by omega) (by omega) hy6.symm H locs w ls (lv_sub hl [2, 3, 4, 5, 1, 0] rfl)
def L_X7_alikeOf_5 (mtc : Int32) (mam : Nat → Int32) (q1 : Int32) (us : Int32) : Nat → Int32 → Int32 → Int32 × Int32
  | 0, _, _ => (0, 0)
  | n5 + 1, i1, i2 => (if i2 < 0 then (i1, i2) else ((fun (v5 : Int32) => L_X7_alikeOf_5 mtc mam q1 us n5 v5 (i2 + (-1))) (if (f_X7_areAlike mtc mam i2 q1 us) = 0 then i1 else i2)))
def f_X7_alikeOf (mtc : Int32) (mam : Nat → Int32) (q1 : Int32) (us : Int32) : Int32 := ((fun (y5 : Int32 × Int32) => y5.1) (L_X7_alikeOf_5 mtc mam q1 us 5 q1 q1))
set_option maxRecDepth 100000 in
set_option maxHeartbeats 4000000 in
theorem c_X7_alikeOf (l : Launch) (D : va_G) (cI cJ : ClassId) (am ama amb amc amd ame amf amg amp amo : Nat) (mpl : Int32) (msc : Int32) (mtc : Int32) (msr : Int32) (mal : Int32) (mns : Int32) (mnn : Int32) (mnt : Int32) (mfi : Int32) (mnw : Int32) (mmy : Int32) (mbe : Int64) (mmf : Int64) (mbs : Int32) (mco : Int32) (mh : Int64) (mpg : Nat → Int32) (mam : Nat → Int32) (mwa : Nat → Int32) (mww : Nat → Int32) (mna : Nat → Int32) (mmb : Nat → Int32) (msh : Nat → Int64) (mpa : Nat → Int64) (mgo : Nat → Int64) (q1 : Int32) (us : Int32) (hq1 : L4 q1) (hmt : LE4 mtc) : CI l yX7_alikeOf cX7_alikeOf 5 .int 2 D cI cJ [.ref am, .int q1, .int us] [(am, .inr (7, [.int mpl, .ref ama, .int msc, .int mtc, .ref amb, .ref amc, .ref amd, .int msr, .int mal, .int mns, .int mnn, .int mnt, .int mfi, .int mnw, .ref ame, .int mmy, .ref amf, .long mbe, .ref amg, .long mmf, .ref amp, .ref amo, .int mbs, .int mco, .long mh])), (ama, .inl (cI, 47, .inl mpg)), (amb, .inl (cI, 16, .inl mam)), (amc, .inl (cI, 4, .inl mwa)), (amd, .inl (cI, 4, .inl mww)), (ame, .inl (cI, 16, .inl mna)), (amf, .inl (cI, 4, .inl mmb)), (amg, .inl (cJ, 4, .inr (.inl msh))), (amp, .inl (cJ, 9, .inr (.inl mpa))), (amo, .inl (cJ, 3, .inr (.inl mgo)))] [(am, .inr (7, [.int mpl, .ref ama, .int msc, .int mtc, .ref amb, .ref amc, .ref amd, .int msr, .int mal, .int mns, .int mnn, .int mnt, .int mfi, .int mnw, .ref ame, .int mmy, .ref amf, .long mbe, .ref amg, .long mmf, .ref amp, .ref amo, .int mbs, .int mco, .long mh])), (ama, .inl (cI, 47, .inl mpg)), (amb, .inl (cI, 16, .inl mam)), (amc, .inl (cI, 4, .inl mwa)), (amd, .inl (cI, 4, .inl mww)), (ame, .inl (cI, 16, .inl mna)), (amf, .inl (cI, 4, .inl mmb)), (amg, .inl (cJ, 4, .inr (.inl msh))), (amp, .inl (cJ, 9, .inr (.inl mpa))), (amo, .inl (cJ, 3, .inr (.inl mgo)))] (f_X7_alikeOf mtc mam q1 us) := by
  generalize hr : f_X7_alikeOf mtc mam q1 us = r
  refine fr_entryI (by decide) rfl ?_
  intro p e s m args below meth c A Q H locs hQ C hret hlk w ls hl
  have hx := C.1
  have hb := C.2.1
  have hl : lv_has ls 5 [(0, .ref am), (1, .int q1), (2, .int us)] := hl
  have hr : ((fun (y5 : Int32 × Int32) => y5.1) (L_X7_alikeOf_5 mtc mam q1 us 5 q1 q1)) = r := hr
  refine lv_iload_n hx hb dX7_alikeOf_0 rfl (lv_at hl 1 rfl) ?_
  refine lv_istore_n (lv' := [(3, .int q1), (0, .ref am), (1, .int q1), (2, .int us)]) hx hb dX7_alikeOf_1 rfl hl (by decide) rfl (fun ls hl => ?_)
  refine lv_iload_n hx hb dX7_alikeOf_2 rfl (lv_at hl 2 rfl) ?_
  refine lv_istore (lv' := [(4, .int q1), (3, .int q1), (0, .ref am), (1, .int q1), (2, .int us)]) hx hb dX7_alikeOf_3 hl (by decide) rfl (fun ls hl => ?_)
  obtain ⟨y5, hy5⟩ : ∃ y, y = L_X7_alikeOf_5 mtc mam q1 us 5 q1 q1 := ⟨_, rfl⟩
  have hr : y5.1 = r := by rw [hy5]; exact hr
  have X5 : ∀ (H : Heap) (locs : List Loc), Wd D A s.heap H locs [(am, .inr (7, [.int mpl, .ref ama, .int msc, .int mtc, .ref amb, .ref amc, .ref amd, .int msr, .int mal, .int mns, .int mnn, .int mnt, .int mfi, .int mnw, .ref ame, .int mmy, .ref amf, .long mbe, .ref amg, .long mmf, .ref amp, .ref amo, .int mbs, .int mco, .long mh])), (ama, .inl (cI, 47, .inl mpg)), (amb, .inl (cI, 16, .inl mam)), (amc, .inl (cI, 4, .inl mwa)), (amd, .inl (cI, 4, .inl mww)), (ame, .inl (cI, 16, .inl mna)), (amf, .inl (cI, 4, .inl mmb)), (amg, .inl (cJ, 4, .inr (.inl msh))), (amp, .inl (cJ, 9, .inr (.inl mpa))), (amo, .inl (cJ, 3, .inr (.inl mgo)))] → ∀ (ls : Array Slot), lv_has ls 5 [(0, .ref am), (1, .int q1), (2, .int us), (3, .int y5.1), (4, .int y5.2)] → W p l e (rl 2) s m args below meth c H locs 0 0 Q (F0 m 34 ls []) := by
    intro H locs w ls hl
    refine lv_iload_n hx hb dX7_alikeOf_34 rfl (lv_at hl 3 rfl) ?_
    subst hr hQ
    exact fr_iret (W0 := []) C hret hlk w rfl rfl rfl dX7_alikeOf_35
  have LP5 : ∀ (n5 : Nat) (i1 : Int32) (i2 : Int32), (∃ j : Nat, j < n5 ∧ j ≤ 4 ∧ i2 = nI j - 1) → L_X7_alikeOf_5 mtc mam q1 us n5 i1 i2 = y5 → ∀ (H : Heap) (locs : List Loc), Wd D A s.heap H locs [(am, .inr (7, [.int mpl, .ref ama, .int msc, .int mtc, .ref amb, .ref amc, .ref amd, .int msr, .int mal, .int mns, .int mnn, .int mnt, .int mfi, .int mnw, .ref ame, .int mmy, .ref amf, .long mbe, .ref amg, .long mmf, .ref amp, .ref amo, .int mbs, .int mco, .long mh])), (ama, .inl (cI, 47, .inl mpg)), (amb, .inl (cI, 16, .inl mam)), (amc, .inl (cI, 4, .inl mwa)), (amd, .inl (cI, 4, .inl mww)), (ame, .inl (cI, 16, .inl mna)), (amf, .inl (cI, 4, .inl mmb)), (amg, .inl (cJ, 4, .inr (.inl msh))), (amp, .inl (cJ, 9, .inr (.inl mpa))), (amo, .inl (cJ, 3, .inr (.inl mgo)))] → ∀ (ls : Array Slot), lv_has ls 5 [(0, .ref am), (1, .int q1), (2, .int us), (3, .int i1), (4, .int i2)] → W p l e (rl 2) s m args below meth c H locs 0 0 Q (F0 m 5 ls []) := by
    clear hr
    intro n5
    induction n5 with
    | zero => intro i1 i2 hm5; exact absurd hm5 (by intro ⟨j, h, _⟩; exact absurd h (Nat.not_lt_zero _))
    | succ n5 ih5 =>
      intro i1 i2 hm5 hr H locs w ls hl
      have hr : (if i2 < 0 then (i1, i2) else ((fun (v5 : Int32) => L_X7_alikeOf_5 mtc mam q1 us n5 v5 (i2 + (-1))) (if (f_X7_areAlike mtc mam i2 q1 us) = 0 then i1 else i2))) = y5 := hr
      obtain ⟨j5, hj5a, hj5b, hj5c⟩ := hm5
      refine lv_iload hx hb dX7_alikeOf_5 (lv_at hl 4 rfl) ?_
      refine lv_if_lt (tgt := 34) hx hb dX7_alikeOf_7 (by decide) (fun c7_3 => ?_) (fun c7_3 => ?_)
      · have hr := (if_pos c7_3).symm.trans hr
        subst hr
        exact X5 H locs w ls (lv_sub hl [0, 1, 2, 3, 4] rfl)
      · have hr := (if_neg c7_3).symm.trans hr
        obtain ⟨a5, ea5, es5, la5⟩ := dn_of hj5b hj5c c7_3
        refine lv_aload_n hx hb dX7_alikeOf_10 rfl (lv_at hl 0 rfl) ?_
        refine lv_iload hx hb dX7_alikeOf_11 (lv_at hl 4 rfl) ?_
        refine lv_iload_n hx hb dX7_alikeOf_13 rfl (lv_at hl 1 rfl) ?_
        refine lv_iload_n hx hb dX7_alikeOf_14 rfl (lv_at hl 2 rfl) ?_
        refine fr_callIV (As := [.int i2, .int q1, .int us]) (rest := []) C w kf_X7_areAlike mw_16_19 (c_X7_areAlike l D cI cJ am ama amb amc amd ame amf amg amp amo mpl msc mtc msr mal mns mnn mnt mfi mnw mmy mbe mmf mbs mco mh mpg mam mwa mww mna mmb msh mpa mgo i2 q1 us ⟨a5, la5, es5⟩ hq1 hmt) ⟨Nat.le_of_ble_eq_true rfl, Nat.le_of_ble_eq_true rfl⟩ ⟨Nat.le_refl 0, Nat.le_refl 0⟩ [0, 1, 2, 3, 4, 5, 6, 7, 8, 9] rfl rfl rfl (ws' := [(am, .inr (7, [.int mpl, .ref ama, .int msc, .int mtc, .ref amb, .ref amc, .ref amd, .int msr, .int mal, .int mns, .int mnn, .int mnt, .int mfi, .int mnw, .ref ame, .int mmy, .ref amf, .long mbe, .ref amg, .long mmf, .ref amp, .ref amo, .int mbs, .int mco, .long mh])), (ama, .inl (cI, 47, .inl mpg)), (amb, .inl (cI, 16, .inl mam)), (amc, .inl (cI, 4, .inl mwa)), (amd, .inl (cI, 4, .inl mww)), (ame, .inl (cI, 16, .inl mna)), (amf, .inl (cI, 4, .inl mmb)), (amg, .inl (cJ, 4, .inr (.inl msh))), (amp, .inl (cJ, 9, .inr (.inl mpa))), (amo, .inl (cJ, 3, .inr (.inl mgo)))]) rfl rfl rfl rfl hl.1 rfl (Nat.le_of_ble_eq_true rfl) dX7_alikeOf_15 (fun H locs w => ?_)
        have J27_6 : ∀ (v5 : Int32), v5 = (if (f_X7_areAlike mtc mam i2 q1 us) = 0 then i1 else i2) → W p l e (rl 2) s m args below meth c H locs 0 0 Q (F0 m 27 ls [.int v5]) := by
          intro v5 ev5
          have hr : L_X7_alikeOf_5 mtc mam q1 us n5 v5 (i2 + (-1)) = y5 := by subst ev5; exact hr
          refine lv_istore_n (lv' := [(3, .int v5), (0, .ref am), (1, .int q1), (2, .int us), (4, .int i2)]) hx hb dX7_alikeOf_27 rfl hl (by decide) rfl (fun ls hl => ?_)
          refine lv_iinc (v := i2 + (-1)) (lv' := [(4, .int (i2 + (-1))), (3, .int v5), (0, .ref am), (1, .int q1), (2, .int us)]) hx hb dX7_alikeOf_28 hl (k := 4) rfl rfl (by decide) rfl (fun ls hl => ?_)
          refine lv_goto (tgt := 5) hx hb dX7_alikeOf_31 (by decide) ?_
          exact ih5 v5 (i2 + (-1)) ⟨a5, by omega, by omega, by rw [es5]; exact dn_m a5⟩ hr H locs w ls (lv_sub hl [2, 3, 4, 1, 0] rfl)
        refine lv_if_eq (tgt := 26) hx hb dX7_alikeOf_18 (by decide) (fun c18_4 => ?_) (fun c18_4 => ?_)
        · refine lv_iload_n hx hb dX7_alikeOf_26 rfl (lv_at hl 3 rfl) ?_
          exact J27_6 i1 (by rw [if_pos c18_4])
        · refine lv_iload hx hb dX7_alikeOf_21 (lv_at hl 4 rfl) ?_
          refine lv_goto (tgt := 27) hx hb dX7_alikeOf_23 (by decide) ?_
          exact J27_6 i2 (by rw [if_neg c18_4])
  exact LP5 5 q1 q1 (by obtain ⟨a, ha, rfl⟩ := hq1; exact ⟨a + 1, by omega, by omega, (nI_pred a).symm⟩) hy5.symm H locs w ls (lv_sub hl [2, 3, 4, 1, 0] rfl)
def f_X7_alike (msc : Int32) (mtc : Int32) (mam : Nat → Int32) (q1 : Int32) (q2 : Int32) : Int64 := (if (f_X7_isSource msc q1) = 0 then (-1000002) else (if (f_X7_isUsed mtc q2) = 0 then (-1000003) else (Int32.toInt64 (f_X7_alikeOf mtc mam q1 q2))))
set_option maxRecDepth 100000 in
set_option maxHeartbeats 4000000 in
theorem c_X7_alike (l : Launch) (D : va_G) (cI cJ : ClassId) (am ama amb amc amd ame amf amg amp amo : Nat) (mpl : Int32) (msc : Int32) (mtc : Int32) (msr : Int32) (mal : Int32) (mns : Int32) (mnn : Int32) (mnt : Int32) (mfi : Int32) (mnw : Int32) (mmy : Int32) (mbe : Int64) (mmf : Int64) (mbs : Int32) (mco : Int32) (mh : Int64) (mpg : Nat → Int32) (mam : Nat → Int32) (mwa : Nat → Int32) (mww : Nat → Int32) (mna : Nat → Int32) (mmb : Nat → Int32) (msh : Nat → Int64) (mpa : Nat → Int64) (mgo : Nat → Int64) (q1 : Int32) (q2 : Int32) (hms : LE4 msc) (hmt : LE4 mtc) : CL l yX7_alike cX7_alike 3 3 D cI cJ [.ref am, .int q1, .int q2] [(am, .inr (7, [.int mpl, .ref ama, .int msc, .int mtc, .ref amb, .ref amc, .ref amd, .int msr, .int mal, .int mns, .int mnn, .int mnt, .int mfi, .int mnw, .ref ame, .int mmy, .ref amf, .long mbe, .ref amg, .long mmf, .ref amp, .ref amo, .int mbs, .int mco, .long mh])), (ama, .inl (cI, 47, .inl mpg)), (amb, .inl (cI, 16, .inl mam)), (amc, .inl (cI, 4, .inl mwa)), (amd, .inl (cI, 4, .inl mww)), (ame, .inl (cI, 16, .inl mna)), (amf, .inl (cI, 4, .inl mmb)), (amg, .inl (cJ, 4, .inr (.inl msh))), (amp, .inl (cJ, 9, .inr (.inl mpa))), (amo, .inl (cJ, 3, .inr (.inl mgo)))] [(am, .inr (7, [.int mpl, .ref ama, .int msc, .int mtc, .ref amb, .ref amc, .ref amd, .int msr, .int mal, .int mns, .int mnn, .int mnt, .int mfi, .int mnw, .ref ame, .int mmy, .ref amf, .long mbe, .ref amg, .long mmf, .ref amp, .ref amo, .int mbs, .int mco, .long mh])), (ama, .inl (cI, 47, .inl mpg)), (amb, .inl (cI, 16, .inl mam)), (amc, .inl (cI, 4, .inl mwa)), (amd, .inl (cI, 4, .inl mww)), (ame, .inl (cI, 16, .inl mna)), (amf, .inl (cI, 4, .inl mmb)), (amg, .inl (cJ, 4, .inr (.inl msh))), (amp, .inl (cJ, 9, .inr (.inl mpa))), (amo, .inl (cJ, 3, .inr (.inl mgo)))] (f_X7_alike msc mtc mam q1 q2) := by
  generalize hr : f_X7_alike msc mtc mam q1 q2 = r
  refine fr_entryL (by decide) rfl ?_
  intro p e s m args below meth c A Q H locs hQ C hret hlk w ls hl
  have hx := C.1
  have hb := C.2.1
  have hl : lv_has ls 3 [(0, .ref am), (1, .int q1), (2, .int q2)] := hl
  have hr : (if (f_X7_isSource msc q1) = 0 then (-1000002) else (if (f_X7_isUsed mtc q2) = 0 then (-1000003) else (Int32.toInt64 (f_X7_alikeOf mtc mam q1 q2)))) = r := hr
  refine lv_aload_n hx hb dX7_alike_0 rfl (lv_at hl 0 rfl) ?_
  refine lv_iload_n hx hb dX7_alike_1 rfl (lv_at hl 1 rfl) ?_
  refine fr_callIV (As := [.int q1]) (rest := []) C w kf_X7_isSource mw_13_2 (c_X7_isSource l D cI cJ am ama amb amc amd ame amf amg amp amo mpl msc mtc msr mal mns mnn mnt mfi mnw mmy mbe mmf mbs mco mh mpg mam mwa mww mna mmb msh mpa mgo q1) ⟨Nat.le_of_ble_eq_true rfl, Nat.le_of_ble_eq_true rfl⟩ ⟨Nat.le_refl 0, Nat.le_refl 0⟩ [0, 1, 2, 3, 4, 5, 6, 7, 8, 9] rfl rfl rfl (ws' := [(am, .inr (7, [.int mpl, .ref ama, .int msc, .int mtc, .ref amb, .ref amc, .ref amd, .int msr, .int mal, .int mns, .int mnn, .int mnt, .int mfi, .int mnw, .ref ame, .int mmy, .ref amf, .long mbe, .ref amg, .long mmf, .ref amp, .ref amo, .int mbs, .int mco, .long mh])), (ama, .inl (cI, 47, .inl mpg)), (amb, .inl (cI, 16, .inl mam)), (amc, .inl (cI, 4, .inl mwa)), (amd, .inl (cI, 4, .inl mww)), (ame, .inl (cI, 16, .inl mna)), (amf, .inl (cI, 4, .inl mmb)), (amg, .inl (cJ, 4, .inr (.inl msh))), (amp, .inl (cJ, 9, .inr (.inl mpa))), (amo, .inl (cJ, 3, .inr (.inl mgo)))]) rfl rfl rfl rfl hl.1 rfl (Nat.le_of_ble_eq_true rfl) dX7_alike_2 (fun H locs w => ?_)
  refine lv_if_ne (tgt := 12) hx hb dX7_alike_5 (by decide) (fun c5_1 => ?_) (fun c5_1 => ?_)
  · have hr := (if_neg c5_1).symm.trans hr
    refine lv_aload_n hx hb dX7_alike_12 rfl (lv_at hl 0 rfl) ?_
    refine lv_iload_n hx hb dX7_alike_13 rfl (lv_at hl 2 rfl) ?_
    refine fr_callIV (As := [.int q2]) (rest := []) C w kf_X7_isUsed mw_16_11 (c_X7_isUsed l D cI cJ am ama amb amc amd ame amf amg amp amo mpl msc mtc msr mal mns mnn mnt mfi mnw mmy mbe mmf mbs mco mh mpg mam mwa mww mna mmb msh mpa mgo q2) ⟨Nat.le_of_ble_eq_true rfl, Nat.le_of_ble_eq_true rfl⟩ ⟨Nat.le_refl 0, Nat.le_refl 0⟩ [0, 1, 2, 3, 4, 5, 6, 7, 8, 9] rfl rfl rfl (ws' := [(am, .inr (7, [.int mpl, .ref ama, .int msc, .int mtc, .ref amb, .ref amc, .ref amd, .int msr, .int mal, .int mns, .int mnn, .int mnt, .int mfi, .int mnw, .ref ame, .int mmy, .ref amf, .long mbe, .ref amg, .long mmf, .ref amp, .ref amo, .int mbs, .int mco, .long mh])), (ama, .inl (cI, 47, .inl mpg)), (amb, .inl (cI, 16, .inl mam)), (amc, .inl (cI, 4, .inl mwa)), (amd, .inl (cI, 4, .inl mww)), (ame, .inl (cI, 16, .inl mna)), (amf, .inl (cI, 4, .inl mmb)), (amg, .inl (cJ, 4, .inr (.inl msh))), (amp, .inl (cJ, 9, .inr (.inl mpa))), (amo, .inl (cJ, 3, .inr (.inl mgo)))]) rfl rfl rfl rfl hl.1 rfl (Nat.le_of_ble_eq_true rfl) dX7_alike_14 (fun H locs w => ?_)
    refine lv_if_eq (tgt := 30) hx hb dX7_alike_17 (by decide) (fun c17_2 => ?_) (fun c17_2 => ?_)
    · have hr := (if_pos c17_2).symm.trans hr
      refine lv_ldc2 hx hb C.2.2.2.1 (C.2.2.2.2.1 _ mw_5_15) dX7_alike_30 ?_
      subst hr hQ
      exact fr_lret C hret hlk w rfl rfl dX7_alike_33
    · have hr := (if_neg c17_2).symm.trans hr
      refine lv_aload_n hx hb dX7_alike_20 rfl (lv_at hl 0 rfl) ?_
      refine lv_iload_n hx hb dX7_alike_21 rfl (lv_at hl 1 rfl) ?_
      refine lv_iload_n hx hb dX7_alike_22 rfl (lv_at hl 2 rfl) ?_
      refine fr_callIV (As := [.int q1, .int q2]) (rest := []) C w kf_X7_alikeOf mw_16_15 (c_X7_alikeOf l D cI cJ am ama amb amc amd ame amf amg amp amo mpl msc mtc msr mal mns mnn mnt mfi mnw mmy mbe mmf mbs mco mh mpg mam mwa mww mna mmb msh mpa mgo q1 q2 (trc_L4 (by assumption) hms) hmt) ⟨Nat.le_of_ble_eq_true rfl, Nat.le_of_ble_eq_true rfl⟩ ⟨Nat.le_refl 0, Nat.le_refl 0⟩ [0, 1, 2, 3, 4, 5, 6, 7, 8, 9] rfl rfl rfl (ws' := [(am, .inr (7, [.int mpl, .ref ama, .int msc, .int mtc, .ref amb, .ref amc, .ref amd, .int msr, .int mal, .int mns, .int mnn, .int mnt, .int mfi, .int mnw, .ref ame, .int mmy, .ref amf, .long mbe, .ref amg, .long mmf, .ref amp, .ref amo, .int mbs, .int mco, .long mh])), (ama, .inl (cI, 47, .inl mpg)), (amb, .inl (cI, 16, .inl mam)), (amc, .inl (cI, 4, .inl mwa)), (amd, .inl (cI, 4, .inl mww)), (ame, .inl (cI, 16, .inl mna)), (amf, .inl (cI, 4, .inl mmb)), (amg, .inl (cJ, 4, .inr (.inl msh))), (amp, .inl (cJ, 9, .inr (.inl mpa))), (amo, .inl (cJ, 3, .inr (.inl mgo)))]) rfl rfl rfl rfl hl.1 rfl (Nat.le_of_ble_eq_true rfl) dX7_alike_23 (fun H locs w => ?_)
      refine lv_i2l (v := (Int32.toInt64 (f_X7_alikeOf mtc mam q1 q2))) hx hb dX7_alike_26 rfl ?_
      refine lv_goto (tgt := 33) hx hb dX7_alike_27 (by decide) ?_
      subst hr hQ
      exact fr_lret C hret hlk w rfl rfl dX7_alike_33
  · have hr := (if_pos c5_1).symm.trans hr
    refine lv_ldc2 hx hb C.2.2.2.1 (C.2.2.2.2.1 _ mw_12_8) dX7_alike_8 ?_
    subst hr hQ
    exact fr_lret C hret hlk w rfl rfl dX7_alike_11
