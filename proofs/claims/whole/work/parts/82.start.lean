theorem mw_1_1 : Cond.instantiable RX6 7 ∈ wsL_law := ck_1 _ (List.mem_of_getElem? (i := 1) rfl)
theorem mw_1_4 : Cond.instantiable RX7 25 ∈ wsL_law := ck_1 _ (List.mem_of_getElem? (i := 4) rfl)
theorem mw_1_6 : Cond.methodLink RL 9 yX6_init ∈ wsL_law := ck_1 _ (List.mem_of_getElem? (i := 6) rfl)
theorem mw_4_6 : Cond.methodLink RL 12 yX7_init ∈ wsL_law := ck_4 _ (List.mem_of_getElem? (i := 6) rfl)
theorem mw_1_0 : Cond.classLink RL 7 RX6 ∈ wsL_law := ck_1 _ (List.mem_of_getElem? (i := 0) rfl)
theorem mw_1_3 : Cond.classLink RL 10 RX7 ∈ wsL_law := ck_1 _ (List.mem_of_getElem? (i := 3) rfl)
theorem mw_1_8 : Cond.code yX6_init cX6_init 1 none ∈ wsL_law := ck_1 _ (List.mem_of_getElem? (i := 8) rfl)
theorem mw_1_7 : Cond.instanceMethod yX6_init ∈ wsL_law := ck_1 _ (List.mem_of_getElem? (i := 7) rfl)
theorem mw_4_8 : Cond.code yX7_init cX7_init 1 none ∈ wsL_law := ck_4 _ (List.mem_of_getElem? (i := 8) rfl)
theorem mw_4_7 : Cond.instanceMethod yX7_init ∈ wsL_law := ck_4 _ (List.mem_of_getElem? (i := 7) rfl)
theorem rel_step {N : Nat} {xrd : Int64} {xal : Int64} {xpl : Int32} {xpc : Nat → Int32} {xsc : Int32} {xtc : Int32} {xhd : Nat → Int32} {xwt : Nat → Int32} {mpl : Int32} {msc : Int32} {mtc : Int32} {msr : Int32} {mal : Int32} {mpg : Nat → Int32} {mam : Nat → Int32} {mwa : Nat → Int32} {mww : Nat → Int32} {mmb : Nat → Int32} (h : REL N xrd xal xpl xpc xsc xtc xhd xwt mpl msc mtc msr mal mpg mam mwa mww mmb) (hN : N + 1 < 1000) : REL (N + 1) xrd xal xpl xpc xsc xtc xhd xwt mpl msc mtc msr mal mpg mam mwa mww mmb := by
  obtain ⟨h1, h2, h3, h4, h5, h6, h7, h8, h9, h10, h11, h12⟩ := h
  exact ⟨h1, h2, h3, h4, h5, h6, h7, h8.mono (by omega), h9.mono (by omega), h10, h11, hN, h12.2⟩
theorem len_of {j L : Nat} (hL : L ≤ 2048) (h4 : 4 * j ≤ L) (c : ¬ Int32.ofNat L - 4 < nI (4 * j)) : 4 * j + 4 ≤ L := by
  rcases Nat.lt_or_ge L (4 * j + 4) with q | q
  · refine absurd ?_ c
    show nI L - nI 4 < nI (4 * j)
    rw [Int32.lt_iff_toInt_lt, pk_sub_toInt (by omega) (by decide), nI_toInt (by omega)]
    omega
  · exact q
theorem sw_out17 {x : Int32} (c0 : ¬ x = 0) (c1 : ¬ x = 1) (c2 : ¬ x = 2) (c3 : ¬ x = 3) (c4 : ¬ x = 4) (c5 : ¬ x = 5) (c6 : ¬ x = 6) (c7 : ¬ x = 7) (c8 : ¬ x = 8) (c9 : ¬ x = 9) (c10 : ¬ x = 10) (c11 : ¬ x = 11) (c12 : ¬ x = 12) (c13 : ¬ x = 13) (c14 : ¬ x = 14) (c15 : ¬ x = 15) (c16 : ¬ x = 16) : x.toInt < 0 ∨ 16 < x.toInt := by
  simp only [← Int32.toInt_inj] at c0 c1 c2 c3 c4 c5 c6 c7 c8 c9 c10 c11 c12 c13 c14 c15 c16
  have e0 : (0 : Int32).toInt = 0 := by decide
  have e1 : (1 : Int32).toInt = 1 := by decide
  have e2 : (2 : Int32).toInt = 2 := by decide
  have e3 : (3 : Int32).toInt = 3 := by decide
  have e4 : (4 : Int32).toInt = 4 := by decide
  have e5 : (5 : Int32).toInt = 5 := by decide
  have e6 : (6 : Int32).toInt = 6 := by decide
  have e7 : (7 : Int32).toInt = 7 := by decide
  have e8 : (8 : Int32).toInt = 8 := by decide
  have e9 : (9 : Int32).toInt = 9 := by decide
  have e10 : (10 : Int32).toInt = 10 := by decide
  have e11 : (11 : Int32).toInt = 11 := by decide
  have e12 : (12 : Int32).toInt = 12 := by decide
  have e13 : (13 : Int32).toInt = 13 := by decide
  have e14 : (14 : Int32).toInt = 14 := by decide
  have e15 : (15 : Int32).toInt = 15 := by decide
  have e16 : (16 : Int32).toInt = 16 := by decide
  omega
set_option maxRecDepth 100000 in
set_option maxHeartbeats 4000000 in
theorem law_loop {p : Program} {l : Launch} {e : Env} {s : State} {m : MethodId} {below : List Frame} {meth : Method} {c : Code} {b L : Nat} {xs : Nat → Int32} {D : va_G} {cI cJ : ClassId} {ad : Nat → Nat} (C0 : Cx p m c cL_law 4 s #[Value.ref b] RL D cI cJ) (hr : meth.sig.returnType = ret) (hlocks : meth.locks = false) (hX : va_X b L xs s s.heap) (hbl : b < s.heap.size) (hbA : ¬ (fun q : Nat => s.heap.size ≤ q) b) (hL : L ≤ 2048) : ∀ (n j : Nat), 4 * j ≤ L → L < 4 * j + 4 * n → LoopAt p l e s m below meth c b D cI cJ ad j := by
  have hx := C0.1
  have hb := C0.2.1
  intro n
  induction n with
  | zero => intro j h1 h2; exact absurd h2 (by omega)
  | succ n ih =>
    intro j h4 hn xrd xal xta xtb xpl xpc xso xtr xwi xnu xdr xns xnc xna xnb xfs xba xbe xpr xmx xsd xpt xfa xfb xsc xtc xhd xwt mpl msc mtc msr mal mns mnn mnt mfi mnw mmy mbe mmf mbs mco mh mpg mam mwa mww mna mmb msh mpa mgo hR H locs w ls hl
    refine lv_iload_n hx hb dL_law_18 rfl (lv_at hl 3 rfl) ?_
    refine lv_aload_n hx hb dL_law_19 rfl (lv_at hl 0 rfl) ?_
    refine va_slen hx hb hX hbl hbA w.2.2.1 dL_law_20 ?_
    refine lv_iconst (v := 4) hx hb dL_law_21 (by decide) ?_
    refine lv_isub hx hb dL_law_22 ?_
    refine lv_icmp_gt (tgt := 650) hx hb dL_law_23 (by decide) (fun cg => ?_) (fun cg => ?_)
    · refine lv_iconst (v := 1) hx hb dL_law_650 (by decide) ?_
      refine va_forget (fun q hq => w.2.2.1.2.2 q hq) ?_
      exact lw_ret hx hb hr hlocks dL_law_651
    · have hj := len_of hL h4 cg
      refine lv_aload_n hx hb dL_law_26 rfl (lv_at hl 0 rfl) ?_
      refine lv_iload_n hx hb dL_law_27 rfl (lv_at hl 3 rfl) ?_
      refine va_sld hx hb hX hbl hbA w.2.2.1 (vp_in_nI (by omega) (by omega)) dL_law_28 ?_
      refine lv_bipush (v := 31) hx hb dL_law_29 (by decide) ?_
      refine lv_iand hx hb dL_law_31 ?_
      by_cases c0 : xs (Int32.toNatClampNeg (nI (4 * j))) &&& 31 = 0
      · refine lv_tableIn (tgt := 116) (off := 84) hx hb dL_law_32 (by rw [c0]; decide) (by rw [c0]; decide) (by rw [c0]; decide) (by decide) ?_
        exact law_letter C0 hX hbl hbA hj hL (ih (j + 1) hj (by omega)) xrd xal xta xtb xpl xpc xso xtr xwi xnu xdr xns xnc xna xnb xfs xba xbe xpr xmx xsd xpt xfa xfb xsc xtc xhd xwt mpl msc mtc msr mal mns mnn mnt mfi mnw mmy mbe mmf mbs mco mh mpg mam mwa mww mna mmb msh mpa mgo hR w hl
      by_cases c1 : xs (Int32.toNatClampNeg (nI (4 * j))) &&& 31 = 1
      · refine lv_tableIn (tgt := 140) (off := 108) hx hb dL_law_32 (by rw [c1]; decide) (by rw [c1]; decide) (by rw [c1]; decide) (by decide) ?_
        exact law_blank C0 hX hbl hbA hj hL (ih (j + 1) hj (by omega)) xrd xal xta xtb xpl xpc xso xtr xwi xnu xdr xns xnc xna xnb xfs xba xbe xpr xmx xsd xpt xfa xfb xsc xtc xhd xwt mpl msc mtc msr mal mns mnn mnt mfi mnw mmy mbe mmf mbs mco mh mpg mam mwa mww mna mmb msh mpa mgo hR w hl
      by_cases c2 : xs (Int32.toNatClampNeg (nI (4 * j))) &&& 31 = 2
      · refine lv_tableIn (tgt := 154) (off := 122) hx hb dL_law_32 (by rw [c2]; decide) (by rw [c2]; decide) (by rw [c2]; decide) (by decide) ?_
        exact law_fault C0 hX hbl hbA hj hL (ih (j + 1) hj (by omega)) xrd xal xta xtb xpl xpc xso xtr xwi xnu xdr xns xnc xna xnb xfs xba xbe xpr xmx xsd xpt xfa xfb xsc xtc xhd xwt mpl msc mtc msr mal mns mnn mnt mfi mnw mmy mbe mmf mbs mco mh mpg mam mwa mww mna mmb msh mpa mgo hR w hl
      by_cases c3 : xs (Int32.toNatClampNeg (nI (4 * j))) &&& 31 = 3
      · refine lv_tableIn (tgt := 168) (off := 136) hx hb dL_law_32 (by rw [c3]; decide) (by rw [c3]; decide) (by rw [c3]; decide) (by decide) ?_
        exact law_sources C0 hX hbl hbA hj hL (ih (j + 1) hj (by omega)) xrd xal xta xtb xpl xpc xso xtr xwi xnu xdr xns xnc xna xnb xfs xba xbe xpr xmx xsd xpt xfa xfb xsc xtc xhd xwt mpl msc mtc msr mal mns mnn mnt mfi mnw mmy mbe mmf mbs mco mh mpg mam mwa mww mna mmb msh mpa mgo hR w hl
      by_cases c4 : xs (Int32.toNatClampNeg (nI (4 * j))) &&& 31 = 4
      · refine lv_tableIn (tgt := 182) (off := 150) hx hb dL_law_32 (by rw [c4]; decide) (by rw [c4]; decide) (by rw [c4]; decide) (by decide) ?_
        exact law_set C0 hX hbl hbA hj hL (ih (j + 1) hj (by omega)) xrd xal xta xtb xpl xpc xso xtr xwi xnu xdr xns xnc xna xnb xfs xba xbe xpr xmx xsd xpt xfa xfb xsc xtc xhd xwt mpl msc mtc msr mal mns mnn mnt mfi mnw mmy mbe mmf mbs mco mh mpg mam mwa mww mna mmb msh mpa mgo hR w hl
      by_cases c5 : xs (Int32.toNatClampNeg (nI (4 * j))) &&& 31 = 5
      · refine lv_tableIn (tgt := 226) (off := 194) hx hb dL_law_32 (by rw [c5]; decide) (by rw [c5]; decide) (by rw [c5]; decide) (by decide) ?_
        exact law_alter C0 hX hbl hbA hj hL (ih (j + 1) hj (by omega)) xrd xal xta xtb xpl xpc xso xtr xwi xnu xdr xns xnc xna xnb xfs xba xbe xpr xmx xsd xpt xfa xfb xsc xtc xhd xwt mpl msc mtc msr mal mns mnn mnt mfi mnw mmy mbe mmf mbs mco mh mpg mam mwa mww mna mmb msh mpa mgo hR w hl
      by_cases c6 : xs (Int32.toNatClampNeg (nI (4 * j))) &&& 31 = 6
      · refine lv_tableIn (tgt := 270) (off := 238) hx hb dL_law_32 (by rw [c6]; decide) (by rw [c6]; decide) (by rw [c6]; decide) (by decide) ?_
        exact law_made C0 hX hbl hbA hj hL (ih (j + 1) hj (by omega)) xrd xal xta xtb xpl xpc xso xtr xwi xnu xdr xns xnc xna xnb xfs xba xbe xpr xmx xsd xpt xfa xfb xsc xtc xhd xwt mpl msc mtc msr mal mns mnn mnt mfi mnw mmy mbe mmf mbs mco mh mpg mam mwa mww mna mmb msh mpa mgo hR w hl
      by_cases c7 : xs (Int32.toNatClampNeg (nI (4 * j))) &&& 31 = 7
      · refine lv_tableIn (tgt := 294) (off := 262) hx hb dL_law_32 (by rw [c7]; decide) (by rw [c7]; decide) (by rw [c7]; decide) (by decide) ?_
        exact law_has C0 hX hbl hbA hj hL (ih (j + 1) hj (by omega)) xrd xal xta xtb xpl xpc xso xtr xwi xnu xdr xns xnc xna xnb xfs xba xbe xpr xmx xsd xpt xfa xfb xsc xtc xhd xwt mpl msc mtc msr mal mns mnn mnt mfi mnw mmy mbe mmf mbs mco mh mpg mam mwa mww mna mmb msh mpa mgo hR w hl
      by_cases c8 : xs (Int32.toNatClampNeg (nI (4 * j))) &&& 31 = 8
      · refine lv_tableIn (tgt := 328) (off := 296) hx hb dL_law_32 (by rw [c8]; decide) (by rw [c8]; decide) (by rw [c8]; decide) (by decide) ?_
        exact law_tracer C0 hX hbl hbA hj hL (ih (j + 1) hj (by omega)) xrd xal xta xtb xpl xpc xso xtr xwi xnu xdr xns xnc xna xnb xfs xba xbe xpr xmx xsd xpt xfa xfb xsc xtc xhd xwt mpl msc mtc msr mal mns mnn mnt mfi mnw mmy mbe mmf mbs mco mh mpg mam mwa mww mna mmb msh mpa mgo hR w hl
      by_cases c9 : xs (Int32.toNatClampNeg (nI (4 * j))) &&& 31 = 9
      · refine lv_tableIn (tgt := 362) (off := 330) hx hb dL_law_32 (by rw [c9]; decide) (by rw [c9]; decide) (by rw [c9]; decide) (by decide) ?_
        exact law_alike C0 hX hbl hbA hj hL (ih (j + 1) hj (by omega)) xrd xal xta xtb xpl xpc xso xtr xwi xnu xdr xns xnc xna xnb xfs xba xbe xpr xmx xsd xpt xfa xfb xsc xtc xhd xwt mpl msc mtc msr mal mns mnn mnt mfi mnw mmy mbe mmf mbs mco mh mpg mam mwa mww mna mmb msh mpa mgo hR w hl
      by_cases c10 : xs (Int32.toNatClampNeg (nI (4 * j))) &&& 31 = 10
      · refine lv_tableIn (tgt := 396) (off := 364) hx hb dL_law_32 (by rw [c10]; decide) (by rw [c10]; decide) (by rw [c10]; decide) (by decide) ?_
        exact law_best C0 hX hbl hbA hj hL (ih (j + 1) hj (by omega)) xrd xal xta xtb xpl xpc xso xtr xwi xnu xdr xns xnc xna xnb xfs xba xbe xpr xmx xsd xpt xfa xfb xsc xtc xhd xwt mpl msc mtc msr mal mns mnn mnt mfi mnw mmy mbe mmf mbs mco mh mpg mam mwa mww mna mmb msh mpa mgo hR w hl
      by_cases c11 : xs (Int32.toNatClampNeg (nI (4 * j))) &&& 31 = 11
      · refine lv_tableIn (tgt := 430) (off := 398) hx hb dL_law_32 (by rw [c11]; decide) (by rw [c11]; decide) (by rw [c11]; decide) (by decide) ?_
        exact law_share C0 hX hbl hbA hj hL (ih (j + 1) hj (by omega)) xrd xal xta xtb xpl xpc xso xtr xwi xnu xdr xns xnc xna xnb xfs xba xbe xpr xmx xsd xpt xfa xfb xsc xtc xhd xwt mpl msc mtc msr mal mns mnn mnt mfi mnw mmy mbe mmf mbs mco mh mpg mam mwa mww mna mmb msh mpa mgo hR w hl
      by_cases c12 : xs (Int32.toNatClampNeg (nI (4 * j))) &&& 31 = 12
      · refine lv_tableIn (tgt := 474) (off := 442) hx hb dL_law_32 (by rw [c12]; decide) (by rw [c12]; decide) (by rw [c12]; decide) (by decide) ?_
        exact law_press C0 hX hbl hbA hj hL (ih (j + 1) hj (by omega)) xrd xal xta xtb xpl xpc xso xtr xwi xnu xdr xns xnc xna xnb xfs xba xbe xpr xmx xsd xpt xfa xfb xsc xtc xhd xwt mpl msc mtc msr mal mns mnn mnt mfi mnw mmy mbe mmf mbs mco mh mpg mam mwa mww mna mmb msh mpa mgo hR w hl
      by_cases c13 : xs (Int32.toNatClampNeg (nI (4 * j))) &&& 31 = 13
      · refine lv_tableIn (tgt := 518) (off := 486) hx hb dL_law_32 (by rw [c13]; decide) (by rw [c13]; decide) (by rw [c13]; decide) (by decide) ?_
        exact law_mixed C0 hX hbl hbA hj hL (ih (j + 1) hj (by omega)) xrd xal xta xtb xpl xpc xso xtr xwi xnu xdr xns xnc xna xnb xfs xba xbe xpr xmx xsd xpt xfa xfb xsc xtc xhd xwt mpl msc mtc msr mal mns mnn mnt mfi mnw mmy mbe mmf mbs mco mh mpg mam mwa mww mna mmb msh mpa mgo hR w hl
      by_cases c14 : xs (Int32.toNatClampNeg (nI (4 * j))) &&& 31 = 14
      · refine lv_tableIn (tgt := 562) (off := 530) hx hb dL_law_32 (by rw [c14]; decide) (by rw [c14]; decide) (by rw [c14]; decide) (by decide) ?_
        exact law_corner C0 hX hbl hbA hj hL (ih (j + 1) hj (by omega)) xrd xal xta xtb xpl xpc xso xtr xwi xnu xdr xns xnc xna xnb xfs xba xbe xpr xmx xsd xpt xfa xfb xsc xtc xhd xwt mpl msc mtc msr mal mns mnn mnt mfi mnw mmy mbe mmf mbs mco mh mpg mam mwa mww mna mmb msh mpa mgo hR w hl
      by_cases c15 : xs (Int32.toNatClampNeg (nI (4 * j))) &&& 31 = 15
      · refine lv_tableIn (tgt := 606) (off := 574) hx hb dL_law_32 (by rw [c15]; decide) (by rw [c15]; decide) (by rw [c15]; decide) (by decide) ?_
        exact law_count C0 hX hbl hbA hj hL (ih (j + 1) hj (by omega)) xrd xal xta xtb xpl xpc xso xtr xwi xnu xdr xns xnc xna xnb xfs xba xbe xpr xmx xsd xpt xfa xfb xsc xtc xhd xwt mpl msc mtc msr mal mns mnn mnt mfi mnw mmy mbe mmf mbs mco mh mpg mam mwa mww mna mmb msh mpa mgo hR w hl
      by_cases c16 : xs (Int32.toNatClampNeg (nI (4 * j))) &&& 31 = 16
      · refine lv_tableIn (tgt := 630) (off := 598) hx hb dL_law_32 (by rw [c16]; decide) (by rw [c16]; decide) (by rw [c16]; decide) (by decide) ?_
        exact law_digest C0 hX hbl hbA hj hL (ih (j + 1) hj (by omega)) xrd xal xta xtb xpl xpc xso xtr xwi xnu xdr xns xnc xna xnb xfs xba xbe xpr xmx xsd xpt xfa xfb xsc xtc xhd xwt mpl msc mtc msr mal mns mnn mnt mfi mnw mmy mbe mmf mbs mco mh mpg mam mwa mww mna mmb msh mpa mgo hR w hl
      refine lv_tableOut (tgt := 644) hx hb dL_law_32 (sw_out17 c0 c1 c2 c3 c4 c5 c6 c7 c8 c9 c10 c11 c12 c13 c14 c15 c16) (by decide) ?_
      exact law_next C0 hj hL (ih (j + 1) hj (by omega)) xrd xal xta xtb xpl xpc xso xtr xwi xnu xdr xns xnc xna xnb xfs xba xbe xpr xmx xsd xpt xfa xfb xsc xtc xhd xwt mpl msc mtc msr mal mns mnn mnt mfi mnw mmy mbe mmf mbs mco mh mpg mam mwa mww mna mmb msh mpa mgo (rel_step hR (by omega)) w hl
theorem rel_0 : REL 0 0 0 0 (fun _ => 0) 0 0 (fun _ => 0) (fun _ => 0) 0 0 0 0 0 (fun _ => 0) (fun _ => 0) (fun _ => 0) (fun _ => 0) (fun _ => 0) := by
  refine ⟨⟨0, by decide, by decide⟩, rfl, rfl, rfl, rfl, ⟨0, by decide, by decide⟩, ⟨0, by decide, by decide⟩, ⟨0, by decide, by decide, by decide⟩, ⟨0, by decide, by decide, by decide⟩, fun j => ⟨0, by decide, nI_0.symm⟩, ⟨fun _ _ => rfl, fun _ _ => rfl, fun _ _ => rfl, fun _ _ => ⟨0, by decide, nI_0.symm⟩, fun _ _ => ⟨0, by decide, nI_0.symm⟩, fun _ _ _ _ _ => rfl, fun _ _ _ => rfl⟩, by decide, fun _ => rfl⟩
theorem nw_L_7 : NW RL 7 6 7 [.null, .null, .null, .null, .null, .long 0, .long 0] := ⟨RX6, TX6, tyX6, rfl, inlX6, tyX6_ok, mw_1_0, mw_1_1, mw_1_2, fun j hj => by rcases (show j = 0 ∨ j = 1 ∨ j = 2 ∨ j = 3 ∨ j = 4 ∨ j = 5 ∨ j = 6 by omega) with rfl | rfl | rfl | rfl | rfl | rfl | rfl <;> rfl⟩
theorem nw_L_10 : NW RL 10 7 25 [.int 0, .null, .int 0, .int 0, .null, .null, .null, .int 0, .int 0, .int 0, .int 0, .int 0, .int 0, .int 0, .null, .int 0, .null, .long 0, .null, .long 0, .null, .null, .int 0, .int 0, .long 0] := ⟨RX7, TX7, tyX7, rfl, inlX7, tyX7_ok, mw_1_3, mw_1_4, mw_1_5, fun j hj => by rcases (show j = 0 ∨ j = 1 ∨ j = 2 ∨ j = 3 ∨ j = 4 ∨ j = 5 ∨ j = 6 ∨ j = 7 ∨ j = 8 ∨ j = 9 ∨ j = 10 ∨ j = 11 ∨ j = 12 ∨ j = 13 ∨ j = 14 ∨ j = 15 ∨ j = 16 ∨ j = 17 ∨ j = 18 ∨ j = 19 ∨ j = 20 ∨ j = 21 ∨ j = 22 ∨ j = 23 ∨ j = 24 by omega) with rfl | rfl | rfl | rfl | rfl | rfl | rfl | rfl | rfl | rfl | rfl | rfl | rfl | rfl | rfl | rfl | rfl | rfl | rfl | rfl | rfl | rfl | rfl | rfl | rfl <;> rfl⟩
theorem ki_X6_init : KI yX6_init cX6_init 1 0 := ⟨mw_1_8, mw_1_7, mw_1_2, rfl, by decide, by decide, by decide +kernel⟩
theorem ki_X7_init : KI yX7_init cX7_init 1 0 := ⟨mw_4_8, mw_4_7, mw_1_5, rfl, by decide, by decide, by decide +kernel⟩
set_option maxRecDepth 100000 in
set_option maxHeartbeats 4000000 in
theorem whole_start {p : Program} {e : Env} {s : State} {m : MethodId} {below : List Frame} {meth : Method} {c : Code} (l : Launch) (hflags : l.flags = flags0) {b L : Nat} {xs : Nat → Int32} (hL : L ≤ 2048) (C0 : lw_At p s m meth c b L xs) : W p l e room_1 s m #[Value.ref b] below meth c s.heap [] 0 0 (lw_Z below #[Value.ref b] s) (entryFrame m ([Value.ref b] : List Value).toArray 4) := by
  obtain ⟨hx, hb, hr, hml, hown, hts, hX, hbl, hlocks, hgv⟩ := id C0
  have hbA : ¬ (fun q : Nat => s.heap.size ≤ q) b := Nat.not_le.mpr hbl
  have htw : ∀ w ∈ wsL_law, w.before #[Value.ref b] s = true := fun w h => hts w (wsL_law_in w h)
  obtain ⟨k0, i0, hKn0⟩ := u_known (C := RX0) (T := TX0) (N := 8) (n := 8) htw inlX0 (htw (.instantiable RX0 8) mw_3_6)
  obtain ⟨k1, i1, hKn1⟩ := u_known (C := RX1) (T := TX1) (N := 2) (n := 2) htw inlX1 (htw (.instantiable RX1 2) mw_2_5)
  obtain ⟨k2, i2, hKn2⟩ := u_known (C := RX2) (T := TX2) (N := 4) (n := 4) htw inlX2 (htw (.instantiable RX2 4) mw_1_21)
  obtain ⟨k3, i3, hKn3⟩ := u_known (C := RX3) (T := TX3) (N := 4) (n := 4) htw inlX3 (htw (.instantiable RX3 4) mw_2_1)
  obtain ⟨k4, i4, hKn4⟩ := u_known (C := RX4) (T := TX4) (N := 2) (n := 2) htw inlX4 (htw (.instantiable RX4 2) mw_1_13)
  obtain ⟨k5, i5, hKn5⟩ := u_known (C := RX5) (T := TX5) (N := 5) (n := 5) htw inlX5 (htw (.instantiable RX5 5) mw_1_17)
  obtain ⟨k6, i6, hKn6⟩ := u_known (C := RX6) (T := TX6) (N := 7) (n := 7) htw inlX6 (htw (.instantiable RX6 7) mw_1_1)
  obtain ⟨k7, i7, hKn7⟩ := u_known (C := RX7) (T := TX7) (N := 25) (n := 25) htw inlX7 (htw (.instantiable RX7 25) mw_1_4)
  obtain ⟨dC, dI, hKc⟩ : ∃ (dC : Nat → ClassId) (dI : Nat → Nat → Nat), ∀ (k : Nat) (q : vw_C), vwCl[k]? = some q → u_Kn s q.1 q.2.1 q.2.2 (dC k) (dI k) := by
    refine ⟨fun k => if k = 0 then k0 else if k = 1 then k1 else if k = 2 then k2 else if k = 3 then k3 else if k = 4 then k4 else if k = 5 then k5 else if k = 6 then k6 else k7, fun k => if k = 0 then i0 else if k = 1 then i1 else if k = 2 then i2 else if k = 3 then i3 else if k = 4 then i4 else if k = 5 then i5 else if k = 6 then i6 else i7, ?_⟩
    intro k q hq
    match k, hq with
    | 0, hq => cases hq; exact hKn0
    | 1, hq => cases hq; exact hKn1
    | 2, hq => cases hq; exact hKn2
    | 3, hq => cases hq; exact hKn3
    | 4, hq => cases hq; exact hKn4
    | 5, hq => cases hq; exact hKn5
    | 6, hq => cases hq; exact hKn6
    | 7, hq => cases hq; exact hKn7
    | k + 8, hq => simp [vwCl] at hq
  obtain ⟨cI, kI, pI, gI1, gI2, gI3⟩ := Cond.arrayClass_spec (htw (.arrayClass .int) mw_2_12)
  obtain ⟨cJ, kJ, pJ, gJ1, gJ2, gJ3⟩ := Cond.arrayClass_spec (htw (.arrayClass .long) mw_3_15)
  have hKK : KK (dC, dI) cI cJ s := by
    refine ⟨⟨hKc, ?_⟩, va_Nw.of rfl (hts (.methodLinkNest RX2 55 yX6_isIn "MudShares") (by decide +kernel)), va_Nw.of rfl (hts (.methodLinkNest RX0 69 yX6_isIn "MudShares") (by decide +kernel))⟩
    intro k q hq
    match k, hq with
    | 0, hq => cases hq; exact ⟨fun n z => ⟨fun k h => (by cases h), kI, gI2, pI, gI3⟩, gI1⟩
    | 1, hq => cases hq; exact ⟨fun n z => ⟨fun k h => (by cases h), kJ, gJ2, pJ, gJ3⟩, gJ1⟩
    | k + 2, hq => simp at hq
  have C1 : Cx p m c cL_law 4 s #[Value.ref b] RL (dC, dI) cI cJ := ⟨hx, hb, hml, hown, htw, hKK⟩
  have w : Wd (dC, dI) (fun q : Nat => s.heap.size ≤ q) s.heap s.heap [] [] := ⟨fun k q h => by simp at h, ⟨fun i j p q h => by simp at h, fun k q h => by simp at h⟩, va_S.rf, fun _ h => h⟩
  have hl := lv_entry ([.ref b]) (n := 4) (Nat.le_of_ble_eq_true rfl)
  rw [lg_entry_eq]
  generalize (lg_sl ([.ref b]) ++ List.replicate (4 - (lg_sl ([.ref b])).length) Slot.unset).toArray = ls at hl ⊢
  have hl : lv_has ls 4 [(0, .ref b)] := hl
  refine fr_new (ci := 6) (N := 7) C1 w nw_L_7 (Nat.le_of_ble_eq_true rfl) (Nat.le_of_ble_eq_true rfl) dL_law_0 (fun u0 H w => ?_)
  have w : Wd (dC, dI) (fun q : Nat => s.heap.size ≤ q) s.heap H [] [(u0, .inr (6, [.null, .null, .null, .null, .null, .long 0, .long 0]))] := w
  refine lv_dup hx hb dL_law_3 rfl ?_
  refine fr_callC (As := []) (rest := [.ref u0]) (wr := []) C1 w ki_X6_init mw_1_6 (c_X6_init l (dC, dI) cI cJ u0) ⟨Nat.le_of_ble_eq_true rfl, Nat.le_of_ble_eq_true rfl⟩ ⟨Nat.le_of_ble_eq_true rfl, Nat.le_of_ble_eq_true rfl⟩ [0] [] rfl rfl rfl (by decide) (by decide) rfl hl.1 rfl (Nat.le_of_ble_eq_true rfl) dL_law_4 (fun u H locs w => ?_)
  obtain ⟨u1, u2, u3, u4, u5, u6, u7, u8, u9, u10, u11, u12, u13, u14, u15, u16⟩ := u
  have w : Wd (dC, dI) (fun q : Nat => s.heap.size ≤ q) s.heap H locs [(u0, .inr (6, [.ref u1, .ref u3, .ref u5, .ref u8, .ref u16, .long 0, .long 0])), (u1, .inr (4, [.ref u2, .int 0])), (u2, .inl (cI, 47, .inl (fun _ => 0))), (u3, .inr (5, [.ref u4, .int 0, .int 0, .int 0, .int 0])), (u4, .inl (cI, 16, .inl (fun _ => 0))), (u5, .inr (2, [.ref u6, .ref u7, .int 0, .int 0])), (u6, .inl (cI, 20, .inl (fun _ => 0))), (u7, .inl (cI, 4, .inl (fun _ => 0))), (u8, .inr (3, [.ref u9, .ref u15, .int 0, .int 0])), (u9, .inr (0, [.ref u10, .ref u11, .ref u12, .ref u13, .ref u14, .int 0, .int 0, .long 0])), (u10, .inl (cJ, 25, .inr (.inl (fun _ => 0)))), (u11, .inl (cJ, 9, .inr (.inl (fun _ => 0)))), (u12, .inl (cJ, 3, .inr (.inl (fun _ => 0)))), (u13, .inl (cJ, 4, .inr (.inl (fun _ => 0)))), (u14, .inr (1, [.long 0, .long 1])), (u15, .inr (1, [.long 0, .long 1])), (u16, .inr (1, [.long 0, .long 1]))] := w
  refine lv_astore_n (lv' := [(1, .ref u0), (0, .ref b)]) hx hb dL_law_7 rfl hl (by decide) rfl (fun ls hl => ?_)
  refine fr_new (ci := 7) (N := 25) C1 w nw_L_10 (Nat.le_of_ble_eq_true rfl) (Nat.le_of_ble_eq_true rfl) dL_law_8 (fun v0 H w => ?_)
  have w : Wd (dC, dI) (fun q : Nat => s.heap.size ≤ q) s.heap H locs [(u0, .inr (6, [.ref u1, .ref u3, .ref u5, .ref u8, .ref u16, .long 0, .long 0])), (u1, .inr (4, [.ref u2, .int 0])), (u2, .inl (cI, 47, .inl (fun _ => 0))), (u3, .inr (5, [.ref u4, .int 0, .int 0, .int 0, .int 0])), (u4, .inl (cI, 16, .inl (fun _ => 0))), (u5, .inr (2, [.ref u6, .ref u7, .int 0, .int 0])), (u6, .inl (cI, 20, .inl (fun _ => 0))), (u7, .inl (cI, 4, .inl (fun _ => 0))), (u8, .inr (3, [.ref u9, .ref u15, .int 0, .int 0])), (u9, .inr (0, [.ref u10, .ref u11, .ref u12, .ref u13, .ref u14, .int 0, .int 0, .long 0])), (u10, .inl (cJ, 25, .inr (.inl (fun _ => 0)))), (u11, .inl (cJ, 9, .inr (.inl (fun _ => 0)))), (u12, .inl (cJ, 3, .inr (.inl (fun _ => 0)))), (u13, .inl (cJ, 4, .inr (.inl (fun _ => 0)))), (u14, .inr (1, [.long 0, .long 1])), (u15, .inr (1, [.long 0, .long 1])), (u16, .inr (1, [.long 0, .long 1])), (v0, .inr (7, [.int 0, .null, .int 0, .int 0, .null, .null, .null, .int 0, .int 0, .int 0, .int 0, .int 0, .int 0, .int 0, .null, .int 0, .null, .long 0, .null, .long 0, .null, .null, .int 0, .int 0, .long 0]))] := w
  refine lv_dup hx hb dL_law_11 rfl ?_
  refine fr_callC (As := []) (rest := [.ref v0]) (wr := [(u0, .inr (6, [.ref u1, .ref u3, .ref u5, .ref u8, .ref u16, .long 0, .long 0])), (u1, .inr (4, [.ref u2, .int 0])), (u2, .inl (cI, 47, .inl (fun _ => 0))), (u3, .inr (5, [.ref u4, .int 0, .int 0, .int 0, .int 0])), (u4, .inl (cI, 16, .inl (fun _ => 0))), (u5, .inr (2, [.ref u6, .ref u7, .int 0, .int 0])), (u6, .inl (cI, 20, .inl (fun _ => 0))), (u7, .inl (cI, 4, .inl (fun _ => 0))), (u8, .inr (3, [.ref u9, .ref u15, .int 0, .int 0])), (u9, .inr (0, [.ref u10, .ref u11, .ref u12, .ref u13, .ref u14, .int 0, .int 0, .long 0])), (u10, .inl (cJ, 25, .inr (.inl (fun _ => 0)))), (u11, .inl (cJ, 9, .inr (.inl (fun _ => 0)))), (u12, .inl (cJ, 3, .inr (.inl (fun _ => 0)))), (u13, .inl (cJ, 4, .inr (.inl (fun _ => 0)))), (u14, .inr (1, [.long 0, .long 1])), (u15, .inr (1, [.long 0, .long 1])), (u16, .inr (1, [.long 0, .long 1]))]) C1 w ki_X7_init mw_4_6 (c_X7_init l (dC, dI) cI cJ v0) ⟨Nat.le_of_ble_eq_true rfl, Nat.le_of_ble_eq_true rfl⟩ ⟨Nat.le_of_ble_eq_true rfl, Nat.le_of_ble_eq_true rfl⟩ [17] [0, 1, 2, 3, 4, 5, 6, 7, 8, 9, 10, 11, 12, 13, 14, 15, 16] rfl rfl rfl (by decide) (by decide) rfl hl.1 rfl (Nat.le_of_ble_eq_true rfl) dL_law_12 (fun u H locs w => ?_)
  obtain ⟨v1, v2, v3, v4, v5, v6, v7, v8, v9⟩ := u
  have w : Wd (dC, dI) (fun q : Nat => s.heap.size ≤ q) s.heap H locs [(u0, .inr (6, [.ref u1, .ref u3, .ref u5, .ref u8, .ref u16, .long 0, .long 0])), (u1, .inr (4, [.ref u2, .int 0])), (u2, .inl (cI, 47, .inl (fun _ => 0))), (u3, .inr (5, [.ref u4, .int 0, .int 0, .int 0, .int 0])), (u4, .inl (cI, 16, .inl (fun _ => 0))), (u5, .inr (2, [.ref u6, .ref u7, .int 0, .int 0])), (u6, .inl (cI, 20, .inl (fun _ => 0))), (u7, .inl (cI, 4, .inl (fun _ => 0))), (u8, .inr (3, [.ref u9, .ref u15, .int 0, .int 0])), (u9, .inr (0, [.ref u10, .ref u11, .ref u12, .ref u13, .ref u14, .int 0, .int 0, .long 0])), (u10, .inl (cJ, 25, .inr (.inl (fun _ => 0)))), (u11, .inl (cJ, 9, .inr (.inl (fun _ => 0)))), (u12, .inl (cJ, 3, .inr (.inl (fun _ => 0)))), (u13, .inl (cJ, 4, .inr (.inl (fun _ => 0)))), (u14, .inr (1, [.long 0, .long 1])), (u15, .inr (1, [.long 0, .long 1])), (u16, .inr (1, [.long 0, .long 1])), (v0, .inr (7, [.int 0, .ref v1, .int 0, .int 0, .ref v2, .ref v3, .ref v4, .int 0, .int 0, .int 0, .int 0, .int 0, .int 0, .int 0, .ref v5, .int 0, .ref v6, .long 0, .ref v7, .long 0, .ref v8, .ref v9, .int 0, .int 0, .long 0])), (v1, .inl (cI, 47, .inl (fun _ => 0))), (v2, .inl (cI, 16, .inl (fun _ => 0))), (v3, .inl (cI, 4, .inl (fun _ => 0))), (v4, .inl (cI, 4, .inl (fun _ => 0))), (v5, .inl (cI, 16, .inl (fun _ => 0))), (v6, .inl (cI, 4, .inl (fun _ => 0))), (v7, .inl (cJ, 4, .inr (.inl (fun _ => 0)))), (v8, .inl (cJ, 9, .inr (.inl (fun _ => 0)))), (v9, .inl (cJ, 3, .inr (.inl (fun _ => 0))))] := w
  refine lv_astore_n (lv' := [(2, .ref v0), (1, .ref u0), (0, .ref b)]) hx hb dL_law_15 rfl hl (by decide) rfl (fun ls hl => ?_)
  refine lv_iconst (v := 0) hx hb dL_law_16 (by decide) ?_
  refine lv_istore_n (lv' := [(3, .int 0), (2, .ref v0), (1, .ref u0), (0, .ref b)]) hx hb dL_law_17 rfl hl (by decide) rfl (fun ls hl => ?_)
  have w : Wd (dC, dI) (fun q : Nat => s.heap.size ≤ q) s.heap H locs (lawWd (fun k => ([u0, u16, u1, u2, u3, u4, u8, u15, u9, u10, u11, u12, u13, u14, u5, u6, u7, v0, v1, v2, v3, v4, v5, v6, v7, v8, v9] : List Nat).getD k 0) cI cJ 0 0 0 1 0 (fun _ => 0) 0 0 0 0 (fun _ => 0) 0 0 0 1 0 0 0 (fun _ => 0) (fun _ => 0) (fun _ => 0) (fun _ => 0) 0 1 0 0 (fun _ => 0) (fun _ => 0) 0 0 0 0 0 0 0 0 0 0 0 0 0 0 0 0 (fun _ => 0) (fun _ => 0) (fun _ => 0) (fun _ => 0) (fun _ => 0) (fun _ => 0) (fun _ => 0) (fun _ => 0) (fun _ => 0)) := ⟨w.1.sub [0, 16, 1, 2, 3, 4, 8, 15, 9, 10, 11, 12, 13, 14, 5, 6, 7, 17, 18, 19, 20, 21, 22, 23, 24, 25, 26] rfl, w.2.1.sub [0, 16, 1, 2, 3, 4, 8, 15, 9, 10, 11, 12, 13, 14, 5, 6, 7, 17, 18, 19, 20, 21, 22, 23, 24, 25, 26] (by decide) rfl, w.2.2.1, w.2.2.2⟩
  exact law_loop (ad := fun k => ([u0, u16, u1, u2, u3, u4, u8, u15, u9, u10, u11, u12, u13, u14, u5, u6, u7, v0, v1, v2, v3, v4, v5, v6, v7, v8, v9] : List Nat).getD k 0) C1 hr hlocks hX hbl hbA hL 513 0 (Nat.zero_le _) (by omega) 0 0 0 1 0 (fun _ => 0) 0 0 0 0 (fun _ => 0) 0 0 0 1 0 0 0 (fun _ => 0) (fun _ => 0) (fun _ => 0) (fun _ => 0) 0 1 0 0 (fun _ => 0) (fun _ => 0) 0 0 0 0 0 0 0 0 0 0 0 0 0 0 0 0 (fun _ => 0) (fun _ => 0) (fun _ => 0) (fun _ => 0) (fun _ => 0) (fun _ => 0) (fun _ => 0) (fun _ => 0) (fun _ => 0) rel_0 H locs w ls (lv_sub hl [3, 2, 1, 0] rfl)
