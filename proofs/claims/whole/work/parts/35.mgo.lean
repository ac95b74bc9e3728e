theorem mw_8_19 : Cond.methodLink RX7 68 yX7_takes ∈ wsL_law := ck_8 _ (List.mem_of_getElem? (i := 19) rfl)
theorem mw_8_22 : Cond.code yX7_takes cX7_takes 4 (some .boolean) ∈ wsL_law := ck_8 _ (List.mem_of_getElem? (i := 22) rfl)
theorem mw_8_20 : Cond.instanceMethod yX7_takes ∈ wsL_law := ck_8 _ (List.mem_of_getElem? (i := 20) rfl)
theorem mw_8_21 : Cond.selects RX7 yX7_takes yX7_takes ∈ wsL_law := ck_8 _ (List.mem_of_getElem? (i := 21) rfl)
theorem mw_8_10 : Cond.methodLink RX7 72 yX7_goAlong ∈ wsL_law := ck_8 _ (List.mem_of_getElem? (i := 10) rfl)
theorem mw_8_13 : Cond.code yX7_goAlong cX7_goAlong 2 (some .int) ∈ wsL_law := ck_8 _ (List.mem_of_getElem? (i := 13) rfl)
theorem mw_8_11 : Cond.instanceMethod yX7_goAlong ∈ wsL_law := ck_8 _ (List.mem_of_getElem? (i := 11) rfl)
theorem mw_8_12 : Cond.selects RX7 yX7_goAlong yX7_goAlong ∈ wsL_law := ck_8 _ (List.mem_of_getElem? (i := 12) rfl)
theorem kf_X7_takes : KV RX7 yX7_takes cX7_takes 4 (some .boolean) 1 := ⟨mw_8_22, mw_8_20, mw_8_21, mw_1_5, by decide, by decide, by decide +kernel⟩
theorem kf_X7_goAlong : KV RX7 yX7_goAlong cX7_goAlong 2 (some .int) 0 := ⟨mw_8_13, mw_8_11, mw_8_12, mw_1_5, by decide, by decide, by decide +kernel⟩
def L_X7_goAlong_27 (mpl : Int32) (mpg : Nat → Int32) : Nat → Int32 → Int32 → Int32 → Int32 → Int32 → Int32 → (Nat → Int32) → Int32 × Int32 × Int32 × Int32 × Int32 × Int32 × (Nat → Int32)
  | 0, _, _, _, _, _, _, _ => (0, 0, 0, 0, 0, 0, fun _ => 0)
  | n27 + 1, i1, w2, w3, w4, w5, w6, w7 => (if mpl ≤ i1 then (i1, w2, w3, w4, w5, w6, w7) else ((fun (z42_9 : Int32 × Int32 × Int32 × Int32 × Int32 × Int32 × (Nat → Int32)) => (if z42_9.1 = 0 then (i1, z42_9.2.1, z42_9.2.2.1, z42_9.2.2.2.1, z42_9.2.2.2.2.1, z42_9.2.2.2.2.2.1, z42_9.2.2.2.2.2.2) else L_X7_goAlong_27 mpl mpg n27 (i1 + 1) z42_9.2.1 z42_9.2.2.1 z42_9.2.2.2.1 z42_9.2.2.2.2.1 z42_9.2.2.2.2.2.1 z42_9.2.2.2.2.2.2)) (f_X7_takes w2 w3 w4 w5 w6 w7 (mpg (Int32.toNatClampNeg i1)))))
def f_X7_goAlong (mpl : Int32) (mpg : Nat → Int32) (mna : Nat → Int32) : Int32 × Int32 × Int32 × Int32 × Int32 × Int32 × (Nat → Int32) := ((fun (y27 : Int32 × Int32 × Int32 × Int32 × Int32 × Int32 × (Nat → Int32)) => (y27.1, y27.2.1, y27.2.2.1, y27.2.2.2.1, y27.2.2.2.2.1, y27.2.2.2.2.2.1, y27.2.2.2.2.2.2)) (L_X7_goAlong_27 mpl mpg 48 0 0 0 0 0 0 mna))
set_option maxRecDepth 100000 in
set_option maxHeartbeats 4000000 in
theorem c_X7_goAlong (l : Launch) (D : va_G) (cI cJ : ClassId) (am ama amb amc amd ame amf amg amp amo : Nat) (mpl : Int32) (msc : Int32) (mtc : Int32) (msr : Int32) (mal : Int32) (mns : Int32) (mnn : Int32) (mnt : Int32) (mfi : Int32) (mnw : Int32) (mmy : Int32) (mbe : Int64) (mmf : Int64) (mbs : Int32) (mco : Int32) (mh : Int64) (mpg : Nat → Int32) (mam : Nat → Int32) (mwa : Nat → Int32) (mww : Nat → Int32) (mna : Nat → Int32) (mmb : Nat → Int32) (msh : Nat → Int64) (mpa : Nat → Int64) (mgo : Nat → Int64)  (hmp : ∃ n : Nat, n ≤ 47 ∧ mpl = nI n) : CI l yX7_goAlong cX7_goAlong 2 .int 2 D cI cJ [.ref am] [(am, .inr (7, [.int mpl, .ref ama, .int msc, .int mtc, .ref amb, .ref amc, .ref amd, .int msr, .int mal, .int mns, .int mnn, .int mnt, .int mfi, .int mnw, .ref ame, .int mmy, .ref amf, .long mbe, .ref amg, .long mmf, .ref amp, .ref amo, .int mbs, .int mco, .long mh])), (ama, .inl (cI, 47, .inl mpg)), (amb, .inl (cI, 16, .inl mam)), (amc, .inl (cI, 4, .inl mwa)), (amd, .inl (cI, 4, .inl mww)), (ame, .inl (cI, 16, .inl mna)), (amf, .inl (cI, 4, .inl mmb)), (amg, .inl (cJ, 4, .inr (.inl msh))), (amp, .inl (cJ, 9, .inr (.inl mpa))), (amo, .inl (cJ, 3, .inr (.inl mgo)))] [(am, .inr (7, [.int mpl, .ref ama, .int msc, .int mtc, .ref amb, .ref amc, .ref amd, .int msr, .int mal, .int ((f_X7_goAlong mpl mpg mna).2.1), .int ((f_X7_goAlong mpl mpg mna).2.2.1), .int ((f_X7_goAlong mpl mpg mna).2.2.2.1), .int ((f_X7_goAlong mpl mpg mna).2.2.2.2.1), .int ((f_X7_goAlong mpl mpg mna).2.2.2.2.2.1), .ref ame, .int mmy, .ref amf, .long mbe, .ref amg, .long mmf, .ref amp, .ref amo, .int mbs, .int mco, .long mh])), (ama, .inl (cI, 47, .inl mpg)), (amb, .inl (cI, 16, .inl mam)), (amc, .inl (cI, 4, .inl mwa)), (amd, .inl (cI, 4, .inl mww)), (ame, .inl (cI, 16, .inl ((f_X7_goAlong mpl mpg mna).2.2.2.2.2.2))), (amf, .inl (cI, 4, .inl mmb)), (amg, .inl (cJ, 4, .inr (.inl msh))), (amp, .inl (cJ, 9, .inr (.inl mpa))), (amo, .inl (cJ, 3, .inr (.inl mgo)))] ((f_X7_goAlong mpl mpg mna).1) := by
  generalize hr : f_X7_goAlong mpl mpg mna = r
  obtain ⟨nmp, hmp1, hmp2⟩ := id hmp
  refine fr_entryI (by decide) rfl ?_
  intro p e s m args below meth c A Q H locs hQ C hret hlk w ls hl
  have hx := C.1
  have hb := C.2.1
  have hl : lv_has ls 2 [(0, .ref am)] := hl
  have hr : ((fun (y27 : Int32 × Int32 × Int32 × Int32 × Int32 × Int32 × (Nat → Int32)) => (y27.1, y27.2.1, y27.2.2.1, y27.2.2.2.1, y27.2.2.2.2.1, y27.2.2.2.2.2.1, y27.2.2.2.2.2.2)) (L_X7_goAlong_27 mpl mpg 48 0 0 0 0 0 0 mna)) = r := hr
  refine lv_aload_n hx hb dX7_goAlong_0 rfl (lv_at hl 0 rfl) ?_
  refine lv_iconst (v := 0) hx hb dX7_goAlong_1 (by decide) ?_
  refine fr_put C w fp_X7_50 0 rfl rfl rfl rfl (ws' := [(am, .inr (7, [.int mpl, .ref ama, .int msc, .int mtc, .ref amb, .ref amc, .ref amd, .int msr, .int mal, .int 0, .int mnn, .int mnt, .int mfi, .int mnw, .ref ame, .int mmy, .ref amf, .long mbe, .ref amg, .long mmf, .ref amp, .ref amo, .int mbs, .int mco, .long mh])), (ama, .inl (cI, 47, .inl mpg)), (amb, .inl (cI, 16, .inl mam)), (amc, .inl (cI, 4, .inl mwa)), (amd, .inl (cI, 4, .inl mww)), (ame, .inl (cI, 16, .inl mna)), (amf, .inl (cI, 4, .inl mmb)), (amg, .inl (cJ, 4, .inr (.inl msh))), (amp, .inl (cJ, 9, .inr (.inl mpa))), (amo, .inl (cJ, 3, .inr (.inl mgo)))]) rfl dX7_goAlong_2 (fun H locs w => ?_)
  refine lv_aload_n hx hb dX7_goAlong_5 rfl (lv_at hl 0 rfl) ?_
  refine lv_iconst (v := 0) hx hb dX7_goAlong_6 (by decide) ?_
  refine fr_put C w fp_X7_53 0 rfl rfl rfl rfl (ws' := [(am, .inr (7, [.int mpl, .ref ama, .int msc, .int mtc, .ref amb, .ref amc, .ref amd, .int msr, .int mal, .int 0, .int 0, .int mnt, .int mfi, .int mnw, .ref ame, .int mmy, .ref amf, .long mbe, .ref amg, .long mmf, .ref amp, .ref amo, .int mbs, .int mco, .long mh])), (ama, .inl (cI, 47, .inl mpg)), (amb, .inl (cI, 16, .inl mam)), (amc, .inl (cI, 4, .inl mwa)), (amd, .inl (cI, 4, .inl mww)), (ame, .inl (cI, 16, .inl mna)), (amf, .inl (cI, 4, .inl mmb)), (amg, .inl (cJ, 4, .inr (.inl msh))), (amp, .inl (cJ, 9, .inr (.inl mpa))), (amo, .inl (cJ, 3, .inr (.inl mgo)))]) rfl dX7_goAlong_7 (fun H locs w => ?_)
  refine lv_aload_n hx hb dX7_goAlong_10 rfl (lv_at hl 0 rfl) ?_
  refine lv_iconst (v := 0) hx hb dX7_goAlong_11 (by decide) ?_
  refine fr_put C w fp_X7_62 0 rfl rfl rfl rfl (ws' := [(am, .inr (7, [.int mpl, .ref ama, .int msc, .int mtc, .ref amb, .ref amc, .ref amd, .int msr, .int mal, .int 0, .int 0, .int 0, .int mfi, .int mnw, .ref ame, .int mmy, .ref amf, .long mbe, .ref amg, .long mmf, .ref amp, .ref amo, .int mbs, .int mco, .long mh])), (ama, .inl (cI, 47, .inl mpg)), (amb, .inl (cI, 16, .inl mam)), (amc, .inl (cI, 4, .inl mwa)), (amd, .inl (cI, 4, .inl mww)), (ame, .inl (cI, 16, .inl mna)), (amf, .inl (cI, 4, .inl mmb)), (amg, .inl (cJ, 4, .inr (.inl msh))), (amp, .inl (cJ, 9, .inr (.inl mpa))), (amo, .inl (cJ, 3, .inr (.inl mgo)))]) rfl dX7_goAlong_12 (fun H locs w => ?_)
  refine lv_aload_n hx hb dX7_goAlong_15 rfl (lv_at hl 0 rfl) ?_
  refine lv_iconst (v := 0) hx hb dX7_goAlong_16 (by decide) ?_
  refine fr_put C w fp_X7_59 0 rfl rfl rfl rfl (ws' := [(am, .inr (7, [.int mpl, .ref ama, .int msc, .int mtc, .ref amb, .ref amc, .ref amd, .int msr, .int mal, .int 0, .int 0, .int 0, .int 0, .int mnw, .ref ame, .int mmy, .ref amf, .long mbe, .ref amg, .long mmf, .ref amp, .ref amo, .int mbs, .int mco, .long mh])), (ama, .inl (cI, 47, .inl mpg)), (amb, .inl (cI, 16, .inl mam)), (amc, .inl (cI, 4, .inl mwa)), (amd, .inl (cI, 4, .inl mww)), (ame, .inl (cI, 16, .inl mna)), (amf, .inl (cI, 4, .inl mmb)), (amg, .inl (cJ, 4, .inr (.inl msh))), (amp, .inl (cJ, 9, .inr (.inl mpa))), (amo, .inl (cJ, 3, .inr (.inl mgo)))]) rfl dX7_goAlong_17 (fun H locs w => ?_)
  refine lv_aload_n hx hb dX7_goAlong_20 rfl (lv_at hl 0 rfl) ?_
  refine lv_iconst (v := 0) hx hb dX7_goAlong_21 (by decide) ?_
  refine fr_put C w fp_X7_56 0 rfl rfl rfl rfl (ws' := [(am, .inr (7, [.int mpl, .ref ama, .int msc, .int mtc, .ref amb, .ref amc, .ref amd, .int msr, .int mal, .int 0, .int 0, .int 0, .int 0, .int 0, .ref ame, .int mmy, .ref amf, .long mbe, .ref amg, .long mmf, .ref amp, .ref amo, .int mbs, .int mco, .long mh])), (ama, .inl (cI, 47, .inl mpg)), (amb, .inl (cI, 16, .inl mam)), (amc, .inl (cI, 4, .inl mwa)), (amd, .inl (cI, 4, .inl mww)), (ame, .inl (cI, 16, .inl mna)), (amf, .inl (cI, 4, .inl mmb)), (amg, .inl (cJ, 4, .inr (.inl msh))), (amp, .inl (cJ, 9, .inr (.inl mpa))), (amo, .inl (cJ, 3, .inr (.inl mgo)))]) rfl dX7_goAlong_22 (fun H locs w => ?_)
  refine lv_iconst (v := 0) hx hb dX7_goAlong_25 (by decide) ?_
  refine lv_istore_n (lv' := [(1, .int 0), (0, .ref am)]) hx hb dX7_goAlong_26 rfl hl (by decide) rfl (fun ls hl => ?_)
  obtain ⟨y27, hy27⟩ : ∃ y, y = L_X7_goAlong_27 mpl mpg 48 0 0 0 0 0 0 mna := ⟨_, rfl⟩
  have hr : (y27.1, y27.2.1, y27.2.2.1, y27.2.2.2.1, y27.2.2.2.2.1, y27.2.2.2.2.2.1, y27.2.2.2.2.2.2) = r := by rw [hy27]; exact hr
  have X27 : ∀ (H : Heap) (locs : List Loc), Wd D A s.heap H locs [(am, .inr (7, [.int mpl, .ref ama, .int msc, .int mtc, .ref amb, .ref amc, .ref amd, .int msr, .int mal, .int y27.2.1, .int y27.2.2.1, .int y27.2.2.2.1, .int y27.2.2.2.2.1, .int y27.2.2.2.2.2.1, .ref ame, .int mmy, .ref amf, .long mbe, .ref amg, .long mmf, .ref amp, .ref amo, .int mbs, .int mco, .long mh])), (ama, .inl (cI, 47, .inl mpg)), (amb, .inl (cI, 16, .inl mam)), (amc, .inl (cI, 4, .inl mwa)), (amd, .inl (cI, 4, .inl mww)), (ame, .inl (cI, 16, .inl y27.2.2.2.2.2.2)), (amf, .inl (cI, 4, .inl mmb)), (amg, .inl (cJ, 4, .inr (.inl msh))), (amp, .inl (cJ, 9, .inr (.inl mpa))), (amo, .inl (cJ, 3, .inr (.inl mgo)))] → ∀ (ls : Array Slot), lv_has ls 2 [(0, .ref am), (1, .int y27.1)] → W p l e (rl 2) s m args below meth c H locs 0 0 Q (F0 m 54 ls []) := by
    intro H locs w ls hl
    refine lv_iload_n hx hb dX7_goAlong_54 rfl (lv_at hl 1 rfl) ?_
    subst hr hQ
    exact fr_iret (W0 := []) C hret hlk w rfl rfl rfl dX7_goAlong_55
  have LP27 : ∀ (n27 : Nat) (k27 : Nat) (i1 : Int32) (w2 : Int32) (w3 : Int32) (w4 : Int32) (w5 : Int32) (w6 : Int32) (w7 : Nat → Int32), i1 = nI k27 → k27 ≤ nmp → nmp < k27 + n27 → PI w2 w3 w4 → L_X7_goAlong_27 mpl mpg n27 i1 w2 w3 w4 w5 w6 w7 = y27 → ∀ (H : Heap) (locs : List Loc), Wd D A s.heap H locs [(am, .inr (7, [.int mpl, .ref ama, .int msc, .int mtc, .ref amb, .ref amc, .ref amd, .int msr, .int mal, .int w2, .int w3, .int w4, .int w5, .int w6, .ref ame, .int mmy, .ref amf, .long mbe, .ref amg, .long mmf, .ref amp, .ref amo, .int mbs, .int mco, .long mh])), (ama, .inl (cI, 47, .inl mpg)), (amb, .inl (cI, 16, .inl mam)), (amc, .inl (cI, 4, .inl mwa)), (amd, .inl (cI, 4, .inl mww)), (ame, .inl (cI, 16, .inl w7)), (amf, .inl (cI, 4, .inl mmb)), (amg, .inl (cJ, 4, .inr (.inl msh))), (amp, .inl (cJ, 9, .inr (.inl mpa))), (amo, .inl (cJ, 3, .inr (.inl mgo)))] → ∀ (ls : Array Slot), lv_has ls 2 [(0, .ref am), (1, .int i1)] → W p l e (rl 2) s m args below meth c H locs 0 0 Q (F0 m 27 ls []) := by
    clear hr
    intro n27
    induction n27 with
    | zero => intro k27 i1 w2 w3 w4 w5 w6 w7 hk27 hkN27 hn27 hin27; exact absurd hn27 (by omega)
    | succ n27 ih27 =>
      intro k27 i1 w2 w3 w4 w5 w6 w7 hk27 hkN27 hn27 hin27 hr H locs w ls hl
      have hr : (if mpl ≤ i1 then (i1, w2, w3, w4, w5, w6, w7) else ((fun (z42_9 : Int32 × Int32 × Int32 × Int32 × Int32 × Int32 × (Nat → Int32)) => (if z42_9.1 = 0 then (i1, z42_9.2.1, z42_9.2.2.1, z42_9.2.2.2.1, z42_9.2.2.2.2.1, z42_9.2.2.2.2.2.1, z42_9.2.2.2.2.2.2) else L_X7_goAlong_27 mpl mpg n27 (i1 + 1) z42_9.2.1 z42_9.2.2.1 z42_9.2.2.2.1 z42_9.2.2.2.2.1 z42_9.2.2.2.2.2.1 z42_9.2.2.2.2.2.2)) (f_X7_takes w2 w3 w4 w5 w6 w7 (mpg (Int32.toNatClampNeg i1))))) = y27 := hr
      refine lv_iload_n hx hb dX7_goAlong_27 rfl (lv_at hl 1 rfl) ?_
      refine lv_aload_n hx hb dX7_goAlong_28 rfl (lv_at hl 0 rfl) ?_
      refine fr_get C w fg_X7_44 0 rfl rfl dX7_goAlong_29 ?_
      refine lv_icmp_ge (tgt := 54) hx hb dX7_goAlong_32 (by decide) (fun c32_8 => ?_) (fun c32_8 => ?_)
      · have hr := (if_pos c32_8).symm.trans hr
        subst hr
        exact X27 H locs w ls (lv_sub hl [0, 1] rfl)
      · have hr := (if_neg c32_8).symm.trans hr
        have hkl27 := kl_of hk27 hkN27 (N := nmp) hmp2 (by omega) c32_8
        refine lv_aload_n hx hb dX7_goAlong_35 rfl (lv_at hl 0 rfl) ?_
        refine lv_aload_n hx hb dX7_goAlong_36 rfl (lv_at hl 0 rfl) ?_
        refine fr_get C w fg_X7_7 0 rfl rfl dX7_goAlong_37 ?_
        refine lv_iload_n hx hb dX7_goAlong_40 rfl (lv_at hl 1 rfl) ?_
        refine fr_iald C w 1 rfl (vi_ctr hk27 hkl27 (by omega) (by decide)) dX7_goAlong_41 ?_
        obtain ⟨z42_9, hz42_9⟩ : ∃ y, (f_X7_takes w2 w3 w4 w5 w6 w7 (mpg (Int32.toNatClampNeg i1))) = y := ⟨_, rfl⟩
        have hcz42_9 := c_X7_takes l D cI cJ am ama amb amc amd ame amf amg amp amo mpl msc mtc msr mal w2 w3 w4 w5 w6 mmy mbe mmf mbs mco mh mpg mam mwa mww w7 mmb msh mpa mgo (mpg (Int32.toNatClampNeg i1)) hin27
        rw [hz42_9] at hcz42_9
        have hr : (if z42_9.1 = 0 then (i1, z42_9.2.1, z42_9.2.2.1, z42_9.2.2.2.1, z42_9.2.2.2.2.1, z42_9.2.2.2.2.2.1, z42_9.2.2.2.2.2.2) else L_X7_goAlong_27 mpl mpg n27 (i1 + 1) z42_9.2.1 z42_9.2.2.1 z42_9.2.2.2.1 z42_9.2.2.2.2.1 z42_9.2.2.2.2.2.1 z42_9.2.2.2.2.2.2) = y27 := by subst hz42_9; exact hr
        refine fr_callIV (As := [.int (mpg (Int32.toNatClampNeg i1))]) (rest := []) C w kf_X7_takes mw_8_19 (hcz42_9) ⟨Nat.le_of_ble_eq_true rfl, Nat.le_of_ble_eq_true rfl⟩ ⟨Nat.le_refl 0, Nat.le_refl 0⟩ [0, 1, 2, 3, 4, 5, 6, 7, 8, 9] rfl rfl rfl (ws' := [(am, .inr (7, [.int mpl, .ref ama, .int msc, .int mtc, .ref amb, .ref amc, .ref amd, .int msr, .int mal, .int z42_9.2.1, .int z42_9.2.2.1, .int z42_9.2.2.2.1, .int z42_9.2.2.2.2.1, .int z42_9.2.2.2.2.2.1, .ref ame, .int mmy, .ref amf, .long mbe, .ref amg, .long mmf, .ref amp, .ref amo, .int mbs, .int mco, .long mh])), (ama, .inl (cI, 47, .inl mpg)), (amb, .inl (cI, 16, .inl mam)), (amc, .inl (cI, 4, .inl mwa)), (amd, .inl (cI, 4, .inl mww)), (ame, .inl (cI, 16, .inl z42_9.2.2.2.2.2.2)), (amf, .inl (cI, 4, .inl mmb)), (amg, .inl (cJ, 4, .inr (.inl msh))), (amp, .inl (cJ, 9, .inr (.inl mpa))), (amo, .inl (cJ, 3, .inr (.inl mgo)))]) rfl rfl rfl rfl hl.1 rfl (Nat.le_of_ble_eq_true rfl) dX7_goAlong_42 (fun H locs w => ?_)
        refine lv_if_eq (tgt := 54) hx hb dX7_goAlong_45 (by decide) (fun c45_10 => ?_) (fun c45_10 => ?_)
        · have hr := (if_pos c45_10).symm.trans hr
          subst hr
          exact X27 H locs w ls (lv_sub hl [0, 1] rfl)
        · have hr := (if_neg c45_10).symm.trans hr
          refine lv_iinc (v := i1 + 1) (lv' := [(1, .int (i1 + 1)), (0, .ref am)]) hx hb dX7_goAlong_48 hl (k := 1) rfl rfl (by decide) rfl (fun ls hl => ?_)
          refine lv_goto (tgt := 27) hx hb dX7_goAlong_51 (by decide) ?_
          exact ih27 (k27 + 1) (i1 + 1) z42_9.2.1 z42_9.2.2.1 z42_9.2.2.2.1 z42_9.2.2.2.2.1 z42_9.2.2.2.2.2.1 z42_9.2.2.2.2.2.2 (by rw [hk27]; exact nI_1 k27) (by omega) (by omega) (by subst_vars; exact takes_PI (by assumption)) hr H locs w ls (lv_sub hl [1, 0] rfl)
  exact LP27 48 0 0 0 0 0 0 0 mna (by decide) (by omega) (by omega) PI0 hy27.symm H locs w ls (lv_sub hl [1, 0] rfl)
def f_X7_fault (mpl : Int32) (mpg : Nat → Int32) (mna : Nat → Int32) : Int64 × Int32 × Int32 × Int32 × Int32 × Int32 × (Nat → Int32) := ((fun (z1_1 : Int32 × Int32 × Int32 × Int32 × Int32 × Int32 × (Nat → Int32)) => ((Int32.toInt64 z1_1.1), z1_1.2.1, z1_1.2.2.1, z1_1.2.2.2.1, z1_1.2.2.2.2.1, z1_1.2.2.2.2.2.1, z1_1.2.2.2.2.2.2)) (f_X7_goAlong mpl mpg mna))
set_option maxRecDepth 100000 in
set_option maxHeartbeats 4000000 in
theorem c_X7_fault (l : Launch) (D : va_G) (cI cJ : ClassId) (am ama amb amc amd ame amf amg amp amo : Nat) (mpl : Int32) (msc : Int32) (mtc : Int32) (msr : Int32) (mal : Int32) (mns : Int32) (mnn : Int32) (mnt : Int32) (mfi : Int32) (mnw : Int32) (mmy : Int32) (mbe : Int64) (mmf : Int64) (mbs : Int32) (mco : Int32) (mh : Int64) (mpg : Nat → Int32) (mam : Nat → Int32) (mwa : Nat → Int32) (mww : Nat → Int32) (mna : Nat → Int32) (mmb : Nat → Int32) (msh : Nat → Int64) (mpa : Nat → Int64) (mgo : Nat → Int64)  (hmp : ∃ n : Nat, n ≤ 47 ∧ mpl = nI n) : CL l yX7_fault cX7_fault 1 3 D cI cJ [.ref am] [(am, .inr (7, [.int mpl, .ref ama, .int msc, .int mtc, .ref amb, .ref amc, .ref amd, .int msr, .int mal, .int mns, .int mnn, .int mnt, .int mfi, .int mnw, .ref ame, .int mmy, .ref amf, .long mbe, .ref amg, .long mmf, .ref amp, .ref amo, .int mbs, .int mco, .long mh])), (ama, .inl (cI, 47, .inl mpg)), (amb, .inl (cI, 16, .inl mam)), (amc, .inl (cI, 4, .inl mwa)), (amd, .inl (cI, 4, .inl mww)), (ame, .inl (cI, 16, .inl mna)), (amf, .inl (cI, 4, .inl mmb)), (amg, .inl (cJ, 4, .inr (.inl msh))), (amp, .inl (cJ, 9, .inr (.inl mpa))), (amo, .inl (cJ, 3, .inr (.inl mgo)))] [(am, .inr (7, [.int mpl, .ref ama, .int msc, .int mtc, .ref amb, .ref amc, .ref amd, .int msr, .int mal, .int ((f_X7_fault mpl mpg mna).2.1), .int ((f_X7_fault mpl mpg mna).2.2.1), .int ((f_X7_fault mpl mpg mna).2.2.2.1), .int ((f_X7_fault mpl mpg mna).2.2.2.2.1), .int ((f_X7_fault mpl mpg mna).2.2.2.2.2.1), .ref ame, .int mmy, .ref amf, .long mbe, .ref amg, .long mmf, .ref amp, .ref amo, .int mbs, .int mco, .long mh])), (ama, .inl (cI, 47, .inl mpg)), (amb, .inl (cI, 16, .inl mam)), (amc, .inl (cI, 4, .inl mwa)), (amd, .inl (cI, 4, .inl mww)), (ame, .inl (cI, 16, .inl ((f_X7_fault mpl mpg mna).2.2.2.2.2.2))), (amf, .inl (cI, 4, .inl mmb)), (amg, .inl (cJ, 4, .inr (.inl msh))), (amp, .inl (cJ, 9, .inr (.inl mpa))), (amo, .inl (cJ, 3, .inr (.inl mgo)))] ((f_X7_fault mpl mpg mna).1) := by
  generalize hr : f_X7_fault mpl mpg mna = r
  refine fr_entryL (by decide) rfl ?_
  intro p e s m args below meth c A Q H locs hQ C hret hlk w ls hl
  have hx := C.1
  have hb := C.2.1
  have hl : lv_has ls 1 [(0, .ref am)] := hl
  have hr : ((fun (z1_1 : Int32 × Int32 × Int32 × Int32 × Int32 × Int32 × (Nat → Int32)) => ((Int32.toInt64 z1_1.1), z1_1.2.1, z1_1.2.2.1, z1_1.2.2.2.1, z1_1.2.2.2.2.1, z1_1.2.2.2.2.2.1, z1_1.2.2.2.2.2.2)) (f_X7_goAlong mpl mpg mna)) = r := hr
  refine lv_aload_n hx hb dX7_fault_0 rfl (lv_at hl 0 rfl) ?_
  obtain ⟨z1_1, hz1_1⟩ : ∃ y, (f_X7_goAlong mpl mpg mna) = y := ⟨_, rfl⟩
  have hcz1_1 := c_X7_goAlong l D cI cJ am ama amb amc amd ame amf amg amp amo mpl msc mtc msr mal mns mnn mnt mfi mnw mmy mbe mmf mbs mco mh mpg mam mwa mww mna mmb msh mpa mgo (by assumption)
  rw [hz1_1] at hcz1_1
  have hr : ((Int32.toInt64 z1_1.1), z1_1.2.1, z1_1.2.2.1, z1_1.2.2.2.1, z1_1.2.2.2.2.1, z1_1.2.2.2.2.2.1, z1_1.2.2.2.2.2.2) = r := by subst hz1_1; exact hr
  refine fr_callIV (As := []) (rest := []) C w kf_X7_goAlong mw_8_10 (hcz1_1) ⟨Nat.le_of_ble_eq_true rfl, Nat.le_of_ble_eq_true rfl⟩ ⟨Nat.le_refl 0, Nat.le_refl 0⟩ [0, 1, 2, 3, 4, 5, 6, 7, 8, 9] rfl rfl rfl (ws' := [(am, .inr (7, [.int mpl, .ref ama, .int msc, .int mtc, .ref amb, .ref amc, .ref amd, .int msr, .int mal, .int z1_1.2.1, .int z1_1.2.2.1, .int z1_1.2.2.2.1, .int z1_1.2.2.2.2.1, .int z1_1.2.2.2.2.2.1, .ref ame, .int mmy, .ref amf, .long mbe, .ref amg, .long mmf, .ref amp, .ref amo, .int mbs, .int mco, .long mh])), (ama, .inl (cI, 47, .inl mpg)), (amb, .inl (cI, 16, .inl mam)), (amc, .inl (cI, 4, .inl mwa)), (amd, .inl (cI, 4, .inl mww)), (ame, .inl (cI, 16, .inl z1_1.2.2.2.2.2.2)), (amf, .inl (cI, 4, .inl mmb)), (amg, .inl (cJ, 4, .inr (.inl msh))), (amp, .inl (cJ, 9, .inr (.inl mpa))), (amo, .inl (cJ, 3, .inr (.inl mgo)))]) rfl rfl rfl rfl hl.1 rfl (Nat.le_of_ble_eq_true rfl) dX7_fault_1 (fun H locs w => ?_)
  refine lv_i2l (v := (Int32.toInt64 z1_1.1)) hx hb dX7_fault_4 rfl ?_
  subst hr hQ
  exact fr_lret C hret hlk w rfl rfl dX7_fault_5
