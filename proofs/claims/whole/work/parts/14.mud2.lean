theorem mw_16_1 : Cond.methodLink RX2 51 yX2_areAlike ∈ wsL_law := ck_16 _ (List.mem_of_getElem? (i := 1) rfl)
theorem mw_16_4 : Cond.code yX2_areAlike cX2_areAlike 5 (some .boolean) ∈ wsL_law := ck_16 _ (List.mem_of_getElem? (i := 4) rfl)
theorem mw_16_2 : Cond.instanceMethod yX2_areAlike ∈ wsL_law := ck_16 _ (List.mem_of_getElem? (i := 2) rfl)
theorem mw_16_3 : Cond.selects RX2 yX2_areAlike yX2_areAlike ∈ wsL_law := ck_16 _ (List.mem_of_getElem? (i := 3) rfl)
theorem mw_9_20 : Cond.methodLink RX2 18 yX5_sourcesRead ∈ wsL_law := ck_9 _ (List.mem_of_getElem? (i := 20) rfl)
theorem mw_9_23 : Cond.code yX5_sourcesRead cX5_sourcesRead 1 (some .int) ∈ wsL_law := ck_9 _ (List.mem_of_getElem? (i := 23) rfl)
theorem mw_9_21 : Cond.instanceMethod yX5_sourcesRead ∈ wsL_law := ck_9 _ (List.mem_of_getElem? (i := 21) rfl)
theorem mw_9_22 : Cond.selects RX5 yX5_sourcesRead yX5_sourcesRead ∈ wsL_law := ck_9 _ (List.mem_of_getElem? (i := 22) rfl)
theorem mw_10_0 : Cond.methodLink RX2 28 yX5_tracersRead ∈ wsL_law := ck_10 _ (List.mem_of_getElem? (i := 0) rfl)
theorem mw_10_3 : Cond.code yX5_tracersRead cX5_tracersRead 1 (some .int) ∈ wsL_law := ck_10 _ (List.mem_of_getElem? (i := 3) rfl)
theorem mw_10_1 : Cond.instanceMethod yX5_tracersRead ∈ wsL_law := ck_10 _ (List.mem_of_getElem? (i := 1) rfl)
theorem mw_10_2 : Cond.selects RX5 yX5_tracersRead yX5_tracersRead ∈ wsL_law := ck_10 _ (List.mem_of_getElem? (i := 2) rfl)
theorem mw_10_4 : Cond.methodLink RX2 34 yX5_draftOf ∈ wsL_law := ck_10 _ (List.mem_of_getElem? (i := 4) rfl)
theorem mw_10_7 : Cond.code yX5_draftOf cX5_draftOf 4 (some .int) ∈ wsL_law := ck_10 _ (List.mem_of_getElem? (i := 7) rfl)
theorem mw_10_5 : Cond.instanceMethod yX5_draftOf ∈ wsL_law := ck_10 _ (List.mem_of_getElem? (i := 5) rfl)
theorem mw_10_6 : Cond.selects RX5 yX5_draftOf yX5_draftOf ∈ wsL_law := ck_10 _ (List.mem_of_getElem? (i := 6) rfl)
theorem fp_X2_24 : FP RX2 24 2 2 .int := ⟨RX2, TX2, 4, tyX2, rfl, by decide, inlX2, mw_9_18, tyX2_ok, nmX2, rfl, by decide +kernel⟩
theorem fp_X2_31 : FP RX2 31 2 3 .int := ⟨RX2, TX2, 4, tyX2, rfl, by decide, inlX2, mw_9_19, tyX2_ok, nmX2, rfl, by decide +kernel⟩
theorem kf_X2_areAlike : KV RX2 yX2_areAlike cX2_areAlike 5 (some .boolean) 3 := ⟨mw_16_4, mw_16_2, mw_16_3, mw_1_22, by decide, by decide, by decide +kernel⟩
theorem kf_X5_sourcesRead : KV RX5 yX5_sourcesRead cX5_sourcesRead 1 (some .int) 0 := ⟨mw_9_23, mw_9_21, mw_9_22, mw_1_18, by decide, by decide, by decide +kernel⟩
theorem kf_X5_tracersRead : KV RX5 yX5_tracersRead cX5_tracersRead 1 (some .int) 0 := ⟨mw_10_3, mw_10_1, mw_10_2, mw_1_18, by decide, by decide, by decide +kernel⟩
theorem kf_X5_draftOf : KV RX5 yX5_draftOf cX5_draftOf 4 (some .int) 2 := ⟨mw_10_7, mw_10_5, mw_10_6, mw_1_18, by decide, by decide, by decide +kernel⟩
def L_X2_firstAlike_2 (xhd : Nat → Int32) (q1 : Int32) (us : Int32) : Nat → Int32 → Int32
  | 0, _ => 0
  | n2 + 1, i1 => (if q1 ≤ i1 then q1 else (if (f_X2_areAlike xhd i1 q1 us) = 0 then L_X2_firstAlike_2 xhd q1 us n2 (i1 + 1) else i1))
def f_X2_firstAlike (xhd : Nat → Int32) (q1 : Int32) (us : Int32) : Int32 := L_X2_firstAlike_2 xhd q1 us 5 0
set_option maxRecDepth 100000 in
set_option maxHeartbeats 4000000 in
theorem c_X2_firstAlike (l : Launch) (D : va_G) (cI cJ : ClassId) (au auh auw : Nat) (xsc : Int32) (xtc : Int32) (xhd : Nat → Int32) (xwt : Nat → Int32) (q1 : Int32) (us : Int32) (hso : ∃ n : Nat, n ≤ 4 ∧ q1 = nI n) : CI l yX2_firstAlike cX2_firstAlike 4 .int 3 D cI cJ [.ref au, .int q1, .int us] [(au, .inr (2, [.ref auh, .ref auw, .int xsc, .int xtc])), (auh, .inl (cI, 20, .inl xhd)), (auw, .inl (cI, 4, .inl xwt))] [(au, .inr (2, [.ref auh, .ref auw, .int xsc, .int xtc])), (auh, .inl (cI, 20, .inl xhd)), (auw, .inl (cI, 4, .inl xwt))] (f_X2_firstAlike xhd q1 us) := by
  generalize hr : f_X2_firstAlike xhd q1 us = r
  obtain ⟨nso, hso1, hso2⟩ := id hso
  refine fr_entryI (by decide) rfl ?_
  intro p e s m args below meth c A Q H locs hQ C hret hlk w ls hl
  have hx := C.1
  have hb := C.2.1
  have hl : lv_has ls 4 [(0, .ref au), (1, .int q1), (2, .int us)] := hl
  have hr : L_X2_firstAlike_2 xhd q1 us 5 0 = r := hr
  refine lv_iconst (v := 0) hx hb dX2_firstAlike_0 (by decide) ?_
  refine lv_istore_n (lv' := [(3, .int 0), (0, .ref au), (1, .int q1), (2, .int us)]) hx hb dX2_firstAlike_1 rfl hl (by decide) rfl (fun ls hl => ?_)
  have LP2 : ∀ (n2 : Nat) (k2 : Nat) (i1 : Int32), i1 = nI k2 → k2 ≤ nso → nso < k2 + n2 → L_X2_firstAlike_2 xhd q1 us n2 i1 = r → ∀ (H : Heap) (locs : List Loc), Wd D A s.heap H locs [(au, .inr (2, [.ref auh, .ref auw, .int xsc, .int xtc])), (auh, .inl (cI, 20, .inl xhd)), (auw, .inl (cI, 4, .inl xwt))] → ∀ (ls : Array Slot), lv_has ls 4 [(0, .ref au), (1, .int q1), (2, .int us), (3, .int i1)] → W p l e (rl 3) s m args below meth c H locs 0 0 Q (F0 m 2 ls []) := by
    skip
    intro n2
    induction n2 with
    | zero => intro k2 i1 hk2 hkN2 hn2; exact absurd hn2 (by omega)
    | succ n2 ih2 =>
      intro k2 i1 hk2 hkN2 hn2 hr H locs w ls hl
      have hr : (if q1 ≤ i1 then q1 else (if (f_X2_areAlike xhd i1 q1 us) = 0 then L_X2_firstAlike_2 xhd q1 us n2 (i1 + 1) else i1)) = r := hr
      refine lv_iload_n hx hb dX2_firstAlike_2 rfl (lv_at hl 3 rfl) ?_
      refine lv_iload_n hx hb dX2_firstAlike_3 rfl (lv_at hl 1 rfl) ?_
      refine lv_icmp_ge (tgt := 25) hx hb dX2_firstAlike_4 (by decide) (fun c4_2 => ?_) (fun c4_2 => ?_)
      · have hr := (if_pos c4_2).symm.trans hr
        refine lv_iload_n hx hb dX2_firstAlike_25 rfl (lv_at hl 1 rfl) ?_
        subst hr hQ
        exact fr_iret (W0 := []) C hret hlk w rfl rfl rfl dX2_firstAlike_26
      · have hr := (if_neg c4_2).symm.trans hr
        have hkl2 := kl_of hk2 hkN2 (N := nso) hso2 (by omega) c4_2
        refine lv_aload_n hx hb dX2_firstAlike_7 rfl (lv_at hl 0 rfl) ?_
        refine lv_iload_n hx hb dX2_firstAlike_8 rfl (lv_at hl 3 rfl) ?_
        refine lv_iload_n hx hb dX2_firstAlike_9 rfl (lv_at hl 1 rfl) ?_
        refine lv_iload_n hx hb dX2_firstAlike_10 rfl (lv_at hl 2 rfl) ?_
        refine fr_callIV (As := [.int i1, .int q1, .int us]) (rest := []) C w kf_X2_areAlike mw_16_1 (c_X2_areAlike l D cI cJ au auh auw xsc xtc xhd xwt i1 q1 us) ⟨Nat.le_of_ble_eq_true rfl, Nat.le_of_ble_eq_true rfl⟩ ⟨Nat.le_refl 0, Nat.le_refl 0⟩ [0, 1, 2] rfl rfl rfl (ws' := [(au, .inr (2, [.ref auh, .ref auw, .int xsc, .int xtc])), (auh, .inl (cI, 20, .inl xhd)), (auw, .inl (cI, 4, .inl xwt))]) rfl rfl rfl rfl hl.1 rfl (Nat.le_of_ble_eq_true rfl) dX2_firstAlike_11 (fun H locs w => ?_)
        refine lv_if_eq (tgt := 19) hx hb dX2_firstAlike_14 (by decide) (fun c14_3 => ?_) (fun c14_3 => ?_)
        · have hr := (if_pos c14_3).symm.trans hr
          refine lv_iinc (v := i1 + 1) (lv' := [(3, .int (i1 + 1)), (0, .ref au), (1, .int q1), (2, .int us)]) hx hb dX2_firstAlike_19 hl (k := 3) rfl rfl (by decide) rfl (fun ls hl => ?_)
          refine lv_goto (tgt := 2) hx hb dX2_firstAlike_22 (by decide) ?_
          exact ih2 (k2 + 1) (i1 + 1) (by rw [hk2]; exact nI_1 k2) (by omega) (by omega) hr H locs w ls (lv_sub hl [1, 2, 3, 0] rfl)
        · have hr := (if_neg c14_3).symm.trans hr
          refine lv_iload_n hx hb dX2_firstAlike_17 rfl (lv_at hl 3 rfl) ?_
          subst hr hQ
          exact fr_iret (W0 := []) C hret hlk w rfl rfl rfl dX2_firstAlike_18
  exact LP2 5 0 0 (by decide) (by omega) (by omega) hr H locs w ls (lv_sub hl [1, 2, 3, 0] rfl)
def L_X2_become_25 (xdr : Nat → Int32) (i1 : Int32) : Nat → Int32 → (Nat → Int32) → Int32 × (Nat → Int32)
  | 0, _, _ => (0, fun _ => 0)
  | n25 + 1, i5, w6 => (if 4 ≤ i5 then (i5, w6) else L_X2_become_25 xdr i1 n25 (i5 + 1) (upd w6 (Int32.toNatClampNeg ((i5 * 4) + i1)) (f_X5_draftOf xdr i5 i1)))
def L_X2_become_18 (xdr : Nat → Int32) : Nat → Int32 → (Nat → Int32) → (Nat → Int32) → Int32 × (Nat → Int32) × (Nat → Int32)
  | 0, _, _, _ => (0, fun _ => 0, fun _ => 0)
  | n18 + 1, i1, w2, w3 => (if 4 ≤ i1 then (i1, w2, w3) else ((fun (y25 : Int32 × (Nat → Int32)) => L_X2_become_18 xdr n18 (i1 + 1) (upd y25.2 (Int32.toNatClampNeg (16 + i1)) 0) (upd w3 (Int32.toNatClampNeg i1) 1)) (L_X2_become_25 xdr i1 5 0 w2)))
def f_X2_become (xhd : Nat → Int32) (xwt : Nat → Int32) (xso : Int32) (xtr : Int32) (xdr : Nat → Int32) : Int32 × Int32 × (Nat → Int32) × (Nat → Int32) := ((fun (y18 : Int32 × (Nat → Int32) × (Nat → Int32)) => ((f_X5_sourcesRead xso), (f_X5_tracersRead xtr), y18.2.1, y18.2.2)) (L_X2_become_18 xdr 5 0 xhd xwt))
set_option maxRecDepth 100000 in
set_option maxHeartbeats 4000000 in
theorem c_X2_become (l : Launch) (D : va_G) (cI cJ : ClassId) (au auh auw ar ard : Nat) (xsc : Int32) (xtc : Int32) (xhd : Nat → Int32) (xwt : Nat → Int32) (xso : Int32) (xtr : Int32) (xwi : Int32) (xnu : Int32) (xdr : Nat → Int32)  : CV l yX2_become cX2_become 4 1 D cI cJ [.ref au, .ref ar] [(au, .inr (2, [.ref auh, .ref auw, .int xsc, .int xtc])), (auh, .inl (cI, 20, .inl xhd)), (auw, .inl (cI, 4, .inl xwt)), (ar, .inr (5, [.ref ard, .int xso, .int xtr, .int xwi, .int xnu])), (ard, .inl (cI, 16, .inl xdr))] [(au, .inr (2, [.ref auh, .ref auw, .int ((f_X2_become xhd xwt xso xtr xdr).1), .int ((f_X2_become xhd xwt xso xtr xdr).2.1)])), (auh, .inl (cI, 20, .inl ((f_X2_become xhd xwt xso xtr xdr).2.2.1))), (auw, .inl (cI, 4, .inl ((f_X2_become xhd xwt xso xtr xdr).2.2.2))), (ar, .inr (5, [.ref ard, .int xso, .int xtr, .int xwi, .int xnu])), (ard, .inl (cI, 16, .inl xdr))] := by
  generalize hr : f_X2_become xhd xwt xso xtr xdr = r
  refine fr_entryV (by decide) rfl ?_
  intro p e s m args below meth c A Q H locs hQ C hret hlk w ls hl
  have hx := C.1
  have hb := C.2.1
  have hl : lv_has ls 4 [(0, .ref au), (1, .ref ar)] := hl
  have hr : ((fun (y18 : Int32 × (Nat → Int32) × (Nat → Int32)) => ((f_X5_sourcesRead xso), (f_X5_tracersRead xtr), y18.2.1, y18.2.2)) (L_X2_become_18 xdr 5 0 xhd xwt)) = r := hr
  refine lv_aload_n hx hb dX2_become_0 rfl (lv_at hl 0 rfl) ?_
  refine lv_aload_n hx hb dX2_become_1 rfl (lv_at hl 1 rfl) ?_
  refine fr_callIV (As := []) (rest := [.ref au]) C w kf_X5_sourcesRead mw_9_20 (c_X5_sourcesRead l D cI cJ ar ard xso xtr xwi xnu xdr) ⟨Nat.le_of_ble_eq_true rfl, Nat.le_of_ble_eq_true rfl⟩ ⟨Nat.le_refl 0, Nat.le_refl 0⟩ [3, 4] rfl rfl rfl (ws' := [(au, .inr (2, [.ref auh, .ref auw, .int xsc, .int xtc])), (auh, .inl (cI, 20, .inl xhd)), (auw, .inl (cI, 4, .inl xwt)), (ar, .inr (5, [.ref ard, .int xso, .int xtr, .int xwi, .int xnu])), (ard, .inl (cI, 16, .inl xdr))]) rfl rfl rfl rfl hl.1 rfl (Nat.le_of_ble_eq_true rfl) dX2_become_2 (fun H locs w => ?_)
  refine fr_put C w fp_X2_24 0 rfl rfl rfl rfl (ws' := [(au, .inr (2, [.ref auh, .ref auw, .int (f_X5_sourcesRead xso), .int xtc])), (auh, .inl (cI, 20, .inl xhd)), (auw, .inl (cI, 4, .inl xwt)), (ar, .inr (5, [.ref ard, .int xso, .int xtr, .int xwi, .int xnu])), (ard, .inl (cI, 16, .inl xdr))]) rfl dX2_become_5 (fun H locs w => ?_)
  refine lv_aload_n hx hb dX2_become_8 rfl (lv_at hl 0 rfl) ?_
  refine lv_aload_n hx hb dX2_become_9 rfl (lv_at hl 1 rfl) ?_
  refine fr_callIV (As := []) (rest := [.ref au]) C w kf_X5_tracersRead mw_10_0 (c_X5_tracersRead l D cI cJ ar ard xso xtr xwi xnu xdr) ⟨Nat.le_of_ble_eq_true rfl, Nat.le_of_ble_eq_true rfl⟩ ⟨Nat.le_refl 0, Nat.le_refl 0⟩ [3, 4] rfl rfl rfl (ws' := [(au, .inr (2, [.ref auh, .ref auw, .int (f_X5_sourcesRead xso), .int xtc])), (auh, .inl (cI, 20, .inl xhd)), (auw, .inl (cI, 4, .inl xwt)), (ar, .inr (5, [.ref ard, .int xso, .int xtr, .int xwi, .int xnu])), (ard, .inl (cI, 16, .inl xdr))]) rfl rfl rfl rfl hl.1 rfl (Nat.le_of_ble_eq_true rfl) dX2_become_10 (fun H locs w => ?_)
  refine fr_put C w fp_X2_31 0 rfl rfl rfl rfl (ws' := [(au, .inr (2, [.ref auh, .ref auw, .int (f_X5_sourcesRead xso), .int (f_X5_tracersRead xtr)])), (auh, .inl (cI, 20, .inl xhd)), (auw, .inl (cI, 4, .inl xwt)), (ar, .inr (5, [.ref ard, .int xso, .int xtr, .int xwi, .int xnu])), (ard, .inl (cI, 16, .inl xdr))]) rfl dX2_become_13 (fun H locs w => ?_)
  refine lv_iconst (v := 0) hx hb dX2_become_16 (by decide) ?_
  refine lv_istore_n (lv' := [(2, .int 0), (0, .ref au), (1, .ref ar)]) hx hb dX2_become_17 rfl hl (by decide) rfl (fun ls hl => ?_)
  obtain ⟨y18, hy18⟩ : ∃ y, y = L_X2_become_18 xdr 5 0 xhd xwt := ⟨_, rfl⟩
  have hr : ((f_X5_sourcesRead xso), (f_X5_tracersRead xtr), y18.2.1, y18.2.2) = r := by rw [hy18]; exact hr
  have X18 : ∀ (H : Heap) (locs : List Loc), Wd D A s.heap H locs [(au, .inr (2, [.ref auh, .ref auw, .int (f_X5_sourcesRead xso), .int (f_X5_tracersRead xtr)])), (auh, .inl (cI, 20, .inl y18.2.1)), (auw, .inl (cI, 4, .inl y18.2.2)), (ar, .inr (5, [.ref ard, .int xso, .int xtr, .int xwi, .int xnu])), (ard, .inl (cI, 16, .inl xdr))] → ∀ (ls : Array Slot), lv_has ls 4 [(0, .ref au), (1, .ref ar), (2, .int y18.1)] → W p l e (rl 1) s m args below meth c H locs 0 0 Q (F0 m 75 ls []) := by
    intro H locs w ls hl
    subst hr hQ
    exact fr_vret C hret hlk w rfl dX2_become_75
  have LP18 : ∀ (n18 : Nat) (k18 : Nat) (i1 : Int32) (w2 : Nat → Int32) (w3 : Nat → Int32), i1 = nI k18 → k18 ≤ 4 → 4 < k18 + n18 → L_X2_become_18 xdr n18 i1 w2 w3 = y18 → ∀ (H : Heap) (locs : List Loc), Wd D A s.heap H locs [(au, .inr (2, [.ref auh, .ref auw, .int (f_X5_sourcesRead xso), .int (f_X5_tracersRead xtr)])), (auh, .inl (cI, 20, .inl w2)), (auw, .inl (cI, 4, .inl w3)), (ar, .inr (5, [.ref ard, .int xso, .int xtr, .int xwi, .int xnu])), (ard, .inl (cI, 16, .inl xdr))] → ∀ (ls : Array Slot), lv_has ls 4 [(0, .ref au), (1, .ref ar), (2, .int i1)] → W p l e (rl 1) s m args below meth c H locs 0 0 Q (F0 m 18 ls []) := by
    clear hr
    intro n18
    induction n18 with
    | zero => intro k18 i1 w2 w3 hk18 hkN18 hn18; exact absurd hn18 (by omega)
    | succ n18 ih18 =>
      intro k18 i1 w2 w3 hk18 hkN18 hn18 hr H locs w ls hl
      have hr : (if 4 ≤ i1 then (i1, w2, w3) else ((fun (y25 : Int32 × (Nat → Int32)) => L_X2_become_18 xdr n18 (i1 + 1) (upd y25.2 (Int32.toNatClampNeg (16 + i1)) 0) (upd w3 (Int32.toNatClampNeg i1) 1)) (L_X2_become_25 xdr i1 5 0 w2))) = y18 := hr
      refine lv_iload_n hx hb dX2_become_18 rfl (lv_at hl 2 rfl) ?_
      refine lv_iconst (v := 4) hx hb dX2_become_19 (by decide) ?_
      refine lv_icmp_ge (tgt := 75) hx hb dX2_become_20 (by decide) (fun c20_4 => ?_) (fun c20_4 => ?_)
      · have hr := (if_pos c20_4).symm.trans hr
        subst hr
        exact X18 H locs w ls (lv_sub hl [0, 1, 2] rfl)
      · have hr := (if_neg c20_4).symm.trans hr
        have hkl18 := kl_of hk18 hkN18 (N := 4) (by decide) (by omega) c20_4
        refine lv_iconst (v := 0) hx hb dX2_become_23 (by decide) ?_
        refine lv_istore_n (lv' := [(3, .int 0), (0, .ref au), (1, .ref ar), (2, .int i1)]) hx hb dX2_become_24 rfl hl (by decide) rfl (fun ls hl => ?_)
        obtain ⟨y25, hy25⟩ : ∃ y, y = L_X2_become_25 xdr i1 5 0 w2 := ⟨_, rfl⟩
        have hr : L_X2_become_18 xdr n18 (i1 + 1) (upd y25.2 (Int32.toNatClampNeg (16 + i1)) 0) (upd w3 (Int32.toNatClampNeg i1) 1) = y18 := by rw [hy25]; exact hr
        have X25 : ∀ (H : Heap) (locs : List Loc), Wd D A s.heap H locs [(au, .inr (2, [.ref auh, .ref auw, .int (f_X5_sourcesRead xso), .int (f_X5_tracersRead xtr)])), (auh, .inl (cI, 20, .inl y25.2)), (auw, .inl (cI, 4, .inl w3)), (ar, .inr (5, [.ref ard, .int xso, .int xtr, .int xwi, .int xnu])), (ard, .inl (cI, 16, .inl xdr))] → ∀ (ls : Array Slot), lv_has ls 4 [(0, .ref au), (1, .ref ar), (2, .int i1), (3, .int y25.1)] → W p l e (rl 1) s m args below meth c H locs 0 0 Q (F0 m 52 ls []) := by
          intro H locs w ls hl
          refine lv_aload_n hx hb dX2_become_52 rfl (lv_at hl 0 rfl) ?_
          refine fr_get C w fg_X2_9 0 rfl rfl dX2_become_53 ?_
          refine lv_bipush (v := 16) hx hb dX2_become_56 (by decide) ?_
          refine lv_iload_n hx hb dX2_become_58 rfl (lv_at hl 2 rfl) ?_
          refine lv_iadd hx hb dX2_become_59 ?_
          refine lv_iconst (v := 0) hx hb dX2_become_60 (by decide) ?_
          refine fr_iast C w 1 rfl (vi_add hk18 (cn := 16) (by decide) (by omega) (by decide)) (ws' := [(au, .inr (2, [.ref auh, .ref auw, .int (f_X5_sourcesRead xso), .int (f_X5_tracersRead xtr)])), (auh, .inl (cI, 20, .inl (upd y25.2 (Int32.toNatClampNeg (16 + i1)) 0))), (auw, .inl (cI, 4, .inl w3)), (ar, .inr (5, [.ref ard, .int xso, .int xtr, .int xwi, .int xnu])), (ard, .inl (cI, 16, .inl xdr))]) rfl dX2_become_61 (fun H locs w => ?_)
          refine lv_aload_n hx hb dX2_become_62 rfl (lv_at hl 0 rfl) ?_
          refine fr_get C w fg_X2_15 0 rfl rfl dX2_become_63 ?_
          refine lv_iload_n hx hb dX2_become_66 rfl (lv_at hl 2 rfl) ?_
          refine lv_iconst (v := 1) hx hb dX2_become_67 (by decide) ?_
          refine fr_iast C w 2 rfl (vi_ctr hk18 hkl18 (by omega) (by decide)) (ws' := [(au, .inr (2, [.ref auh, .ref auw, .int (f_X5_sourcesRead xso), .int (f_X5_tracersRead xtr)])), (auh, .inl (cI, 20, .inl (upd y25.2 (Int32.toNatClampNeg (16 + i1)) 0))), (auw, .inl (cI, 4, .inl (upd w3 (Int32.toNatClampNeg i1) 1))), (ar, .inr (5, [.ref ard, .int xso, .int xtr, .int xwi, .int xnu])), (ard, .inl (cI, 16, .inl xdr))]) rfl dX2_become_68 (fun H locs w => ?_)
          refine lv_iinc (v := i1 + 1) (lv' := [(2, .int (i1 + 1)), (0, .ref au), (1, .ref ar), (3, .int y25.1)]) hx hb dX2_become_69 hl (k := 2) rfl rfl (by decide) rfl (fun ls hl => ?_)
          refine lv_goto (tgt := 18) hx hb dX2_become_72 (by decide) ?_
          exact ih18 (k18 + 1) (i1 + 1) (upd y25.2 (Int32.toNatClampNeg (16 + i1)) 0) (upd w3 (Int32.toNatClampNeg i1) 1) (by rw [hk18]; exact nI_1 k18) (by omega) (by omega) hr H locs w ls (lv_sub hl [1, 2, 0] rfl)
        have LP25 : ∀ (n25 : Nat) (k25 : Nat) (i5 : Int32) (w6 : Nat → Int32), i5 = nI k25 → k25 ≤ 4 → 4 < k25 + n25 → L_X2_become_25 xdr i1 n25 i5 w6 = y25 → ∀ (H : Heap) (locs : List Loc), Wd D A s.heap H locs [(au, .inr (2, [.ref auh, .ref auw, .int (f_X5_sourcesRead xso), .int (f_X5_tracersRead xtr)])), (auh, .inl (cI, 20, .inl w6)), (auw, .inl (cI, 4, .inl w3)), (ar, .inr (5, [.ref ard, .int xso, .int xtr, .int xwi, .int xnu])), (ard, .inl (cI, 16, .inl xdr))] → ∀ (ls : Array Slot), lv_has ls 4 [(0, .ref au), (1, .ref ar), (2, .int i1), (3, .int i5)] → W p l e (rl 1) s m args below meth c H locs 0 0 Q (F0 m 25 ls []) := by
          clear hr
          intro n25
          induction n25 with
          | zero => intro k25 i5 w6 hk25 hkN25 hn25; exact absurd hn25 (by omega)
          | succ n25 ih25 =>
            intro k25 i5 w6 hk25 hkN25 hn25 hr H locs w ls hl
            have hr : (if 4 ≤ i5 then (i5, w6) else L_X2_become_25 xdr i1 n25 (i5 + 1) (upd w6 (Int32.toNatClampNeg ((i5 * 4) + i1)) (f_X5_draftOf xdr i5 i1))) = y25 := hr
            refine lv_iload_n hx hb dX2_become_25 rfl (lv_at hl 3 rfl) ?_
            refine lv_iconst (v := 4) hx hb dX2_become_26 (by decide) ?_
            refine lv_icmp_ge (tgt := 52) hx hb dX2_become_27 (by decide) (fun c27_7 => ?_) (fun c27_7 => ?_)
            · have hr := (if_pos c27_7).symm.trans hr
              subst hr
              exact X25 H locs w ls (lv_sub hl [0, 1, 2, 3] rfl)
            · have hr := (if_neg c27_7).symm.trans hr
              have hkl25 := kl_of hk25 hkN25 (N := 4) (by decide) (by omega) c27_7
              refine lv_aload_n hx hb dX2_become_30 rfl (lv_at hl 0 rfl) ?_
              refine fr_get C w fg_X2_9 0 rfl rfl dX2_become_31 ?_
              refine lv_iload_n hx hb dX2_become_34 rfl (lv_at hl 3 rfl) ?_
              refine lv_iconst (v := 4) hx hb dX2_become_35 (by decide) ?_
              refine lv_imul hx hb dX2_become_36 ?_
              refine lv_iload_n hx hb dX2_become_37 rfl (lv_at hl 2 rfl) ?_
              refine lv_iadd hx hb dX2_become_38 ?_
              refine lv_aload_n hx hb dX2_become_39 rfl (lv_at hl 1 rfl) ?_
              refine lv_iload_n hx hb dX2_become_40 rfl (lv_at hl 3 rfl) ?_
              refine lv_iload_n hx hb dX2_become_41 rfl (lv_at hl 2 rfl) ?_
              refine fr_callIV (As := [.int i5, .int i1]) (rest := [.int ((i5 * 4) + i1), .ref auh]) C w kf_X5_draftOf mw_10_4 (c_X5_draftOf l D cI cJ ar ard xso xtr xwi xnu xdr i5 i1) ⟨Nat.le_of_ble_eq_true rfl, Nat.le_of_ble_eq_true rfl⟩ ⟨Nat.le_refl 0, Nat.le_refl 0⟩ [3, 4] rfl rfl rfl (ws' := [(au, .inr (2, [.ref auh, .ref auw, .int (f_X5_sourcesRead xso), .int (f_X5_tracersRead xtr)])), (auh, .inl (cI, 20, .inl w6)), (auw, .inl (cI, 4, .inl w3)), (ar, .inr (5, [.ref ard, .int xso, .int xtr, .int xwi, .int xnu])), (ard, .inl (cI, 16, .inl xdr))]) rfl rfl rfl rfl hl.1 rfl (Nat.le_of_ble_eq_true rfl) dX2_become_42 (fun H locs w => ?_)
              refine fr_iast C w 1 rfl (vi_lin hk25 hk18 (cn := 4) (by decide) (by omega) (by decide)) (ws' := [(au, .inr (2, [.ref auh, .ref auw, .int (f_X5_sourcesRead xso), .int (f_X5_tracersRead xtr)])), (auh, .inl (cI, 20, .inl (upd w6 (Int32.toNatClampNeg ((i5 * 4) + i1)) (f_X5_draftOf xdr i5 i1)))), (auw, .inl (cI, 4, .inl w3)), (ar, .inr (5, [.ref ard, .int xso, .int xtr, .int xwi, .int xnu])), (ard, .inl (cI, 16, .inl xdr))]) rfl dX2_become_45 (fun H locs w => ?_)
              refine lv_iinc (v := i5 + 1) (lv' := [(3, .int (i5 + 1)), (0, .ref au), (1, .ref ar), (2, .int i1)]) hx hb dX2_become_46 hl (k := 3) rfl rfl (by decide) rfl (fun ls hl => ?_)
              refine lv_goto (tgt := 25) hx hb dX2_become_49 (by decide) ?_
              exact ih25 (k25 + 1) (i5 + 1) (upd w6 (Int32.toNatClampNeg ((i5 * 4) + i1)) (f_X5_draftOf xdr i5 i1)) (by rw [hk25]; exact nI_1 k25) (by omega) (by omega) hr H locs w ls (lv_sub hl [1, 2, 3, 0] rfl)
        exact LP25 5 0 0 w2 (by decide) (by omega) (by omega) hy25.symm H locs w ls (lv_sub hl [1, 2, 3, 0] rfl)
  exact LP18 5 0 0 xhd xwt (by decide) (by omega) (by omega) hy18.symm H locs w ls (lv_sub hl [1, 2, 0] rfl)
