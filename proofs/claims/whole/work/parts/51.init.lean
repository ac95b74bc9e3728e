theorem mw_4_1 : Cond.methodLink RX1 3 objectInit ∈ wsL_law := ck_4 _ (List.mem_of_getElem? (i := 1) rfl)
theorem mw_1_10 : Cond.instanceMethod objectInit ∈ wsL_law := ck_1 _ (List.mem_of_getElem? (i := 10) rfl)
theorem mw_1_11 : Cond.code objectInit ⟨#[0xb1]⟩ 1 none ∈ wsL_law := ck_1 _ (List.mem_of_getElem? (i := 11) rfl)
theorem mw_2_11 : Cond.methodLink RX4 3 objectInit ∈ wsL_law := ck_2 _ (List.mem_of_getElem? (i := 11) rfl)
theorem mw_2_12 : Cond.arrayClass .int ∈ wsL_law := ck_2 _ (List.mem_of_getElem? (i := 12) rfl)
theorem mw_2_17 : Cond.methodLink RX5 3 objectInit ∈ wsL_law := ck_2 _ (List.mem_of_getElem? (i := 17) rfl)
theorem mw_2_22 : Cond.methodLink RX2 3 objectInit ∈ wsL_law := ck_2 _ (List.mem_of_getElem? (i := 22) rfl)
theorem mw_3_14 : Cond.methodLink RX0 3 objectInit ∈ wsL_law := ck_3 _ (List.mem_of_getElem? (i := 14) rfl)
theorem mw_3_15 : Cond.arrayClass .long ∈ wsL_law := ck_3 _ (List.mem_of_getElem? (i := 15) rfl)
theorem mw_3_20 : Cond.classLink RX0 24 RX1 ∈ wsL_law := ck_3 _ (List.mem_of_getElem? (i := 20) rfl)
theorem mw_2_5 : Cond.instantiable RX1 2 ∈ wsL_law := ck_2 _ (List.mem_of_getElem? (i := 5) rfl)
theorem mw_4_0 : Cond.code yX1_init cX1_init 1 none ∈ wsL_law := ck_4 _ (List.mem_of_getElem? (i := 0) rfl)
theorem mw_3_23 : Cond.instanceMethod yX1_init ∈ wsL_law := ck_3 _ (List.mem_of_getElem? (i := 23) rfl)
theorem mw_3_22 : Cond.methodLink RX0 26 yX1_init ∈ wsL_law := ck_3 _ (List.mem_of_getElem? (i := 22) rfl)
theorem mw_3_4 : Cond.methodLink RX3 1 objectInit ∈ wsL_law := ck_3 _ (List.mem_of_getElem? (i := 4) rfl)
theorem mw_3_5 : Cond.classLink RX3 7 RX0 ∈ wsL_law := ck_3 _ (List.mem_of_getElem? (i := 5) rfl)
theorem mw_3_6 : Cond.instantiable RX0 8 ∈ wsL_law := ck_3 _ (List.mem_of_getElem? (i := 6) rfl)
theorem mw_3_13 : Cond.code yX0_init cX0_init 1 none ∈ wsL_law := ck_3 _ (List.mem_of_getElem? (i := 13) rfl)
theorem mw_3_12 : Cond.instanceMethod yX0_init ∈ wsL_law := ck_3 _ (List.mem_of_getElem? (i := 12) rfl)
theorem mw_3_11 : Cond.methodLink RX3 9 yX0_init ∈ wsL_law := ck_3 _ (List.mem_of_getElem? (i := 11) rfl)
theorem mw_3_9 : Cond.classLink RX3 16 RX1 ∈ wsL_law := ck_3 _ (List.mem_of_getElem? (i := 9) rfl)
theorem mw_4_4 : Cond.methodLink RX3 18 yX1_init ∈ wsL_law := ck_4 _ (List.mem_of_getElem? (i := 4) rfl)
theorem mw_1_9 : Cond.methodLink RX6 3 objectInit ∈ wsL_law := ck_1 _ (List.mem_of_getElem? (i := 9) rfl)
theorem mw_1_12 : Cond.classLink RX6 9 RX4 ∈ wsL_law := ck_1 _ (List.mem_of_getElem? (i := 12) rfl)
theorem mw_1_13 : Cond.instantiable RX4 2 ∈ wsL_law := ck_1 _ (List.mem_of_getElem? (i := 13) rfl)
theorem mw_2_10 : Cond.code yX4_init cX4_init 1 none ∈ wsL_law := ck_2 _ (List.mem_of_getElem? (i := 10) rfl)
theorem mw_2_9 : Cond.instanceMethod yX4_init ∈ wsL_law := ck_2 _ (List.mem_of_getElem? (i := 9) rfl)
theorem mw_2_8 : Cond.methodLink RX6 11 yX4_init ∈ wsL_law := ck_2 _ (List.mem_of_getElem? (i := 8) rfl)
theorem mw_1_16 : Cond.classLink RX6 16 RX5 ∈ wsL_law := ck_1 _ (List.mem_of_getElem? (i := 16) rfl)
theorem mw_1_17 : Cond.instantiable RX5 5 ∈ wsL_law := ck_1 _ (List.mem_of_getElem? (i := 17) rfl)
theorem mw_2_16 : Cond.code yX5_init cX5_init 1 none ∈ wsL_law := ck_2 _ (List.mem_of_getElem? (i := 16) rfl)
theorem mw_2_15 : Cond.instanceMethod yX5_init ∈ wsL_law := ck_2 _ (List.mem_of_getElem? (i := 15) rfl)
theorem mw_2_14 : Cond.methodLink RX6 18 yX5_init ∈ wsL_law := ck_2 _ (List.mem_of_getElem? (i := 14) rfl)
theorem mw_1_20 : Cond.classLink RX6 23 RX2 ∈ wsL_law := ck_1 _ (List.mem_of_getElem? (i := 20) rfl)
theorem mw_1_21 : Cond.instantiable RX2 4 ∈ wsL_law := ck_1 _ (List.mem_of_getElem? (i := 21) rfl)
theorem mw_2_21 : Cond.code yX2_init cX2_init 1 none ∈ wsL_law := ck_2 _ (List.mem_of_getElem? (i := 21) rfl)
theorem mw_2_20 : Cond.instanceMethod yX2_init ∈ wsL_law := ck_2 _ (List.mem_of_getElem? (i := 20) rfl)
theorem mw_2_19 : Cond.methodLink RX6 25 yX2_init ∈ wsL_law := ck_2 _ (List.mem_of_getElem? (i := 19) rfl)
theorem mw_2_0 : Cond.classLink RX6 30 RX3 ∈ wsL_law := ck_2 _ (List.mem_of_getElem? (i := 0) rfl)
theorem mw_2_1 : Cond.instantiable RX3 4 ∈ wsL_law := ck_2 _ (List.mem_of_getElem? (i := 1) rfl)
theorem mw_3_3 : Cond.code yX3_init cX3_init 1 none ∈ wsL_law := ck_3 _ (List.mem_of_getElem? (i := 3) rfl)
theorem mw_3_2 : Cond.instanceMethod yX3_init ∈ wsL_law := ck_3 _ (List.mem_of_getElem? (i := 2) rfl)
theorem mw_3_1 : Cond.methodLink RX6 32 yX3_init ∈ wsL_law := ck_3 _ (List.mem_of_getElem? (i := 1) rfl)
theorem mw_2_4 : Cond.classLink RX6 37 RX1 ∈ wsL_law := ck_2 _ (List.mem_of_getElem? (i := 4) rfl)
theorem mw_4_5 : Cond.methodLink RX6 39 yX1_init ∈ wsL_law := ck_4 _ (List.mem_of_getElem? (i := 5) rfl)
theorem mw_4_9 : Cond.methodLink RX7 1 objectInit ∈ wsL_law := ck_4 _ (List.mem_of_getElem? (i := 9) rfl)
theorem ff_X4_9 : FF RX4 9 4 0 (.array .int) := ⟨RX4, TX4, 2, tyX4, rfl, by decide, inlX4, mw_2_13, tyX4_ok, nmX4, rfl, rfl, by decide +kernel⟩
theorem ff_X5_9 : FF RX5 9 5 0 (.array .int) := ⟨RX5, TX5, 5, tyX5, rfl, by decide, inlX5, mw_2_18, tyX5_ok, nmX5, rfl, rfl, by decide +kernel⟩
theorem ff_X2_9 : FF RX2 9 2 0 (.array .int) := ⟨RX2, TX2, 4, tyX2, rfl, by decide, inlX2, mw_2_23, tyX2_ok, nmX2, rfl, rfl, by decide +kernel⟩
theorem ff_X2_15 : FF RX2 15 2 1 (.array .int) := ⟨RX2, TX2, 4, tyX2, rfl, by decide, inlX2, mw_3_0, tyX2_ok, nmX2, rfl, rfl, by decide +kernel⟩
theorem ff_X0_9 : FF RX0 9 0 0 (.array .long) := ⟨RX0, TX0, 8, tyX0, rfl, by decide, inlX0, mw_3_16, tyX0_ok, nmX0, rfl, rfl, by decide +kernel⟩
theorem ff_X0_15 : FF RX0 15 0 1 (.array .long) := ⟨RX0, TX0, 8, tyX0, rfl, by decide, inlX0, mw_3_17, tyX0_ok, nmX0, rfl, rfl, by decide +kernel⟩
theorem ff_X0_18 : FF RX0 18 0 2 (.array .long) := ⟨RX0, TX0, 8, tyX0, rfl, by decide, inlX0, mw_3_18, tyX0_ok, nmX0, rfl, rfl, by decide +kernel⟩
theorem ff_X0_21 : FF RX0 21 0 3 (.array .long) := ⟨RX0, TX0, 8, tyX0, rfl, by decide, inlX0, mw_3_19, tyX0_ok, nmX0, rfl, rfl, by decide +kernel⟩
theorem ff_X0_27 : FF RX0 27 0 4 (.object "MudShares$Fraction") := ⟨RX0, TX0, 8, tyX0, rfl, by decide, inlX0, mw_3_21, tyX0_ok, nmX0, rfl, rfl, by decide +kernel⟩
theorem ff_X3_10 : FF RX3 10 3 0 (.object "MudShares$Fit") := ⟨RX3, TX3, 4, tyX3, rfl, by decide, inlX3, mw_3_8, tyX3_ok, nmX3, rfl, rfl, by decide +kernel⟩
theorem ff_X3_19 : FF RX3 19 3 1 (.object "MudShares$Fraction") := ⟨RX3, TX3, 4, tyX3, rfl, by decide, inlX3, mw_3_10, tyX3_ok, nmX3, rfl, rfl, by decide +kernel⟩
theorem ff_X6_12 : FF RX6 12 6 0 (.object "MudShares$Page") := ⟨RX6, TX6, 7, tyX6, rfl, by decide, inlX6, mw_1_15, tyX6_ok, nmX6, rfl, rfl, by decide +kernel⟩
theorem ff_X6_19 : FF RX6 19 6 1 (.object "MudShares$Reader") := ⟨RX6, TX6, 7, tyX6, rfl, by decide, inlX6, mw_1_19, tyX6_ok, nmX6, rfl, rfl, by decide +kernel⟩
theorem ff_X6_26 : FF RX6 26 6 2 (.object "MudShares$Mud") := ⟨RX6, TX6, 7, tyX6, rfl, by decide, inlX6, mw_1_23, tyX6_ok, nmX6, rfl, rfl, by decide +kernel⟩
theorem ff_X6_33 : FF RX6 33 6 3 (.object "MudShares$Nearest") := ⟨RX6, TX6, 7, tyX6, rfl, by decide, inlX6, mw_2_3, tyX6_ok, nmX6, rfl, rfl, by decide +kernel⟩
theorem ff_X6_40 : FF RX6 40 6 4 (.object "MudShares$Fraction") := ⟨RX6, TX6, 7, tyX6, rfl, by decide, inlX6, mw_2_7, tyX6_ok, nmX6, rfl, rfl, by decide +kernel⟩
theorem ff_X7_7 : FF RX7 7 7 1 (.array .int) := ⟨RX7, TX7, 25, tyX7, rfl, by decide, inlX7, mw_4_10, tyX7_ok, nmX7, rfl, rfl, by decide +kernel⟩
theorem ff_X7_13 : FF RX7 13 7 4 (.array .int) := ⟨RX7, TX7, 25, tyX7, rfl, by decide, inlX7, mw_4_11, tyX7_ok, nmX7, rfl, rfl, by decide +kernel⟩
theorem ff_X7_16 : FF RX7 16 7 5 (.array .int) := ⟨RX7, TX7, 25, tyX7, rfl, by decide, inlX7, mw_4_12, tyX7_ok, nmX7, rfl, rfl, by decide +kernel⟩
theorem ff_X7_19 : FF RX7 19 7 6 (.array .int) := ⟨RX7, TX7, 25, tyX7, rfl, by decide, inlX7, mw_4_13, tyX7_ok, nmX7, rfl, rfl, by decide +kernel⟩
theorem ff_X7_22 : FF RX7 22 7 14 (.array .int) := ⟨RX7, TX7, 25, tyX7, rfl, by decide, inlX7, mw_4_14, tyX7_ok, nmX7, rfl, rfl, by decide +kernel⟩
theorem ff_X7_25 : FF RX7 25 7 16 (.array .int) := ⟨RX7, TX7, 25, tyX7, rfl, by decide, inlX7, mw_4_15, tyX7_ok, nmX7, rfl, rfl, by decide +kernel⟩
theorem ff_X7_28 : FF RX7 28 7 18 (.array .long) := ⟨RX7, TX7, 25, tyX7, rfl, by decide, inlX7, mw_4_16, tyX7_ok, nmX7, rfl, rfl, by decide +kernel⟩
theorem ff_X7_32 : FF RX7 32 7 20 (.array .long) := ⟨RX7, TX7, 25, tyX7, rfl, by decide, inlX7, mw_4_17, tyX7_ok, nmX7, rfl, rfl, by decide +kernel⟩
theorem ff_X7_35 : FF RX7 35 7 21 (.array .long) := ⟨RX7, TX7, 25, tyX7, rfl, by decide, inlX7, mw_4_18, tyX7_ok, nmX7, rfl, rfl, by decide +kernel⟩
theorem nw_X0_24 : NW RX0 24 1 2 [.long 0, .long 0] := ⟨RX1, TX1, tyX1, rfl, inlX1, tyX1_ok, mw_3_20, mw_2_5, mw_2_6, fun j hj => by rcases (show j = 0 ∨ j = 1 by omega) with rfl | rfl <;> rfl⟩
theorem nw_X3_7 : NW RX3 7 0 8 [.null, .null, .null, .null, .null, .int 0, .int 0, .long 0] := ⟨RX0, TX0, tyX0, rfl, inlX0, tyX0_ok, mw_3_5, mw_3_6, mw_3_7, fun j hj => by rcases (show j = 0 ∨ j = 1 ∨ j = 2 ∨ j = 3 ∨ j = 4 ∨ j = 5 ∨ j = 6 ∨ j = 7 by omega) with rfl | rfl | rfl | rfl | rfl | rfl | rfl | rfl <;> rfl⟩
theorem nw_X3_16 : NW RX3 16 1 2 [.long 0, .long 0] := ⟨RX1, TX1, tyX1, rfl, inlX1, tyX1_ok, mw_3_9, mw_2_5, mw_2_6, fun j hj => by rcases (show j = 0 ∨ j = 1 by omega) with rfl | rfl <;> rfl⟩
theorem nw_X6_9 : NW RX6 9 4 2 [.null, .int 0] := ⟨RX4, TX4, tyX4, rfl, inlX4, tyX4_ok, mw_1_12, mw_1_13, mw_1_14, fun j hj => by rcases (show j = 0 ∨ j = 1 by omega) with rfl | rfl <;> rfl⟩
theorem nw_X6_16 : NW RX6 16 5 5 [.null, .int 0, .int 0, .int 0, .int 0] := ⟨RX5, TX5, tyX5, rfl, inlX5, tyX5_ok, mw_1_16, mw_1_17, mw_1_18, fun j hj => by rcases (show j = 0 ∨ j = 1 ∨ j = 2 ∨ j = 3 ∨ j = 4 by omega) with rfl | rfl | rfl | rfl | rfl <;> rfl⟩
theorem nw_X6_23 : NW RX6 23 2 4 [.null, .null, .int 0, .int 0] := ⟨RX2, TX2, tyX2, rfl, inlX2, tyX2_ok, mw_1_20, mw_1_21, mw_1_22, fun j hj => by rcases (show j = 0 ∨ j = 1 ∨ j = 2 ∨ j = 3 by omega) with rfl | rfl | rfl | rfl <;> rfl⟩
theorem nw_X6_30 : NW RX6 30 3 4 [.null, .null, .int 0, .int 0] := ⟨RX3, TX3, tyX3, rfl, inlX3, tyX3_ok, mw_2_0, mw_2_1, mw_2_2, fun j hj => by rcases (show j = 0 ∨ j = 1 ∨ j = 2 ∨ j = 3 by omega) with rfl | rfl | rfl | rfl <;> rfl⟩
theorem nw_X6_37 : NW RX6 37 1 2 [.long 0, .long 0] := ⟨RX1, TX1, tyX1, rfl, inlX1, tyX1_ok, mw_2_4, mw_2_5, mw_2_6, fun j hj => by rcases (show j = 0 ∨ j = 1 by omega) with rfl | rfl <;> rfl⟩
theorem ki_X1_init : KI yX1_init cX1_init 1 0 := ⟨mw_4_0, mw_3_23, mw_2_6, rfl, by decide, by decide, by decide +kernel⟩
theorem ki_X0_init : KI yX0_init cX0_init 1 0 := ⟨mw_3_13, mw_3_12, mw_3_7, rfl, by decide, by decide, by decide +kernel⟩
theorem ki_X4_init : KI yX4_init cX4_init 1 0 := ⟨mw_2_10, mw_2_9, mw_1_14, rfl, by decide, by decide, by decide +kernel⟩
theorem ki_X5_init : KI yX5_init cX5_init 1 0 := ⟨mw_2_16, mw_2_15, mw_1_18, rfl, by decide, by decide, by decide +kernel⟩
theorem ki_X2_init : KI yX2_init cX2_init 1 0 := ⟨mw_2_21, mw_2_20, mw_1_22, rfl, by decide, by decide, by decide +kernel⟩
theorem ki_X3_init : KI yX3_init cX3_init 1 0 := ⟨mw_3_3, mw_3_2, mw_2_2, rfl, by decide, by decide, by decide +kernel⟩
set_option maxRecDepth 100000 in
set_option maxHeartbeats 4000000 in
theorem c_X1_init (l : Launch) (D : va_G) (cI cJ : ClassId) (a0 : Nat) : CC (S := Unit) l yX1_init cX1_init 1 1 0 0 D cI cJ [.ref a0] [(a0, .inr (1, [.long 0, .long 0]))] (fun (u : Unit) => [(a0, .inr (1, [.long 0, .long 1]))]) := by
  refine fr_entryC (by decide) rfl rfl ?_
  intro p e s m args below meth c A Q H locs hQ C hret hlk hin w ls hl
  have hx := C.1
  have hb := C.2.1
  have hl : lv_has ls 1 [(0, .ref a0)] := hl
  refine lv_aload_n hx hb dX1_init_0 rfl (lv_at hl 0 rfl) ?_
  refine fr_objI C mw_4_1 mw_1_10 mw_1_11 hl.1 dX1_init_1 (Nat.le_of_ble_eq_true rfl) (Nat.le_of_ble_eq_true rfl) ?_
  refine lv_aload_n hx hb dX1_init_4 rfl (lv_at hl 0 rfl) ?_
  refine lv_lconst (v := 0) hx hb dX1_init_5 (by decide) ?_
  refine fr_put C w fp_X1_9 0 rfl rfl rfl rfl (ws' := [(a0, .inr (1, [.long 0, .long 0]))]) rfl dX1_init_6 (fun H locs w => ?_)
  refine lv_aload_n hx hb dX1_init_9 rfl (lv_at hl 0 rfl) ?_
  refine lv_lconst (v := 1) hx hb dX1_init_10 (by decide) ?_
  refine fr_put C w fp_X1_15 0 rfl rfl rfl rfl (ws' := [(a0, .inr (1, [.long 0, .long 1]))]) rfl dX1_init_11 (fun H locs w => ?_)
  subst hQ
  exact fr_vretC (S := Unit) (W1 := (fun (u : Unit) => [(a0, .inr (1, [.long 0, .long 1]))])) () C hret hlk w rfl dX1_init_14
set_option maxRecDepth 100000 in
set_option maxHeartbeats 4000000 in
theorem c_X4_init (l : Launch) (D : va_G) (cI cJ : ClassId) (a0 : Nat) : CC (S := Nat) l yX4_init cX4_init 1 1 1 47 D cI cJ [.ref a0] [(a0, .inr (4, [.null, .int 0]))] (fun (u : Nat) => [(a0, .inr (4, [.ref u, .int 0])), (u, .inl (cI, 47, .inl (fun _ => 0)))]) := by
  refine fr_entryC (by decide) rfl rfl ?_
  intro p e s m args below meth c A Q H locs hQ C hret hlk hin w ls hl
  have hx := C.1
  have hb := C.2.1
  have hl : lv_has ls 1 [(0, .ref a0)] := hl
  refine lv_aload_n hx hb dX4_init_0 rfl (lv_at hl 0 rfl) ?_
  refine fr_objI C mw_2_11 mw_1_10 mw_1_11 hl.1 dX4_init_1 (Nat.le_of_ble_eq_true rfl) (Nat.le_of_ble_eq_true rfl) ?_
  refine lv_aload_n hx hb dX4_init_4 rfl (lv_at hl 0 rfl) ?_
  refine lv_bipush (v := 47) hx hb dX4_init_5 (by decide) ?_
  refine fr_newI C w mw_2_12 (by decide) (N := 47) (by decide) (by decide) (Nat.le_of_ble_eq_true rfl) (Nat.le_of_ble_eq_true rfl) dX4_init_7 (fun q1 H w => ?_)
  have w : Wd D A s.heap H locs [(a0, .inr (4, [.null, .int 0])), (q1, .inl (cI, 47, .inl (fun _ => 0)))] := w
  refine fr_putF C hin w ff_X4_9 0 rfl rfl rfl rfl (ws' := [(a0, .inr (4, [.ref q1, .int 0])), (q1, .inl (cI, 47, .inl (fun _ => 0)))]) rfl dX4_init_9 (fun H locs w => ?_)
  subst hQ
  exact fr_vretC (S := Nat) (W1 := (fun (u : Nat) => [(a0, .inr (4, [.ref u, .int 0])), (u, .inl (cI, 47, .inl (fun _ => 0)))])) q1 C hret hlk w rfl dX4_init_12
set_option maxRecDepth 100000 in
set_option maxHeartbeats 4000000 in
theorem c_X5_init (l : Launch) (D : va_G) (cI cJ : ClassId) (a0 : Nat) : CC (S := Nat) l yX5_init cX5_init 1 1 1 16 D cI cJ [.ref a0] [(a0, .inr (5, [.null, .int 0, .int 0, .int 0, .int 0]))] (fun (u : Nat) => [(a0, .inr (5, [.ref u, .int 0, .int 0, .int 0, .int 0])), (u, .inl (cI, 16, .inl (fun _ => 0)))]) := by
  refine fr_entryC (by decide) rfl rfl ?_
  intro p e s m args below meth c A Q H locs hQ C hret hlk hin w ls hl
  have hx := C.1
  have hb := C.2.1
  have hl : lv_has ls 1 [(0, .ref a0)] := hl
  refine lv_aload_n hx hb dX5_init_0 rfl (lv_at hl 0 rfl) ?_
  refine fr_objI C mw_2_17 mw_1_10 mw_1_11 hl.1 dX5_init_1 (Nat.le_of_ble_eq_true rfl) (Nat.le_of_ble_eq_true rfl) ?_
  refine lv_aload_n hx hb dX5_init_4 rfl (lv_at hl 0 rfl) ?_
  refine lv_bipush (v := 16) hx hb dX5_init_5 (by decide) ?_
  refine fr_newI C w mw_2_12 (by decide) (N := 16) (by decide) (by decide) (Nat.le_of_ble_eq_true rfl) (Nat.le_of_ble_eq_true rfl) dX5_init_7 (fun q1 H w => ?_)
  have w : Wd D A s.heap H locs [(a0, .inr (5, [.null, .int 0, .int 0, .int 0, .int 0])), (q1, .inl (cI, 16, .inl (fun _ => 0)))] := w
  refine fr_putF C hin w ff_X5_9 0 rfl rfl rfl rfl (ws' := [(a0, .inr (5, [.ref q1, .int 0, .int 0, .int 0, .int 0])), (q1, .inl (cI, 16, .inl (fun _ => 0)))]) rfl dX5_init_9 (fun H locs w => ?_)
  subst hQ
  exact fr_vretC (S := Nat) (W1 := (fun (u : Nat) => [(a0, .inr (5, [.ref u, .int 0, .int 0, .int 0, .int 0])), (u, .inl (cI, 16, .inl (fun _ => 0)))])) q1 C hret hlk w rfl dX5_init_12
set_option maxRecDepth 100000 in
set_option maxHeartbeats 4000000 in
theorem c_X2_init (l : Launch) (D : va_G) (cI cJ : ClassId) (a0 : Nat) : CC (S := Nat × Nat) l yX2_init cX2_init 1 1 2 24 D cI cJ [.ref a0] [(a0, .inr (2, [.null, .null, .int 0, .int 0]))] (fun (u : Nat × Nat) => [(a0, .inr (2, [.ref u.1, .ref u.2, .int 0, .int 0])), (u.1, .inl (cI, 20, .inl (fun _ => 0))), (u.2, .inl (cI, 4, .inl (fun _ => 0)))]) := by
  refine fr_entryC (by decide) rfl rfl ?_
  intro p e s m args below meth c A Q H locs hQ C hret hlk hin w ls hl
  have hx := C.1
  have hb := C.2.1
  have hl : lv_has ls 1 [(0, .ref a0)] := hl
  refine lv_aload_n hx hb dX2_init_0 rfl (lv_at hl 0 rfl) ?_
  refine fr_objI C mw_2_22 mw_1_10 mw_1_11 hl.1 dX2_init_1 (Nat.le_of_ble_eq_true rfl) (Nat.le_of_ble_eq_true rfl) ?_
  refine lv_aload_n hx hb dX2_init_4 rfl (lv_at hl 0 rfl) ?_
  refine lv_bipush (v := 20) hx hb dX2_init_5 (by decide) ?_
  refine fr_newI C w mw_2_12 (by decide) (N := 20) (by decide) (by decide) (Nat.le_of_ble_eq_true rfl) (Nat.le_of_ble_eq_true rfl) dX2_init_7 (fun q1 H w => ?_)
  have w : Wd D A s.heap H locs [(a0, .inr (2, [.null, .null, .int 0, .int 0])), (q1, .inl (cI, 20, .inl (fun _ => 0)))] := w
  refine fr_putF C hin w ff_X2_9 0 rfl rfl rfl rfl (ws' := [(a0, .inr (2, [.ref q1, .null, .int 0, .int 0])), (q1, .inl (cI, 20, .inl (fun _ => 0)))]) rfl dX2_init_9 (fun H locs w => ?_)
  refine lv_aload_n hx hb dX2_init_12 rfl (lv_at hl 0 rfl) ?_
  refine lv_iconst (v := 4) hx hb dX2_init_13 (by decide) ?_
  refine fr_newI C w mw_2_12 (by decide) (N := 4) (by decide) (by decide) (Nat.le_of_ble_eq_true rfl) (Nat.le_of_ble_eq_true rfl) dX2_init_14 (fun q2 H w => ?_)
  have w : Wd D A s.heap H locs [(a0, .inr (2, [.ref q1, .null, .int 0, .int 0])), (q1, .inl (cI, 20, .inl (fun _ => 0))), (q2, .inl (cI, 4, .inl (fun _ => 0)))] := w
  refine fr_putF C hin w ff_X2_15 0 rfl rfl rfl rfl (ws' := [(a0, .inr (2, [.ref q1, .ref q2, .int 0, .int 0])), (q1, .inl (cI, 20, .inl (fun _ => 0))), (q2, .inl (cI, 4, .inl (fun _ => 0)))]) rfl dX2_init_16 (fun H locs w => ?_)
  subst hQ
  exact fr_vretC (S := Nat × Nat) (W1 := (fun (u : Nat × Nat) => [(a0, .inr (2, [.ref u.1, .ref u.2, .int 0, .int 0])), (u.1, .inl (cI, 20, .inl (fun _ => 0))), (u.2, .inl (cI, 4, .inl (fun _ => 0)))])) (q1, q2) C hret hlk w rfl dX2_init_19
set_option maxRecDepth 100000 in
set_option maxHeartbeats 4000000 in
theorem c_X0_init (l : Launch) (D : va_G) (cI cJ : ClassId) (a0 : Nat) : CC (S := Nat × Nat × Nat × Nat × Nat) l yX0_init cX0_init 1 2 5 43 D cI cJ [.ref a0] [(a0, .inr (0, [.null, .null, .null, .null, .null, .int 0, .int 0, .long 0]))] (fun (u : Nat × Nat × Nat × Nat × Nat) => [(a0, .inr (0, [.ref u.1, .ref u.2.1, .ref u.2.2.1, .ref u.2.2.2.1, .ref u.2.2.2.2, .int 0, .int 0, .long 0])), (u.1, .inl (cJ, 25, .inr (.inl (fun _ => 0)))), (u.2.1, .inl (cJ, 9, .inr (.inl (fun _ => 0)))), (u.2.2.1, .inl (cJ, 3, .inr (.inl (fun _ => 0)))), (u.2.2.2.1, .inl (cJ, 4, .inr (.inl (fun _ => 0)))), (u.2.2.2.2, .inr (1, [.long 0, .long 1]))]) := by
  refine fr_entryC (by decide) rfl rfl ?_
  intro p e s m args below meth c A Q H locs hQ C hret hlk hin w ls hl
  have hx := C.1
  have hb := C.2.1
  have hl : lv_has ls 1 [(0, .ref a0)] := hl
  refine lv_aload_n hx hb dX0_init_0 rfl (lv_at hl 0 rfl) ?_
  refine fr_objI C mw_3_14 mw_1_10 mw_1_11 hl.1 dX0_init_1 (Nat.le_of_ble_eq_true rfl) (Nat.le_of_ble_eq_true rfl) ?_
  refine lv_aload_n hx hb dX0_init_4 rfl (lv_at hl 0 rfl) ?_
  refine lv_bipush (v := 25) hx hb dX0_init_5 (by decide) ?_
  refine fr_newJ C w mw_3_15 (by decide) (N := 25) (by decide) (by decide) (Nat.le_of_ble_eq_true rfl) (Nat.le_of_ble_eq_true rfl) dX0_init_7 (fun q1 H w => ?_)
  have w : Wd D A s.heap H locs [(a0, .inr (0, [.null, .null, .null, .null, .null, .int 0, .int 0, .long 0])), (q1, .inl (cJ, 25, .inr (.inl (fun _ => 0))))] := w
  refine fr_putF C hin w ff_X0_9 0 rfl rfl rfl rfl (ws' := [(a0, .inr (0, [.ref q1, .null, .null, .null, .null, .int 0, .int 0, .long 0])), (q1, .inl (cJ, 25, .inr (.inl (fun _ => 0))))]) rfl dX0_init_9 (fun H locs w => ?_)
  refine lv_aload_n hx hb dX0_init_12 rfl (lv_at hl 0 rfl) ?_
  refine lv_bipush (v := 9) hx hb dX0_init_13 (by decide) ?_
  refine fr_newJ C w mw_3_15 (by decide) (N := 9) (by decide) (by decide) (Nat.le_of_ble_eq_true rfl) (Nat.le_of_ble_eq_true rfl) dX0_init_15 (fun q2 H w => ?_)
  have w : Wd D A s.heap H locs [(a0, .inr (0, [.ref q1, .null, .null, .null, .null, .int 0, .int 0, .long 0])), (q1, .inl (cJ, 25, .inr (.inl (fun _ => 0)))), (q2, .inl (cJ, 9, .inr (.inl (fun _ => 0))))] := w
  refine fr_putF C hin w ff_X0_15 0 rfl rfl rfl rfl (ws' := [(a0, .inr (0, [.ref q1, .ref q2, .null, .null, .null, .int 0, .int 0, .long 0])), (q1, .inl (cJ, 25, .inr (.inl (fun _ => 0)))), (q2, .inl (cJ, 9, .inr (.inl (fun _ => 0))))]) rfl dX0_init_17 (fun H locs w => ?_)
  refine lv_aload_n hx hb dX0_init_20 rfl (lv_at hl 0 rfl) ?_
  refine lv_iconst (v := 3) hx hb dX0_init_21 (by decide) ?_
  refine fr_newJ C w mw_3_15 (by decide) (N := 3) (by decide) (by decide) (Nat.le_of_ble_eq_true rfl) (Nat.le_of_ble_eq_true rfl) dX0_init_22 (fun q3 H w => ?_)
  have w : Wd D A s.heap H locs [(a0, .inr (0, [.ref q1, .ref q2, .null, .null, .null, .int 0, .int 0, .long 0])), (q1, .inl (cJ, 25, .inr (.inl (fun _ => 0)))), (q2, .inl (cJ, 9, .inr (.inl (fun _ => 0)))), (q3, .inl (cJ, 3, .inr (.inl (fun _ => 0))))] := w
  refine fr_putF C hin w ff_X0_18 0 rfl rfl rfl rfl (ws' := [(a0, .inr (0, [.ref q1, .ref q2, .ref q3, .null, .null, .int 0, .int 0, .long 0])), (q1, .inl (cJ, 25, .inr (.inl (fun _ => 0)))), (q2, .inl (cJ, 9, .inr (.inl (fun _ => 0)))), (q3, .inl (cJ, 3, .inr (.inl (fun _ => 0))))]) rfl dX0_init_24 (fun H locs w => ?_)
  refine lv_aload_n hx hb dX0_init_27 rfl (lv_at hl 0 rfl) ?_
  refine lv_iconst (v := 4) hx hb dX0_init_28 (by decide) ?_
  refine fr_newJ C w mw_3_15 (by decide) (N := 4) (by decide) (by decide) (Nat.le_of_ble_eq_true rfl) (Nat.le_of_ble_eq_true rfl) dX0_init_29 (fun q4 H w => ?_)
  have w : Wd D A s.heap H locs [(a0, .inr (0, [.ref q1, .ref q2, .ref q3, .null, .null, .int 0, .int 0, .long 0])), (q1, .inl (cJ, 25, .inr (.inl (fun _ => 0)))), (q2, .inl (cJ, 9, .inr (.inl (fun _ => 0)))), (q3, .inl (cJ, 3, .inr (.inl (fun _ => 0)))), (q4, .inl (cJ, 4, .inr (.inl (fun _ => 0))))] := w
  refine fr_putF C hin w ff_X0_21 0 rfl rfl rfl rfl (ws' := [(a0, .inr (0, [.ref q1, .ref q2, .ref q3, .ref q4, .null, .int 0, .int 0, .long 0])), (q1, .inl (cJ, 25, .inr (.inl (fun _ => 0)))), (q2, .inl (cJ, 9, .inr (.inl (fun _ => 0)))), (q3, .inl (cJ, 3, .inr (.inl (fun _ => 0)))), (q4, .inl (cJ, 4, .inr (.inl (fun _ => 0))))]) rfl dX0_init_31 (fun H locs w => ?_)
  refine lv_aload_n hx hb dX0_init_34 rfl (lv_at hl 0 rfl) ?_
  refine fr_new C w nw_X0_24 (Nat.le_of_ble_eq_true rfl) (Nat.le_of_ble_eq_true rfl) dX0_init_35 (fun q5 H w => ?_)
  have w : Wd D A s.heap H locs [(a0, .inr (0, [.ref q1, .ref q2, .ref q3, .ref q4, .null, .int 0, .int 0, .long 0])), (q1, .inl (cJ, 25, .inr (.inl (fun _ => 0)))), (q2, .inl (cJ, 9, .inr (.inl (fun _ => 0)))), (q3, .inl (cJ, 3, .inr (.inl (fun _ => 0)))), (q4, .inl (cJ, 4, .inr (.inl (fun _ => 0)))), (q5, .inr (1, [.long 0, .long 0]))] := w
  refine lv_dup hx hb dX0_init_38 rfl ?_
  refine fr_callC (As := []) (rest := [.ref q5, .ref a0]) (wr := [(a0, .inr (0, [.ref q1, .ref q2, .ref q3, .ref q4, .null, .int 0, .int 0, .long 0])), (q1, .inl (cJ, 25, .inr (.inl (fun _ => 0)))), (q2, .inl (cJ, 9, .inr (.inl (fun _ => 0)))), (q3, .inl (cJ, 3, .inr (.inl (fun _ => 0)))), (q4, .inl (cJ, 4, .inr (.inl (fun _ => 0))))]) C w ki_X1_init mw_3_22 (c_X1_init l D cI cJ q5) ⟨Nat.le_of_ble_eq_true rfl, Nat.le_of_ble_eq_true rfl⟩ ⟨Nat.le_of_ble_eq_true rfl, Nat.le_of_ble_eq_true rfl⟩ [5] [0, 1, 2, 3, 4] rfl rfl rfl (by decide) (by decide) rfl hl.1 rfl (Nat.le_of_ble_eq_true rfl) dX0_init_39 (fun u H locs w => ?_)
  have w : Wd D A s.heap H locs [(a0, .inr (0, [.ref q1, .ref q2, .ref q3, .ref q4, .null, .int 0, .int 0, .long 0])), (q1, .inl (cJ, 25, .inr (.inl (fun _ => 0)))), (q2, .inl (cJ, 9, .inr (.inl (fun _ => 0)))), (q3, .inl (cJ, 3, .inr (.inl (fun _ => 0)))), (q4, .inl (cJ, 4, .inr (.inl (fun _ => 0)))), (q5, .inr (1, [.long 0, .long 1]))] := w
  refine fr_putF C hin w ff_X0_27 0 rfl rfl rfl rfl (ws' := [(a0, .inr (0, [.ref q1, .ref q2, .ref q3, .ref q4, .ref q5, .int 0, .int 0, .long 0])), (q1, .inl (cJ, 25, .inr (.inl (fun _ => 0)))), (q2, .inl (cJ, 9, .inr (.inl (fun _ => 0)))), (q3, .inl (cJ, 3, .inr (.inl (fun _ => 0)))), (q4, .inl (cJ, 4, .inr (.inl (fun _ => 0)))), (q5, .inr (1, [.long 0, .long 1]))]) rfl dX0_init_42 (fun H locs w => ?_)
  subst hQ
  exact fr_vretC (S := Nat × Nat × Nat × Nat × Nat) (W1 := (fun (u : Nat × Nat × Nat × Nat × Nat) => [(a0, .inr (0, [.ref u.1, .ref u.2.1, .ref u.2.2.1, .ref u.2.2.2.1, .ref u.2.2.2.2, .int 0, .int 0, .long 0])), (u.1, .inl (cJ, 25, .inr (.inl (fun _ => 0)))), (u.2.1, .inl (cJ, 9, .inr (.inl (fun _ => 0)))), (u.2.2.1, .inl (cJ, 3, .inr (.inl (fun _ => 0)))), (u.2.2.2.1, .inl (cJ, 4, .inr (.inl (fun _ => 0)))), (u.2.2.2.2, .inr (1, [.long 0, .long 1]))])) (q1, q2, q3, q4, q5) C hret hlk w rfl dX0_init_45
set_option maxRecDepth 100000 in
set_option maxHeartbeats 4000000 in
theorem c_X3_init (l : Launch) (D : va_G) (cI cJ : ClassId) (a0 : Nat) : CC (S := Nat × Nat × Nat × Nat × Nat × Nat × Nat) l yX3_init cX3_init 1 3 7 53 D cI cJ [.ref a0] [(a0, .inr (3, [.null, .null, .int 0, .int 0]))] (fun (u : Nat × Nat × Nat × Nat × Nat × Nat × Nat) => [(a0, .inr (3, [.ref u.1, .ref u.2.2.2.2.2.2, .int 0, .int 0])), (u.1, .inr (0, [.ref u.2.1, .ref u.2.2.1, .ref u.2.2.2.1, .ref u.2.2.2.2.1, .ref u.2.2.2.2.2.1, .int 0, .int 0, .long 0])), (u.2.1, .inl (cJ, 25, .inr (.inl (fun _ => 0)))), (u.2.2.1, .inl (cJ, 9, .inr (.inl (fun _ => 0)))), (u.2.2.2.1, .inl (cJ, 3, .inr (.inl (fun _ => 0)))), (u.2.2.2.2.1, .inl (cJ, 4, .inr (.inl (fun _ => 0)))), (u.2.2.2.2.2.1, .inr (1, [.long 0, .long 1])), (u.2.2.2.2.2.2, .inr (1, [.long 0, .long 1]))]) := by
  refine fr_entryC (by decide) rfl rfl ?_
  intro p e s m args below meth c A Q H locs hQ C hret hlk hin w ls hl
  have hx := C.1
  have hb := C.2.1
  have hl : lv_has ls 1 [(0, .ref a0)] := hl
  refine lv_aload_n hx hb dX3_init_0 rfl (lv_at hl 0 rfl) ?_
  refine fr_objI C mw_3_4 mw_1_10 mw_1_11 hl.1 dX3_init_1 (Nat.le_of_ble_eq_true rfl) (Nat.le_of_ble_eq_true rfl) ?_
  refine lv_aload_n hx hb dX3_init_4 rfl (lv_at hl 0 rfl) ?_
  refine fr_new C w nw_X3_7 (Nat.le_of_ble_eq_true rfl) (Nat.le_of_ble_eq_true rfl) dX3_init_5 (fun q1 H w => ?_)
  have w : Wd D A s.heap H locs [(a0, .inr (3, [.null, .null, .int 0, .int 0])), (q1, .inr (0, [.null, .null, .null, .null, .null, .int 0, .int 0, .long 0]))] := w
  refine lv_dup hx hb dX3_init_8 rfl ?_
  refine fr_callC (As := []) (rest := [.ref q1, .ref a0]) (wr := [(a0, .inr (3, [.null, .null, .int 0, .int 0]))]) C w ki_X0_init mw_3_11 (c_X0_init l D cI cJ q1) ⟨Nat.le_of_ble_eq_true rfl, Nat.le_of_ble_eq_true rfl⟩ ⟨Nat.le_of_ble_eq_true rfl, Nat.le_of_ble_eq_true rfl⟩ [1] [0] rfl rfl rfl (by decide) (by decide) rfl hl.1 rfl (Nat.le_of_ble_eq_true rfl) dX3_init_9 (fun u H locs w => ?_)
  obtain ⟨q2, q3, q4, q5, q6⟩ := u
  have w : Wd D A s.heap H locs [(a0, .inr (3, [.null, .null, .int 0, .int 0])), (q1, .inr (0, [.ref q2, .ref q3, .ref q4, .ref q5, .ref q6, .int 0, .int 0, .long 0])), (q2, .inl (cJ, 25, .inr (.inl (fun _ => 0)))), (q3, .inl (cJ, 9, .inr (.inl (fun _ => 0)))), (q4, .inl (cJ, 3, .inr (.inl (fun _ => 0)))), (q5, .inl (cJ, 4, .inr (.inl (fun _ => 0)))), (q6, .inr (1, [.long 0, .long 1]))] := w
  refine fr_putF C hin w ff_X3_10 0 rfl rfl rfl rfl (ws' := [(a0, .inr (3, [.ref q1, .null, .int 0, .int 0])), (q1, .inr (0, [.ref q2, .ref q3, .ref q4, .ref q5, .ref q6, .int 0, .int 0, .long 0])), (q2, .inl (cJ, 25, .inr (.inl (fun _ => 0)))), (q3, .inl (cJ, 9, .inr (.inl (fun _ => 0)))), (q4, .inl (cJ, 3, .inr (.inl (fun _ => 0)))), (q5, .inl (cJ, 4, .inr (.inl (fun _ => 0)))), (q6, .inr (1, [.long 0, .long 1]))]) rfl dX3_init_12 (fun H locs w => ?_)
  refine lv_aload_n hx hb dX3_init_15 rfl (lv_at hl 0 rfl) ?_
  refine fr_new C w nw_X3_16 (Nat.le_of_ble_eq_true rfl) (Nat.le_of_ble_eq_true rfl) dX3_init_16 (fun q7 H w => ?_)
  have w : Wd D A s.heap H locs [(a0, .inr (3, [.ref q1, .null, .int 0, .int 0])), (q1, .inr (0, [.ref q2, .ref q3, .ref q4, .ref q5, .ref q6, .int 0, .int 0, .long 0])), (q2, .inl (cJ, 25, .inr (.inl (fun _ => 0)))), (q3, .inl (cJ, 9, .inr (.inl (fun _ => 0)))), (q4, .inl (cJ, 3, .inr (.inl (fun _ => 0)))), (q5, .inl (cJ, 4, .inr (.inl (fun _ => 0)))), (q6, .inr (1, [.long 0, .long 1])), (q7, .inr (1, [.long 0, .long 0]))] := w
  refine lv_dup hx hb dX3_init_19 rfl ?_
  refine fr_callC (As := []) (rest := [.ref q7, .ref a0]) (wr := [(a0, .inr (3, [.ref q1, .null, .int 0, .int 0])), (q1, .inr (0, [.ref q2, .ref q3, .ref q4, .ref q5, .ref q6, .int 0, .int 0, .long 0])), (q2, .inl (cJ, 25, .inr (.inl (fun _ => 0)))), (q3, .inl (cJ, 9, .inr (.inl (fun _ => 0)))), (q4, .inl (cJ, 3, .inr (.inl (fun _ => 0)))), (q5, .inl (cJ, 4, .inr (.inl (fun _ => 0)))), (q6, .inr (1, [.long 0, .long 1]))]) C w ki_X1_init mw_4_4 (c_X1_init l D cI cJ q7) ⟨Nat.le_of_ble_eq_true rfl, Nat.le_of_ble_eq_true rfl⟩ ⟨Nat.le_of_ble_eq_true rfl, Nat.le_of_ble_eq_true rfl⟩ [7] [0, 1, 2, 3, 4, 5, 6] rfl rfl rfl (by decide) (by decide) rfl hl.1 rfl (Nat.le_of_ble_eq_true rfl) dX3_init_20 (fun u H locs w => ?_)
  have w : Wd D A s.heap H locs [(a0, .inr (3, [.ref q1, .null, .int 0, .int 0])), (q1, .inr (0, [.ref q2, .ref q3, .ref q4, .ref q5, .ref q6, .int 0, .int 0, .long 0])), (q2, .inl (cJ, 25, .inr (.inl (fun _ => 0)))), (q3, .inl (cJ, 9, .inr (.inl (fun _ => 0)))), (q4, .inl (cJ, 3, .inr (.inl (fun _ => 0)))), (q5, .inl (cJ, 4, .inr (.inl (fun _ => 0)))), (q6, .inr (1, [.long 0, .long 1])), (q7, .inr (1, [.long 0, .long 1]))] := w
  refine fr_putF C hin w ff_X3_19 0 rfl rfl rfl rfl (ws' := [(a0, .inr (3, [.ref q1, .ref q7, .int 0, .int 0])), (q1, .inr (0, [.ref q2, .ref q3, .ref q4, .ref q5, .ref q6, .int 0, .int 0, .long 0])), (q2, .inl (cJ, 25, .inr (.inl (fun _ => 0)))), (q3, .inl (cJ, 9, .inr (.inl (fun _ => 0)))), (q4, .inl (cJ, 3, .inr (.inl (fun _ => 0)))), (q5, .inl (cJ, 4, .inr (.inl (fun _ => 0)))), (q6, .inr (1, [.long 0, .long 1])), (q7, .inr (1, [.long 0, .long 1]))]) rfl dX3_init_23 (fun H locs w => ?_)
  subst hQ
  exact fr_vretC (S := Nat × Nat × Nat × Nat × Nat × Nat × Nat) (W1 := (fun (u : Nat × Nat × Nat × Nat × Nat × Nat × Nat) => [(a0, .inr (3, [.ref u.1, .ref u.2.2.2.2.2.2, .int 0, .int 0])), (u.1, .inr (0, [.ref u.2.1, .ref u.2.2.1, .ref u.2.2.2.1, .ref u.2.2.2.2.1, .ref u.2.2.2.2.2.1, .int 0, .int 0, .long 0])), (u.2.1, .inl (cJ, 25, .inr (.inl (fun _ => 0)))), (u.2.2.1, .inl (cJ, 9, .inr (.inl (fun _ => 0)))), (u.2.2.2.1, .inl (cJ, 3, .inr (.inl (fun _ => 0)))), (u.2.2.2.2.1, .inl (cJ, 4, .inr (.inl (fun _ => 0)))), (u.2.2.2.2.2.1, .inr (1, [.long 0, .long 1])), (u.2.2.2.2.2.2, .inr (1, [.long 0, .long 1]))])) (q1, q2, q3, q4, q5, q6, q7) C hret hlk w rfl dX3_init_26
set_option maxRecDepth 100000 in
set_option maxHeartbeats 4000000 in
theorem c_X6_init (l : Launch) (D : va_G) (cI cJ : ClassId) (a0 : Nat) : CC (S := Nat × Nat × Nat × Nat × Nat × Nat × Nat × Nat × Nat × Nat × Nat × Nat × Nat × Nat × Nat × Nat) l yX6_init cX6_init 1 4 16 157 D cI cJ [.ref a0] [(a0, .inr (6, [.null, .null, .null, .null, .null, .long 0, .long 0]))] (fun (u : Nat × Nat × Nat × Nat × Nat × Nat × Nat × Nat × Nat × Nat × Nat × Nat × Nat × Nat × Nat × Nat) => [(a0, .inr (6, [.ref u.1, .ref u.2.2.1, .ref u.2.2.2.2.1, .ref u.2.2.2.2.2.2.2.1, .ref u.2.2.2.2.2.2.2.2.2.2.2.2.2.2.2, .long 0, .long 0])), (u.1, .inr (4, [.ref u.2.1, .int 0])), (u.2.1, .inl (cI, 47, .inl (fun _ => 0))), (u.2.2.1, .inr (5, [.ref u.2.2.2.1, .int 0, .int 0, .int 0, .int 0])), (u.2.2.2.1, .inl (cI, 16, .inl (fun _ => 0))), (u.2.2.2.2.1, .inr (2, [.ref u.2.2.2.2.2.1, .ref u.2.2.2.2.2.2.1, .int 0, .int 0])), (u.2.2.2.2.2.1, .inl (cI, 20, .inl (fun _ => 0))), (u.2.2.2.2.2.2.1, .inl (cI, 4, .inl (fun _ => 0))), (u.2.2.2.2.2.2.2.1, .inr (3, [.ref u.2.2.2.2.2.2.2.2.1, .ref u.2.2.2.2.2.2.2.2.2.2.2.2.2.2.1, .int 0, .int 0])), (u.2.2.2.2.2.2.2.2.1, .inr (0, [.ref u.2.2.2.2.2.2.2.2.2.1, .ref u.2.2.2.2.2.2.2.2.2.2.1, .ref u.2.2.2.2.2.2.2.2.2.2.2.1, .ref u.2.2.2.2.2.2.2.2.2.2.2.2.1, .ref u.2.2.2.2.2.2.2.2.2.2.2.2.2.1, .int 0, .int 0, .long 0])), (u.2.2.2.2.2.2.2.2.2.1, .inl (cJ, 25, .inr (.inl (fun _ => 0)))), (u.2.2.2.2.2.2.2.2.2.2.1, .inl (cJ, 9, .inr (.inl (fun _ => 0)))), (u.2.2.2.2.2.2.2.2.2.2.2.1, .inl (cJ, 3, .inr (.inl (fun _ => 0)))), (u.2.2.2.2.2.2.2.2.2.2.2.2.1, .inl (cJ, 4, .inr (.inl (fun _ => 0)))), (u.2.2.2.2.2.2.2.2.2.2.2.2.2.1, .inr (1, [.long 0, .long 1])), (u.2.2.2.2.2.2.2.2.2.2.2.2.2.2.1, .inr (1, [.long 0, .long 1])), (u.2.2.2.2.2.2.2.2.2.2.2.2.2.2.2, .inr (1, [.long 0, .long 1]))]) := by
  refine fr_entryC (by decide) rfl rfl ?_
  intro p e s m args below meth c A Q H locs hQ C hret hlk hin w ls hl
  have hx := C.1
  have hb := C.2.1
  have hl : lv_has ls 1 [(0, .ref a0)] := hl
  refine lv_aload_n hx hb dX6_init_0 rfl (lv_at hl 0 rfl) ?_
  refine fr_objI C mw_1_9 mw_1_10 mw_1_11 hl.1 dX6_init_1 (Nat.le_of_ble_eq_true rfl) (Nat.le_of_ble_eq_true rfl) ?_
  refine lv_aload_n hx hb dX6_init_4 rfl (lv_at hl 0 rfl) ?_
  refine fr_new C w nw_X6_9 (Nat.le_of_ble_eq_true rfl) (Nat.le_of_ble_eq_true rfl) dX6_init_5 (fun q1 H w => ?_)
  have w : Wd D A s.heap H locs [(a0, .inr (6, [.null, .null, .null, .null, .null, .long 0, .long 0])), (q1, .inr (4, [.null, .int 0]))] := w
  refine lv_dup hx hb dX6_init_8 rfl ?_
  refine fr_callC (As := []) (rest := [.ref q1, .ref a0]) (wr := [(a0, .inr (6, [.null, .null, .null, .null, .null, .long 0, .long 0]))]) C w ki_X4_init mw_2_8 (c_X4_init l D cI cJ q1) ⟨Nat.le_of_ble_eq_true rfl, Nat.le_of_ble_eq_true rfl⟩ ⟨Nat.le_of_ble_eq_true rfl, Nat.le_of_ble_eq_true rfl⟩ [1] [0] rfl rfl rfl (by decide) (by decide) rfl hl.1 rfl (Nat.le_of_ble_eq_true rfl) dX6_init_9 (fun u H locs w => ?_)
  obtain ⟨q2, rfl⟩ : ∃ z, z = u := ⟨_, rfl⟩
  have w : Wd D A s.heap H locs [(a0, .inr (6, [.null, .null, .null, .null, .null, .long 0, .long 0])), (q1, .inr (4, [.ref q2, .int 0])), (q2, .inl (cI, 47, .inl (fun _ => 0)))] := w
  refine fr_putF C hin w ff_X6_12 0 rfl rfl rfl rfl (ws' := [(a0, .inr (6, [.ref q1, .null, .null, .null, .null, .long 0, .long 0])), (q1, .inr (4, [.ref q2, .int 0])), (q2, .inl (cI, 47, .inl (fun _ => 0)))]) rfl dX6_init_12 (fun H locs w => ?_)
  refine lv_aload_n hx hb dX6_init_15 rfl (lv_at hl 0 rfl) ?_
  refine fr_new C w nw_X6_16 (Nat.le_of_ble_eq_true rfl) (Nat.le_of_ble_eq_true rfl) dX6_init_16 (fun q3 H w => ?_)
  have w : Wd D A s.heap H locs [(a0, .inr (6, [.ref q1, .null, .null, .null, .null, .long 0, .long 0])), (q1, .inr (4, [.ref q2, .int 0])), (q2, .inl (cI, 47, .inl (fun _ => 0))), (q3, .inr (5, [.null, .int 0, .int 0, .int 0, .int 0]))] := w
  refine lv_dup hx hb dX6_init_19 rfl ?_
  refine fr_callC (As := []) (rest := [.ref q3, .ref a0]) (wr := [(a0, .inr (6, [.ref q1, .null, .null, .null, .null, .long 0, .long 0])), (q1, .inr (4, [.ref q2, .int 0])), (q2, .inl (cI, 47, .inl (fun _ => 0)))]) C w ki_X5_init mw_2_14 (c_X5_init l D cI cJ q3) ⟨Nat.le_of_ble_eq_true rfl, Nat.le_of_ble_eq_true rfl⟩ ⟨Nat.le_of_ble_eq_true rfl, Nat.le_of_ble_eq_true rfl⟩ [3] [0, 1, 2] rfl rfl rfl (by decide) (by decide) rfl hl.1 rfl (Nat.le_of_ble_eq_true rfl) dX6_init_20 (fun u H locs w => ?_)
  obtain ⟨q4, rfl⟩ : ∃ z, z = u := ⟨_, rfl⟩
  have w : Wd D A s.heap H locs [(a0, .inr (6, [.ref q1, .null, .null, .null, .null, .long 0, .long 0])), (q1, .inr (4, [.ref q2, .int 0])), (q2, .inl (cI, 47, .inl (fun _ => 0))), (q3, .inr (5, [.ref q4, .int 0, .int 0, .int 0, .int 0])), (q4, .inl (cI, 16, .inl (fun _ => 0)))] := w
  refine fr_putF C hin w ff_X6_19 0 rfl rfl rfl rfl (ws' := [(a0, .inr (6, [.ref q1, .ref q3, .null, .null, .null, .long 0, .long 0])), (q1, .inr (4, [.ref q2, .int 0])), (q2, .inl (cI, 47, .inl (fun _ => 0))), (q3, .inr (5, [.ref q4, .int 0, .int 0, .int 0, .int 0])), (q4, .inl (cI, 16, .inl (fun _ => 0)))]) rfl dX6_init_23 (fun H locs w => ?_)
  refine lv_aload_n hx hb dX6_init_26 rfl (lv_at hl 0 rfl) ?_
  refine fr_new C w nw_X6_23 (Nat.le_of_ble_eq_true rfl) (Nat.le_of_ble_eq_true rfl) dX6_init_27 (fun q5 H w => ?_)
  have w : Wd D A s.heap H locs [(a0, .inr (6, [.ref q1, .ref q3, .null, .null, .null, .long 0, .long 0])), (q1, .inr (4, [.ref q2, .int 0])), (q2, .inl (cI, 47, .inl (fun _ => 0))), (q3, .inr (5, [.ref q4, .int 0, .int 0, .int 0, .int 0])), (q4, .inl (cI, 16, .inl (fun _ => 0))), (q5, .inr (2, [.null, .null, .int 0, .int 0]))] := w
  refine lv_dup hx hb dX6_init_30 rfl ?_
  refine fr_callC (As := []) (rest := [.ref q5, .ref a0]) (wr := [(a0, .inr (6, [.ref q1, .ref q3, .null, .null, .null, .long 0, .long 0])), (q1, .inr (4, [.ref q2, .int 0])), (q2, .inl (cI, 47, .inl (fun _ => 0))), (q3, .inr (5, [.ref q4, .int 0, .int 0, .int 0, .int 0])), (q4, .inl (cI, 16, .inl (fun _ => 0)))]) C w ki_X2_init mw_2_19 (c_X2_init l D cI cJ q5) ⟨Nat.le_of_ble_eq_true rfl, Nat.le_of_ble_eq_true rfl⟩ ⟨Nat.le_of_ble_eq_true rfl, Nat.le_of_ble_eq_true rfl⟩ [5] [0, 1, 2, 3, 4] rfl rfl rfl (by decide) (by decide) rfl hl.1 rfl (Nat.le_of_ble_eq_true rfl) dX6_init_31 (fun u H locs w => ?_)
  obtain ⟨q6, q7⟩ := u
  have w : Wd D A s.heap H locs [(a0, .inr (6, [.ref q1, .ref q3, .null, .null, .null, .long 0, .long 0])), (q1, .inr (4, [.ref q2, .int 0])), (q2, .inl (cI, 47, .inl (fun _ => 0))), (q3, .inr (5, [.ref q4, .int 0, .int 0, .int 0, .int 0])), (q4, .inl (cI, 16, .inl (fun _ => 0))), (q5, .inr (2, [.ref q6, .ref q7, .int 0, .int 0])), (q6, .inl (cI, 20, .inl (fun _ => 0))), (q7, .inl (cI, 4, .inl (fun _ => 0)))] := w
  refine fr_putF C hin w ff_X6_26 0 rfl rfl rfl rfl (ws' := [(a0, .inr (6, [.ref q1, .ref q3, .ref q5, .null, .null, .long 0, .long 0])), (q1, .inr (4, [.ref q2, .int 0])), (q2, .inl (cI, 47, .inl (fun _ => 0))), (q3, .inr (5, [.ref q4, .int 0, .int 0, .int 0, .int 0])), (q4, .inl (cI, 16, .inl (fun _ => 0))), (q5, .inr (2, [.ref q6, .ref q7, .int 0, .int 0])), (q6, .inl (cI, 20, .inl (fun _ => 0))), (q7, .inl (cI, 4, .inl (fun _ => 0)))]) rfl dX6_init_34 (fun H locs w => ?_)
  refine lv_aload_n hx hb dX6_init_37 rfl (lv_at hl 0 rfl) ?_
  refine fr_new C w nw_X6_30 (Nat.le_of_ble_eq_true rfl) (Nat.le_of_ble_eq_true rfl) dX6_init_38 (fun q8 H w => ?_)
  have w : Wd D A s.heap H locs [(a0, .inr (6, [.ref q1, .ref q3, .ref q5, .null, .null, .long 0, .long 0])), (q1, .inr (4, [.ref q2, .int 0])), (q2, .inl (cI, 47, .inl (fun _ => 0))), (q3, .inr (5, [.ref q4, .int 0, .int 0, .int 0, .int 0])), (q4, .inl (cI, 16, .inl (fun _ => 0))), (q5, .inr (2, [.ref q6, .ref q7, .int 0, .int 0])), (q6, .inl (cI, 20, .inl (fun _ => 0))), (q7, .inl (cI, 4, .inl (fun _ => 0))), (q8, .inr (3, [.null, .null, .int 0, .int 0]))] := w
  refine lv_dup hx hb dX6_init_41 rfl ?_
  refine fr_callC (As := []) (rest := [.ref q8, .ref a0]) (wr := [(a0, .inr (6, [.ref q1, .ref q3, .ref q5, .null, .null, .long 0, .long 0])), (q1, .inr (4, [.ref q2, .int 0])), (q2, .inl (cI, 47, .inl (fun _ => 0))), (q3, .inr (5, [.ref q4, .int 0, .int 0, .int 0, .int 0])), (q4, .inl (cI, 16, .inl (fun _ => 0))), (q5, .inr (2, [.ref q6, .ref q7, .int 0, .int 0])), (q6, .inl (cI, 20, .inl (fun _ => 0))), (q7, .inl (cI, 4, .inl (fun _ => 0)))]) C w ki_X3_init mw_3_1 (c_X3_init l D cI cJ q8) ⟨Nat.le_of_ble_eq_true rfl, Nat.le_of_ble_eq_true rfl⟩ ⟨Nat.le_of_ble_eq_true rfl, Nat.le_of_ble_eq_true rfl⟩ [8] [0, 1, 2, 3, 4, 5, 6, 7] rfl rfl rfl (by decide) (by decide) rfl hl.1 rfl (Nat.le_of_ble_eq_true rfl) dX6_init_42 (fun u H locs w => ?_)
  obtain ⟨q9, q10, q11, q12, q13, q14, q15⟩ := u
  have w : Wd D A s.heap H locs [(a0, .inr (6, [.ref q1, .ref q3, .ref q5, .null, .null, .long 0, .long 0])), (q1, .inr (4, [.ref q2, .int 0])), (q2, .inl (cI, 47, .inl (fun _ => 0))), (q3, .inr (5, [.ref q4, .int 0, .int 0, .int 0, .int 0])), (q4, .inl (cI, 16, .inl (fun _ => 0))), (q5, .inr (2, [.ref q6, .ref q7, .int 0, .int 0])), (q6, .inl (cI, 20, .inl (fun _ => 0))), (q7, .inl (cI, 4, .inl (fun _ => 0))), (q8, .inr (3, [.ref q9, .ref q15, .int 0, .int 0])), (q9, .inr (0, [.ref q10, .ref q11, .ref q12, .ref q13, .ref q14, .int 0, .int 0, .long 0])), (q10, .inl (cJ, 25, .inr (.inl (fun _ => 0)))), (q11, .inl (cJ, 9, .inr (.inl (fun _ => 0)))), (q12, .inl (cJ, 3, .inr (.inl (fun _ => 0)))), (q13, .inl (cJ, 4, .inr (.inl (fun _ => 0)))), (q14, .inr (1, [.long 0, .long 1])), (q15, .inr (1, [.long 0, .long 1]))] := w
  refine fr_putF C hin w ff_X6_33 0 rfl rfl rfl rfl (ws' := [(a0, .inr (6, [.ref q1, .ref q3, .ref q5, .ref q8, .null, .long 0, .long 0])), (q1, .inr (4, [.ref q2, .int 0])), (q2, .inl (cI, 47, .inl (fun _ => 0))), (q3, .inr (5, [.ref q4, .int 0, .int 0, .int 0, .int 0])), (q4, .inl (cI, 16, .inl (fun _ => 0))), (q5, .inr (2, [.ref q6, .ref q7, .int 0, .int 0])), (q6, .inl (cI, 20, .inl (fun _ => 0))), (q7, .inl (cI, 4, .inl (fun _ => 0))), (q8, .inr (3, [.ref q9, .ref q15, .int 0, .int 0])), (q9, .inr (0, [.ref q10, .ref q11, .ref q12, .ref q13, .ref q14, .int 0, .int 0, .long 0])), (q10, .inl (cJ, 25, .inr (.inl (fun _ => 0)))), (q11, .inl (cJ, 9, .inr (.inl (fun _ => 0)))), (q12, .inl (cJ, 3, .inr (.inl (fun _ => 0)))), (q13, .inl (cJ, 4, .inr (.inl (fun _ => 0)))), (q14, .inr (1, [.long 0, .long 1])), (q15, .inr (1, [.long 0, .long 1]))]) rfl dX6_init_45 (fun H locs w => ?_)
  refine lv_aload_n hx hb dX6_init_48 rfl (lv_at hl 0 rfl) ?_
  refine fr_new C w nw_X6_37 (Nat.le_of_ble_eq_true rfl) (Nat.le_of_ble_eq_true rfl) dX6_init_49 (fun q16 H w => ?_)
  have w : Wd D A s.heap H locs [(a0, .inr (6, [.ref q1, .ref q3, .ref q5, .ref q8, .null, .long 0, .long 0])), (q1, .inr (4, [.ref q2, .int 0])), (q2, .inl (cI, 47, .inl (fun _ => 0))), (q3, .inr (5, [.ref q4, .int 0, .int 0, .int 0, .int 0])), (q4, .inl (cI, 16, .inl (fun _ => 0))), (q5, .inr (2, [.ref q6, .ref q7, .int 0, .int 0])), (q6, .inl (cI, 20, .inl (fun _ => 0))), (q7, .inl (cI, 4, .inl (fun _ => 0))), (q8, .inr (3, [.ref q9, .ref q15, .int 0, .int 0])), (q9, .inr (0, [.ref q10, .ref q11, .ref q12, .ref q13, .ref q14, .int 0, .int 0, .long 0])), (q10, .inl (cJ, 25, .inr (.inl (fun _ => 0)))), (q11, .inl (cJ, 9, .inr (.inl (fun _ => 0)))), (q12, .inl (cJ, 3, .inr (.inl (fun _ => 0)))), (q13, .inl (cJ, 4, .inr (.inl (fun _ => 0)))), (q14, .inr (1, [.long 0, .long 1])), (q15, .inr (1, [.long 0, .long 1])), (q16, .inr (1, [.long 0, .long 0]))] := w
  refine lv_dup hx hb dX6_init_52 rfl ?_
  refine fr_callC (As := []) (rest := [.ref q16, .ref a0]) (wr := [(a0, .inr (6, [.ref q1, .ref q3, .ref q5, .ref q8, .null, .long 0, .long 0])), (q1, .inr (4, [.ref q2, .int 0])), (q2, .inl (cI, 47, .inl (fun _ => 0))), (q3, .inr (5, [.ref q4, .int 0, .int 0, .int 0, .int 0])), (q4, .inl (cI, 16, .inl (fun _ => 0))), (q5, .inr (2, [.ref q6, .ref q7, .int 0, .int 0])), (q6, .inl (cI, 20, .inl (fun _ => 0))), (q7, .inl (cI, 4, .inl (fun _ => 0))), (q8, .inr (3, [.ref q9, .ref q15, .int 0, .int 0])), (q9, .inr (0, [.ref q10, .ref q11, .ref q12, .ref q13, .ref q14, .int 0, .int 0, .long 0])), (q10, .inl (cJ, 25, .inr (.inl (fun _ => 0)))), (q11, .inl (cJ, 9, .inr (.inl (fun _ => 0)))), (q12, .inl (cJ, 3, .inr (.inl (fun _ => 0)))), (q13, .inl (cJ, 4, .inr (.inl (fun _ => 0)))), (q14, .inr (1, [.long 0, .long 1])), (q15, .inr (1, [.long 0, .long 1]))]) C w ki_X1_init mw_4_5 (c_X1_init l D cI cJ q16) ⟨Nat.le_of_ble_eq_true rfl, Nat.le_of_ble_eq_true rfl⟩ ⟨Nat.le_of_ble_eq_true rfl, Nat.le_of_ble_eq_true rfl⟩ [16] [0, 1, 2, 3, 4, 5, 6, 7, 8, 9, 10, 11, 12, 13, 14, 15] rfl rfl rfl (by decide) (by decide) rfl hl.1 rfl (Nat.le_of_ble_eq_true rfl) dX6_init_53 (fun u H locs w => ?_)
  have w : Wd D A s.heap H locs [(a0, .inr (6, [.ref q1, .ref q3, .ref q5, .ref q8, .null, .long 0, .long 0])), (q1, .inr (4, [.ref q2, .int 0])), (q2, .inl (cI, 47, .inl (fun _ => 0))), (q3, .inr (5, [.ref q4, .int 0, .int 0, .int 0, .int 0])), (q4, .inl (cI, 16, .inl (fun _ => 0))), (q5, .inr (2, [.ref q6, .ref q7, .int 0, .int 0])), (q6, .inl (cI, 20, .inl (fun _ => 0))), (q7, .inl (cI, 4, .inl (fun _ => 0))), (q8, .inr (3, [.ref q9, .ref q15, .int 0, .int 0])), (q9, .inr (0, [.ref q10, .ref q11, .ref q12, .ref q13, .ref q14, .int 0, .int 0, .long 0])), (q10, .inl (cJ, 25, .inr (.inl (fun _ => 0)))), (q11, .inl (cJ, 9, .inr (.inl (fun _ => 0)))), (q12, .inl (cJ, 3, .inr (.inl (fun _ => 0)))), (q13, .inl (cJ, 4, .inr (.inl (fun _ => 0)))), (q14, .inr (1, [.long 0, .long 1])), (q15, .inr (1, [.long 0, .long 1])), (q16, .inr (1, [.long 0, .long 1]))] := w
  refine fr_putF C hin w ff_X6_40 0 rfl rfl rfl rfl (ws' := [(a0, .inr (6, [.ref q1, .ref q3, .ref q5, .ref q8, .ref q16, .long 0, .long 0])), (q1, .inr (4, [.ref q2, .int 0])), (q2, .inl (cI, 47, .inl (fun _ => 0))), (q3, .inr (5, [.ref q4, .int 0, .int 0, .int 0, .int 0])), (q4, .inl (cI, 16, .inl (fun _ => 0))), (q5, .inr (2, [.ref q6, .ref q7, .int 0, .int 0])), (q6, .inl (cI, 20, .inl (fun _ => 0))), (q7, .inl (cI, 4, .inl (fun _ => 0))), (q8, .inr (3, [.ref q9, .ref q15, .int 0, .int 0])), (q9, .inr (0, [.ref q10, .ref q11, .ref q12, .ref q13, .ref q14, .int 0, .int 0, .long 0])), (q10, .inl (cJ, 25, .inr (.inl (fun _ => 0)))), (q11, .inl (cJ, 9, .inr (.inl (fun _ => 0)))), (q12, .inl (cJ, 3, .inr (.inl (fun _ => 0)))), (q13, .inl (cJ, 4, .inr (.inl (fun _ => 0)))), (q14, .inr (1, [.long 0, .long 1])), (q15, .inr (1, [.long 0, .long 1])), (q16, .inr (1, [.long 0, .long 1]))]) rfl dX6_init_56 (fun H locs w => ?_)
  subst hQ
  exact fr_vretC (S := Nat × Nat × Nat × Nat × Nat × Nat × Nat × Nat × Nat × Nat × Nat × Nat × Nat × Nat × Nat × Nat) (W1 := (fun (u : Nat × Nat × Nat × Nat × Nat × Nat × Nat × Nat × Nat × Nat × Nat × Nat × Nat × Nat × Nat × Nat) => [(a0, .inr (6, [.ref u.1, .ref u.2.2.1, .ref u.2.2.2.2.1, .ref u.2.2.2.2.2.2.2.1, .ref u.2.2.2.2.2.2.2.2.2.2.2.2.2.2.2, .long 0, .long 0])), (u.1, .inr (4, [.ref u.2.1, .int 0])), (u.2.1, .inl (cI, 47, .inl (fun _ => 0))), (u.2.2.1, .inr (5, [.ref u.2.2.2.1, .int 0, .int 0, .int 0, .int 0])), (u.2.2.2.1, .inl (cI, 16, .inl (fun _ => 0))), (u.2.2.2.2.1, .inr (2, [.ref u.2.2.2.2.2.1, .ref u.2.2.2.2.2.2.1, .int 0, .int 0])), (u.2.2.2.2.2.1, .inl (cI, 20, .inl (fun _ => 0))), (u.2.2.2.2.2.2.1, .inl (cI, 4, .inl (fun _ => 0))), (u.2.2.2.2.2.2.2.1, .inr (3, [.ref u.2.2.2.2.2.2.2.2.1, .ref u.2.2.2.2.2.2.2.2.2.2.2.2.2.2.1, .int 0, .int 0])), (u.2.2.2.2.2.2.2.2.1, .inr (0, [.ref u.2.2.2.2.2.2.2.2.2.1, .ref u.2.2.2.2.2.2.2.2.2.2.1, .ref u.2.2.2.2.2.2.2.2.2.2.2.1, .ref u.2.2.2.2.2.2.2.2.2.2.2.2.1, .ref u.2.2.2.2.2.2.2.2.2.2.2.2.2.1, .int 0, .int 0, .long 0])), (u.2.2.2.2.2.2.2.2.2.1, .inl (cJ, 25, .inr (.inl (fun _ => 0)))), (u.2.2.2.2.2.2.2.2.2.2.1, .inl (cJ, 9, .inr (.inl (fun _ => 0)))), (u.2.2.2.2.2.2.2.2.2.2.2.1, .inl (cJ, 3, .inr (.inl (fun _ => 0)))), (u.2.2.2.2.2.2.2.2.2.2.2.2.1, .inl (cJ, 4, .inr (.inl (fun _ => 0)))), (u.2.2.2.2.2.2.2.2.2.2.2.2.2.1, .inr (1, [.long 0, .long 1])), (u.2.2.2.2.2.2.2.2.2.2.2.2.2.2.1, .inr (1, [.long 0, .long 1])), (u.2.2.2.2.2.2.2.2.2.2.2.2.2.2.2, .inr (1, [.long 0, .long 1]))])) (q1, q2, q3, q4, q5, q6, q7, q8, q9, q10, q11, q12, q13, q14, q15, q16) C hret hlk w rfl dX6_init_59
set_option maxRecDepth 100000 in
set_option maxHeartbeats 4000000 in
theorem c_X7_init (l : Launch) (D : va_G) (cI cJ : ClassId) (a0 : Nat) : CC (S := Nat × Nat × Nat × Nat × Nat × Nat × Nat × Nat × Nat) l yX7_init cX7_init 1 1 9 107 D cI cJ [.ref a0] [(a0, .inr (7, [.int 0, .null, .int 0, .int 0, .null, .null, .null, .int 0, .int 0, .int 0, .int 0, .int 0, .int 0, .int 0, .null, .int 0, .null, .long 0, .null, .long 0, .null, .null, .int 0, .int 0, .long 0]))] (fun (u : Nat × Nat × Nat × Nat × Nat × Nat × Nat × Nat × Nat) => [(a0, .inr (7, [.int 0, .ref u.1, .int 0, .int 0, .ref u.2.1, .ref u.2.2.1, .ref u.2.2.2.1, .int 0, .int 0, .int 0, .int 0, .int 0, .int 0, .int 0, .ref u.2.2.2.2.1, .int 0, .ref u.2.2.2.2.2.1, .long 0, .ref u.2.2.2.2.2.2.1, .long 0, .ref u.2.2.2.2.2.2.2.1, .ref u.2.2.2.2.2.2.2.2, .int 0, .int 0, .long 0])), (u.1, .inl (cI, 47, .inl (fun _ => 0))), (u.2.1, .inl (cI, 16, .inl (fun _ => 0))), (u.2.2.1, .inl (cI, 4, .inl (fun _ => 0))), (u.2.2.2.1, .inl (cI, 4, .inl (fun _ => 0))), (u.2.2.2.2.1, .inl (cI, 16, .inl (fun _ => 0))), (u.2.2.2.2.2.1, .inl (cI, 4, .inl (fun _ => 0))), (u.2.2.2.2.2.2.1, .inl (cJ, 4, .inr (.inl (fun _ => 0)))), (u.2.2.2.2.2.2.2.1, .inl (cJ, 9, .inr (.inl (fun _ => 0)))), (u.2.2.2.2.2.2.2.2, .inl (cJ, 3, .inr (.inl (fun _ => 0))))]) := by
  refine fr_entryC (by decide) rfl rfl ?_
  intro p e s m args below meth c A Q H locs hQ C hret hlk hin w ls hl
  have hx := C.1
  have hb := C.2.1
  have hl : lv_has ls 1 [(0, .ref a0)] := hl
  refine lv_aload_n hx hb dX7_init_0 rfl (lv_at hl 0 rfl) ?_
  refine fr_objI C mw_4_9 mw_1_10 mw_1_11 hl.1 dX7_init_1 (Nat.le_of_ble_eq_true rfl) (Nat.le_of_ble_eq_true rfl) ?_
  refine lv_aload_n hx hb dX7_init_4 rfl (lv_at hl 0 rfl) ?_
  refine lv_bipush (v := 47) hx hb dX7_init_5 (by decide) ?_
  refine fr_newI C w mw_2_12 (by decide) (N := 47) (by decide) (by decide) (Nat.le_of_ble_eq_true rfl) (Nat.le_of_ble_eq_true rfl) dX7_init_7 (fun q1 H w => ?_)
  have w : Wd D A s.heap H locs [(a0, .inr (7, [.int 0, .null, .int 0, .int 0, .null, .null, .null, .int 0, .int 0, .int 0, .int 0, .int 0, .int 0, .int 0, .null, .int 0, .null, .long 0, .null, .long 0, .null, .null, .int 0, .int 0, .long 0])), (q1, .inl (cI, 47, .inl (fun _ => 0)))] := w
  refine fr_putF C hin w ff_X7_7 0 rfl rfl rfl rfl (ws' := [(a0, .inr (7, [.int 0, .ref q1, .int 0, .int 0, .null, .null, .null, .int 0, .int 0, .int 0, .int 0, .int 0, .int 0, .int 0, .null, .int 0, .null, .long 0, .null, .long 0, .null, .null, .int 0, .int 0, .long 0])), (q1, .inl (cI, 47, .inl (fun _ => 0)))]) rfl dX7_init_9 (fun H locs w => ?_)
  refine lv_aload_n hx hb dX7_init_12 rfl (lv_at hl 0 rfl) ?_
  refine lv_bipush (v := 16) hx hb dX7_init_13 (by decide) ?_
  refine fr_newI C w mw_2_12 (by decide) (N := 16) (by decide) (by decide) (Nat.le_of_ble_eq_true rfl) (Nat.le_of_ble_eq_true rfl) dX7_init_15 (fun q2 H w => ?_)
  have w : Wd D A s.heap H locs [(a0, .inr (7, [.int 0, .ref q1, .int 0, .int 0, .null, .null, .null, .int 0, .int 0, .int 0, .int 0, .int 0, .int 0, .int 0, .null, .int 0, .null, .long 0, .null, .long 0, .null, .null, .int 0, .int 0, .long 0])), (q1, .inl (cI, 47, .inl (fun _ => 0))), (q2, .inl (cI, 16, .inl (fun _ => 0)))] := w
  refine fr_putF C hin w ff_X7_13 0 rfl rfl rfl rfl (ws' := [(a0, .inr (7, [.int 0, .ref q1, .int 0, .int 0, .ref q2, .null, .null, .int 0, .int 0, .int 0, .int 0, .int 0, .int 0, .int 0, .null, .int 0, .null, .long 0, .null, .long 0, .null, .null, .int 0, .int 0, .long 0])), (q1, .inl (cI, 47, .inl (fun _ => 0))), (q2, .inl (cI, 16, .inl (fun _ => 0)))]) rfl dX7_init_17 (fun H locs w => ?_)
  refine lv_aload_n hx hb dX7_init_20 rfl (lv_at hl 0 rfl) ?_
  refine lv_iconst (v := 4) hx hb dX7_init_21 (by decide) ?_
  refine fr_newI C w mw_2_12 (by decide) (N := 4) (by decide) (by decide) (Nat.le_of_ble_eq_true rfl) (Nat.le_of_ble_eq_true rfl) dX7_init_22 (fun q3 H w => ?_)
  have w : Wd D A s.heap H locs [(a0, .inr (7, [.int 0, .ref q1, .int 0, .int 0, .ref q2, .null, .null, .int 0, .int 0, .int 0, .int 0, .int 0, .int 0, .int 0, .null, .int 0, .null, .long 0, .null, .long 0, .null, .null, .int 0, .int 0, .long 0])), (q1, .inl (cI, 47, .inl (fun _ => 0))), (q2, .inl (cI, 16, .inl (fun _ => 0))), (q3, .inl (cI, 4, .inl (fun _ => 0)))] := w
  refine fr_putF C hin w ff_X7_16 0 rfl rfl rfl rfl (ws' := [(a0, .inr (7, [.int 0, .ref q1, .int 0, .int 0, .ref q2, .ref q3, .null, .int 0, .int 0, .int 0, .int 0, .int 0, .int 0, .int 0, .null, .int 0, .null, .long 0, .null, .long 0, .null, .null, .int 0, .int 0, .long 0])), (q1, .inl (cI, 47, .inl (fun _ => 0))), (q2, .inl (cI, 16, .inl (fun _ => 0))), (q3, .inl (cI, 4, .inl (fun _ => 0)))]) rfl dX7_init_24 (fun H locs w => ?_)
  refine lv_aload_n hx hb dX7_init_27 rfl (lv_at hl 0 rfl) ?_
  refine lv_iconst (v := 4) hx hb dX7_init_28 (by decide) ?_
  refine fr_newI C w mw_2_12 (by decide) (N := 4) (by decide) (by decide) (Nat.le_of_ble_eq_true rfl) (Nat.le_of_ble_eq_true rfl) dX7_init_29 (fun q4 H w => ?_)
  have w : Wd D A s.heap H locs [(a0, .inr (7, [.int 0, .ref q1, .int 0, .int 0, .ref q2, .ref q3, .null, .int 0, .int 0, .int 0, .int 0, .int 0, .int 0, .int 0, .null, .int 0, .null, .long 0, .null, .long 0, .null, .null, .int 0, .int 0, .long 0])), (q1, .inl (cI, 47, .inl (fun _ => 0))), (q2, .inl (cI, 16, .inl (fun _ => 0))), (q3, .inl (cI, 4, .inl (fun _ => 0))), (q4, .inl (cI, 4, .inl (fun _ => 0)))] := w
  refine fr_putF C hin w ff_X7_19 0 rfl rfl rfl rfl (ws' := [(a0, .inr (7, [.int 0, .ref q1, .int 0, .int 0, .ref q2, .ref q3, .ref q4, .int 0, .int 0, .int 0, .int 0, .int 0, .int 0, .int 0, .null, .int 0, .null, .long 0, .null, .long 0, .null, .null, .int 0, .int 0, .long 0])), (q1, .inl (cI, 47, .inl (fun _ => 0))), (q2, .inl (cI, 16, .inl (fun _ => 0))), (q3, .inl (cI, 4, .inl (fun _ => 0))), (q4, .inl (cI, 4, .inl (fun _ => 0)))]) rfl dX7_init_31 (fun H locs w => ?_)
  refine lv_aload_n hx hb dX7_init_34 rfl (lv_at hl 0 rfl) ?_
  refine lv_bipush (v := 16) hx hb dX7_init_35 (by decide) ?_
  refine fr_newI C w mw_2_12 (by decide) (N := 16) (by decide) (by decide) (Nat.le_of_ble_eq_true rfl) (Nat.le_of_ble_eq_true rfl) dX7_init_37 (fun q5 H w => ?_)
  have w : Wd D A s.heap H locs [(a0, .inr (7, [.int 0, .ref q1, .int 0, .int 0, .ref q2, .ref q3, .ref q4, .int 0, .int 0, .int 0, .int 0, .int 0, .int 0, .int 0, .null, .int 0, .null, .long 0, .null, .long 0, .null, .null, .int 0, .int 0, .long 0])), (q1, .inl (cI, 47, .inl (fun _ => 0))), (q2, .inl (cI, 16, .inl (fun _ => 0))), (q3, .inl (cI, 4, .inl (fun _ => 0))), (q4, .inl (cI, 4, .inl (fun _ => 0))), (q5, .inl (cI, 16, .inl (fun _ => 0)))] := w
  refine fr_putF C hin w ff_X7_22 0 rfl rfl rfl rfl (ws' := [(a0, .inr (7, [.int 0, .ref q1, .int 0, .int 0, .ref q2, .ref q3, .ref q4, .int 0, .int 0, .int 0, .int 0, .int 0, .int 0, .int 0, .ref q5, .int 0, .null, .long 0, .null, .long 0, .null, .null, .int 0, .int 0, .long 0])), (q1, .inl (cI, 47, .inl (fun _ => 0))), (q2, .inl (cI, 16, .inl (fun _ => 0))), (q3, .inl (cI, 4, .inl (fun _ => 0))), (q4, .inl (cI, 4, .inl (fun _ => 0))), (q5, .inl (cI, 16, .inl (fun _ => 0)))]) rfl dX7_init_39 (fun H locs w => ?_)
  refine lv_aload_n hx hb dX7_init_42 rfl (lv_at hl 0 rfl) ?_
  refine lv_iconst (v := 4) hx hb dX7_init_43 (by decide) ?_
  refine fr_newI C w mw_2_12 (by decide) (N := 4) (by decide) (by decide) (Nat.le_of_ble_eq_true rfl) (Nat.le_of_ble_eq_true rfl) dX7_init_44 (fun q6 H w => ?_)
  have w : Wd D A s.heap H locs [(a0, .inr (7, [.int 0, .ref q1, .int 0, .int 0, .ref q2, .ref q3, .ref q4, .int 0, .int 0, .int 0, .int 0, .int 0, .int 0, .int 0, .ref q5, .int 0, .null, .long 0, .null, .long 0, .null, .null, .int 0, .int 0, .long 0])), (q1, .inl (cI, 47, .inl (fun _ => 0))), (q2, .inl (cI, 16, .inl (fun _ => 0))), (q3, .inl (cI, 4, .inl (fun _ => 0))), (q4, .inl (cI, 4, .inl (fun _ => 0))), (q5, .inl (cI, 16, .inl (fun _ => 0))), (q6, .inl (cI, 4, .inl (fun _ => 0)))] := w
  refine fr_putF C hin w ff_X7_25 0 rfl rfl rfl rfl (ws' := [(a0, .inr (7, [.int 0, .ref q1, .int 0, .int 0, .ref q2, .ref q3, .ref q4, .int 0, .int 0, .int 0, .int 0, .int 0, .int 0, .int 0, .ref q5, .int 0, .ref q6, .long 0, .null, .long 0, .null, .null, .int 0, .int 0, .long 0])), (q1, .inl (cI, 47, .inl (fun _ => 0))), (q2, .inl (cI, 16, .inl (fun _ => 0))), (q3, .inl (cI, 4, .inl (fun _ => 0))), (q4, .inl (cI, 4, .inl (fun _ => 0))), (q5, .inl (cI, 16, .inl (fun _ => 0))), (q6, .inl (cI, 4, .inl (fun _ => 0)))]) rfl dX7_init_46 (fun H locs w => ?_)
  refine lv_aload_n hx hb dX7_init_49 rfl (lv_at hl 0 rfl) ?_
  refine lv_iconst (v := 4) hx hb dX7_init_50 (by decide) ?_
  refine fr_newJ C w mw_3_15 (by decide) (N := 4) (by decide) (by decide) (Nat.le_of_ble_eq_true rfl) (Nat.le_of_ble_eq_true rfl) dX7_init_51 (fun q7 H w => ?_)
  have w : Wd D A s.heap H locs [(a0, .inr (7, [.int 0, .ref q1, .int 0, .int 0, .ref q2, .ref q3, .ref q4, .int 0, .int 0, .int 0, .int 0, .int 0, .int 0, .int 0, .ref q5, .int 0, .ref q6, .long 0, .null, .long 0, .null, .null, .int 0, .int 0, .long 0])), (q1, .inl (cI, 47, .inl (fun _ => 0))), (q2, .inl (cI, 16, .inl (fun _ => 0))), (q3, .inl (cI, 4, .inl (fun _ => 0))), (q4, .inl (cI, 4, .inl (fun _ => 0))), (q5, .inl (cI, 16, .inl (fun _ => 0))), (q6, .inl (cI, 4, .inl (fun _ => 0))), (q7, .inl (cJ, 4, .inr (.inl (fun _ => 0))))] := w
  refine fr_putF C hin w ff_X7_28 0 rfl rfl rfl rfl (ws' := [(a0, .inr (7, [.int 0, .ref q1, .int 0, .int 0, .ref q2, .ref q3, .ref q4, .int 0, .int 0, .int 0, .int 0, .int 0, .int 0, .int 0, .ref q5, .int 0, .ref q6, .long 0, .ref q7, .long 0, .null, .null, .int 0, .int 0, .long 0])), (q1, .inl (cI, 47, .inl (fun _ => 0))), (q2, .inl (cI, 16, .inl (fun _ => 0))), (q3, .inl (cI, 4, .inl (fun _ => 0))), (q4, .inl (cI, 4, .inl (fun _ => 0))), (q5, .inl (cI, 16, .inl (fun _ => 0))), (q6, .inl (cI, 4, .inl (fun _ => 0))), (q7, .inl (cJ, 4, .inr (.inl (fun _ => 0))))]) rfl dX7_init_53 (fun H locs w => ?_)
  refine lv_aload_n hx hb dX7_init_56 rfl (lv_at hl 0 rfl) ?_
  refine lv_bipush (v := 9) hx hb dX7_init_57 (by decide) ?_
  refine fr_newJ C w mw_3_15 (by decide) (N := 9) (by decide) (by decide) (Nat.le_of_ble_eq_true rfl) (Nat.le_of_ble_eq_true rfl) dX7_init_59 (fun q8 H w => ?_)
  have w : Wd D A s.heap H locs [(a0, .inr (7, [.int 0, .ref q1, .int 0, .int 0, .ref q2, .ref q3, .ref q4, .int 0, .int 0, .int 0, .int 0, .int 0, .int 0, .int 0, .ref q5, .int 0, .ref q6, .long 0, .ref q7, .long 0, .null, .null, .int 0, .int 0, .long 0])), (q1, .inl (cI, 47, .inl (fun _ => 0))), (q2, .inl (cI, 16, .inl (fun _ => 0))), (q3, .inl (cI, 4, .inl (fun _ => 0))), (q4, .inl (cI, 4, .inl (fun _ => 0))), (q5, .inl (cI, 16, .inl (fun _ => 0))), (q6, .inl (cI, 4, .inl (fun _ => 0))), (q7, .inl (cJ, 4, .inr (.inl (fun _ => 0)))), (q8, .inl (cJ, 9, .inr (.inl (fun _ => 0))))] := w
  refine fr_putF C hin w ff_X7_32 0 rfl rfl rfl rfl (ws' := [(a0, .inr (7, [.int 0, .ref q1, .int 0, .int 0, .ref q2, .ref q3, .ref q4, .int 0, .int 0, .int 0, .int 0, .int 0, .int 0, .int 0, .ref q5, .int 0, .ref q6, .long 0, .ref q7, .long 0, .ref q8, .null, .int 0, .int 0, .long 0])), (q1, .inl (cI, 47, .inl (fun _ => 0))), (q2, .inl (cI, 16, .inl (fun _ => 0))), (q3, .inl (cI, 4, .inl (fun _ => 0))), (q4, .inl (cI, 4, .inl (fun _ => 0))), (q5, .inl (cI, 16, .inl (fun _ => 0))), (q6, .inl (cI, 4, .inl (fun _ => 0))), (q7, .inl (cJ, 4, .inr (.inl (fun _ => 0)))), (q8, .inl (cJ, 9, .inr (.inl (fun _ => 0))))]) rfl dX7_init_61 (fun H locs w => ?_)
  refine lv_aload_n hx hb dX7_init_64 rfl (lv_at hl 0 rfl) ?_
  refine lv_iconst (v := 3) hx hb dX7_init_65 (by decide) ?_
  refine fr_newJ C w mw_3_15 (by decide) (N := 3) (by decide) (by decide) (Nat.le_of_ble_eq_true rfl) (Nat.le_of_ble_eq_true rfl) dX7_init_66 (fun q9 H w => ?_)
  have w : Wd D A s.heap H locs [(a0, .inr (7, [.int 0, .ref q1, .int 0, .int 0, .ref q2, .ref q3, .ref q4, .int 0, .int 0, .int 0, .int 0, .int 0, .int 0, .int 0, .ref q5, .int 0, .ref q6, .long 0, .ref q7, .long 0, .ref q8, .null, .int 0, .int 0, .long 0])), (q1, .inl (cI, 47, .inl (fun _ => 0))), (q2, .inl (cI, 16, .inl (fun _ => 0))), (q3, .inl (cI, 4, .inl (fun _ => 0))), (q4, .inl (cI, 4, .inl (fun _ => 0))), (q5, .inl (cI, 16, .inl (fun _ => 0))), (q6, .inl (cI, 4, .inl (fun _ => 0))), (q7, .inl (cJ, 4, .inr (.inl (fun _ => 0)))), (q8, .inl (cJ, 9, .inr (.inl (fun _ => 0)))), (q9, .inl (cJ, 3, .inr (.inl (fun _ => 0))))] := w
  refine fr_putF C hin w ff_X7_35 0 rfl rfl rfl rfl (ws' := [(a0, .inr (7, [.int 0, .ref q1, .int 0, .int 0, .ref q2, .ref q3, .ref q4, .int 0, .int 0, .int 0, .int 0, .int 0, .int 0, .int 0, .ref q5, .int 0, .ref q6, .long 0, .ref q7, .long 0, .ref q8, .ref q9, .int 0, .int 0, .long 0])), (q1, .inl (cI, 47, .inl (fun _ => 0))), (q2, .inl (cI, 16, .inl (fun _ => 0))), (q3, .inl (cI, 4, .inl (fun _ => 0))), (q4, .inl (cI, 4, .inl (fun _ => 0))), (q5, .inl (cI, 16, .inl (fun _ => 0))), (q6, .inl (cI, 4, .inl (fun _ => 0))), (q7, .inl (cJ, 4, .inr (.inl (fun _ => 0)))), (q8, .inl (cJ, 9, .inr (.inl (fun _ => 0)))), (q9, .inl (cJ, 3, .inr (.inl (fun _ => 0))))]) rfl dX7_init_68 (fun H locs w => ?_)
  subst hQ
  exact fr_vretC (S := Nat × Nat × Nat × Nat × Nat × Nat × Nat × Nat × Nat) (W1 := (fun (u : Nat × Nat × Nat × Nat × Nat × Nat × Nat × Nat × Nat) => [(a0, .inr (7, [.int 0, .ref u.1, .int 0, .int 0, .ref u.2.1, .ref u.2.2.1, .ref u.2.2.2.1, .int 0, .int 0, .int 0, .int 0, .int 0, .int 0, .int 0, .ref u.2.2.2.2.1, .int 0, .ref u.2.2.2.2.2.1, .long 0, .ref u.2.2.2.2.2.2.1, .long 0, .ref u.2.2.2.2.2.2.2.1, .ref u.2.2.2.2.2.2.2.2, .int 0, .int 0, .long 0])), (u.1, .inl (cI, 47, .inl (fun _ => 0))), (u.2.1, .inl (cI, 16, .inl (fun _ => 0))), (u.2.2.1, .inl (cI, 4, .inl (fun _ => 0))), (u.2.2.2.1, .inl (cI, 4, .inl (fun _ => 0))), (u.2.2.2.2.1, .inl (cI, 16, .inl (fun _ => 0))), (u.2.2.2.2.2.1, .inl (cI, 4, .inl (fun _ => 0))), (u.2.2.2.2.2.2.1, .inl (cJ, 4, .inr (.inl (fun _ => 0)))), (u.2.2.2.2.2.2.2.1, .inl (cJ, 9, .inr (.inl (fun _ => 0)))), (u.2.2.2.2.2.2.2.2, .inl (cJ, 3, .inr (.inl (fun _ => 0))))])) (q1, q2, q3, q4, q5, q6, q7, q8, q9) C hret hlk w rfl dX7_init_71
