def f_X7_within (v0 : Int32) (lo : Int32) (hi : Int32) : Int32 := (if v0 < lo then 0 else (if hi < v0 then 0 else 1))
set_option maxRecDepth 100000 in
set_option maxHeartbeats 4000000 in
theorem c_X7_within (l : Launch) (D : va_G) (cI cJ : ClassId) (v0 : Int32) (lo : Int32) (hi : Int32) : CI l yX7_within cX7_within 3 .boolean 0 D cI cJ [.int v0, .int lo, .int hi] [] [] (f_X7_within v0 lo hi) := by
  generalize hr : f_X7_within v0 lo hi = r
  refine fr_entryI (by decide) rfl ?_
  intro p e s m args below meth c A Q H locs hQ C hret hlk w ls hl
  have hx := C.1
  have hb := C.2.1
  have hl : lv_has ls 3 [(0, .int v0), (1, .int lo), (2, .int hi)] := hl
  have hr : (if v0 < lo then 0 else (if hi < v0 then 0 else 1)) = r := hr
  refine lv_iload_n hx hb dX7_within_0 rfl (lv_at hl 0 rfl) ?_
  refine lv_iload_n hx hb dX7_within_1 rfl (lv_at hl 1 rfl) ?_
  refine lv_icmp_lt (tgt := 14) hx hb dX7_within_2 (by decide) (fun c2_1 => ?_) (fun c2_1 => ?_)
  · have hr := (if_pos c2_1).symm.trans hr
    refine lv_iconst (v := 0) hx hb dX7_within_14 (by decide) ?_
    subst hr hQ
    exact fr_iret (W0 := []) C hret hlk w rfl rfl rfl dX7_within_15
  · have hr := (if_neg c2_1).symm.trans hr
    refine lv_iload_n hx hb dX7_within_5 rfl (lv_at hl 0 rfl) ?_
    refine lv_iload_n hx hb dX7_within_6 rfl (lv_at hl 2 rfl) ?_
    refine lv_icmp_gt (tgt := 14) hx hb dX7_within_7 (by decide) (fun c7_2 => ?_) (fun c7_2 => ?_)
    · have hr := (if_pos c7_2).symm.trans hr
      refine lv_iconst (v := 0) hx hb dX7_within_14 (by decide) ?_
      subst hr hQ
      exact fr_iret (W0 := []) C hret hlk w rfl rfl rfl dX7_within_15
    · have hr := (if_neg c7_2).symm.trans hr
      refine lv_iconst (v := 1) hx hb dX7_within_10 (by decide) ?_
      refine lv_goto (tgt := 15) hx hb dX7_within_11 (by decide) ?_
      subst hr hQ
      exact fr_iret (W0 := []) C hret hlk w rfl rfl rfl dX7_within_15
theorem b_X7_within (v0 : Int32) (lo : Int32) (hi : Int32) : (f_X7_within v0 lo hi) = 0 ∨ (f_X7_within v0 lo hi) = 1 := by
  unfold f_X7_within
  try dsimp only
  repeat (first | exact Or.inl rfl | exact Or.inr rfl | split)
def f_X7_hasBit (bt : Int32) (k0 : Int32) : Int32 := (if ((bt >>> (k0 &&& 31)) &&& 1) = 1 then 1 else 0)
set_option maxRecDepth 100000 in
set_option maxHeartbeats 4000000 in
theorem c_X7_hasBit (l : Launch) (D : va_G) (cI cJ : ClassId) (bt : Int32) (k0 : Int32) : CI l yX7_hasBit cX7_hasBit 2 .boolean 0 D cI cJ [.int bt, .int k0] [] [] (f_X7_hasBit bt k0) := by
  generalize hr : f_X7_hasBit bt k0 = r
  refine fr_entryI (by decide) rfl ?_
  intro p e s m args below meth c A Q H locs hQ C hret hlk w ls hl
  have hx := C.1
  have hb := C.2.1
  have hl : lv_has ls 2 [(0, .int bt), (1, .int k0)] := hl
  have hr : (if ((bt >>> (k0 &&& 31)) &&& 1) = 1 then 1 else 0) = r := hr
  refine lv_iload_n hx hb dX7_hasBit_0 rfl (lv_at hl 0 rfl) ?_
  refine lv_iload_n hx hb dX7_hasBit_1 rfl (lv_at hl 1 rfl) ?_
  refine lv_ishr hx hb dX7_hasBit_2 ?_
  refine lv_iconst (v := 1) hx hb dX7_hasBit_3 (by decide) ?_
  refine lv_iand hx hb dX7_hasBit_4 ?_
  refine lv_iconst (v := 1) hx hb dX7_hasBit_5 (by decide) ?_
  refine lv_icmp_ne (tgt := 13) hx hb dX7_hasBit_6 (by decide) (fun c6_1 => ?_) (fun c6_1 => ?_)
  · have hr := (if_neg c6_1).symm.trans hr
    refine lv_iconst (v := 0) hx hb dX7_hasBit_13 (by decide) ?_
    subst hr hQ
    exact fr_iret (W0 := []) C hret hlk w rfl rfl rfl dX7_hasBit_14
  · have hr := (if_pos c6_1).symm.trans hr
    refine lv_iconst (v := 1) hx hb dX7_hasBit_9 (by decide) ?_
    refine lv_goto (tgt := 14) hx hb dX7_hasBit_10 (by decide) ?_
    subst hr hQ
    exact fr_iret (W0 := []) C hret hlk w rfl rfl rfl dX7_hasBit_14
theorem b_X7_hasBit (bt : Int32) (k0 : Int32) : (f_X7_hasBit bt k0) = 0 ∨ (f_X7_hasBit bt k0) = 1 := by
  unfold f_X7_hasBit
  try dsimp only
  repeat (first | exact Or.inl rfl | exact Or.inr rfl | split)
def L_X7_ones_4 (bt : Int32) : Nat → Int32 → Int32 → Int32 × Int32
  | 0, _, _ => (0, 0)
  | n4 + 1, i1, i2 => (if 4 ≤ i2 then (i1, i2) else L_X7_ones_4 bt n4 (i1 + ((bt >>> (i2 &&& 31)) &&& 1)) (i2 + 1))
def f_X7_ones (bt : Int32) : Int32 := ((fun (y4 : Int32 × Int32) => y4.1) (L_X7_ones_4 bt 5 0 0))
set_option maxRecDepth 100000 in
set_option maxHeartbeats 4000000 in
theorem c_X7_ones (l : Launch) (D : va_G) (cI cJ : ClassId) (bt : Int32) : CI l yX7_ones cX7_ones 3 .int 0 D cI cJ [.int bt] [] [] (f_X7_ones bt) := by
  generalize hr : f_X7_ones bt = r
  refine fr_entryI (by decide) rfl ?_
  intro p e s m args below meth c A Q H locs hQ C hret hlk w ls hl
  have hx := C.1
  have hb := C.2.1
  have hl : lv_has ls 3 [(0, .int bt)] := hl
  have hr : ((fun (y4 : Int32 × Int32) => y4.1) (L_X7_ones_4 bt 5 0 0)) = r := hr
  refine lv_iconst (v := 0) hx hb dX7_ones_0 (by decide) ?_
  refine lv_istore_n (lv' := [(1, .int 0), (0, .int bt)]) hx hb dX7_ones_1 rfl hl (by decide) rfl (fun ls hl => ?_)
  refine lv_iconst (v := 0) hx hb dX7_ones_2 (by decide) ?_
  refine lv_istore_n (lv' := [(2, .int 0), (1, .int 0), (0, .int bt)]) hx hb dX7_ones_3 rfl hl (by decide) rfl (fun ls hl => ?_)
  obtain ⟨y4, hy4⟩ : ∃ y, y = L_X7_ones_4 bt 5 0 0 := ⟨_, rfl⟩
  have hr : y4.1 = r := by rw [hy4]; exact hr
  have X4 : ∀ (H : Heap) (locs : List Loc), Wd D A s.heap H locs [] → ∀ (ls : Array Slot), lv_has ls 3 [(0, .int bt), (1, .int y4.1), (2, .int y4.2)] → W p l e (rl 0) s m args below meth c H locs 0 0 Q (F0 m 23 ls []) := by
    intro H locs w ls hl
    refine lv_iload_n hx hb dX7_ones_23 rfl (lv_at hl 1 rfl) ?_
    subst hr hQ
    exact fr_iret (W0 := []) C hret hlk w rfl rfl rfl dX7_ones_24
  have LP4 : ∀ (n4 : Nat) (k4 : Nat) (i1 : Int32) (i2 : Int32), i2 = nI k4 → k4 ≤ 4 → 4 < k4 + n4 → L_X7_ones_4 bt n4 i1 i2 = y4 → ∀ (H : Heap) (locs : List Loc), Wd D A s.heap H locs [] → ∀ (ls : Array Slot), lv_has ls 3 [(0, .int bt), (1, .int i1), (2, .int i2)] → W p l e (rl 0) s m args below meth c H locs 0 0 Q (F0 m 4 ls []) := by
    clear hr
    intro n4
    induction n4 with
    | zero => intro k4 i1 i2 hk4 hkN4 hn4; exact absurd hn4 (by omega)
    | succ n4 ih4 =>
      intro k4 i1 i2 hk4 hkN4 hn4 hr H locs w ls hl
      have hr : (if 4 ≤ i2 then (i1, i2) else L_X7_ones_4 bt n4 (i1 + ((bt >>> (i2 &&& 31)) &&& 1)) (i2 + 1)) = y4 := hr
      refine lv_iload_n hx hb dX7_ones_4 rfl (lv_at hl 2 rfl) ?_
      refine lv_iconst (v := 4) hx hb dX7_ones_5 (by decide) ?_
      refine lv_icmp_ge (tgt := 23) hx hb dX7_ones_6 (by decide) (fun c6_3 => ?_) (fun c6_3 => ?_)
      · have hr := (if_pos c6_3).symm.trans hr
        subst hr
        exact X4 H locs w ls (lv_sub hl [0, 1, 2] rfl)
      · have hr := (if_neg c6_3).symm.trans hr
        have hkl4 := kl_of hk4 hkN4 (N := 4) (by decide) (by omega) c6_3
        refine lv_iload_n hx hb dX7_ones_9 rfl (lv_at hl 1 rfl) ?_
        refine lv_iload_n hx hb dX7_ones_10 rfl (lv_at hl 0 rfl) ?_
        refine lv_iload_n hx hb dX7_ones_11 rfl (lv_at hl 2 rfl) ?_
        refine lv_ishr hx hb dX7_ones_12 ?_
        refine lv_iconst (v := 1) hx hb dX7_ones_13 (by decide) ?_
        refine lv_iand hx hb dX7_ones_14 ?_
        refine lv_iadd hx hb dX7_ones_15 ?_
        refine lv_istore_n (lv' := [(1, .int (i1 + ((bt >>> (i2 &&& 31)) &&& 1))), (0, .int bt), (2, .int i2)]) hx hb dX7_ones_16 rfl hl (by decide) rfl (fun ls hl => ?_)
        refine lv_iinc (v := i2 + 1) (lv' := [(2, .int (i2 + 1)), (1, .int (i1 + ((bt >>> (i2 &&& 31)) &&& 1))), (0, .int bt)]) hx hb dX7_ones_17 hl (k := 2) rfl rfl (by decide) rfl (fun ls hl => ?_)
        refine lv_goto (tgt := 4) hx hb dX7_ones_20 (by decide) ?_
        exact ih4 (k4 + 1) (i1 + ((bt >>> (i2 &&& 31)) &&& 1)) (i2 + 1) (by rw [hk4]; exact nI_1 k4) (by omega) (by omega) hr H locs w ls (lv_sub hl [2, 1, 0] rfl)
  exact LP4 5 0 0 0 (by decide) (by omega) (by omega) hy4.symm H locs w ls (lv_sub hl [2, 1, 0] rfl)
def L_X7_divisor_17  : Nat → Int64 → Int64 → Int64 × Int64
  | 0, _, _ => (0, 0)
  | n17 + 1, i3, i4 => (if i4 = 0 then (i3, i4) else L_X7_divisor_17  n17 i4 (i3 - i3 / i4 * i4))
def f_X7_divisor (a0 : Int64) (b0 : Int64) : Int64 := ((fun (v2 : Int64) => ((fun (y17 : Int64 × Int64) => y17.1) (L_X7_divisor_17 ((Int64.toInt b0).natAbs + 1) v2 b0))) (if 0 ≤ a0 then a0 else -a0))
set_option maxRecDepth 100000 in
set_option maxHeartbeats 4000000 in
theorem c_X7_divisor (l : Launch) (D : va_G) (cI cJ : ClassId) (a0 : Int64) (b0 : Int64) : CL l yX7_divisor cX7_divisor 10 0 D cI cJ [.long a0, .long b0] [] [] (f_X7_divisor a0 b0) := by
  generalize hr : f_X7_divisor a0 b0 = r
  refine fr_entryL (by decide) rfl ?_
  intro p e s m args below meth c A Q H locs hQ C hret hlk w ls hl
  have hx := C.1
  have hb := C.2.1
  have hl : lv_has ls 10 [(0, .long a0), (2, .long b0)] := hl
  have hr : ((fun (v2 : Int64) => ((fun (y17 : Int64 × Int64) => y17.1) (L_X7_divisor_17 ((Int64.toInt b0).natAbs + 1) v2 b0))) (if 0 ≤ a0 then a0 else -a0)) = r := hr
  refine lv_lload_n hx hb dX7_divisor_0 rfl (lv_at hl 0 rfl) ?_
  refine lv_lconst (v := 0) hx hb dX7_divisor_1 (by decide) ?_
  have J12_6 : ∀ (v2 : Int64), v2 = (if 0 ≤ a0 then a0 else -a0) → W p l e (rl 0) s m args below meth c H locs 0 0 Q (F0 m 12 ls [.long v2]) := by
    intro v2 ev2
    have hr : ((fun (y17 : Int64 × Int64) => y17.1) (L_X7_divisor_17 ((Int64.toInt b0).natAbs + 1) v2 b0)) = r := by subst ev2; exact hr
    refine lv_lstore (lv' := [(4, .long v2), (0, .long a0), (2, .long b0)]) hx hb dX7_divisor_12 hl (by decide) rfl (fun ls hl => ?_)
    refine lv_lload_n hx hb dX7_divisor_14 rfl (lv_at hl 2 rfl) ?_
    refine lv_lstore (lv' := [(6, .long b0), (4, .long v2), (0, .long a0), (2, .long b0)]) hx hb dX7_divisor_15 hl (by decide) rfl (fun ls hl => ?_)
    obtain ⟨y17, hy17⟩ : ∃ y, y = L_X7_divisor_17 ((Int64.toInt b0).natAbs + 1) v2 b0 := ⟨_, rfl⟩
    have hr : y17.1 = r := by rw [hy17]; exact hr
    have X17 : ∀ (H : Heap) (locs : List Loc), Wd D A s.heap H locs [] → ∀ (ls : Array Slot), lv_has ls 10 [(0, .long a0), (2, .long b0), (4, .long y17.1), (6, .long y17.2)] → W p l e (rl 0) s m args below meth c H locs 0 0 Q (F0 m 42 ls []) := by
      intro H locs w ls hl
      refine lv_lload hx hb dX7_divisor_42 (lv_at hl 2 rfl) ?_
      subst hr hQ
      exact fr_lret C hret hlk w rfl rfl dX7_divisor_44
    have LP17 : ∀ (n17 : Nat) (i3 : Int64) (i4 : Int64), (Int64.toInt i4).natAbs < n17 → L_X7_divisor_17 n17 i3 i4 = y17 → ∀ (H : Heap) (locs : List Loc), Wd D A s.heap H locs [] → ∀ (ls : Array Slot), lv_has ls 10 [(0, .long a0), (2, .long b0), (4, .long i3), (6, .long i4)] → W p l e (rl 0) s m args below meth c H locs 0 0 Q (F0 m 17 ls []) := by
      clear hr
      intro n17
      induction n17 with
      | zero => intro i3 i4 hm17; exact absurd hm17 (by exact Nat.not_lt_zero _)
      | succ n17 ih17 =>
        intro i3 i4 hm17 hr H locs w ls hl
        have hr : (if i4 = 0 then (i3, i4) else L_X7_divisor_17  n17 i4 (i3 - i3 / i4 * i4)) = y17 := hr
        refine lv_lload hx hb dX7_divisor_17 (lv_at hl 3 rfl) ?_
        refine lv_lconst (v := 0) hx hb dX7_divisor_19 (by decide) ?_
        refine fr_leq (tgt := 42) hx hb dX7_divisor_20 dX7_divisor_21 (by decide) (fun c21_5 => ?_) (fun c21_5 => ?_)
        · have hr := (if_pos c21_5).symm.trans hr
          subst hr
          exact X17 H locs w ls (lv_sub hl [0, 1, 2, 3] rfl)
        · have hr := (if_neg c21_5).symm.trans hr
          refine lv_lload hx hb dX7_divisor_24 (lv_at hl 2 rfl) ?_
          refine lv_lload hx hb dX7_divisor_26 (lv_at hl 3 rfl) ?_
          refine lv_lrem hx hb dX7_divisor_28 (by assumption) ?_
          refine lv_lstore (lv' := [(8, .long (i3 - i3 / i4 * i4)), (0, .long a0), (2, .long b0), (4, .long i3), (6, .long i4)]) hx hb dX7_divisor_29 hl (by decide) rfl (fun ls hl => ?_)
          refine lv_lload hx hb dX7_divisor_31 (lv_at hl 4 rfl) ?_
          refine lv_lstore (lv' := [(4, .long i4), (8, .long (i3 - i3 / i4 * i4)), (0, .long a0), (2, .long b0), (6, .long i4)]) hx hb dX7_divisor_33 hl (by decide) rfl (fun ls hl => ?_)
          refine lv_lload hx hb dX7_divisor_35 (lv_at hl 1 rfl) ?_
          refine lv_lstore (lv' := [(6, .long (i3 - i3 / i4 * i4)), (4, .long i4), (8, .long (i3 - i3 / i4 * i4)), (0, .long a0), (2, .long b0)]) hx hb dX7_divisor_37 hl (by decide) rfl (fun ls hl => ?_)
          refine lv_goto (tgt := 17) hx hb dX7_divisor_39 (by decide) ?_
          exact ih17 i4 (i3 - i3 / i4 * i4) (Nat.lt_of_lt_of_le (lrem_lt (by assumption)) (Nat.le_of_lt_succ hm17)) hr H locs w ls (lv_sub hl [3, 4, 1, 0] rfl)
    exact LP17 ((Int64.toInt b0).natAbs + 1) v2 b0 (Nat.lt_succ_self _) hy17.symm H locs w ls (lv_sub hl [2, 3, 1, 0] rfl)
  refine fr_lge (tgt := 11) hx hb dX7_divisor_2 dX7_divisor_3 (by decide) (fun c3_1 => ?_) (fun c3_1 => ?_)
  · refine lv_lload_n hx hb dX7_divisor_11 rfl (lv_at hl 0 rfl) ?_
    exact J12_6 a0 (by rw [if_pos c3_1])
  · refine lv_lload_n hx hb dX7_divisor_6 rfl (lv_at hl 0 rfl) ?_
    refine lv_lneg hx hb dX7_divisor_7 ?_
    refine lv_goto (tgt := 12) hx hb dX7_divisor_8 (by decide) ?_
    exact J12_6 (-a0) (by rw [if_neg c3_1])
def L_X7_compare_17  : Nat → Int64 → Int64 → Int64 → Int64 → Int32 → Int32
  | 0, _, _, _, _, _ => 0
  | n17 + 1, i1, i2, i3, i4, i5 => (if (i1 / i2) = (i3 / i4) then (if (i1 - i1 / i2 * i2) = 0 then (if (i1 - i1 / i2 * i2) = (i3 - i3 / i4 * i4) then 0 else (if (i1 - i1 / i2 * i2) = 0 then -i5 else i5)) else (if (i3 - i3 / i4 * i4) = 0 then (if (i1 - i1 / i2 * i2) = (i3 - i3 / i4 * i4) then 0 else (if (i1 - i1 / i2 * i2) = 0 then -i5 else i5)) else L_X7_compare_17  n17 i2 (i1 - i1 / i2 * i2) i4 (i3 - i3 / i4 * i4) (-i5))) else (if (i3 / i4) ≤ (i1 / i2) then i5 else -i5))
def f_X7_compare (c1a : Int64) (c1b : Int64) (c1c : Int64) (c1d : Int64) : Int32 := L_X7_compare_17 ((Int64.toInt c1b).natAbs + 1) c1a c1b c1c c1d 1
set_option maxRecDepth 100000 in
set_option maxHeartbeats 4000000 in
theorem c_X7_compare (l : Launch) (D : va_G) (cI cJ : ClassId) (c1a : Int64) (c1b : Int64) (c1c : Int64) (c1d : Int64) (hc1 : 0 ≤ c1a) (hc2 : 0 < c1b) (hc3 : 0 ≤ c1c) (hc4 : 0 < c1d) : CI l yX7_compare cX7_compare 25 .int 0 D cI cJ [.long c1a, .long c1b, .long c1c, .long c1d] [] [] (f_X7_compare c1a c1b c1c c1d) := by
  generalize hr : f_X7_compare c1a c1b c1c c1d = r
  refine fr_entryI (by decide) rfl ?_
  intro p e s m args below meth c A Q H locs hQ C hret hlk w ls hl
  have hx := C.1
  have hb := C.2.1
  have hl : lv_has ls 25 [(0, .long c1a), (2, .long c1b), (4, .long c1c), (6, .long c1d)] := hl
  have hr : L_X7_compare_17 ((Int64.toInt c1b).natAbs + 1) c1a c1b c1c c1d 1 = r := hr
  refine lv_lload_n hx hb dX7_compare_0 rfl (lv_at hl 0 rfl) ?_
  refine lv_lstore (lv' := [(8, .long c1a), (0, .long c1a), (2, .long c1b), (4, .long c1c), (6, .long c1d)]) hx hb dX7_compare_1 hl (by decide) rfl (fun ls hl => ?_)
  refine lv_lload_n hx hb dX7_compare_3 rfl (lv_at hl 2 rfl) ?_
  refine lv_lstore (lv' := [(10, .long c1b), (8, .long c1a), (0, .long c1a), (2, .long c1b), (4, .long c1c), (6, .long c1d)]) hx hb dX7_compare_4 hl (by decide) rfl (fun ls hl => ?_)
  refine lv_lload hx hb dX7_compare_6 (lv_at hl 4 rfl) ?_
  refine lv_lstore (lv' := [(12, .long c1c), (10, .long c1b), (8, .long c1a), (0, .long c1a), (2, .long c1b), (4, .long c1c), (6, .long c1d)]) hx hb dX7_compare_8 hl (by decide) rfl (fun ls hl => ?_)
  refine lv_lload hx hb dX7_compare_10 (lv_at hl 6 rfl) ?_
  refine lv_lstore (lv' := [(14, .long c1d), (12, .long c1c), (10, .long c1b), (8, .long c1a), (0, .long c1a), (2, .long c1b), (4, .long c1c), (6, .long c1d)]) hx hb dX7_compare_12 hl (by decide) rfl (fun ls hl => ?_)
  refine lv_iconst (v := 1) hx hb dX7_compare_14 (by decide) ?_
  refine lv_istore (lv' := [(16, .int 1), (14, .long c1d), (12, .long c1c), (10, .long c1b), (8, .long c1a), (0, .long c1a), (2, .long c1b), (4, .long c1c), (6, .long c1d)]) hx hb dX7_compare_15 hl (by decide) rfl (fun ls hl => ?_)
  have LP17 : ∀ (n17 : Nat) (i1 : Int64) (i2 : Int64) (i3 : Int64) (i4 : Int64) (i5 : Int32), (Int64.toInt i2).natAbs < n17 → 0 ≤ i1 → 0 < i2 → 0 ≤ i3 → 0 < i4 → L_X7_compare_17 n17 i1 i2 i3 i4 i5 = r → ∀ (H : Heap) (locs : List Loc), Wd D A s.heap H locs [] → ∀ (ls : Array Slot), lv_has ls 25 [(0, .long c1a), (2, .long c1b), (4, .long c1c), (6, .long c1d), (8, .long i1), (10, .long i2), (12, .long i3), (14, .long i4), (16, .int i5)] → W p l e (rl 0) s m args below meth c H locs 0 0 Q (F0 m 17 ls []) := by
    skip
    intro n17
    induction n17 with
    | zero => intro i1 i2 i3 i4 i5 hm17 hp17 hq17 ht17 hs17; exact absurd hm17 (by exact Nat.not_lt_zero _)
    | succ n17 ih17 =>
      intro i1 i2 i3 i4 i5 hm17 hp17 hq17 ht17 hs17 hr H locs w ls hl
      have hr : (if (i1 / i2) = (i3 / i4) then (if (i1 - i1 / i2 * i2) = 0 then (if (i1 - i1 / i2 * i2) = (i3 - i3 / i4 * i4) then 0 else (if (i1 - i1 / i2 * i2) = 0 then -i5 else i5)) else (if (i3 - i3 / i4 * i4) = 0 then (if (i1 - i1 / i2 * i2) = (i3 - i3 / i4 * i4) then 0 else (if (i1 - i1 / i2 * i2) = 0 then -i5 else i5)) else L_X7_compare_17  n17 i2 (i1 - i1 / i2 * i2) i4 (i3 - i3 / i4 * i4) (-i5))) else (if (i3 / i4) ≤ (i1 / i2) then i5 else -i5)) = r := hr
      refine lv_lload hx hb dX7_compare_17 (lv_at hl 4 rfl) ?_
      refine lv_lload hx hb dX7_compare_19 (lv_at hl 5 rfl) ?_
      refine lv_ldiv hx hb dX7_compare_21 (ne0_lpos hq17) ?_
      refine lv_lstore (lv' := [(17, .long (i1 / i2)), (0, .long c1a), (2, .long c1b), (4, .long c1c), (6, .long c1d), (8, .long i1), (10, .long i2), (12, .long i3), (14, .long i4), (16, .int i5)]) hx hb dX7_compare_22 hl (by decide) rfl (fun ls hl => ?_)
      refine lv_lload hx hb dX7_compare_24 (lv_at hl 7 rfl) ?_
      refine lv_lload hx hb dX7_compare_26 (lv_at hl 8 rfl) ?_
      refine lv_ldiv hx hb dX7_compare_28 (ne0_lpos hs17) ?_
      refine lv_lstore (lv' := [(19, .long (i3 / i4)), (17, .long (i1 / i2)), (0, .long c1a), (2, .long c1b), (4, .long c1c), (6, .long c1d), (8, .long i1), (10, .long i2), (12, .long i3), (14, .long i4), (16, .int i5)]) hx hb dX7_compare_29 hl (by decide) rfl (fun ls hl => ?_)
      refine lv_lload hx hb dX7_compare_31 (lv_at hl 1 rfl) ?_
      refine lv_lload hx hb dX7_compare_33 (lv_at hl 0 rfl) ?_
      refine fr_leq (tgt := 56) hx hb dX7_compare_35 dX7_compare_36 (by decide) (fun c36_6 => ?_) (fun c36_6 => ?_)
      · have hr := (if_pos c36_6).symm.trans hr
        refine lv_lload hx hb dX7_compare_56 (lv_at hl 6 rfl) ?_
        refine lv_lload hx hb dX7_compare_58 (lv_at hl 7 rfl) ?_
        refine lv_lrem hx hb dX7_compare_60 (ne0_lpos hq17) ?_
        refine lv_lstore (lv' := [(21, .long (i1 - i1 / i2 * i2)), (19, .long (i3 / i4)), (17, .long (i1 / i2)), (0, .long c1a), (2, .long c1b), (4, .long c1c), (6, .long c1d), (8, .long i1), (10, .long i2), (12, .long i3), (14, .long i4), (16, .int i5)]) hx hb dX7_compare_61 hl (by decide) rfl (fun ls hl => ?_)
        refine lv_lload hx hb dX7_compare_63 (lv_at hl 9 rfl) ?_
        refine lv_lload hx hb dX7_compare_65 (lv_at hl 10 rfl) ?_
        refine lv_lrem hx hb dX7_compare_67 (ne0_lpos hs17) ?_
        refine lv_lstore (lv' := [(23, .long (i3 - i3 / i4 * i4)), (21, .long (i1 - i1 / i2 * i2)), (19, .long (i3 / i4)), (17, .long (i1 / i2)), (0, .long c1a), (2, .long c1b), (4, .long c1c), (6, .long c1d), (8, .long i1), (10, .long i2), (12, .long i3), (14, .long i4), (16, .int i5)]) hx hb dX7_compare_68 hl (by decide) rfl (fun ls hl => ?_)
        refine lv_lload hx hb dX7_compare_70 (lv_at hl 1 rfl) ?_
        refine lv_lconst (v := 0) hx hb dX7_compare_72 (by decide) ?_
        refine fr_leq (tgt := 84) hx hb dX7_compare_73 dX7_compare_74 (by decide) (fun c74_7 => ?_) (fun c74_7 => ?_)
        · have hr := (if_pos c74_7).symm.trans hr
          refine lv_lload hx hb dX7_compare_84 (lv_at hl 1 rfl) ?_
          refine lv_lload hx hb dX7_compare_86 (lv_at hl 0 rfl) ?_
          refine fr_lne (tgt := 96) hx hb dX7_compare_88 dX7_compare_89 (by decide) (fun c89_8 => ?_) (fun c89_8 => ?_)
          · have hr := (if_neg c89_8).symm.trans hr
            refine lv_lload hx hb dX7_compare_96 (lv_at hl 1 rfl) ?_
            refine lv_lconst (v := 0) hx hb dX7_compare_98 (by decide) ?_
            refine fr_lne (tgt := 109) hx hb dX7_compare_99 dX7_compare_100 (by decide) (fun c100_9 => ?_) (fun c100_9 => ?_)
            · have hr := (if_neg c100_9).symm.trans hr
              refine lv_iload hx hb dX7_compare_109 (lv_at hl 12 rfl) ?_
              subst hr hQ
              exact fr_iret (W0 := []) C hret hlk w rfl rfl rfl dX7_compare_111
            · have hr := (if_pos c100_9).symm.trans hr
              refine lv_iload hx hb dX7_compare_103 (lv_at hl 12 rfl) ?_
              refine lv_ineg hx hb dX7_compare_105 ?_
              refine lv_goto (tgt := 111) hx hb dX7_compare_106 (by decide) ?_
              subst hr hQ
              exact fr_iret (W0 := []) C hret hlk w rfl rfl rfl dX7_compare_111
          · have hr := (if_pos c89_8).symm.trans hr
            refine lv_iconst (v := 0) hx hb dX7_compare_92 (by decide) ?_
            refine lv_goto (tgt := 111) hx hb dX7_compare_93 (by decide) ?_
            subst hr hQ
            exact fr_iret (W0 := []) C hret hlk w rfl rfl rfl dX7_compare_111
        · have hr := (if_neg c74_7).symm.trans hr
          refine lv_lload hx hb dX7_compare_77 (lv_at hl 0 rfl) ?_
          refine lv_lconst (v := 0) hx hb dX7_compare_79 (by decide) ?_
          refine fr_lne (tgt := 112) hx hb dX7_compare_80 dX7_compare_81 (by decide) (fun c81_10 => ?_) (fun c81_10 => ?_)
          · have hr := (if_neg c81_10).symm.trans hr
            refine lv_lload hx hb dX7_compare_112 (lv_at hl 9 rfl) ?_
            refine lv_lstore (lv' := [(8, .long i2), (23, .long (i3 - i3 / i4 * i4)), (21, .long (i1 - i1 / i2 * i2)), (19, .long (i3 / i4)), (17, .long (i1 / i2)), (0, .long c1a), (2, .long c1b), (4, .long c1c), (6, .long c1d), (10, .long i2), (12, .long i3), (14, .long i4), (16, .int i5)]) hx hb dX7_compare_114 hl (by decide) rfl (fun ls hl => ?_)
            refine lv_lload hx hb dX7_compare_116 (lv_at hl 2 rfl) ?_
            refine lv_lstore (lv' := [(10, .long (i1 - i1 / i2 * i2)), (8, .long i2), (23, .long (i3 - i3 / i4 * i4)), (21, .long (i1 - i1 / i2 * i2)), (19, .long (i3 / i4)), (17, .long (i1 / i2)), (0, .long c1a), (2, .long c1b), (4, .long c1c), (6, .long c1d), (12, .long i3), (14, .long i4), (16, .int i5)]) hx hb dX7_compare_118 hl (by decide) rfl (fun ls hl => ?_)
            refine lv_lload hx hb dX7_compare_120 (lv_at hl 11 rfl) ?_
            refine lv_lstore (lv' := [(12, .long i4), (10, .long (i1 - i1 / i2 * i2)), (8, .long i2), (23, .long (i3 - i3 / i4 * i4)), (21, .long (i1 - i1 / i2 * i2)), (19, .long (i3 / i4)), (17, .long (i1 / i2)), (0, .long c1a), (2, .long c1b), (4, .long c1c), (6, .long c1d), (14, .long i4), (16, .int i5)]) hx hb dX7_compare_122 hl (by decide) rfl (fun ls hl => ?_)
            refine lv_lload hx hb dX7_compare_124 (lv_at hl 3 rfl) ?_
            refine lv_lstore (lv' := [(14, .long (i3 - i3 / i4 * i4)), (12, .long i4), (10, .long (i1 - i1 / i2 * i2)), (8, .long i2), (23, .long (i3 - i3 / i4 * i4)), (21, .long (i1 - i1 / i2 * i2)), (19, .long (i3 / i4)), (17, .long (i1 / i2)), (0, .long c1a), (2, .long c1b), (4, .long c1c), (6, .long c1d), (16, .int i5)]) hx hb dX7_compare_126 hl (by decide) rfl (fun ls hl => ?_)
            refine lv_iload hx hb dX7_compare_128 (lv_at hl 12 rfl) ?_
            refine lv_ineg hx hb dX7_compare_130 ?_
            refine lv_istore (lv' := [(16, .int (-i5)), (14, .long (i3 - i3 / i4 * i4)), (12, .long i4), (10, .long (i1 - i1 / i2 * i2)), (8, .long i2), (23, .long (i3 - i3 / i4 * i4)), (21, .long (i1 - i1 / i2 * i2)), (19, .long (i3 / i4)), (17, .long (i1 / i2)), (0, .long c1a), (2, .long c1b), (4, .long c1c), (6, .long c1d)]) hx hb dX7_compare_131 hl (by decide) rfl (fun ls hl => ?_)
            refine lv_goto (tgt := 17) hx hb dX7_compare_133 (by decide) ?_
            exact ih17 i2 (i1 - i1 / i2 * i2) i4 (i3 - i3 / i4 * i4) (-i5) (Nat.lt_of_lt_of_le (lrem_lt (ne0_lpos hq17)) (Nat.le_of_lt_succ hm17)) (le_of_lt64 hq17) (lrem_pos hp17 hq17 (by assumption)) (le_of_lt64 hs17) (lrem_pos ht17 hs17 (by assumption)) hr H locs w ls (lv_sub hl [9, 10, 11, 12, 4, 3, 2, 1, 0] rfl)
          · have hr := (if_pos c81_10).symm.trans hr
            refine lv_lload hx hb dX7_compare_84 (lv_at hl 1 rfl) ?_
            refine lv_lload hx hb dX7_compare_86 (lv_at hl 0 rfl) ?_
            refine fr_lne (tgt := 96) hx hb dX7_compare_88 dX7_compare_89 (by decide) (fun c89_11 => ?_) (fun c89_11 => ?_)
            · have hr := (if_neg c89_11).symm.trans hr
              refine lv_lload hx hb dX7_compare_96 (lv_at hl 1 rfl) ?_
              refine lv_lconst (v := 0) hx hb dX7_compare_98 (by decide) ?_
              refine fr_lne (tgt := 109) hx hb dX7_compare_99 dX7_compare_100 (by decide) (fun c100_12 => ?_) (fun c100_12 => ?_)
              · have hr := (if_neg c100_12).symm.trans hr
                refine lv_iload hx hb dX7_compare_109 (lv_at hl 12 rfl) ?_
                subst hr hQ
                exact fr_iret (W0 := []) C hret hlk w rfl rfl rfl dX7_compare_111
              · have hr := (if_pos c100_12).symm.trans hr
                refine lv_iload hx hb dX7_compare_103 (lv_at hl 12 rfl) ?_
                refine lv_ineg hx hb dX7_compare_105 ?_
                refine lv_goto (tgt := 111) hx hb dX7_compare_106 (by decide) ?_
                subst hr hQ
                exact fr_iret (W0 := []) C hret hlk w rfl rfl rfl dX7_compare_111
            · have hr := (if_pos c89_11).symm.trans hr
              refine lv_iconst (v := 0) hx hb dX7_compare_92 (by decide) ?_
              refine lv_goto (tgt := 111) hx hb dX7_compare_93 (by decide) ?_
              subst hr hQ
              exact fr_iret (W0 := []) C hret hlk w rfl rfl rfl dX7_compare_111
      · have hr := (if_neg c36_6).symm.trans hr
        refine lv_lload hx hb dX7_compare_39 (lv_at hl 1 rfl) ?_
        refine lv_lload hx hb dX7_compare_41 (lv_at hl 0 rfl) ?_
        refine fr_lge (tgt := 53) hx hb dX7_compare_43 dX7_compare_44 (by decide) (fun c44_13 => ?_) (fun c44_13 => ?_)
        · have hr := (if_pos c44_13).symm.trans hr
          refine lv_iload hx hb dX7_compare_53 (lv_at hl 10 rfl) ?_
          subst hr hQ
          exact fr_iret (W0 := []) C hret hlk w rfl rfl rfl dX7_compare_55
        · have hr := (if_neg c44_13).symm.trans hr
          refine lv_iload hx hb dX7_compare_47 (lv_at hl 10 rfl) ?_
          refine lv_ineg hx hb dX7_compare_49 ?_
          refine lv_goto (tgt := 55) hx hb dX7_compare_50 (by decide) ?_
          subst hr hQ
          exact fr_iret (W0 := []) C hret hlk w rfl rfl rfl dX7_compare_55
  exact LP17 ((Int64.toInt c1b).natAbs + 1) c1a c1b c1c c1d 1 (Nat.lt_succ_self _) hc1 hc2 hc3 hc4 hr H locs w ls (lv_sub hl [5, 6, 7, 8, 4, 3, 2, 1, 0] rfl)
