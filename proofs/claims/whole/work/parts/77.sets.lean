def kN (s : Nat) : Nat := ((List.range 4).filter (fun i => s.testBit i)).length
def mN (s j : Nat) : Nat := ((List.range 4).filter (fun i => s.testBit i)).getD j 0
theorem ls7_0_0 {mmb : Nat → Int32} {msh : Nat → Int64} : L_X7_laySet_7 (nI 0) (nI 0) 5 0 0 mmb msh = (nI 0, nI 0, mmb, msh) := rfl
theorem ls7_1_0 {mmb : Nat → Int32} {msh : Nat → Int64} : L_X7_laySet_7 (nI 1) (nI 0) 5 0 0 mmb msh = (nI 1, nI 0, mmb, (vp_updL msh 0 0)) := rfl
theorem ls7_1_1 {mmb : Nat → Int32} {msh : Nat → Int64} : L_X7_laySet_7 (nI 1) (nI 1) 5 0 0 mmb msh = (nI 1, nI 1, (upd mmb 0 (nI 0)), (vp_updL msh 0 0)) := rfl
theorem ls7_2_0 {mmb : Nat → Int32} {msh : Nat → Int64} : L_X7_laySet_7 (nI 2) (nI 0) 5 0 0 mmb msh = (nI 2, nI 0, mmb, (vp_updL (vp_updL msh 0 0) 1 0)) := rfl
theorem ls7_2_1 {mmb : Nat → Int32} {msh : Nat → Int64} : L_X7_laySet_7 (nI 2) (nI 1) 5 0 0 mmb msh = (nI 2, nI 1, (upd mmb 0 (nI 0)), (vp_updL (vp_updL msh 0 0) 1 0)) := rfl
theorem ls7_2_2 {mmb : Nat → Int32} {msh : Nat → Int64} : L_X7_laySet_7 (nI 2) (nI 2) 5 0 0 mmb msh = (nI 2, nI 1, (upd mmb 0 (nI 1)), (vp_updL (vp_updL msh 0 0) 1 0)) := rfl
theorem ls7_2_3 {mmb : Nat → Int32} {msh : Nat → Int64} : L_X7_laySet_7 (nI 2) (nI 3) 5 0 0 mmb msh = (nI 2, nI 2, (upd (upd mmb 0 (nI 0)) 1 (nI 1)), (vp_updL (vp_updL msh 0 0) 1 0)) := rfl
theorem ls7_3_0 {mmb : Nat → Int32} {msh : Nat → Int64} : L_X7_laySet_7 (nI 3) (nI 0) 5 0 0 mmb msh = (nI 3, nI 0, mmb, (vp_updL (vp_updL (vp_updL msh 0 0) 1 0) 2 0)) := rfl
theorem ls7_3_1 {mmb : Nat → Int32} {msh : Nat → Int64} : L_X7_laySet_7 (nI 3) (nI 1) 5 0 0 mmb msh = (nI 3, nI 1, (upd mmb 0 (nI 0)), (vp_updL (vp_updL (vp_updL msh 0 0) 1 0) 2 0)) := rfl
theorem ls7_3_2 {mmb : Nat → Int32} {msh : Nat → Int64} : L_X7_laySet_7 (nI 3) (nI 2) 5 0 0 mmb msh = (nI 3, nI 1, (upd mmb 0 (nI 1)), (vp_updL (vp_updL (vp_updL msh 0 0) 1 0) 2 0)) := rfl
theorem ls7_3_3 {mmb : Nat → Int32} {msh : Nat → Int64} : L_X7_laySet_7 (nI 3) (nI 3) 5 0 0 mmb msh = (nI 3, nI 2, (upd (upd mmb 0 (nI 0)) 1 (nI 1)), (vp_updL (vp_updL (vp_updL msh 0 0) 1 0) 2 0)) := rfl
theorem ls7_3_4 {mmb : Nat → Int32} {msh : Nat → Int64} : L_X7_laySet_7 (nI 3) (nI 4) 5 0 0 mmb msh = (nI 3, nI 1, (upd mmb 0 (nI 2)), (vp_updL (vp_updL (vp_updL msh 0 0) 1 0) 2 0)) := rfl
theorem ls7_3_5 {mmb : Nat → Int32} {msh : Nat → Int64} : L_X7_laySet_7 (nI 3) (nI 5) 5 0 0 mmb msh = (nI 3, nI 2, (upd (upd mmb 0 (nI 0)) 1 (nI 2)), (vp_updL (vp_updL (vp_updL msh 0 0) 1 0) 2 0)) := rfl
theorem ls7_3_6 {mmb : Nat → Int32} {msh : Nat → Int64} : L_X7_laySet_7 (nI 3) (nI 6) 5 0 0 mmb msh = (nI 3, nI 2, (upd (upd mmb 0 (nI 1)) 1 (nI 2)), (vp_updL (vp_updL (vp_updL msh 0 0) 1 0) 2 0)) := rfl
theorem ls7_3_7 {mmb : Nat → Int32} {msh : Nat → Int64} : L_X7_laySet_7 (nI 3) (nI 7) 5 0 0 mmb msh = (nI 3, nI 3, (upd (upd (upd mmb 0 (nI 0)) 1 (nI 1)) 2 (nI 2)), (vp_updL (vp_updL (vp_updL msh 0 0) 1 0) 2 0)) := rfl
theorem ls7_4_0 {mmb : Nat → Int32} {msh : Nat → Int64} : L_X7_laySet_7 (nI 4) (nI 0) 5 0 0 mmb msh = (nI 4, nI 0, mmb, (vp_updL (vp_updL (vp_updL (vp_updL msh 0 0) 1 0) 2 0) 3 0)) := rfl
theorem ls7_4_1 {mmb : Nat → Int32} {msh : Nat → Int64} : L_X7_laySet_7 (nI 4) (nI 1) 5 0 0 mmb msh = (nI 4, nI 1, (upd mmb 0 (nI 0)), (vp_updL (vp_updL (vp_updL (vp_updL msh 0 0) 1 0) 2 0) 3 0)) := rfl
theorem ls7_4_2 {mmb : Nat → Int32} {msh : Nat → Int64} : L_X7_laySet_7 (nI 4) (nI 2) 5 0 0 mmb msh = (nI 4, nI 1, (upd mmb 0 (nI 1)), (vp_updL (vp_updL (vp_updL (vp_updL msh 0 0) 1 0) 2 0) 3 0)) := rfl
theorem ls7_4_3 {mmb : Nat → Int32} {msh : Nat → Int64} : L_X7_laySet_7 (nI 4) (nI 3) 5 0 0 mmb msh = (nI 4, nI 2, (upd (upd mmb 0 (nI 0)) 1 (nI 1)), (vp_updL (vp_updL (vp_updL (vp_updL msh 0 0) 1 0) 2 0) 3 0)) := rfl
theorem ls7_4_4 {mmb : Nat → Int32} {msh : Nat → Int64} : L_X7_laySet_7 (nI 4) (nI 4) 5 0 0 mmb msh = (nI 4, nI 1, (upd mmb 0 (nI 2)), (vp_updL (vp_updL (vp_updL (vp_updL msh 0 0) 1 0) 2 0) 3 0)) := rfl
theorem ls7_4_5 {mmb : Nat → Int32} {msh : Nat → Int64} : L_X7_laySet_7 (nI 4) (nI 5) 5 0 0 mmb msh = (nI 4, nI 2, (upd (upd mmb 0 (nI 0)) 1 (nI 2)), (vp_updL (vp_updL (vp_updL (vp_updL msh 0 0) 1 0) 2 0) 3 0)) := rfl
theorem ls7_4_6 {mmb : Nat → Int32} {msh : Nat → Int64} : L_X7_laySet_7 (nI 4) (nI 6) 5 0 0 mmb msh = (nI 4, nI 2, (upd (upd mmb 0 (nI 1)) 1 (nI 2)), (vp_updL (vp_updL (vp_updL (vp_updL msh 0 0) 1 0) 2 0) 3 0)) := rfl
theorem ls7_4_7 {mmb : Nat → Int32} {msh : Nat → Int64} : L_X7_laySet_7 (nI 4) (nI 7) 5 0 0 mmb msh = (nI 4, nI 3, (upd (upd (upd mmb 0 (nI 0)) 1 (nI 1)) 2 (nI 2)), (vp_updL (vp_updL (vp_updL (vp_updL msh 0 0) 1 0) 2 0) 3 0)) := rfl
theorem ls7_4_8 {mmb : Nat → Int32} {msh : Nat → Int64} : L_X7_laySet_7 (nI 4) (nI 8) 5 0 0 mmb msh = (nI 4, nI 1, (upd mmb 0 (nI 3)), (vp_updL (vp_updL (vp_updL (vp_updL msh 0 0) 1 0) 2 0) 3 0)) := rfl
theorem ls7_4_9 {mmb : Nat → Int32} {msh : Nat → Int64} : L_X7_laySet_7 (nI 4) (nI 9) 5 0 0 mmb msh = (nI 4, nI 2, (upd (upd mmb 0 (nI 0)) 1 (nI 3)), (vp_updL (vp_updL (vp_updL (vp_updL msh 0 0) 1 0) 2 0) 3 0)) := rfl
theorem ls7_4_10 {mmb : Nat → Int32} {msh : Nat → Int64} : L_X7_laySet_7 (nI 4) (nI 10) 5 0 0 mmb msh = (nI 4, nI 2, (upd (upd mmb 0 (nI 1)) 1 (nI 3)), (vp_updL (vp_updL (vp_updL (vp_updL msh 0 0) 1 0) 2 0) 3 0)) := rfl
theorem ls7_4_11 {mmb : Nat → Int32} {msh : Nat → Int64} : L_X7_laySet_7 (nI 4) (nI 11) 5 0 0 mmb msh = (nI 4, nI 3, (upd (upd (upd mmb 0 (nI 0)) 1 (nI 1)) 2 (nI 3)), (vp_updL (vp_updL (vp_updL (vp_updL msh 0 0) 1 0) 2 0) 3 0)) := rfl
theorem ls7_4_12 {mmb : Nat → Int32} {msh : Nat → Int64} : L_X7_laySet_7 (nI 4) (nI 12) 5 0 0 mmb msh = (nI 4, nI 2, (upd (upd mmb 0 (nI 2)) 1 (nI 3)), (vp_updL (vp_updL (vp_updL (vp_updL msh 0 0) 1 0) 2 0) 3 0)) := rfl
theorem ls7_4_13 {mmb : Nat → Int32} {msh : Nat → Int64} : L_X7_laySet_7 (nI 4) (nI 13) 5 0 0 mmb msh = (nI 4, nI 3, (upd (upd (upd mmb 0 (nI 0)) 1 (nI 2)) 2 (nI 3)), (vp_updL (vp_updL (vp_updL (vp_updL msh 0 0) 1 0) 2 0) 3 0)) := rfl
theorem ls7_4_14 {mmb : Nat → Int32} {msh : Nat → Int64} : L_X7_laySet_7 (nI 4) (nI 14) 5 0 0 mmb msh = (nI 4, nI 3, (upd (upd (upd mmb 0 (nI 1)) 1 (nI 2)) 2 (nI 3)), (vp_updL (vp_updL (vp_updL (vp_updL msh 0 0) 1 0) 2 0) 3 0)) := rfl
theorem ls7_4_15 {mmb : Nat → Int32} {msh : Nat → Int64} : L_X7_laySet_7 (nI 4) (nI 15) 5 0 0 mmb msh = (nI 4, nI 4, (upd (upd (upd (upd mmb 0 (nI 0)) 1 (nI 1)) 2 (nI 2)) 3 (nI 3)), (vp_updL (vp_updL (vp_updL (vp_updL msh 0 0) 1 0) 2 0) 3 0)) := rfl
def MEM (mmb : Nat → Int32) (s : Nat) (mj : Nat → Nat) (m : Nat → Int32) : Prop := (∀ j : Nat, mj j < 4) ∧ (∀ j : Nat, j < 4 → m j = nI (mj j)) ∧ (∀ j : Nat, j < kN s → mj j = mN s j)
theorem upd_same {f : Nat → Int32} {k : Nat} {x : Int32} : upd f k x k = x := by unfold upd; rw [if_pos rfl]
theorem upd_else {f : Nat → Int32} {k j : Nat} {x : Int32} (h : ¬ j = k) : upd f k x j = f j := by unfold upd; rw [if_neg h]
theorem mem_of {mmb m : Nat → Int32} {s : Nat} (h : MB mmb) (hk : kN s ≤ 4) (h1 : ∀ j : Nat, j < kN s → m j = nI (mN s j)) (h2 : ∀ j : Nat, j < kN s → mN s j < 4) (h3 : ∀ j : Nat, j < 4 → kN s ≤ j → m j = mmb j) : ∃ mj, MEM mmb s mj m := by
  have e : ∀ j : Nat, ∃ x : Nat, x < 4 ∧ (j < 4 → m j = nI x) ∧ (j < kN s → x = mN s j) := by
    intro j
    by_cases c : j < kN s
    · exact ⟨mN s j, h2 j c, fun _ => h1 j c, fun _ => rfl⟩
    · by_cases c2 : j < 4
      · obtain ⟨x, hx, ex⟩ := h j
        exact ⟨x, hx, fun _ => (h3 j c2 (by omega)).trans ex, fun q => absurd q c⟩
      · exact ⟨0, by omega, fun q => absurd q c2, fun q => absurd q c⟩
  obtain ⟨f, hf⟩ := Classical.axiomOfChoice e
  exact ⟨f, fun j => (hf j).1, fun j hj => (hf j).2.1 hj, fun j hj => (hf j).2.2 hj⟩
theorem ls7 {n s : Nat} {mmb : Nat → Int32} {msh : Nat → Int64} (hn : n ≤ 4) (hs : s < 2 ^ n) (h : MB mmb) : (L_X7_laySet_7 (nI n) (nI s) 5 0 0 mmb msh).2.1 = nI (kN s) ∧ (∃ mj, MEM mmb s mj (L_X7_laySet_7 (nI n) (nI s) 5 0 0 mmb msh).2.2.1) ∧ (∀ t : Nat, t < n → (L_X7_laySet_7 (nI n) (nI s) 5 0 0 mmb msh).2.2.2 t = 0) := by
  rcases (show n = 0 ∨ n = 1 ∨ n = 2 ∨ n = 3 ∨ n = 4 by omega) with rfl | rfl | rfl | rfl | rfl
  · obtain rfl : s = 0 := by omega
    rw [ls7_0_0]
    refine ⟨rfl, mem_of h (show 0 ≤ 4 by decide) (fun j hj => ?_) (fun j hj => ?_) (fun j hj hj2 => ?_), fun t ht => ?_⟩
    · exact absurd hj (Nat.not_lt_zero _)
    · exact absurd hj (Nat.not_lt_zero _)
    · rfl
    · exact absurd ht (Nat.not_lt_zero _)
  · rcases (show s = 0 ∨ s = 1 by omega) with rfl | rfl
    · rw [ls7_1_0]
      refine ⟨rfl, mem_of h (show 0 ≤ 4 by decide) (fun j hj => ?_) (fun j hj => ?_) (fun j hj hj2 => ?_), fun t ht => ?_⟩
      · exact absurd hj (Nat.not_lt_zero _)
      · exact absurd hj (Nat.not_lt_zero _)
      · rfl
      · obtain rfl : t = 0 := by omega
        rfl
    · rw [ls7_1_1]
      refine ⟨rfl, mem_of h (show 1 ≤ 4 by decide) (fun j hj => ?_) (fun j hj => ?_) (fun j hj hj2 => ?_), fun t ht => ?_⟩
      · obtain rfl : j = 0 := by have hj : j < 1 := hj; omega
        rfl
      · obtain rfl : j = 0 := by have hj : j < 1 := hj; omega
        decide
      · have hj2 : 1 ≤ j := hj2
        show (upd mmb 0 (nI 0)) j = mmb j
        rw [upd_else (show ¬ j = 0 by omega)]
      · obtain rfl : t = 0 := by omega
        rfl
  · rcases (show s = 0 ∨ s = 1 ∨ s = 2 ∨ s = 3 by omega) with rfl | rfl | rfl | rfl
    · rw [ls7_2_0]
      refine ⟨rfl, mem_of h (show 0 ≤ 4 by decide) (fun j hj => ?_) (fun j hj => ?_) (fun j hj hj2 => ?_), fun t ht => ?_⟩
      · exact absurd hj (Nat.not_lt_zero _)
      · exact absurd hj (Nat.not_lt_zero _)
      · rfl
      · rcases (show t = 0 ∨ t = 1 by omega) with rfl | rfl <;> rfl
    · rw [ls7_2_1]
      refine ⟨rfl, mem_of h (show 1 ≤ 4 by decide) (fun j hj => ?_) (fun j hj => ?_) (fun j hj hj2 => ?_), fun t ht => ?_⟩
      · obtain rfl : j = 0 := by have hj : j < 1 := hj; omega
        rfl
      · obtain rfl : j = 0 := by have hj : j < 1 := hj; omega
        decide
      · have hj2 : 1 ≤ j := hj2
        show (upd mmb 0 (nI 0)) j = mmb j
        rw [upd_else (show ¬ j = 0 by omega)]
      · rcases (show t = 0 ∨ t = 1 by omega) with rfl | rfl <;> rfl
    · rw [ls7_2_2]
      refine ⟨rfl, mem_of h (show 1 ≤ 4 by decide) (fun j hj => ?_) (fun j hj => ?_) (fun j hj hj2 => ?_), fun t ht => ?_⟩
      · obtain rfl : j = 0 := by have hj : j < 1 := hj; omega
        rfl
      · obtain rfl : j = 0 := by have hj : j < 1 := hj; omega
        decide
      · have hj2 : 1 ≤ j := hj2
        show (upd mmb 0 (nI 1)) j = mmb j
        rw [upd_else (show ¬ j = 0 by omega)]
      · rcases (show t = 0 ∨ t = 1 by omega) with rfl | rfl <;> rfl
    · rw [ls7_2_3]
      refine ⟨rfl, mem_of h (show 2 ≤ 4 by decide) (fun j hj => ?_) (fun j hj => ?_) (fun j hj hj2 => ?_), fun t ht => ?_⟩
      · rcases (show j = 0 ∨ j = 1 by have hj : j < 2 := hj; omega) with rfl | rfl <;> rfl
      · rcases (show j = 0 ∨ j = 1 by have hj : j < 2 := hj; omega) with rfl | rfl <;> decide
      · have hj2 : 2 ≤ j := hj2
        show (upd (upd mmb 0 (nI 0)) 1 (nI 1)) j = mmb j
        rw [upd_else (show ¬ j = 1 by omega), upd_else (show ¬ j = 0 by omega)]
      · rcases (show t = 0 ∨ t = 1 by omega) with rfl | rfl <;> rfl
  · rcases (show s = 0 ∨ s = 1 ∨ s = 2 ∨ s = 3 ∨ s = 4 ∨ s = 5 ∨ s = 6 ∨ s = 7 by omega) with rfl | rfl | rfl | rfl | rfl | rfl | rfl | rfl
    · rw [ls7_3_0]
      refine ⟨rfl, mem_of h (show 0 ≤ 4 by decide) (fun j hj => ?_) (fun j hj => ?_) (fun j hj hj2 => ?_), fun t ht => ?_⟩
      · exact absurd hj (Nat.not_lt_zero _)
      · exact absurd hj (Nat.not_lt_zero _)
      · rfl
      · rcases (show t = 0 ∨ t = 1 ∨ t = 2 by omega) with rfl | rfl | rfl <;> rfl
    · rw [ls7_3_1]
      refine ⟨rfl, mem_of h (show 1 ≤ 4 by decide) (fun j hj => ?_) (fun j hj => ?_) (fun j hj hj2 => ?_), fun t ht => ?_⟩
      · obtain rfl : j = 0 := by have hj : j < 1 := hj; omega
        rfl
      · obtain rfl : j = 0 := by have hj : j < 1 := hj; omega
        decide
      · have hj2 : 1 ≤ j := hj2
        show (upd mmb 0 (nI 0)) j = mmb j
        rw [upd_else (show ¬ j = 0 by omega)]
      · rcases (show t = 0 ∨ t = 1 ∨ t = 2 by omega) with rfl | rfl | rfl <;> rfl
    · rw [ls7_3_2]
      refine ⟨rfl, mem_of h (show 1 ≤ 4 by decide) (fun j hj => ?_) (fun j hj => ?_) (fun j hj hj2 => ?_), fun t ht => ?_⟩
      · obtain rfl : j = 0 := by have hj : j < 1 := hj; omega
        rfl
      · obtain rfl : j = 0 := by have hj : j < 1 := hj; omega
        decide
      · have hj2 : 1 ≤ j := hj2
        show (upd mmb 0 (nI 1)) j = mmb j
        rw [upd_else (show ¬ j = 0 by omega)]
      · rcases (show t = 0 ∨ t = 1 ∨ t = 2 by omega) with rfl | rfl | rfl <;> rfl
    · rw [ls7_3_3]
      refine ⟨rfl, mem_of h (show 2 ≤ 4 by decide) (fun j hj => ?_) (fun j hj => ?_) (fun j hj hj2 => ?_), fun t ht => ?_⟩
      · rcases (show j = 0 ∨ j = 1 by have hj : j < 2 := hj; omega) with rfl | rfl <;> rfl
      · rcases (show j = 0 ∨ j = 1 by have hj : j < 2 := hj; omega) with rfl | rfl <;> decide
      · have hj2 : 2 ≤ j := hj2
        show (upd (upd mmb 0 (nI 0)) 1 (nI 1)) j = mmb j
        rw [upd_else (show ¬ j = 1 by omega), upd_else (show ¬ j = 0 by omega)]
      · rcases (show t = 0 ∨ t = 1 ∨ t = 2 by omega) with rfl | rfl | rfl <;> rfl
    · rw [ls7_3_4]
      refine ⟨rfl, mem_of h (show 1 ≤ 4 by decide) (fun j hj => ?_) (fun j hj => ?_) (fun j hj hj2 => ?_), fun t ht => ?_⟩
      · obtain rfl : j = 0 := by have hj : j < 1 := hj; omega
        rfl
      · obtain rfl : j = 0 := by have hj : j < 1 := hj; omega
        decide
      · have hj2 : 1 ≤ j := hj2
        show (upd mmb 0 (nI 2)) j = mmb j
        rw [upd_else (show ¬ j = 0 by omega)]
      · rcases (show t = 0 ∨ t = 1 ∨ t = 2 by omega) with rfl | rfl | rfl <;> rfl
    · rw [ls7_3_5]
      refine ⟨rfl, mem_of h (show 2 ≤ 4 by decide) (fun j hj => ?_) (fun j hj => ?_) (fun j hj hj2 => ?_), fun t ht => ?_⟩
      · rcases (show j = 0 ∨ j = 1 by have hj : j < 2 := hj; omega) with rfl | rfl <;> rfl
      · rcases (show j = 0 ∨ j = 1 by have hj : j < 2 := hj; omega) with rfl | rfl <;> decide
      · have hj2 : 2 ≤ j := hj2
        show (upd (upd mmb 0 (nI 0)) 1 (nI 2)) j = mmb j
        rw [upd_else (show ¬ j = 1 by omega), upd_else (show ¬ j = 0 by omega)]
      · rcases (show t = 0 ∨ t = 1 ∨ t = 2 by omega) with rfl | rfl | rfl <;> rfl
    · rw [ls7_3_6]
      refine ⟨rfl, mem_of h (show 2 ≤ 4 by decide) (fun j hj => ?_) (fun j hj => ?_) (fun j hj hj2 => ?_), fun t ht => ?_⟩
      · rcases (show j = 0 ∨ j = 1 by have hj : j < 2 := hj; omega) with rfl | rfl <;> rfl
      · rcases (show j = 0 ∨ j = 1 by have hj : j < 2 := hj; omega) with rfl | rfl <;> decide
      · have hj2 : 2 ≤ j := hj2
        show (upd (upd mmb 0 (nI 1)) 1 (nI 2)) j = mmb j
        rw [upd_else (show ¬ j = 1 by omega), upd_else (show ¬ j = 0 by omega)]
      · rcases (show t = 0 ∨ t = 1 ∨ t = 2 by omega) with rfl | rfl | rfl <;> rfl
    · rw [ls7_3_7]
      refine ⟨rfl, mem_of h (show 3 ≤ 4 by decide) (fun j hj => ?_) (fun j hj => ?_) (fun j hj hj2 => ?_), fun t ht => ?_⟩
      · rcases (show j = 0 ∨ j = 1 ∨ j = 2 by have hj : j < 3 := hj; omega) with rfl | rfl | rfl <;> rfl
      · rcases (show j = 0 ∨ j = 1 ∨ j = 2 by have hj : j < 3 := hj; omega) with rfl | rfl | rfl <;> decide
      · have hj2 : 3 ≤ j := hj2
        show (upd (upd (upd mmb 0 (nI 0)) 1 (nI 1)) 2 (nI 2)) j = mmb j
        rw [upd_else (show ¬ j = 2 by omega), upd_else (show ¬ j = 1 by omega), upd_else (show ¬ j = 0 by omega)]
      · rcases (show t = 0 ∨ t = 1 ∨ t = 2 by omega) with rfl | rfl | rfl <;> rfl
  · rcases (show s = 0 ∨ s = 1 ∨ s = 2 ∨ s = 3 ∨ s = 4 ∨ s = 5 ∨ s = 6 ∨ s = 7 ∨ s = 8 ∨ s = 9 ∨ s = 10 ∨ s = 11 ∨ s = 12 ∨ s = 13 ∨ s = 14 ∨ s = 15 by omega) with rfl | rfl | rfl | rfl | rfl | rfl | rfl | rfl | rfl | rfl | rfl | rfl | rfl | rfl | rfl | rfl
    · rw [ls7_4_0]
      refine ⟨rfl, mem_of h (show 0 ≤ 4 by decide) (fun j hj => ?_) (fun j hj => ?_) (fun j hj hj2 => ?_), fun t ht => ?_⟩
      · exact absurd hj (Nat.not_lt_zero _)
      · exact absurd hj (Nat.not_lt_zero _)
      · rfl
      · rcases (show t = 0 ∨ t = 1 ∨ t = 2 ∨ t = 3 by omega) with rfl | rfl | rfl | rfl <;> rfl
    · rw [ls7_4_1]
      refine ⟨rfl, mem_of h (show 1 ≤ 4 by decide) (fun j hj => ?_) (fun j hj => ?_) (fun j hj hj2 => ?_), fun t ht => ?_⟩
      · obtain rfl : j = 0 := by have hj : j < 1 := hj; omega
        rfl
      · obtain rfl : j = 0 := by have hj : j < 1 := hj; omega
        decide
      · have hj2 : 1 ≤ j := hj2
        show (upd mmb 0 (nI 0)) j = mmb j
        rw [upd_else (show ¬ j = 0 by omega)]
      · rcases (show t = 0 ∨ t = 1 ∨ t = 2 ∨ t = 3 by omega) with rfl | rfl | rfl | rfl <;> rfl
    · rw [ls7_4_2]
      refine ⟨rfl, mem_of h (show 1 ≤ 4 by decide) (fun j hj => ?_) (fun j hj => ?_) (fun j hj hj2 => ?_), fun t ht => ?_⟩
      · obtain rfl : j = 0 := by have hj : j < 1 := hj; omega
        rfl
      · obtain rfl : j = 0 := by have hj : j < 1 := hj; omega
        decide
      · have hj2 : 1 ≤ j := hj2
        show (upd mmb 0 (nI 1)) j = mmb j
        rw [upd_else (show ¬ j = 0 by omega)]
      · rcases (show t = 0 ∨ t = 1 ∨ t = 2 ∨ t = 3 by omega) with rfl | rfl | rfl | rfl <;> rfl
    · rw [ls7_4_3]
      refine ⟨rfl, mem_of h (show 2 ≤ 4 by decide) (fun j hj => ?_) (fun j hj => ?_) (fun j hj hj2 => ?_), fun t ht => ?_⟩
      · rcases (show j = 0 ∨ j = 1 by have hj : j < 2 := hj; omega) with rfl | rfl <;> rfl
      · rcases (show j = 0 ∨ j = 1 by have hj : j < 2 := hj; omega) with rfl | rfl <;> decide
      · have hj2 : 2 ≤ j := hj2
        show (upd (upd mmb 0 (nI 0)) 1 (nI 1)) j = mmb j
        rw [upd_else (show ¬ j = 1 by omega), upd_else (show ¬ j = 0 by omega)]
      · rcases (show t = 0 ∨ t = 1 ∨ t = 2 ∨ t = 3 by omega) with rfl | rfl | rfl | rfl <;> rfl
    · rw [ls7_4_4]
      refine ⟨rfl, mem_of h (show 1 ≤ 4 by decide) (fun j hj => ?_) (fun j hj => ?_) (fun j hj hj2 => ?_), fun t ht => ?_⟩
      · obtain rfl : j = 0 := by have hj : j < 1 := hj; omega
        rfl
      · obtain rfl : j = 0 := by have hj : j < 1 := hj; omega
        decide
      · have hj2 : 1 ≤ j := hj2
        show (upd mmb 0 (nI 2)) j = mmb j
        rw [upd_else (show ¬ j = 0 by omega)]
      · rcases (show t = 0 ∨ t = 1 ∨ t = 2 ∨ t = 3 by omega) with rfl | rfl | rfl | rfl <;> rfl
    · rw [ls7_4_5]
      refine ⟨rfl, mem_of h (show 2 ≤ 4 by decide) (fun j hj => ?_) (fun j hj => ?_) (fun j hj hj2 => ?_), fun t ht => ?_⟩
      · rcases (show j = 0 ∨ j = 1 by have hj : j < 2 := hj; omega) with rfl | rfl <;> rfl
      · rcases (show j = 0 ∨ j = 1 by have hj : j < 2 := hj; omega) with rfl | rfl <;> decide
      · have hj2 : 2 ≤ j := hj2
        show (upd (upd mmb 0 (nI 0)) 1 (nI 2)) j = mmb j
        rw [upd_else (show ¬ j = 1 by omega), upd_else (show ¬ j = 0 by omega)]
      · rcases (show t = 0 ∨ t = 1 ∨ t = 2 ∨ t = 3 by omega) with rfl | rfl | rfl | rfl <;> rfl
    · rw [ls7_4_6]
      refine ⟨rfl, mem_of h (show 2 ≤ 4 by decide) (fun j hj => ?_) (fun j hj => ?_) (fun j hj hj2 => ?_), fun t ht => ?_⟩
      · rcases (show j = 0 ∨ j = 1 by have hj : j < 2 := hj; omega) with rfl | rfl <;> rfl
      · rcases (show j = 0 ∨ j = 1 by have hj : j < 2 := hj; omega) with rfl | rfl <;> decide
      · have hj2 : 2 ≤ j := hj2
        show (upd (upd mmb 0 (nI 1)) 1 (nI 2)) j = mmb j
        rw [upd_else (show ¬ j = 1 by omega), upd_else (show ¬ j = 0 by omega)]
      · rcases (show t = 0 ∨ t = 1 ∨ t = 2 ∨ t = 3 by omega) with rfl | rfl | rfl | rfl <;> rfl
    · rw [ls7_4_7]
      refine ⟨rfl, mem_of h (show 3 ≤ 4 by decide) (fun j hj => ?_) (fun j hj => ?_) (fun j hj hj2 => ?_), fun t ht => ?_⟩
      · rcases (show j = 0 ∨ j = 1 ∨ j = 2 by have hj : j < 3 := hj; omega) with rfl | rfl | rfl <;> rfl
      · rcases (show j = 0 ∨ j = 1 ∨ j = 2 by have hj : j < 3 := hj; omega) with rfl | rfl | rfl <;> decide
      · have hj2 : 3 ≤ j := hj2
        show (upd (upd (upd mmb 0 (nI 0)) 1 (nI 1)) 2 (nI 2)) j = mmb j
        rw [upd_else (show ¬ j = 2 by omega), upd_else (show ¬ j = 1 by omega), upd_else (show ¬ j = 0 by omega)]
      · rcases (show t = 0 ∨ t = 1 ∨ t = 2 ∨ t = 3 by omega) with rfl | rfl | rfl | rfl <;> rfl
    · rw [ls7_4_8]
      refine ⟨rfl, mem_of h (show 1 ≤ 4 by decide) (fun j hj => ?_) (fun j hj => ?_) (fun j hj hj2 => ?_), fun t ht => ?_⟩
      · obtain rfl : j = 0 := by have hj : j < 1 := hj; omega
        rfl
      · obtain rfl : j = 0 := by have hj : j < 1 := hj; omega
        decide
      · have hj2 : 1 ≤ j := hj2
        show (upd mmb 0 (nI 3)) j = mmb j
        rw [upd_else (show ¬ j = 0 by omega)]
      · rcases (show t = 0 ∨ t = 1 ∨ t = 2 ∨ t = 3 by omega) with rfl | rfl | rfl | rfl <;> rfl
    · rw [ls7_4_9]
      refine ⟨rfl, mem_of h (show 2 ≤ 4 by decide) (fun j hj => ?_) (fun j hj => ?_) (fun j hj hj2 => ?_), fun t ht => ?_⟩
      · rcases (show j = 0 ∨ j = 1 by have hj : j < 2 := hj; omega) with rfl | rfl <;> rfl
      · rcases (show j = 0 ∨ j = 1 by have hj : j < 2 := hj; omega) with rfl | rfl <;> decide
      · have hj2 : 2 ≤ j := hj2
        show (upd (upd mmb 0 (nI 0)) 1 (nI 3)) j = mmb j
        rw [upd_else (show ¬ j = 1 by omega), upd_else (show ¬ j = 0 by omega)]
      · rcases (show t = 0 ∨ t = 1 ∨ t = 2 ∨ t = 3 by omega) with rfl | rfl | rfl | rfl <;> rfl
    · rw [ls7_4_10]
      refine ⟨rfl, mem_of h (show 2 ≤ 4 by decide) (fun j hj => ?_) (fun j hj => ?_) (fun j hj hj2 => ?_), fun t ht => ?_⟩
      · rcases (show j = 0 ∨ j = 1 by have hj : j < 2 := hj; omega) with rfl | rfl <;> rfl
      · rcases (show j = 0 ∨ j = 1 by have hj : j < 2 := hj; omega) with rfl | rfl <;> decide
      · have hj2 : 2 ≤ j := hj2
        show (upd (upd mmb 0 (nI 1)) 1 (nI 3)) j = mmb j
        rw [upd_else (show ¬ j = 1 by omega), upd_else (show ¬ j = 0 by omega)]
      · rcases (show t = 0 ∨ t = 1 ∨ t = 2 ∨ t = 3 by omega) with rfl | rfl | rfl | rfl <;> rfl
    · rw [ls7_4_11]
      refine ⟨rfl, mem_of h (show 3 ≤ 4 by decide) (fun j hj => ?_) (fun j hj => ?_) (fun j hj hj2 => ?_), fun t ht => ?_⟩
      · rcases (show j = 0 ∨ j = 1 ∨ j = 2 by have hj : j < 3 := hj; omega) with rfl | rfl | rfl <;> rfl
      · rcases (show j = 0 ∨ j = 1 ∨ j = 2 by have hj : j < 3 := hj; omega) with rfl | rfl | rfl <;> decide
      · have hj2 : 3 ≤ j := hj2
        show (upd (upd (upd mmb 0 (nI 0)) 1 (nI 1)) 2 (nI 3)) j = mmb j
        rw [upd_else (show ¬ j = 2 by omega), upd_else (show ¬ j = 1 by omega), upd_else (show ¬ j = 0 by omega)]
      · rcases (show t = 0 ∨ t = 1 ∨ t = 2 ∨ t = 3 by omega) with rfl | rfl | rfl | rfl <;> rfl
    · rw [ls7_4_12]
      refine ⟨rfl, mem_of h (show 2 ≤ 4 by decide) (fun j hj => ?_) (fun j hj => ?_) (fun j hj hj2 => ?_), fun t ht => ?_⟩
      · rcases (show j = 0 ∨ j = 1 by have hj : j < 2 := hj; omega) with rfl | rfl <;> rfl
      · rcases (show j = 0 ∨ j = 1 by have hj : j < 2 := hj; omega) with rfl | rfl <;> decide
      · have hj2 : 2 ≤ j := hj2
        show (upd (upd mmb 0 (nI 2)) 1 (nI 3)) j = mmb j
        rw [upd_else (show ¬ j = 1 by omega), upd_else (show ¬ j = 0 by omega)]
      · rcases (show t = 0 ∨ t = 1 ∨ t = 2 ∨ t = 3 by omega) with rfl | rfl | rfl | rfl <;> rfl
    · rw [ls7_4_13]
      refine ⟨rfl, mem_of h (show 3 ≤ 4 by decide) (fun j hj => ?_) (fun j hj => ?_) (fun j hj hj2 => ?_), fun t ht => ?_⟩
      · rcases (show j = 0 ∨ j = 1 ∨ j = 2 by have hj : j < 3 := hj; omega) with rfl | rfl | rfl <;> rfl
      · rcases (show j = 0 ∨ j = 1 ∨ j = 2 by have hj : j < 3 := hj; omega) with rfl | rfl | rfl <;> decide
      · have hj2 : 3 ≤ j := hj2
        show (upd (upd (upd mmb 0 (nI 0)) 1 (nI 2)) 2 (nI 3)) j = mmb j
        rw [upd_else (show ¬ j = 2 by omega), upd_else (show ¬ j = 1 by omega), upd_else (show ¬ j = 0 by omega)]
      · rcases (show t = 0 ∨ t = 1 ∨ t = 2 ∨ t = 3 by omega) with rfl | rfl | rfl | rfl <;> rfl
    · rw [ls7_4_14]
      refine ⟨rfl, mem_of h (show 3 ≤ 4 by decide) (fun j hj => ?_) (fun j hj => ?_) (fun j hj hj2 => ?_), fun t ht => ?_⟩
      · rcases (show j = 0 ∨ j = 1 ∨ j = 2 by have hj : j < 3 := hj; omega) with rfl | rfl | rfl <;> rfl
      · rcases (show j = 0 ∨ j = 1 ∨ j = 2 by have hj : j < 3 := hj; omega) with rfl | rfl | rfl <;> decide
      · have hj2 : 3 ≤ j := hj2
        show (upd (upd (upd mmb 0 (nI 1)) 1 (nI 2)) 2 (nI 3)) j = mmb j
        rw [upd_else (show ¬ j = 2 by omega), upd_else (show ¬ j = 1 by omega), upd_else (show ¬ j = 0 by omega)]
      · rcases (show t = 0 ∨ t = 1 ∨ t = 2 ∨ t = 3 by omega) with rfl | rfl | rfl | rfl <;> rfl
    · rw [ls7_4_15]
      refine ⟨rfl, mem_of h (show 4 ≤ 4 by decide) (fun j hj => ?_) (fun j hj => ?_) (fun j hj hj2 => ?_), fun t ht => ?_⟩
      · rcases (show j = 0 ∨ j = 1 ∨ j = 2 ∨ j = 3 by have hj : j < 4 := hj; omega) with rfl | rfl | rfl | rfl <;> rfl
      · rcases (show j = 0 ∨ j = 1 ∨ j = 2 ∨ j = 3 by have hj : j < 4 := hj; omega) with rfl | rfl | rfl | rfl <;> decide
      · exact absurd hj (Nat.not_lt.mpr hj2)
      · rcases (show t = 0 ∨ t = 1 ∨ t = 2 ∨ t = 3 by omega) with rfl | rfl | rfl | rfl <;> rfl
