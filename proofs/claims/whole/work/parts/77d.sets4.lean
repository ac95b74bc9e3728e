theorem XM {hd wt : Nat → Int32} {us : Int32} {mj : Nat → Nat} {s : Nat} (h1 : 1 ≤ s) (hs : s < 16) (hmj : ∀ j : Nat, j < kN s → mj j = mN s j) : bX (nI s) (mN s 0) (GB hd wt us (mN s 0)) = mD hd wt us mj (kN s) ∧ fX (nI s) (mN s 0) (GB hd wt us (mN s 0)) = mF hd wt us mj (kN s) ∧ ∀ (sh : Nat → Int64) (t : Nat), t < 4 → (s.testBit t = true → mS hd wt us mj (kN s) sh t = XP (nI s) (mN s 0) (GB hd wt us (mN s 0)) t) ∧ (s.testBit t = false → mS hd wt us mj (kN s) sh t = sh t ∧ XP (nI s) (mN s 0) (GB hd wt us (mN s 0)) t = 0) := by
  rcases (show s = 1 ∨ s = 2 ∨ s = 3 ∨ s = 4 ∨ s = 5 ∨ s = 6 ∨ s = 7 ∨ s = 8 ∨ s = 9 ∨ s = 10 ∨ s = 11 ∨ s = 12 ∨ s = 13 ∨ s = 14 ∨ s = 15 by omega) with rfl | rfl | rfl | rfl | rfl | rfl | rfl | rfl | rfl | rfl | rfl | rfl | rfl | rfl | rfl
  · obtain ⟨p1, p2, p3⟩ := set_1 (hd := hd) (wt := wt) (us := us) (mj := mj) (hmj 0 (by decide))
    refine ⟨p1, p2, fun sh t ht => ?_⟩
    obtain ⟨q0, q1, q2, q3⟩ := p3 sh
    rcases (show t = 0 ∨ t = 1 ∨ t = 2 ∨ t = 3 by omega) with rfl | rfl | rfl | rfl
    · exact ⟨fun _ => q0, fun q => absurd q (by decide)⟩
    · exact ⟨fun q => absurd q (by decide), fun _ => q1⟩
    · exact ⟨fun q => absurd q (by decide), fun _ => q2⟩
    · exact ⟨fun q => absurd q (by decide), fun _ => q3⟩
  · obtain ⟨p1, p2, p3⟩ := set_2 (hd := hd) (wt := wt) (us := us) (mj := mj) (hmj 0 (by decide))
    refine ⟨p1, p2, fun sh t ht => ?_⟩
    obtain ⟨q0, q1, q2, q3⟩ := p3 sh
    rcases (show t = 0 ∨ t = 1 ∨ t = 2 ∨ t = 3 by omega) with rfl | rfl | rfl | rfl
    · exact ⟨fun q => absurd q (by decide), fun _ => q0⟩
    · exact ⟨fun _ => q1, fun q => absurd q (by decide)⟩
    · exact ⟨fun q => absurd q (by decide), fun _ => q2⟩
    · exact ⟨fun q => absurd q (by decide), fun _ => q3⟩
  · obtain ⟨p1, p2, p3⟩ := set_3 (hd := hd) (wt := wt) (us := us) (mj := mj) (hmj 0 (by decide)) (hmj 1 (by decide))
    refine ⟨p1, p2, fun sh t ht => ?_⟩
    obtain ⟨q0, q1, q2, q3⟩ := p3 sh
    rcases (show t = 0 ∨ t = 1 ∨ t = 2 ∨ t = 3 by omega) with rfl | rfl | rfl | rfl
    · exact ⟨fun _ => q0, fun q => absurd q (by decide)⟩
    · exact ⟨fun _ => q1, fun q => absurd q (by decide)⟩
    · exact ⟨fun q => absurd q (by decide), fun _ => q2⟩
    · exact ⟨fun q => absurd q (by decide), fun _ => q3⟩
  · obtain ⟨p1, p2, p3⟩ := set_4 (hd := hd) (wt := wt) (us := us) (mj := mj) (hmj 0 (by decide))
    refine ⟨p1, p2, fun sh t ht => ?_⟩
    obtain ⟨q0, q1, q2, q3⟩ := p3 sh
    rcases (show t = 0 ∨ t = 1 ∨ t = 2 ∨ t = 3 by omega) with rfl | rfl | rfl | rfl
    · exact ⟨fun q => absurd q (by decide), fun _ => q0⟩
    · exact ⟨fun q => absurd q (by decide), fun _ => q1⟩
    · exact ⟨fun _ => q2, fun q => absurd q (by decide)⟩
    · exact ⟨fun q => absurd q (by decide), fun _ => q3⟩
  · obtain ⟨p1, p2, p3⟩ := set_5 (hd := hd) (wt := wt) (us := us) (mj := mj) (hmj 0 (by decide)) (hmj 1 (by decide))
    refine ⟨p1, p2, fun sh t ht => ?_⟩
    obtain ⟨q0, q1, q2, q3⟩ := p3 sh
    rcases (show t = 0 ∨ t = 1 ∨ t = 2 ∨ t = 3 by omega) with rfl | rfl | rfl | rfl
    · exact ⟨fun _ => q0, fun q => absurd q (by decide)⟩
    · exact ⟨fun q => absurd q (by decide), fun _ => q1⟩
    · exact ⟨fun _ => q2, fun q => absurd q (by decide)⟩
    · exact ⟨fun q => absurd q (by decide), fun _ => q3⟩
  · obtain ⟨p1, p2, p3⟩ := set_6 (hd := hd) (wt := wt) (us := us) (mj := mj) (hmj 0 (by decide)) (hmj 1 (by decide))
    refine ⟨p1, p2, fun sh t ht => ?_⟩
    obtain ⟨q0, q1, q2, q3⟩ := p3 sh
    rcases (show t = 0 ∨ t = 1 ∨ t = 2 ∨ t = 3 by omega) with rfl | rfl | rfl | rfl
    · exact ⟨fun q => absurd q (by decide), fun _ => q0⟩
    · exact ⟨fun _ => q1, fun q => absurd q (by decide)⟩
    · exact ⟨fun _ => q2, fun q => absurd q (by decide)⟩
    · exact ⟨fun q => absurd q (by decide), fun _ => q3⟩
  · obtain ⟨p1, p2, p3⟩ := set_7 (hd := hd) (wt := wt) (us := us) (mj := mj) (hmj 0 (by decide)) (hmj 1 (by decide)) (hmj 2 (by decide))
    refine ⟨p1, p2, fun sh t ht => ?_⟩
    obtain ⟨q0, q1, q2, q3⟩ := p3 sh
    rcases (show t = 0 ∨ t = 1 ∨ t = 2 ∨ t = 3 by omega) with rfl | rfl | rfl | rfl
    · exact ⟨fun _ => q0, fun q => absurd q (by decide)⟩
    · exact ⟨fun _ => q1, fun q => absurd q (by decide)⟩
    · exact ⟨fun _ => q2, fun q => absurd q (by decide)⟩
    · exact ⟨fun q => absurd q (by decide), fun _ => q3⟩
  · obtain ⟨p1, p2, p3⟩ := set_8 (hd := hd) (wt := wt) (us := us) (mj := mj) (hmj 0 (by decide))
    refine ⟨p1, p2, fun sh t ht => ?_⟩
    obtain ⟨q0, q1, q2, q3⟩ := p3 sh
    rcases (show t = 0 ∨ t = 1 ∨ t = 2 ∨ t = 3 by omega) with rfl | rfl | rfl | rfl
    · exact ⟨fun q => absurd q (by decide), fun _ => q0⟩
    · exact ⟨fun q => absurd q (by decide), fun _ => q1⟩
    · exact ⟨fun q => absurd q (by decide), fun _ => q2⟩
    · exact ⟨fun _ => q3, fun q => absurd q (by decide)⟩
  · obtain ⟨p1, p2, p3⟩ := set_9 (hd := hd) (wt := wt) (us := us) (mj := mj) (hmj 0 (by decide)) (hmj 1 (by decide))
    refine ⟨p1, p2, fun sh t ht => ?_⟩
    obtain ⟨q0, q1, q2, q3⟩ := p3 sh
    rcases (show t = 0 ∨ t = 1 ∨ t = 2 ∨ t = 3 by omega) with rfl | rfl | rfl | rfl
    · exact ⟨fun _ => q0, fun q => absurd q (by decide)⟩
    · exact ⟨fun q => absurd q (by decide), fun _ => q1⟩
    · exact ⟨fun q => absurd q (by decide), fun _ => q2⟩
    · exact ⟨fun _ => q3, fun q => absurd q (by decide)⟩
  · obtain ⟨p1, p2, p3⟩ := set_10 (hd := hd) (wt := wt) (us := us) (mj := mj) (hmj 0 (by decide)) (hmj 1 (by decide))
    refine ⟨p1, p2, fun sh t ht => ?_⟩
    obtain ⟨q0, q1, q2, q3⟩ := p3 sh
    rcases (show t = 0 ∨ t = 1 ∨ t = 2 ∨ t = 3 by omega) with rfl | rfl | rfl | rfl
    · exact ⟨fun q => absurd q (by decide), fun _ => q0⟩
    · exact ⟨fun _ => q1, fun q => absurd q (by decide)⟩
    · exact ⟨fun q => absurd q (by decide), fun _ => q2⟩
    · exact ⟨fun _ => q3, fun q => absurd q (by decide)⟩
  · obtain ⟨p1, p2, p3⟩ := set_11 (hd := hd) (wt := wt) (us := us) (mj := mj) (hmj 0 (by decide)) (hmj 1 (by decide)) (hmj 2 (by decide))
    refine ⟨p1, p2, fun sh t ht => ?_⟩
    obtain ⟨q0, q1, q2, q3⟩ := p3 sh
    rcases (show t = 0 ∨ t = 1 ∨ t = 2 ∨ t = 3 by omega) with rfl | rfl | rfl | rfl
    · exact ⟨fun _ => q0, fun q => absurd q (by decide)⟩
    · exact ⟨fun _ => q1, fun q => absurd q (by decide)⟩
    · exact ⟨fun q => absurd q (by decide), fun _ => q2⟩
    · exact ⟨fun _ => q3, fun q => absurd q (by decide)⟩
  · obtain ⟨p1, p2, p3⟩ := set_12 (hd := hd) (wt := wt) (us := us) (mj := mj) (hmj 0 (by decide)) (hmj 1 (by decide))
    refine ⟨p1, p2, fun sh t ht => ?_⟩
    obtain ⟨q0, q1, q2, q3⟩ := p3 sh
    rcases (show t = 0 ∨ t = 1 ∨ t = 2 ∨ t = 3 by omega) with rfl | rfl | rfl | rfl
    · exact ⟨fun q => absurd q (by decide), fun _ => q0⟩
    · exact ⟨fun q => absurd q (by decide), fun _ => q1⟩
    · exact ⟨fun _ => q2, fun q => absurd q (by decide)⟩
    · exact ⟨fun _ => q3, fun q => absurd q (by decide)⟩
  · obtain ⟨p1, p2, p3⟩ := set_13 (hd := hd) (wt := wt) (us := us) (mj := mj) (hmj 0 (by decide)) (hmj 1 (by decide)) (hmj 2 (by decide))
    refine ⟨p1, p2, fun sh t ht => ?_⟩
    obtain ⟨q0, q1, q2, q3⟩ := p3 sh
    rcases (show t = 0 ∨ t = 1 ∨ t = 2 ∨ t = 3 by omega) with rfl | rfl | rfl | rfl
    · exact ⟨fun _ => q0, fun q => absurd q (by decide)⟩
    · exact ⟨fun q => absurd q (by decide), fun _ => q1⟩
    · exact ⟨fun _ => q2, fun q => absurd q (by decide)⟩
    · exact ⟨fun _ => q3, fun q => absurd q (by decide)⟩
  · obtain ⟨p1, p2, p3⟩ := set_14 (hd := hd) (wt := wt) (us := us) (mj := mj) (hmj 0 (by decide)) (hmj 1 (by decide)) (hmj 2 (by decide))
    refine ⟨p1, p2, fun sh t ht => ?_⟩
    obtain ⟨q0, q1, q2, q3⟩ := p3 sh
    rcases (show t = 0 ∨ t = 1 ∨ t = 2 ∨ t = 3 by omega) with rfl | rfl | rfl | rfl
    · exact ⟨fun q => absurd q (by decide), fun _ => q0⟩
    · exact ⟨fun _ => q1, fun q => absurd q (by decide)⟩
    · exact ⟨fun _ => q2, fun q => absurd q (by decide)⟩
    · exact ⟨fun _ => q3, fun q => absurd q (by decide)⟩
  · obtain ⟨p1, p2, p3⟩ := set_15 (hd := hd) (wt := wt) (us := us) (mj := mj) (hmj 0 (by decide)) (hmj 1 (by decide)) (hmj 2 (by decide)) (hmj 3 (by decide))
    refine ⟨p1, p2, fun sh t ht => ?_⟩
    obtain ⟨q0, q1, q2, q3⟩ := p3 sh
    rcases (show t = 0 ∨ t = 1 ∨ t = 2 ∨ t = 3 by omega) with rfl | rfl | rfl | rfl
    · exact ⟨fun _ => q0, fun q => absurd q (by decide)⟩
    · exact ⟨fun _ => q1, fun q => absurd q (by decide)⟩
    · exact ⟨fun _ => q2, fun q => absurd q (by decide)⟩
    · exact ⟨fun _ => q3, fun q => absurd q (by decide)⟩
theorem fst_f : ∀ s : Fin 16, 1 ≤ s.val → f_X0_firstOf (nI s.val) = nI (mN s.val 0) := by decide +kernel
theorem fst_at {s : Nat} (h1 : 1 ≤ s) (hs : s < 16) : f_X0_firstOf (nI s) = nI (mN s 0) := fst_f ⟨s, hs⟩ h1
theorem mN_lt_f : ∀ s : Fin 16, mN s.val 0 < 4 := by decide +kernel
theorem mN_lt {s : Nat} (hs : s < 16) : mN s 0 < 4 := mN_lt_f ⟨s, hs⟩
theorem gt_if {α : Type} {x : Int64} {a b : α} : (if 0 < x then a else b) = if x ≤ 0 then b else a := by
  by_cases c : x ≤ 0
  · rw [if_pos c, if_neg (fun q => absurd c (Int64.not_le.mpr q))]
  · rw [if_neg c, if_pos (Int64.not_le.mp c)]
theorem good_1 {b : Int64} {pt sh : Nat → Int64} {mmb : Nat → Int32} (h0 : mmb 0 = nI 0) (e0 : sh 0 = pt 0) : f_X0_isGood (nI 1) b pt = f_X7_isGood (nI 1) b mmb sh := by
  have ex : f_X0_isGood (nI 1) b pt = (if 0 < pt 0 then (if b ≤ 0 then 0 else 1) else 0) := rfl
  have em : f_X7_isGood (nI 1) b mmb sh = (if (if b ≤ 0 then (0 : Int32) else 1) = 0 then (0 : Int32) else (if sh (Int32.toNatClampNeg (mmb 0)) ≤ 0 then 0 else 1)) := rfl
  rw [ex, em, h0, show (nI 0).toNatClampNeg = 0 by decide, e0]
  simp only [gt_if]
  by_cases cb : b ≤ 0 <;> by_cases c0 : pt 0 ≤ 0 <;> simp [cb, c0]
theorem good_2 {b : Int64} {pt sh : Nat → Int64} {mmb : Nat → Int32} (h0 : mmb 0 = nI 1) (e0 : sh 1 = pt 1) : f_X0_isGood (nI 2) b pt = f_X7_isGood (nI 1) b mmb sh := by
  have ex : f_X0_isGood (nI 2) b pt = (if 0 < pt 1 then (if b ≤ 0 then 0 else 1) else 0) := rfl
  have em : f_X7_isGood (nI 1) b mmb sh = (if (if b ≤ 0 then (0 : Int32) else 1) = 0 then (0 : Int32) else (if sh (Int32.toNatClampNeg (mmb 0)) ≤ 0 then 0 else 1)) := rfl
  rw [ex, em, h0, show (nI 1).toNatClampNeg = 1 by decide, e0]
  simp only [gt_if]
  by_cases cb : b ≤ 0 <;> by_cases c0 : pt 1 ≤ 0 <;> simp [cb, c0]
theorem good_3 {b : Int64} {pt sh : Nat → Int64} {mmb : Nat → Int32} (h0 : mmb 0 = nI 0) (h1 : mmb 1 = nI 1) (e0 : sh 0 = pt 0) (e1 : sh 1 = pt 1) : f_X0_isGood (nI 3) b pt = f_X7_isGood (nI 2) b mmb sh := by
  have ex : f_X0_isGood (nI 3) b pt = (if 0 < pt 0 then (if 0 < pt 1 then (if b ≤ 0 then 0 else 1) else 0) else 0) := rfl
  have em : f_X7_isGood (nI 2) b mmb sh = (if (if (if b ≤ 0 then (0 : Int32) else 1) = 0 then (0 : Int32) else (if sh (Int32.toNatClampNeg (mmb 0)) ≤ 0 then 0 else 1)) = 0 then (0 : Int32) else (if sh (Int32.toNatClampNeg (mmb 1)) ≤ 0 then 0 else 1)) := rfl
  rw [ex, em, h0, h1, show (nI 0).toNatClampNeg = 0 by decide, e0, show (nI 1).toNatClampNeg = 1 by decide, e1]
  simp only [gt_if]
  by_cases cb : b ≤ 0 <;> by_cases c0 : pt 0 ≤ 0 <;> by_cases c1 : pt 1 ≤ 0 <;> simp [cb, c0, c1]
theorem good_4 {b : Int64} {pt sh : Nat → Int64} {mmb : Nat → Int32} (h0 : mmb 0 = nI 2) (e0 : sh 2 = pt 2) : f_X0_isGood (nI 4) b pt = f_X7_isGood (nI 1) b mmb sh := by
  have ex : f_X0_isGood (nI 4) b pt = (if 0 < pt 2 then (if b ≤ 0 then 0 else 1) else 0) := rfl
  have em : f_X7_isGood (nI 1) b mmb sh = (if (if b ≤ 0 then (0 : Int32) else 1) = 0 then (0 : Int32) else (if sh (Int32.toNatClampNeg (mmb 0)) ≤ 0 then 0 else 1)) := rfl
  rw [ex, em, h0, show (nI 2).toNatClampNeg = 2 by decide, e0]
  simp only [gt_if]
  by_cases cb : b ≤ 0 <;> by_cases c0 : pt 2 ≤ 0 <;> simp [cb, c0]
theorem good_5 {b : Int64} {pt sh : Nat → Int64} {mmb : Nat → Int32} (h0 : mmb 0 = nI 0) (h1 : mmb 1 = nI 2) (e0 : sh 0 = pt 0) (e1 : sh 2 = pt 2) : f_X0_isGood (nI 5) b pt = f_X7_isGood (nI 2) b mmb sh := by
  have ex : f_X0_isGood (nI 5) b pt = (if 0 < pt 0 then (if 0 < pt 2 then (if b ≤ 0 then 0 else 1) else 0) else 0) := rfl
  have em : f_X7_isGood (nI 2) b mmb sh = (if (if (if b ≤ 0 then (0 : Int32) else 1) = 0 then (0 : Int32) else (if sh (Int32.toNatClampNeg (mmb 0)) ≤ 0 then 0 else 1)) = 0 then (0 : Int32) else (if sh (Int32.toNatClampNeg (mmb 1)) ≤ 0 then 0 else 1)) := rfl
  rw [ex, em, h0, h1, show (nI 0).toNatClampNeg = 0 by decide, e0, show (nI 2).toNatClampNeg = 2 by decide, e1]
  simp only [gt_if]
  by_cases cb : b ≤ 0 <;> by_cases c0 : pt 0 ≤ 0 <;> by_cases c1 : pt 2 ≤ 0 <;> simp [cb, c0, c1]
theorem good_6 {b : Int64} {pt sh : Nat → Int64} {mmb : Nat → Int32} (h0 : mmb 0 = nI 1) (h1 : mmb 1 = nI 2) (e0 : sh 1 = pt 1) (e1 : sh 2 = pt 2) : f_X0_isGood (nI 6) b pt = f_X7_isGood (nI 2) b mmb sh := by
  have ex : f_X0_isGood (nI 6) b pt = (if 0 < pt 1 then (if 0 < pt 2 then (if b ≤ 0 then 0 else 1) else 0) else 0) := rfl
  have em : f_X7_isGood (nI 2) b mmb sh = (if (if (if b ≤ 0 then (0 : Int32) else 1) = 0 then (0 : Int32) else (if sh (Int32.toNatClampNeg (mmb 0)) ≤ 0 then 0 else 1)) = 0 then (0 : Int32) else (if sh (Int32.toNatClampNeg (mmb 1)) ≤ 0 then 0 else 1)) := rfl
  rw [ex, em, h0, h1, show (nI 1).toNatClampNeg = 1 by decide, e0, show (nI 2).toNatClampNeg = 2 by decide, e1]
  simp only [gt_if]
  by_cases cb : b ≤ 0 <;> by_cases c0 : pt 1 ≤ 0 <;> by_cases c1 : pt 2 ≤ 0 <;> simp [cb, c0, c1]
theorem good_7 {b : Int64} {pt sh : Nat → Int64} {mmb : Nat → Int32} (h0 : mmb 0 = nI 0) (h1 : mmb 1 = nI 1) (h2 : mmb 2 = nI 2) (e0 : sh 0 = pt 0) (e1 : sh 1 = pt 1) (e2 : sh 2 = pt 2) : f_X0_isGood (nI 7) b pt = f_X7_isGood (nI 3) b mmb sh := by
  have ex : f_X0_isGood (nI 7) b pt = (if 0 < pt 0 then (if 0 < pt 1 then (if 0 < pt 2 then (if b ≤ 0 then 0 else 1) else 0) else 0) else 0) := rfl
  have em : f_X7_isGood (nI 3) b mmb sh = (if (if (if (if b ≤ 0 then (0 : Int32) else 1) = 0 then (0 : Int32) else (if sh (Int32.toNatClampNeg (mmb 0)) ≤ 0 then 0 else 1)) = 0 then (0 : Int32) else (if sh (Int32.toNatClampNeg (mmb 1)) ≤ 0 then 0 else 1)) = 0 then (0 : Int32) else (if sh (Int32.toNatClampNeg (mmb 2)) ≤ 0 then 0 else 1)) := rfl
  rw [ex, em, h0, h1, h2, show (nI 0).toNatClampNeg = 0 by decide, e0, show (nI 1).toNatClampNeg = 1 by decide, e1, show (nI 2).toNatClampNeg = 2 by decide, e2]
  simp only [gt_if]
  by_cases cb : b ≤ 0 <;> by_cases c0 : pt 0 ≤ 0 <;> by_cases c1 : pt 1 ≤ 0 <;> by_cases c2 : pt 2 ≤ 0 <;> simp [cb, c0, c1, c2]
theorem good_8 {b : Int64} {pt sh : Nat → Int64} {mmb : Nat → Int32} (h0 : mmb 0 = nI 3) (e0 : sh 3 = pt 3) : f_X0_isGood (nI 8) b pt = f_X7_isGood (nI 1) b mmb sh := by
  have ex : f_X0_isGood (nI 8) b pt = (if 0 < pt 3 then (if b ≤ 0 then 0 else 1) else 0) := rfl
  have em : f_X7_isGood (nI 1) b mmb sh = (if (if b ≤ 0 then (0 : Int32) else 1) = 0 then (0 : Int32) else (if sh (Int32.toNatClampNeg (mmb 0)) ≤ 0 then 0 else 1)) := rfl
  rw [ex, em, h0, show (nI 3).toNatClampNeg = 3 by decide, e0]
  simp only [gt_if]
  by_cases cb : b ≤ 0 <;> by_cases c0 : pt 3 ≤ 0 <;> simp [cb, c0]
theorem good_9 {b : Int64} {pt sh : Nat → Int64} {mmb : Nat → Int32} (h0 : mmb 0 = nI 0) (h1 : mmb 1 = nI 3) (e0 : sh 0 = pt 0) (e1 : sh 3 = pt 3) : f_X0_isGood (nI 9) b pt = f_X7_isGood (nI 2) b mmb sh := by
  have ex : f_X0_isGood (nI 9) b pt = (if 0 < pt 0 then (if 0 < pt 3 then (if b ≤ 0 then 0 else 1) else 0) else 0) := rfl
  have em : f_X7_isGood (nI 2) b mmb sh = (if (if (if b ≤ 0 then (0 : Int32) else 1) = 0 then (0 : Int32) else (if sh (Int32.toNatClampNeg (mmb 0)) ≤ 0 then 0 else 1)) = 0 then (0 : Int32) else (if sh (Int32.toNatClampNeg (mmb 1)) ≤ 0 then 0 else 1)) := rfl
  rw [ex, em, h0, h1, show (nI 0).toNatClampNeg = 0 by decide, e0, show (nI 3).toNatClampNeg = 3 by decide, e1]
  simp only [gt_if]
  by_cases cb : b ≤ 0 <;> by_cases c0 : pt 0 ≤ 0 <;> by_cases c1 : pt 3 ≤ 0 <;> simp [cb, c0, c1]
theorem good_10 {b : Int64} {pt sh : Nat → Int64} {mmb : Nat → Int32} (h0 : mmb 0 = nI 1) (h1 : mmb 1 = nI 3) (e0 : sh 1 = pt 1) (e1 : sh 3 = pt 3) : f_X0_isGood (nI 10) b pt = f_X7_isGood (nI 2) b mmb sh := by
  have ex : f_X0_isGood (nI 10) b pt = (if 0 < pt 1 then (if 0 < pt 3 then (if b ≤ 0 then 0 else 1) else 0) else 0) := rfl
  have em : f_X7_isGood (nI 2) b mmb sh = (if (if (if b ≤ 0 then (0 : Int32) else 1) = 0 then (0 : Int32) else (if sh (Int32.toNatClampNeg (mmb 0)) ≤ 0 then 0 else 1)) = 0 then (0 : Int32) else (if sh (Int32.toNatClampNeg (mmb 1)) ≤ 0 then 0 else 1)) := rfl
  rw [ex, em, h0, h1, show (nI 1).toNatClampNeg = 1 by decide, e0, show (nI 3).toNatClampNeg = 3 by decide, e1]
  simp only [gt_if]
  by_cases cb : b ≤ 0 <;> by_cases c0 : pt 1 ≤ 0 <;> by_cases c1 : pt 3 ≤ 0 <;> simp [cb, c0, c1]
theorem good_11 {b : Int64} {pt sh : Nat → Int64} {mmb : Nat → Int32} (h0 : mmb 0 = nI 0) (h1 : mmb 1 = nI 1) (h2 : mmb 2 = nI 3) (e0 : sh 0 = pt 0) (e1 : sh 1 = pt 1) (e2 : sh 3 = pt 3) : f_X0_isGood (nI 11) b pt = f_X7_isGood (nI 3) b mmb sh := by
  have ex : f_X0_isGood (nI 11) b pt = (if 0 < pt 0 then (if 0 < pt 1 then (if 0 < pt 3 then (if b ≤ 0 then 0 else 1) else 0) else 0) else 0) := rfl
  have em : f_X7_isGood (nI 3) b mmb sh = (if (if (if (if b ≤ 0 then (0 : Int32) else 1) = 0 then (0 : Int32) else (if sh (Int32.toNatClampNeg (mmb 0)) ≤ 0 then 0 else 1)) = 0 then (0 : Int32) else (if sh (Int32.toNatClampNeg (mmb 1)) ≤ 0 then 0 else 1)) = 0 then (0 : Int32) else (if sh (Int32.toNatClampNeg (mmb 2)) ≤ 0 then 0 else 1)) := rfl
  rw [ex, em, h0, h1, h2, show (nI 0).toNatClampNeg = 0 by decide, e0, show (nI 1).toNatClampNeg = 1 by decide, e1, show (nI 3).toNatClampNeg = 3 by decide, e2]
  simp only [gt_if]
  by_cases cb : b ≤ 0 <;> by_cases c0 : pt 0 ≤ 0 <;> by_cases c1 : pt 1 ≤ 0 <;> by_cases c2 : pt 3 ≤ 0 <;> simp [cb, c0, c1, c2]
theorem good_12 {b : Int64} {pt sh : Nat → Int64} {mmb : Nat → Int32} (h0 : mmb 0 = nI 2) (h1 : mmb 1 = nI 3) (e0 : sh 2 = pt 2) (e1 : sh 3 = pt 3) : f_X0_isGood (nI 12) b pt = f_X7_isGood (nI 2) b mmb sh := by
  have ex : f_X0_isGood (nI 12) b pt = (if 0 < pt 2 then (if 0 < pt 3 then (if b ≤ 0 then 0 else 1) else 0) else 0) := rfl
  have em : f_X7_isGood (nI 2) b mmb sh = (if (if (if b ≤ 0 then (0 : Int32) else 1) = 0 then (0 : Int32) else (if sh (Int32.toNatClampNeg (mmb 0)) ≤ 0 then 0 else 1)) = 0 then (0 : Int32) else (if sh (Int32.toNatClampNeg (mmb 1)) ≤ 0 then 0 else 1)) := rfl
  rw [ex, em, h0, h1, show (nI 2).toNatClampNeg = 2 by decide, e0, show (nI 3).toNatClampNeg = 3 by decide, e1]
  simp only [gt_if]
  by_cases cb : b ≤ 0 <;> by_cases c0 : pt 2 ≤ 0 <;> by_cases c1 : pt 3 ≤ 0 <;> simp [cb, c0, c1]
theorem good_13 {b : Int64} {pt sh : Nat → Int64} {mmb : Nat → Int32} (h0 : mmb 0 = nI 0) (h1 : mmb 1 = nI 2) (h2 : mmb 2 = nI 3) (e0 : sh 0 = pt 0) (e1 : sh 2 = pt 2) (e2 : sh 3 = pt 3) : f_X0_isGood (nI 13) b pt = f_X7_isGood (nI 3) b mmb sh := by
  have ex : f_X0_isGood (nI 13) b pt = (if 0 < pt 0 then (if 0 < pt 2 then (if 0 < pt 3 then (if b ≤ 0 then 0 else 1) else 0) else 0) else 0) := rfl
  have em : f_X7_isGood (nI 3) b mmb sh = (if (if (if (if b ≤ 0 then (0 : Int32) else 1) = 0 then (0 : Int32) else (if sh (Int32.toNatClampNeg (mmb 0)) ≤ 0 then 0 else 1)) = 0 then (0 : Int32) else (if sh (Int32.toNatClampNeg (mmb 1)) ≤ 0 then 0 else 1)) = 0 then (0 : Int32) else (if sh (Int32.toNatClampNeg (mmb 2)) ≤ 0 then 0 else 1)) := rfl
  rw [ex, em, h0, h1, h2, show (nI 0).toNatClampNeg = 0 by decide, e0, show (nI 2).toNatClampNeg = 2 by decide, e1, show (nI 3).toNatClampNeg = 3 by decide, e2]
  simp only [gt_if]
  by_cases cb : b ≤ 0 <;> by_cases c0 : pt 0 ≤ 0 <;> by_cases c1 : pt 2 ≤ 0 <;> by_cases c2 : pt 3 ≤ 0 <;> simp [cb, c0, c1, c2]
theorem good_14 {b : Int64} {pt sh : Nat → Int64} {mmb : Nat → Int32} (h0 : mmb 0 = nI 1) (h1 : mmb 1 = nI 2) (h2 : mmb 2 = nI 3) (e0 : sh 1 = pt 1) (e1 : sh 2 = pt 2) (e2 : sh 3 = pt 3) : f_X0_isGood (nI 14) b pt = f_X7_isGood (nI 3) b mmb sh := by
  have ex : f_X0_isGood (nI 14) b pt = (if 0 < pt 1 then (if 0 < pt 2 then (if 0 < pt 3 then (if b ≤ 0 then 0 else 1) else 0) else 0) else 0) := rfl
  have em : f_X7_isGood (nI 3) b mmb sh = (if (if (if (if b ≤ 0 then (0 : Int32) else 1) = 0 then (0 : Int32) else (if sh (Int32.toNatClampNeg (mmb 0)) ≤ 0 then 0 else 1)) = 0 then (0 : Int32) else (if sh (Int32.toNatClampNeg (mmb 1)) ≤ 0 then 0 else 1)) = 0 then (0 : Int32) else (if sh (Int32.toNatClampNeg (mmb 2)) ≤ 0 then 0 else 1)) := rfl
  rw [ex, em, h0, h1, h2, show (nI 1).toNatClampNeg = 1 by decide, e0, show (nI 2).toNatClampNeg = 2 by decide, e1, show (nI 3).toNatClampNeg = 3 by decide, e2]
  simp only [gt_if]
  by_cases cb : b ≤ 0 <;> by_cases c0 : pt 1 ≤ 0 <;> by_cases c1 : pt 2 ≤ 0 <;> by_cases c2 : pt 3 ≤ 0 <;> simp [cb, c0, c1, c2]
theorem good_15 {b : Int64} {pt sh : Nat → Int64} {mmb : Nat → Int32} (h0 : mmb 0 = nI 0) (h1 : mmb 1 = nI 1) (h2 : mmb 2 = nI 2) (h3 : mmb 3 = nI 3) (e0 : sh 0 = pt 0) (e1 : sh 1 = pt 1) (e2 : sh 2 = pt 2) (e3 : sh 3 = pt 3) : f_X0_isGood (nI 15) b pt = f_X7_isGood (nI 4) b mmb sh := by
  have ex : f_X0_isGood (nI 15) b pt = (if 0 < pt 0 then (if 0 < pt 1 then (if 0 < pt 2 then (if 0 < pt 3 then (if b ≤ 0 then 0 else 1) else 0) else 0) else 0) else 0) := rfl
  have em : f_X7_isGood (nI 4) b mmb sh = (if (if (if (if (if b ≤ 0 then (0 : Int32) else 1) = 0 then (0 : Int32) else (if sh (Int32.toNatClampNeg (mmb 0)) ≤ 0 then 0 else 1)) = 0 then (0 : Int32) else (if sh (Int32.toNatClampNeg (mmb 1)) ≤ 0 then 0 else 1)) = 0 then (0 : Int32) else (if sh (Int32.toNatClampNeg (mmb 2)) ≤ 0 then 0 else 1)) = 0 then (0 : Int32) else (if sh (Int32.toNatClampNeg (mmb 3)) ≤ 0 then 0 else 1)) := rfl
  rw [ex, em, h0, h1, h2, h3, show (nI 0).toNatClampNeg = 0 by decide, e0, show (nI 1).toNatClampNeg = 1 by decide, e1, show (nI 2).toNatClampNeg = 2 by decide, e2, show (nI 3).toNatClampNeg = 3 by decide, e3]
  simp only [gt_if]
  by_cases cb : b ≤ 0 <;> by_cases c0 : pt 0 ≤ 0 <;> by_cases c1 : pt 1 ≤ 0 <;> by_cases c2 : pt 2 ≤ 0 <;> by_cases c3 : pt 3 ≤ 0 <;> simp [cb, c0, c1, c2, c3]
theorem good_at {b : Int64} {pt sh : Nat → Int64} {mmb : Nat → Int32} {s : Nat} (h1 : 1 ≤ s) (hs : s < 16) (hm : ∀ j : Nat, j < kN s → mmb j = nI (mN s j)) (he : ∀ t : Nat, t < 4 → s.testBit t = true → sh t = pt t) : f_X0_isGood (nI s) b pt = f_X7_isGood (nI (kN s)) b mmb sh := by
  rcases (show s = 1 ∨ s = 2 ∨ s = 3 ∨ s = 4 ∨ s = 5 ∨ s = 6 ∨ s = 7 ∨ s = 8 ∨ s = 9 ∨ s = 10 ∨ s = 11 ∨ s = 12 ∨ s = 13 ∨ s = 14 ∨ s = 15 by omega) with rfl | rfl | rfl | rfl | rfl | rfl | rfl | rfl | rfl | rfl | rfl | rfl | rfl | rfl | rfl
  · exact good_1 (hm 0 (by decide)) (he 0 (by decide) (by decide))
  · exact good_2 (hm 0 (by decide)) (he 1 (by decide) (by decide))
  · exact good_3 (hm 0 (by decide)) (hm 1 (by decide)) (he 0 (by decide) (by decide)) (he 1 (by decide) (by decide))
  · exact good_4 (hm 0 (by decide)) (he 2 (by decide) (by decide))
  · exact good_5 (hm 0 (by decide)) (hm 1 (by decide)) (he 0 (by decide) (by decide)) (he 2 (by decide) (by decide))
  · exact good_6 (hm 0 (by decide)) (hm 1 (by decide)) (he 1 (by decide) (by decide)) (he 2 (by decide) (by decide))
  · exact good_7 (hm 0 (by decide)) (hm 1 (by decide)) (hm 2 (by decide)) (he 0 (by decide) (by decide)) (he 1 (by decide) (by decide)) (he 2 (by decide) (by decide))
  · exact good_8 (hm 0 (by decide)) (he 3 (by decide) (by decide))
  · exact good_9 (hm 0 (by decide)) (hm 1 (by decide)) (he 0 (by decide) (by decide)) (he 3 (by decide) (by decide))
  · exact good_10 (hm 0 (by decide)) (hm 1 (by decide)) (he 1 (by decide) (by decide)) (he 3 (by decide) (by decide))
  · exact good_11 (hm 0 (by decide)) (hm 1 (by decide)) (hm 2 (by decide)) (he 0 (by decide) (by decide)) (he 1 (by decide) (by decide)) (he 3 (by decide) (by decide))
  · exact good_12 (hm 0 (by decide)) (hm 1 (by decide)) (he 2 (by decide) (by decide)) (he 3 (by decide) (by decide))
  · exact good_13 (hm 0 (by decide)) (hm 1 (by decide)) (hm 2 (by decide)) (he 0 (by decide) (by decide)) (he 2 (by decide) (by decide)) (he 3 (by decide) (by decide))
  · exact good_14 (hm 0 (by decide)) (hm 1 (by decide)) (hm 2 (by decide)) (he 1 (by decide) (by decide)) (he 2 (by decide) (by decide)) (he 3 (by decide) (by decide))
  · exact good_15 (hm 0 (by decide)) (hm 1 (by decide)) (hm 2 (by decide)) (hm 3 (by decide)) (he 0 (by decide) (by decide)) (he 1 (by decide) (by decide)) (he 2 (by decide) (by decide)) (he 3 (by decide) (by decide))
