def L4 (x : Int32) : Prop := ∃ n : Nat, n < 4 ∧ x = nI n
def L3 (x : Int32) : Prop := ∃ n : Nat, n < 3 ∧ x = nI n
def LE4 (x : Int32) : Prop := ∃ n : Nat, n ≤ 4 ∧ x = nI n
def PI (a b c : Int32) : Prop := L4 a ∧ L4 b ∧ LE4 c
def MB (f : Nat → Int32) : Prop := ∀ j : Nat, L4 (f j)
theorem PI0 : PI 0 0 0 := ⟨⟨0, by decide, by decide⟩, ⟨0, by decide, by decide⟩, ⟨0, by decide, by decide⟩⟩
theorem vi_lin2 {i j Cc : Int32} {a b cn n : Nat} (hi : i = nI a) (hj : j = nI b) (hC : Cc = nI cn) (h : cn * a + b < n) (hn : n < 2 ^ 31) : vp_in (Cc * i + j) n := by
  rw [hC, hi, hj, pk_mul, nI_add]; exact vp_in_nI h hn
theorem vi_4 {i j : Int32} (hi : L4 i) (hj : L4 j) : vp_in (4 * i + j) 16 := by
  obtain ⟨a, ha, ea⟩ := hi
  obtain ⟨b, hb, eb⟩ := hj
  exact vi_lin2 ea eb (cn := 4) (by decide) (by omega) (by decide)
theorem vi_3 {i j : Int32} (hi : L3 i) (hj : L3 j) : vp_in (3 * i + j) 9 := by
  obtain ⟨a, ha, ea⟩ := hi
  obtain ⟨b, hb, eb⟩ := hj
  exact vi_lin2 ea eb (cn := 3) (by decide) (by omega) (by decide)
theorem L4.vi {i : Int32} (h : L4 i) : vp_in i 4 := by obtain ⟨a, ha, ea⟩ := h; rw [ea]; exact vp_in_nI ha (by decide)
theorem L3.vi {i : Int32} (h : L3 i) : vp_in i 3 := by obtain ⟨a, ha, ea⟩ := h; rw [ea]; exact vp_in_nI ha (by decide)
theorem tm_lt (a : Int) {b : Int} (h : b ≠ 0) : (a.tmod b).natAbs < b.natAbs := by
  rw [Int.natAbs_tmod]
  exact Nat.mod_lt _ (by omega)
theorem lrem_toInt {x y : Int64} (h : ¬ y = 0) : (x - x / y * y).toInt = x.toInt.tmod y.toInt := by
  have hy : y.toInt ≠ 0 := fun e => h (Int64.toInt_inj.mp (e.trans (by decide)))
  have b1 := y.toInt_lt
  have b2 := y.le_toInt
  have e1 : (x - x / y * y).toInt = (x.toInt - x.toInt.tdiv y.toInt * y.toInt).bmod (2 ^ 64) := by
    rw [Int64.toInt_sub, Int64.toInt_mul, Int64.toInt_div]
    simp only [Int.sub_bmod_bmod, Int.bmod_mul_bmod]
  have e2 : x.toInt - x.toInt.tdiv y.toInt * y.toInt = x.toInt.tmod y.toInt := by
    have := Int.tmod_add_tdiv_mul x.toInt y.toInt
    omega
  rw [e1, e2]
  have h1 := tm_lt x.toInt hy
  apply Int.bmod_eq_of_le <;> omega
theorem lrem_lt {x y : Int64} (h : ¬ y = 0) : (x - x / y * y).toInt.natAbs < y.toInt.natAbs := by
  rw [lrem_toInt h]
  exact tm_lt x.toInt (fun e => h (Int64.toInt_inj.mp (e.trans (by decide))))
theorem lrem_pos {x y : Int64} (hx : 0 ≤ x) (hy : 0 < y) (h : ¬ x - x / y * y = 0) : 0 < x - x / y * y := by
  rw [Int64.lt_iff_toInt_lt, lrem_toInt (ne0_lpos hy)]
  have h0 : (0 : Int64).toInt = 0 := by decide
  rw [Int64.le_iff_toInt_le, h0] at hx
  rw [h0]
  have h1 : 0 ≤ x.toInt.tmod y.toInt := Int.tmod_nonneg _ hx
  have h2 : ¬ x.toInt.tmod y.toInt = 0 := fun e => h (Int64.toInt_inj.mp (by rw [lrem_toInt (ne0_lpos hy), e, h0]))
  omega
theorem le_of_lt64 {x : Int64} (h : 0 < x) : 0 ≤ x := by
  rw [Int64.lt_iff_toInt_lt] at h
  rw [Int64.le_iff_toInt_le]
  omega
