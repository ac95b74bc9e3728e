theorem nI_mulc {i Cc : Int32} {a cn : Nat} (hi : i = nI a) (hC : Cc = nI cn) : i * Cc = nI (a * cn) := by rw [hi, hC, pk_mul]
theorem vi_lin {i j Cc : Int32} {a b cn n : Nat} (hi : i = nI a) (hj : j = nI b) (hC : Cc = nI cn) (h : a * cn + b < n) (hn : n < 2 ^ 31) : vp_in (i * Cc + j) n := by
  rw [nI_mulc hi hC, hj, nI_add]; exact vp_in_nI h hn
theorem vi_add {j Cc : Int32} {b cn n : Nat} (hj : j = nI b) (hC : Cc = nI cn) (h : cn + b < n) (hn : n < 2 ^ 31) : vp_in (Cc + j) n := by
  rw [hC, hj, nI_add]; exact vp_in_nI h hn
theorem rg_of {x B : Int32} {n : Nat} (h1 : ¬ x < 0) (h2 : ¬ B ≤ x) (hB : B.toInt = n) (hn : n < 2 ^ 31) : ∃ k : Nat, k < n ∧ x = nI k := vp_in_of (vi_guard h1 h2 hB) hn
theorem place_of {r t : Int32} (h : ¬ f_X2_isPlace r t = 0) : ∃ a b : Nat, a < 5 ∧ b < 4 ∧ r = nI a ∧ t = nI b := by
  unfold f_X2_isPlace at h
  split at h
  · exact absurd rfl h
  · split at h
    · exact absurd rfl h
    · split at h
      · exact absurd rfl h
      · split at h
        · exact absurd rfl h
        · rename_i h1 h2 h3 h4
          obtain ⟨a, ha, ea⟩ := rg_of h1 h2 (n := 5) (by decide) (by decide)
          obtain ⟨b, hb, eb⟩ := rg_of h3 h4 (n := 4) (by decide) (by decide)
          exact ⟨a, b, ha, hb, ea, eb⟩
theorem vi_place {r t : Int32} (h : ¬ f_X2_isPlace r t = 0) : vp_in (r * 4 + t) 20 := by
  obtain ⟨a, b, ha, hb, ea, eb⟩ := place_of h
  exact vi_lin ea eb (cn := 4) (by decide) (by omega) (by decide)
theorem sw_look_X5_takes {x : Int32} (c0 : ¬ x = 44) (c1 : ¬ x = 59) : Op.lookupswitch.offset (#[(44, 27), (59, 32)] : Array (Int × Int)).toList 37 x.toInt = 37 := by
  have h0 : ¬ x.toInt = 44 := fun h => c0 (Int32.toInt_inj.mp (h.trans (by decide)))
  have h1 : ¬ x.toInt = 59 := fun h => c1 (Int32.toInt_inj.mp (h.trans (by decide)))
  simp [Op.lookupswitch.offset]
  rw [if_neg (fun h => h0 h.symm), if_neg (fun h => h1 h.symm)]
theorem sw_look_X6_tracer {x : Int32} (c0 : ¬ x = 0) (c1 : ¬ x = 1) : Op.lookupswitch.offset (#[(0, 28), (1, 39)] : Array (Int × Int)).toList 49 x.toInt = 49 := by
  have h0 : ¬ x.toInt = 0 := fun h => c0 (Int32.toInt_inj.mp (h.trans (by decide)))
  have h1 : ¬ x.toInt = 1 := fun h => c1 (Int32.toInt_inj.mp (h.trans (by decide)))
  simp [Op.lookupswitch.offset]
  rw [if_neg (fun h => h0 h.symm), if_neg (fun h => h1 h.symm)]
theorem ne0_lpos {x : Int64} (h : 0 < x) : ¬ x = 0 := fun e => by rw [e] at h; exact absurd h (by decide)
theorem ne0_pos {x : Int32} (h : 0 < x) : ¬ x = 0 := fun e => by rw [e] at h; exact absurd h (by decide)
