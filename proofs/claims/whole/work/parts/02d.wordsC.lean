set_option maxRecDepth 20000 in
theorem wq_21 : ∀ w ∈ wsL_law_r21, w ∈ lw_tbl := fun w h => (goodIn_p wsL_law_r21 [502, 506, 510, 513, 516] (by decide +kernel) (by decide +kernel) w h).1
set_option maxRecDepth 20000 in
theorem wq_22 : ∀ w ∈ wsL_law_r22, w ∈ lw_tbl := fun w h => (goodIn_p wsL_law_r22 [523, 527, 782, 786] (by decide +kernel) (by decide +kernel) w h).1
set_option maxRecDepth 20000 in
theorem wq_23 : ∀ w ∈ wsL_law_r23, w ∈ lw_tbl := fun w h => (goodIn_p wsL_law_r23 [790, 794, 798, 802, 806, 810] (by decide +kernel) (by decide +kernel) w h).1
set_option maxRecDepth 20000 in
theorem wq_24 : ∀ w ∈ wsL_law_r24, w ∈ lw_tbl := fun w h => (goodIn_p wsL_law_r24 [814, 817, 820, 824, 827, 830, 531] (by decide +kernel) (by decide +kernel) w h).1
set_option maxRecDepth 20000 in
theorem wq_25 : ∀ w ∈ wsL_law_r25, w ∈ lw_tbl := fun w h => (goodIn_p wsL_law_r25 [534, 538, 544, 834, 838] (by decide +kernel) (by decide +kernel) w h).1
set_option maxRecDepth 20000 in
theorem wq_26 : ∀ w ∈ wsL_law_r26, w ∈ lw_tbl := fun w h => (goodIn_p wsL_law_r26 [548, 552, 556, 842, 846, 850] (by decide +kernel) (by decide +kernel) w h).1
set_option maxRecDepth 20000 in
theorem wq_27 : ∀ w ∈ wsL_law_r27, w ∈ lw_tbl := fun w h => (goodIn_p wsL_law_r27 [560, 564, 568, 854, 573] (by decide +kernel) (by decide +kernel) w h).1
set_option maxRecDepth 20000 in
theorem wq_28 : ∀ w ∈ wsL_law_r28, w ∈ lw_tbl := fun w h => (goodIn_p wsL_law_r28 [577, 858, 586, 862, 866] (by decide +kernel) (by decide +kernel) w h).1
set_option maxRecDepth 20000 in
theorem wq_29 : ∀ w ∈ wsL_law_r29, w ∈ lw_tbl := fun w h => (goodIn_p wsL_law_r29 [590, 595, 603, 870] (by decide +kernel) (by decide +kernel) w h).1
set_option maxRecDepth 20000 in
theorem wq_30 : ∀ w ∈ wsL_law_r30, w ∈ lw_tbl := fun w h => (goodIn_p wsL_law_r30 [875, 880] (by decide +kernel) (by decide +kernel) w h).1
set_option maxRecDepth 20000 in
theorem wq_wsX60 : ∀ w ∈ wsX60, w ∈ lw_tbl := fun w h => (goodIn_p wsX60 [] (by decide +kernel) (by decide +kernel) w h).1
set_option maxRecDepth 20000 in
theorem wq_wsX70 : ∀ w ∈ wsX70, w ∈ lw_tbl := fun w h => (goodIn_p wsX70 [] (by decide +kernel) (by decide +kernel) w h).1
set_option maxRecDepth 20000 in
theorem wq_wsX40 : ∀ w ∈ wsX40, w ∈ lw_tbl := fun w h => (goodIn_p wsX40 [] (by decide +kernel) (by decide +kernel) w h).1
set_option maxRecDepth 20000 in
theorem wq_wsX50 : ∀ w ∈ wsX50, w ∈ lw_tbl := fun w h => (goodIn_p wsX50 [] (by decide +kernel) (by decide +kernel) w h).1
set_option maxRecDepth 20000 in
theorem wq_wsX20 : ∀ w ∈ wsX20, w ∈ lw_tbl := fun w h => (goodIn_p wsX20 [] (by decide +kernel) (by decide +kernel) w h).1
set_option maxRecDepth 20000 in
theorem wq_wsX30 : ∀ w ∈ wsX30, w ∈ lw_tbl := fun w h => (goodIn_p wsX30 [] (by decide +kernel) (by decide +kernel) w h).1
set_option maxRecDepth 20000 in
theorem wq_wsX10 : ∀ w ∈ wsX10, w ∈ lw_tbl := fun w h => (goodIn_p wsX10 [] (by decide +kernel) (by decide +kernel) w h).1
set_option maxRecDepth 20000 in
theorem wq_wsX00 : ∀ w ∈ wsX00, w ∈ lw_tbl := fun w h => (goodIn_p wsX00 [] (by decide +kernel) (by decide +kernel) w h).1
theorem wsL_law_in : ∀ w ∈ wsL_law, w ∈ lw_tbl := by
  unfold wsL_law
  exact List.forall_mem_append.mpr ⟨List.forall_mem_append.mpr ⟨List.forall_mem_append.mpr ⟨List.forall_mem_append.mpr ⟨List.forall_mem_append.mpr ⟨List.forall_mem_append.mpr ⟨List.forall_mem_append.mpr ⟨List.forall_mem_append.mpr ⟨List.forall_mem_append.mpr ⟨List.forall_mem_append.mpr ⟨wq_1, List.forall_mem_append.mpr ⟨wq_2, List.forall_mem_append.mpr ⟨wq_3, List.forall_mem_append.mpr ⟨wq_4, List.forall_mem_append.mpr ⟨wq_5, List.forall_mem_append.mpr ⟨wq_6, List.forall_mem_append.mpr ⟨wq_7, List.forall_mem_append.mpr ⟨wq_8, List.forall_mem_append.mpr ⟨wq_9, List.forall_mem_append.mpr ⟨wq_10, List.forall_mem_append.mpr ⟨wq_11, List.forall_mem_append.mpr ⟨wq_12, List.forall_mem_append.mpr ⟨wq_13, List.forall_mem_append.mpr ⟨wq_14, List.forall_mem_append.mpr ⟨wq_15, List.forall_mem_append.mpr ⟨wq_16, List.forall_mem_append.mpr ⟨wq_17, List.forall_mem_append.mpr ⟨wq_18, List.forall_mem_append.mpr ⟨wq_19, List.forall_mem_append.mpr ⟨wq_20, List.forall_mem_append.mpr ⟨wq_21, List.forall_mem_append.mpr ⟨wq_22, List.forall_mem_append.mpr ⟨wq_23, List.forall_mem_append.mpr ⟨wq_24, List.forall_mem_append.mpr ⟨wq_25, List.forall_mem_append.mpr ⟨wq_26, List.forall_mem_append.mpr ⟨wq_27, List.forall_mem_append.mpr ⟨wq_28, List.forall_mem_append.mpr ⟨wq_29, wq_30⟩⟩⟩⟩⟩⟩⟩⟩⟩⟩⟩⟩⟩⟩⟩⟩⟩⟩⟩⟩⟩⟩⟩⟩⟩⟩⟩⟩⟩, wq_wsX60⟩, wq_wsX70⟩, wq_wsX40⟩, wq_wsX50⟩, wq_wsX20⟩, wq_wsX30⟩, wq_wsX10⟩, wq_wsX00⟩, fun _ h => absurd h List.not_mem_nil⟩
