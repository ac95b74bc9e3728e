set_option maxRecDepth 20000 in
theorem wq_11 : ∀ w ∈ wsL_law_r11, w ∈ lw_tbl := fun w h => (goodIn_p wsL_law_r11 [329, 333, 337, 341, 344, 348] (by decide +kernel) (by decide +kernel) w h).1
set_option maxRecDepth 20000 in
theorem wq_12 : ∀ w ∈ wsL_law_r12, w ∈ lw_tbl := fun w h => (goodIn_p wsL_law_r12 [352, 356, 731, 735, 360, 364] (by decide +kernel) (by decide +kernel) w h).1
set_option maxRecDepth 20000 in
theorem wq_13 : ∀ w ∈ wsL_law_r13, w ∈ lw_tbl := fun w h => (goodIn_p wsL_law_r13 [740, 744, 368, 371, 374, 378] (by decide +kernel) (by decide +kernel) w h).1
set_option maxRecDepth 20000 in
theorem wq_14 : ∀ w ∈ wsL_law_r14, w ∈ lw_tbl := fun w h => (goodIn_p wsL_law_r14 [382, 385, 748, 752, 389, 756] (by decide +kernel) (by decide +kernel) w h).1
set_option maxRecDepth 20000 in
theorem wq_15 : ∀ w ∈ wsL_law_r15, w ∈ lw_tbl := fun w h => (goodIn_p wsL_law_r15 [760, 394, 765, 398, 402, 406] (by decide +kernel) (by decide +kernel) w h).1
set_option maxRecDepth 20000 in
theorem wq_16 : ∀ w ∈ wsL_law_r16, w ∈ lw_tbl := fun w h => (goodIn_p wsL_law_r16 [410, 414, 417, 769, 773, 777] (by decide +kernel) (by decide +kernel) w h).1
set_option maxRecDepth 20000 in
theorem wq_17 : ∀ w ∈ wsL_law_r17, w ∈ lw_tbl := fun w h => (goodIn_p wsL_law_r17 [781, 784, 421, 425, 429, 433] (by decide +kernel) (by decide +kernel) w h).1
set_option maxRecDepth 20000 in
theorem wq_18 : ∀ w ∈ wsL_law_r18, w ∈ lw_tbl := fun w h => (goodIn_p wsL_law_r18 [438, 442, 445, 450, 454] (by decide +kernel) (by decide +kernel) w h).1
set_option maxRecDepth 20000 in
theorem wq_19 : ∀ w ∈ wsL_law_r19, w ∈ lw_tbl := fun w h => (goodIn_p wsL_law_r19 [458, 462, 466, 470, 474, 478] (by decide +kernel) (by decide +kernel) w h).1
set_option maxRecDepth 20000 in
theorem wq_20 : ∀ w ∈ wsL_law_r20, w ∈ lw_tbl := fun w h => (goodIn_p wsL_law_r20 [482, 486, 490, 494, 497, 500, 504] (by decide +kernel) (by decide +kernel) w h).1
