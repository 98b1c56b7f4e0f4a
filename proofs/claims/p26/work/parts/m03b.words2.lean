set_option maxRecDepth 20000 in
theorem lc_5 : ∀ w ∈ wsL_law_r5, w ∈ lw_tbl := fun w h => (goodIn_r wsL_law_r5 [230, 231, 232, 255, 256, 257, 258, 259, 260, 261, 262, 263, 58, 264, 265, 266, 267, 269, 270, 272, 273, 275, 276, 277] (by decide +kernel) (by decide +kernel) w h).1
set_option maxRecDepth 20000 in
theorem lc_6 : ∀ w ∈ wsL_law_r6, w ∈ lw_tbl := fun w h => (goodIn_r wsL_law_r6 [279, 0, 280, 281, 283, 1, 284, 286, 287, 416, 417, 418, 288, 289, 290, 291, 292, 293, 294, 295, 131, 132, 133, 134] (by decide +kernel) (by decide +kernel) w h).1
set_option maxRecDepth 20000 in
theorem lc_7 : ∀ w ∈ wsL_law_r7, w ∈ lw_tbl := fun w h => (goodIn_r wsL_law_r7 [135, 136, 296, 297, 298, 299, 300, 302, 2, 303, 304, 419, 420, 421, 226, 227, 228, 229, 234, 235, 236, 237, 238, 239] (by decide +kernel) (by decide +kernel) w h).1
set_option maxRecDepth 20000 in
theorem lc_8 : ∀ w ∈ wsL_law_r8, w ∈ lw_tbl := fun w h => (goodIn_r wsL_law_r8 [240, 241, 86, 88, 89, 242, 243, 244, 245, 246, 247, 248, 249, 250, 514, 515, 516, 565, 566, 567, 568, 569, 570, 571] (by decide +kernel) (by decide +kernel) w h).1
