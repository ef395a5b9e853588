/-! The pool's words are words of the tables. -/
set_option maxRecDepth 100000 in
theorem gwi_3 : ∀ v ∈ gw_3, v ∈ lw_tbl := fun w h => (goodIn_p (gw_3) [527, 399, 435, 545, 602, 344, 557, 563, 572, 620, 375, 635, 647] (by decide +kernel) (by decide +kernel) w h).1
set_option maxRecDepth 100000 in
theorem gwi_4 : ∀ v ∈ gw_4, v ∈ lw_tbl := fun w h => (goodIn_p (gw_4) [244, 332, 409, 678, 683, 691, 705, 430, 426, 716, 463] (by decide +kernel) (by decide +kernel) w h).1
set_option maxRecDepth 100000 in
theorem gwi_5 : ∀ v ∈ gw_5, v ∈ lw_tbl := fun w h => (goodIn_p (gw_5) [722, 735, 746, 447, 472, 484, 316, 324, 328, 199, 207, 791, 340] (by decide +kernel) (by decide +kernel) w h).1
