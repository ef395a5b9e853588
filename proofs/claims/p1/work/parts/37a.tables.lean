/-! The pool's words are words of the tables. -/
set_option maxRecDepth 100000 in
theorem gwi_0 : ∀ v ∈ gw_0, v ∈ lw_tbl := fun w h => (goodIn_p (gw_0) [92, 218, 454, 364, 568, 413, 230, 540, 598, 320, 667] (by decide +kernel) (by decide +kernel) w h).1
set_option maxRecDepth 100000 in
theorem gwi_1 : ∀ v ∈ gw_1, v ∈ lw_tbl := fun w h => (goodIn_p (gw_1) [403, 595, 591, 451, 583, 587, 580, 576, 203, 226, 215, 222] (by decide +kernel) (by decide +kernel) w h).1
set_option maxRecDepth 100000 in
theorem gwi_2 : ∀ v ∈ gw_2, v ∈ lw_tbl := fun w h => (goodIn_p (gw_2) [442, 476, 383, 387, 489, 379, 608, 211, 97, 156, 502, 507] (by decide +kernel) (by decide +kernel) w h).1
