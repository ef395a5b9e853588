/-! The pool's words are words of the tables. -/
set_option maxRecDepth 100000 in
theorem gwi_6 : ∀ v ∈ gw_6, v ∈ lw_tbl := fun w h => (goodIn_p (gw_6) [371, 395, 422, 459, 240, 336, 391, 417, 468, 480, 816, 813] (by decide +kernel) (by decide +kernel) w h).1
set_option maxRecDepth 100000 in
theorem gwi_7 : ∀ v ∈ gw_7, v ∈ lw_tbl := fun w h => (goodIn_p (gw_7) [810, 872, 1083, 1122, 864, 958, 887, 884, 908, 904] (by decide +kernel) (by decide +kernel) w h).1
set_option maxRecDepth 100000 in
theorem gwi_8 : ∀ v ∈ gw_8, v ∈ lw_tbl := fun w h => (goodIn_p (gw_8) [900, 868, 875, 896, 1008, 955, 1003, 1032, 1057, 1079, 1196] (by decide +kernel) (by decide +kernel) w h).1
