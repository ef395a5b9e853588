/-! The words of the class are words of the tables. -/
set_option maxRecDepth 100000 in
theorem gwi_0 : ∀ v ∈ gw_0, v ∈ lw_tbl := fun w h => (goodIn_p gw_0 [44, 335, 450, 362, 523, 402, 358, 281, 502, 312, 627] (by decide +kernel) (by decide +kernel) w h).1
set_option maxRecDepth 100000 in
theorem gwi_1 : ∀ v ∈ gw_1, v ∈ lw_tbl := fun w h => (goodIn_p gw_1 [255, 550, 546, 447, 538, 542, 535, 531, 324, 429, 332, 425] (by decide +kernel) (by decide +kernel) w h).1
set_option maxRecDepth 100000 in
theorem gwi_2 : ∀ v ∈ gw_2, v ∈ lw_tbl := fun w h => (goodIn_p gw_2 [434, 472, 381, 385, 485, 377, 561, 438, 49, 108, 151, 223] (by decide +kernel) (by decide +kernel) w h).1
set_option maxRecDepth 100000 in
theorem gwi_3 : ∀ v ∈ gw_3, v ∈ lw_tbl := fun w h => (goodIn_p gw_3 [243, 251, 275, 286, 555, 354, 512, 518, 527, 570, 373, 584, 593] (by decide +kernel) (by decide +kernel) w h).1
