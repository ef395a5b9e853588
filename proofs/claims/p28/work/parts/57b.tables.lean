/-! The words of the class are words of the tables. -/
set_option maxRecDepth 100000 in
theorem gwi_4 : ∀ v ∈ gw_4, v ∈ lw_tbl := fun w h => (goodIn_p gw_4 [303, 328, 398, 601, 606, 622, 295, 419, 415, 671, 459] (by decide +kernel) (by decide +kernel) w h).1
set_option maxRecDepth 100000 in
theorem gwi_5 : ∀ v ∈ gw_5, v ∈ lw_tbl := fun w h => (goodIn_p gw_5 [682, 659, 647, 443, 468, 480, 308, 316, 320, 701, 705, 613, 350] (by decide +kernel) (by decide +kernel) w h).1
set_option maxRecDepth 100000 in
theorem gwi_6 : ∀ v ∈ gw_6, v ∈ lw_tbl := fun w h => (goodIn_p gw_6 [369, 393, 411, 455, 299, 346, 389, 406, 464, 476, 667, 676, 247, 507, 565, 578] (by decide +kernel) (by decide +kernel) w h).1
set_option maxRecDepth 100000 in
theorem gwi_7 : ∀ v ∈ gw_7, v ∈ lw_tbl := fun w h => (goodIn_p gw_7 [588, 597, 617, 631, 638, 643, 654, 697, 41, 147, 290, 339, 488] (by decide +kernel) (by decide +kernel) w h).1
