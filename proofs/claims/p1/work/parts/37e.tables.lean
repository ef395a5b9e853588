/-! The pool's words are words of the tables. -/
set_option maxRecDepth 100000 in
theorem gwi_12_s0 : ∀ v ∈ (gw_12.drop 0).take 5, v ∈ lw_tbl := fun w h => (goodIn_p ((gw_12.drop 0).take 5) [1177] (by decide +kernel) (by decide +kernel) w h).1
set_option maxRecDepth 100000 in
theorem gwi_12_s1 : ∀ v ∈ (gw_12.drop 6).take 6, v ∈ lw_tbl := fun w h => (goodIn_p ((gw_12.drop 6).take 6) [1190] (by decide +kernel) (by decide +kernel) w h).1
set_option maxRecDepth 100000 in
theorem gwi_12_s2 : ∀ v ∈ (gw_12.drop 13).take 6, v ∈ lw_tbl := fun w h => (goodIn_p ((gw_12.drop 13).take 6) [1211] (by decide +kernel) (by decide +kernel) w h).1
set_option maxRecDepth 100000 in
theorem gwi_12_s3 : ∀ v ∈ (gw_12.drop 20).take 6, v ∈ lw_tbl := fun w h => (goodIn_p ((gw_12.drop 20).take 6) [1227] (by decide +kernel) (by decide +kernel) w h).1
set_option maxRecDepth 100000 in
theorem gwi_12_s4 : ∀ v ∈ (gw_12.drop 27).take 6, v ∈ lw_tbl := fun w h => (goodIn_p ((gw_12.drop 27).take 6) [1244] (by decide +kernel) (by decide +kernel) w h).1
set_option maxRecDepth 100000 in
theorem gwi_12_s5 : ∀ v ∈ (gw_12.drop 34).take 6, v ∈ lw_tbl := fun w h => (goodIn_p ((gw_12.drop 34).take 6) [1252] (by decide +kernel) (by decide +kernel) w h).1
set_option maxRecDepth 100000 in
theorem gwi_12_s6 : ∀ v ∈ (gw_12.drop 41).take 6, v ∈ lw_tbl := fun w h => (goodIn_p ((gw_12.drop 41).take 6) [1267] (by decide +kernel) (by decide +kernel) w h).1
set_option maxRecDepth 100000 in
theorem gwi_12_s7 : ∀ v ∈ (gw_12.drop 48).take 6, v ∈ lw_tbl := fun w h => (goodIn_p ((gw_12.drop 48).take 6) [1279] (by decide +kernel) (by decide +kernel) w h).1
set_option maxRecDepth 100000 in
theorem gwi_12_s8 : ∀ v ∈ (gw_12.drop 55).take 5, v ∈ lw_tbl := fun w h => (goodIn_p ((gw_12.drop 55).take 5) [1287] (by decide +kernel) (by decide +kernel) w h).1
set_option maxRecDepth 100000 in
theorem gwi_12_c0 : Cond.codeWith yL_document cL_document 3 (some .int) [(0, 8, 11, 15)] ∈ lw_tbl := List.mem_of_getElem? (i := 696) rfl
set_option maxRecDepth 100000 in
theorem gwi_12_c1 : Cond.codeWith yL_write cL_write 7 (some .int) [(0, 14, 17, 21), (0, 14, 21, 13), (0, 14, 25, 15)] ∈ lw_tbl := List.mem_of_getElem? (i := 708) rfl
set_option maxRecDepth 100000 in
theorem gwi_12_c2 : Cond.codeWith yL_cut cL_cut 5 (some .int) [(0, 10, 13, 21), (0, 10, 17, 15)] ∈ lw_tbl := List.mem_of_getElem? (i := 726) rfl
set_option maxRecDepth 100000 in
theorem gwi_12_c3 : Cond.codeWith yL_approve cL_approve 5 (some .int) [(0, 10, 13, 21), (0, 10, 17, 15)] ∈ lw_tbl := List.mem_of_getElem? (i := 738) rfl
set_option maxRecDepth 100000 in
theorem gwi_12_c4 : Cond.codeWith yL_use cL_use 6 (some .int) [(0, 12, 15, 21)] ∈ lw_tbl := List.mem_of_getElem? (i := 751) rfl
set_option maxRecDepth 100000 in
theorem gwi_12_c5 : Cond.codeWith yL_ofText cL_ofText 6 (some .int) [(0, 12, 15, 21), (0, 12, 19, 13)] ∈ lw_tbl := List.mem_of_getElem? (i := 755) rfl
set_option maxRecDepth 100000 in
theorem gwi_12_c6 : Cond.codeWith yL_agreement cL_agreement 4 (some .int) [(0, 9, 12, 21)] ∈ lw_tbl := List.mem_of_getElem? (i := 759) rfl
set_option maxRecDepth 100000 in
theorem gwi_12_c7 : Cond.codeWith yL_pass cL_pass 4 (some .int) [(0, 9, 12, 13), (0, 9, 15, 15)] ∈ lw_tbl := List.mem_of_getElem? (i := 763) rfl
set_option maxRecDepth 100000 in
theorem gwi_12 : ∀ v ∈ gw_12, v ∈ lw_tbl := by
  have e : gw_12 = (gw_12.drop 0).take 5 ++ (Cond.codeWith yL_document cL_document 3 (some .int) [(0, 8, 11, 15)] :: ((gw_12.drop 6).take 6 ++ (Cond.codeWith yL_write cL_write 7 (some .int) [(0, 14, 17, 21), (0, 14, 21, 13), (0, 14, 25, 15)] :: ((gw_12.drop 13).take 6 ++ (Cond.codeWith yL_cut cL_cut 5 (some .int) [(0, 10, 13, 21), (0, 10, 17, 15)] :: ((gw_12.drop 20).take 6 ++ (Cond.codeWith yL_approve cL_approve 5 (some .int) [(0, 10, 13, 21), (0, 10, 17, 15)] :: ((gw_12.drop 27).take 6 ++ (Cond.codeWith yL_use cL_use 6 (some .int) [(0, 12, 15, 21)] :: ((gw_12.drop 34).take 6 ++ (Cond.codeWith yL_ofText cL_ofText 6 (some .int) [(0, 12, 15, 21), (0, 12, 19, 13)] :: ((gw_12.drop 41).take 6 ++ (Cond.codeWith yL_agreement cL_agreement 4 (some .int) [(0, 9, 12, 21)] :: ((gw_12.drop 48).take 6 ++ (Cond.codeWith yL_pass cL_pass 4 (some .int) [(0, 9, 12, 13), (0, 9, 15, 15)] :: ((gw_12.drop 55).take 5)))))))))))))))) := rfl
  rw [e]
  exact List.forall_mem_append.mpr ⟨gwi_12_s0, List.forall_mem_cons.mpr ⟨gwi_12_c0, List.forall_mem_append.mpr ⟨gwi_12_s1, List.forall_mem_cons.mpr ⟨gwi_12_c1, List.forall_mem_append.mpr ⟨gwi_12_s2, List.forall_mem_cons.mpr ⟨gwi_12_c2, List.forall_mem_append.mpr ⟨gwi_12_s3, List.forall_mem_cons.mpr ⟨gwi_12_c3, List.forall_mem_append.mpr ⟨gwi_12_s4, List.forall_mem_cons.mpr ⟨gwi_12_c4, List.forall_mem_append.mpr ⟨gwi_12_s5, List.forall_mem_cons.mpr ⟨gwi_12_c5, List.forall_mem_append.mpr ⟨gwi_12_s6, List.forall_mem_cons.mpr ⟨gwi_12_c6, List.forall_mem_append.mpr ⟨gwi_12_s7, List.forall_mem_cons.mpr ⟨gwi_12_c7, gwi_12_s8⟩⟩⟩⟩⟩⟩⟩⟩⟩⟩⟩⟩⟩⟩⟩⟩
set_option maxRecDepth 100000 in
theorem gwi_13_s0 : ∀ v ∈ (gw_13.drop 0).take 1, v ∈ lw_tbl := fun w h => (goodIn_p ((gw_13.drop 0).take 1) [] (by decide +kernel) (by decide +kernel) w h).1
set_option maxRecDepth 100000 in
theorem gwi_13_s1 : ∀ v ∈ (gw_13.drop 2).take 14, v ∈ lw_tbl := fun w h => (goodIn_p ((gw_13.drop 2).take 14) [1291, 195, 1303] (by decide +kernel) (by decide +kernel) w h).1
set_option maxRecDepth 100000 in
theorem gwi_13_s2 : ∀ v ∈ (gw_13.drop 17).take 6, v ∈ lw_tbl := fun w h => (goodIn_p ((gw_13.drop 17).take 6) [1307] (by decide +kernel) (by decide +kernel) w h).1
set_option maxRecDepth 100000 in
theorem gwi_13_s3 : ∀ v ∈ (gw_13.drop 24).take 6, v ∈ lw_tbl := fun w h => (goodIn_p ((gw_13.drop 24).take 6) [1315] (by decide +kernel) (by decide +kernel) w h).1
set_option maxRecDepth 100000 in
theorem gwi_13_s4 : ∀ v ∈ (gw_13.drop 31).take 6, v ∈ lw_tbl := fun w h => (goodIn_p ((gw_13.drop 31).take 6) [1319] (by decide +kernel) (by decide +kernel) w h).1
set_option maxRecDepth 100000 in
theorem gwi_13_s5 : ∀ v ∈ (gw_13.drop 38).take 12, v ∈ lw_tbl := fun w h => (goodIn_p ((gw_13.drop 38).take 12) [1330, 234, 1348] (by decide +kernel) (by decide +kernel) w h).1
set_option maxRecDepth 100000 in
theorem gwi_13_c0 : Cond.codeWith yL_many cL_many 4 (some .int) [(0, 9, 12, 13)] ∈ lw_tbl := List.mem_of_getElem? (i := 771) rfl
set_option maxRecDepth 100000 in
theorem gwi_13_c1 : Cond.codeWith yL_reopenedBy cL_reopenedBy 4 (some .int) [(0, 9, 12, 21)] ∈ lw_tbl := List.mem_of_getElem? (i := 775) rfl
set_option maxRecDepth 100000 in
theorem gwi_13_c2 : Cond.codeWith yL_reopenedIn cL_reopenedIn 4 (some .int) [(0, 9, 12, 13)] ∈ lw_tbl := List.mem_of_getElem? (i := 779) rfl
set_option maxRecDepth 100000 in
theorem gwi_13_c3 : Cond.codeWith yL_changedBy cL_changedBy 5 (some .int) [(0, 10, 13, 21), (0, 10, 17, 13)] ∈ lw_tbl := List.mem_of_getElem? (i := 783) rfl
set_option maxRecDepth 100000 in
theorem gwi_13_c4 : Cond.codeWith yL_formFor cL_formFor 7 (some .int) [(0, 14, 17, 21)] ∈ lw_tbl := List.mem_of_getElem? (i := 794) rfl
set_option maxRecDepth 100000 in
theorem gwi_13 : ∀ v ∈ gw_13, v ∈ lw_tbl := by
  have e : gw_13 = (gw_13.drop 0).take 1 ++ (Cond.codeWith yL_many cL_many 4 (some .int) [(0, 9, 12, 13)] :: ((gw_13.drop 2).take 14 ++ (Cond.codeWith yL_reopenedBy cL_reopenedBy 4 (some .int) [(0, 9, 12, 21)] :: ((gw_13.drop 17).take 6 ++ (Cond.codeWith yL_reopenedIn cL_reopenedIn 4 (some .int) [(0, 9, 12, 13)] :: ((gw_13.drop 24).take 6 ++ (Cond.codeWith yL_changedBy cL_changedBy 5 (some .int) [(0, 10, 13, 21), (0, 10, 17, 13)] :: ((gw_13.drop 31).take 6 ++ (Cond.codeWith yL_formFor cL_formFor 7 (some .int) [(0, 14, 17, 21)] :: ((gw_13.drop 38).take 12)))))))))) := rfl
  rw [e]
  exact List.forall_mem_append.mpr ⟨gwi_13_s0, List.forall_mem_cons.mpr ⟨gwi_13_c0, List.forall_mem_append.mpr ⟨gwi_13_s1, List.forall_mem_cons.mpr ⟨gwi_13_c1, List.forall_mem_append.mpr ⟨gwi_13_s2, List.forall_mem_cons.mpr ⟨gwi_13_c2, List.forall_mem_append.mpr ⟨gwi_13_s3, List.forall_mem_cons.mpr ⟨gwi_13_c3, List.forall_mem_append.mpr ⟨gwi_13_s4, List.forall_mem_cons.mpr ⟨gwi_13_c4, gwi_13_s5⟩⟩⟩⟩⟩⟩⟩⟩⟩⟩
