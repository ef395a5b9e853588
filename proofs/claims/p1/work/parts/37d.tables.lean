/-! The pool's words are words of the tables. -/
set_option maxRecDepth 100000 in
theorem gwi_9 : ∀ v ∈ gw_9, v ∈ lw_tbl := fun w h => (goodIn_p (gw_9) [1219, 1215, 1256, 1299, 1295, 1353, 498, 535, 552, 615, 629, 642, 662] (by decide +kernel) (by decide +kernel) w h).1
set_option maxRecDepth 100000 in
theorem gwi_10_s0 : ∀ v ∈ (gw_10.drop 0).take 51, v ∈ lw_tbl := fun w h => (goodIn_p ((gw_10.drop 0).take 51) [674, 700, 712, 730, 742, 767, 787, 798, 89, 804] (by decide +kernel) (by decide +kernel) w h).1
set_option maxRecDepth 100000 in
theorem gwi_10_s1 : ∀ v ∈ (gw_10.drop 52).take 8, v ∈ lw_tbl := fun w h => (goodIn_p ((gw_10.drop 52).take 8) [861, 857] (by decide +kernel) (by decide +kernel) w h).1
set_option maxRecDepth 100000 in
theorem gwi_10_c0 : Cond.codeWith yL_concept cL_concept 4 (some .int) [(0, 9, 12, 13), (0, 9, 15, 15)] ∈ lw_tbl := List.mem_of_getElem? (i := 492) rfl
set_option maxRecDepth 100000 in
theorem gwi_10 : ∀ v ∈ gw_10, v ∈ lw_tbl := by
  have e : gw_10 = (gw_10.drop 0).take 51 ++ (Cond.codeWith yL_concept cL_concept 4 (some .int) [(0, 9, 12, 13), (0, 9, 15, 15)] :: ((gw_10.drop 52).take 8)) := rfl
  rw [e]
  exact List.forall_mem_append.mpr ⟨gwi_10_s0, List.forall_mem_cons.mpr ⟨gwi_10_c0, gwi_10_s1⟩⟩
set_option maxRecDepth 100000 in
theorem gwi_11_s0 : ∀ v ∈ (gw_11.drop 0).take 2, v ∈ lw_tbl := fun w h => (goodIn_p ((gw_11.drop 0).take 2) [] (by decide +kernel) (by decide +kernel) w h).1
set_option maxRecDepth 100000 in
theorem gwi_11_s1 : ∀ v ∈ (gw_11.drop 3).take 6, v ∈ lw_tbl := fun w h => (goodIn_p ((gw_11.drop 3).take 6) [951] (by decide +kernel) (by decide +kernel) w h).1
set_option maxRecDepth 100000 in
theorem gwi_11_s2 : ∀ v ∈ (gw_11.drop 10).take 6, v ∈ lw_tbl := fun w h => (goodIn_p ((gw_11.drop 10).take 6) [1053] (by decide +kernel) (by decide +kernel) w h).1
set_option maxRecDepth 100000 in
theorem gwi_11_s3 : ∀ v ∈ (gw_11.drop 17).take 6, v ∈ lw_tbl := fun w h => (goodIn_p ((gw_11.drop 17).take 6) [1126] (by decide +kernel) (by decide +kernel) w h).1
set_option maxRecDepth 100000 in
theorem gwi_11_s4 : ∀ v ∈ (gw_11.drop 24).take 6, v ∈ lw_tbl := fun w h => (goodIn_p ((gw_11.drop 24).take 6) [1134] (by decide +kernel) (by decide +kernel) w h).1
set_option maxRecDepth 100000 in
theorem gwi_11_s5 : ∀ v ∈ (gw_11.drop 31).take 6, v ∈ lw_tbl := fun w h => (goodIn_p ((gw_11.drop 31).take 6) [1141] (by decide +kernel) (by decide +kernel) w h).1
set_option maxRecDepth 100000 in
theorem gwi_11_s6 : ∀ v ∈ (gw_11.drop 38).take 6, v ∈ lw_tbl := fun w h => (goodIn_p ((gw_11.drop 38).take 6) [1145] (by decide +kernel) (by decide +kernel) w h).1
set_option maxRecDepth 100000 in
theorem gwi_11_s7 : ∀ v ∈ (gw_11.drop 45).take 6, v ∈ lw_tbl := fun w h => (goodIn_p ((gw_11.drop 45).take 6) [1157] (by decide +kernel) (by decide +kernel) w h).1
set_option maxRecDepth 100000 in
theorem gwi_11_s8 : ∀ v ∈ (gw_11.drop 52).take 6, v ∈ lw_tbl := fun w h => (goodIn_p ((gw_11.drop 52).take 6) [1173] (by decide +kernel) (by decide +kernel) w h).1
set_option maxRecDepth 100000 in
theorem gwi_11_s9 : ∀ v ∈ (gw_11.drop 59).take 1, v ∈ lw_tbl := fun w h => (goodIn_p ((gw_11.drop 59).take 1) [] (by decide +kernel) (by decide +kernel) w h).1
set_option maxRecDepth 100000 in
theorem gwi_11_c0 : Cond.codeWith yL_term cL_term 6 (some .int) [(0, 12, 15, 21), (0, 12, 19, 13), (0, 12, 23, 15)] ∈ lw_tbl := List.mem_of_getElem? (i := 530) rfl
set_option maxRecDepth 100000 in
theorem gwi_11_c1 : Cond.codeWith yL_vote cL_vote 6 (some .int) [(0, 12, 15, 21), (0, 12, 19, 15)] ∈ lw_tbl := List.mem_of_getElem? (i := 548) rfl
set_option maxRecDepth 100000 in
theorem gwi_11_c2 : Cond.codeWith yL_prefer cL_prefer 4 (some .int) [(0, 9, 12, 21), (0, 9, 15, 15)] ∈ lw_tbl := List.mem_of_getElem? (i := 611) rfl
set_option maxRecDepth 100000 in
theorem gwi_11_c3 : Cond.codeWith yL_ban cL_ban 5 (some .int) [(0, 10, 13, 21), (0, 10, 17, 13), (0, 10, 21, 15)] ∈ lw_tbl := List.mem_of_getElem? (i := 625) rfl
set_option maxRecDepth 100000 in
theorem gwi_11_c4 : Cond.codeWith yL_allow cL_allow 4 (some .int) [(0, 9, 12, 21), (0, 9, 15, 15)] ∈ lw_tbl := List.mem_of_getElem? (i := 638) rfl
set_option maxRecDepth 100000 in
theorem gwi_11_c5 : Cond.codeWith yL_ofTerm cL_ofTerm 5 (some .int) [(0, 10, 13, 21), (0, 10, 17, 13)] ∈ lw_tbl := List.mem_of_getElem? (i := 650) rfl
set_option maxRecDepth 100000 in
theorem gwi_11_c6 : Cond.codeWith yL_ofConcept cL_ofConcept 5 (some .int) [(0, 10, 13, 21), (0, 10, 17, 13)] ∈ lw_tbl := List.mem_of_getElem? (i := 654) rfl
set_option maxRecDepth 100000 in
theorem gwi_11_c7 : Cond.codeWith yL_split cL_split 6 (some .int) [(0, 12, 15, 21), (0, 12, 19, 13), (0, 12, 23, 15)] ∈ lw_tbl := List.mem_of_getElem? (i := 658) rfl
set_option maxRecDepth 100000 in
theorem gwi_11_c8 : Cond.codeWith yL_join cL_join 5 (some .int) [(0, 10, 13, 21), (0, 10, 17, 13), (0, 10, 21, 15)] ∈ lw_tbl := List.mem_of_getElem? (i := 670) rfl
set_option maxRecDepth 100000 in
theorem gwi_11 : ∀ v ∈ gw_11, v ∈ lw_tbl := by
  have e : gw_11 = (gw_11.drop 0).take 2 ++ (Cond.codeWith yL_term cL_term 6 (some .int) [(0, 12, 15, 21), (0, 12, 19, 13), (0, 12, 23, 15)] :: ((gw_11.drop 3).take 6 ++ (Cond.codeWith yL_vote cL_vote 6 (some .int) [(0, 12, 15, 21), (0, 12, 19, 15)] :: ((gw_11.drop 10).take 6 ++ (Cond.codeWith yL_prefer cL_prefer 4 (some .int) [(0, 9, 12, 21), (0, 9, 15, 15)] :: ((gw_11.drop 17).take 6 ++ (Cond.codeWith yL_ban cL_ban 5 (some .int) [(0, 10, 13, 21), (0, 10, 17, 13), (0, 10, 21, 15)] :: ((gw_11.drop 24).take 6 ++ (Cond.codeWith yL_allow cL_allow 4 (some .int) [(0, 9, 12, 21), (0, 9, 15, 15)] :: ((gw_11.drop 31).take 6 ++ (Cond.codeWith yL_ofTerm cL_ofTerm 5 (some .int) [(0, 10, 13, 21), (0, 10, 17, 13)] :: ((gw_11.drop 38).take 6 ++ (Cond.codeWith yL_ofConcept cL_ofConcept 5 (some .int) [(0, 10, 13, 21), (0, 10, 17, 13)] :: ((gw_11.drop 45).take 6 ++ (Cond.codeWith yL_split cL_split 6 (some .int) [(0, 12, 15, 21), (0, 12, 19, 13), (0, 12, 23, 15)] :: ((gw_11.drop 52).take 6 ++ (Cond.codeWith yL_join cL_join 5 (some .int) [(0, 10, 13, 21), (0, 10, 17, 13), (0, 10, 21, 15)] :: ((gw_11.drop 59).take 1)))))))))))))))))) := rfl
  rw [e]
  exact List.forall_mem_append.mpr ⟨gwi_11_s0, List.forall_mem_cons.mpr ⟨gwi_11_c0, List.forall_mem_append.mpr ⟨gwi_11_s1, List.forall_mem_cons.mpr ⟨gwi_11_c1, List.forall_mem_append.mpr ⟨gwi_11_s2, List.forall_mem_cons.mpr ⟨gwi_11_c2, List.forall_mem_append.mpr ⟨gwi_11_s3, List.forall_mem_cons.mpr ⟨gwi_11_c3, List.forall_mem_append.mpr ⟨gwi_11_s4, List.forall_mem_cons.mpr ⟨gwi_11_c4, List.forall_mem_append.mpr ⟨gwi_11_s5, List.forall_mem_cons.mpr ⟨gwi_11_c5, List.forall_mem_append.mpr ⟨gwi_11_s6, List.forall_mem_cons.mpr ⟨gwi_11_c6, List.forall_mem_append.mpr ⟨gwi_11_s7, List.forall_mem_cons.mpr ⟨gwi_11_c7, List.forall_mem_append.mpr ⟨gwi_11_s8, List.forall_mem_cons.mpr ⟨gwi_11_c8, gwi_11_s9⟩⟩⟩⟩⟩⟩⟩⟩⟩⟩⟩⟩⟩⟩⟩⟩⟩⟩
