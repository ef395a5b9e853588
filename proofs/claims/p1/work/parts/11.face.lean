theorem ok_X2_requireDomain : gOK yX2_requireDomain cX2_requireDomain 2 none 1 := ⟨gm_173, gm_18, by decide +kernel⟩
set_option maxRecDepth 100000 in
set_option maxHeartbeats 4000000 in
theorem c_X2_requireDomain (l : Launch) (w : GP) (f : CS) (x : Nat) (hI : gI f) (h : x < 4) : Met l yX2_requireDomain (gws yX2_requireDomain cX2_requireDomain 2 none) ({ frames := 0, cells := 0, slots := 0, locals := 0 }) (gPc w f [.ref (w.2.2.2 0), .int (nI x)]) gRv 0 0 (fun _ => False) := by
  refine g_read (by decide) (Nat.le_of_ble_eq_true rfl) ?_
  intro P_ E_ S_ M_ B_ T_ C_ ls G hV hl
  obtain ⟨hx, hb, hml, hown, hts⟩ := id G.1
  obtain ⟨⟨hT, hT24⟩, ⟨hC, hC12⟩, ⟨hD, hD6⟩, hLn⟩ := id hI
  have hl : lv_has ls 2 [(0, .ref (w.2.2.2 0)), (1, .int (nI x))] := hl
  refine lv_iload_n hx hb dX2_requireDomain_0 rfl (lv_at hl 1 rfl) ?_
  refine lv_if_lt (tgt := 9) hx hb dX2_requireDomain_1 (by decide) (fun c1 => ?_) (fun c1 => ?_)
  · skip
    have c1 : nI x < nI 0 := c1
    have c1 : x < 0 := (g_lt (by omega) (by omega)).mp c1
    exfalso; omega
  · skip
    have c1 : ¬ (nI x < nI 0) := c1
    have c1 : ¬ (x < 0) := fun q => c1 ((g_lt (by omega) (by omega)).mpr q)
    refine lv_iload_n hx hb dX2_requireDomain_4 rfl (lv_at hl 1 rfl) ?_
    refine lv_iconst (v := nI 4) hx hb dX2_requireDomain_5 (by decide) ?_
    refine lv_icmp_lt (tgt := 20) hx hb dX2_requireDomain_6 (by decide) (fun c6 => ?_) (fun c6 => ?_)
    · skip
      have c6 : x < 4 := (g_lt (by omega) (by omega)).mp c6
      exact g_vret G dX2_requireDomain_20
    · skip
      have c6 : ¬ (x < 4) := fun q => c6 ((g_lt (by omega) (by omega)).mpr q)
      exfalso; omega
theorem ok_X2_requireRoomForConcept : gOK yX2_requireRoomForConcept cX2_requireRoomForConcept 1 none 0 := ⟨gm_177, gm_18, by decide +kernel⟩
set_option maxRecDepth 100000 in
set_option maxHeartbeats 4000000 in
theorem c_X2_requireRoomForConcept (l : Launch) (w : GP) (f : CS)  (hI : gI f) (h : nC f < 12) : Met l yX2_requireRoomForConcept (gws yX2_requireRoomForConcept cX2_requireRoomForConcept 1 none) ({ frames := 0, cells := 0, slots := 0, locals := 0 }) (gPc w f [.ref (w.2.2.2 0)]) gRv 0 0 (fun _ => False) := by
  refine g_read (by decide) (Nat.le_of_ble_eq_true rfl) ?_
  intro P_ E_ S_ M_ B_ T_ C_ ls G hV hl
  obtain ⟨hx, hb, hml, hown, hts⟩ := id G.1
  obtain ⟨⟨hT, hT24⟩, ⟨hC, hC12⟩, ⟨hD, hD6⟩, hLn⟩ := id hI
  have hl : lv_has ls 1 [(0, .ref (w.2.2.2 0))] := hl
  refine lv_aload_n hx hb dX2_requireRoomForConcept_0 rfl (lv_at hl 0 rfl) ?_
  refine g_get hx hb hts hown hV 0 0 (by decide) (v := .ref (w.2.2.2 1)) rfl rfl gin2 (by decide) gm_155 (rfl) dX2_requireRoomForConcept_1 ?_
  refine g_get hx hb hts hown hV 1 0 (by decide) (v := .int (nI (nC f))) rfl rfl gin0 (by decide) gm_169 (by rw [← hC]; rfl) dX2_requireRoomForConcept_4 ?_
  refine lv_bipush (v := nI 12) hx hb dX2_requireRoomForConcept_7 (by decide) ?_
  refine lv_icmp_lt (tgt := 23) hx hb dX2_requireRoomForConcept_9 (by decide) (fun c9 => ?_) (fun c9 => ?_)
  · skip
    have c9 : (nC f) < 12 := (g_lt (by omega) (by omega)).mp c9
    exact g_vret G dX2_requireRoomForConcept_23
  · skip
    have c9 : ¬ ((nC f) < 12) := fun q => c9 ((g_lt (by omega) (by omega)).mpr q)
    exfalso; omega
theorem ok_X2_requireConcept : gOK yX2_requireConcept cX2_requireConcept 2 none 1 := ⟨gm_189, gm_18, by decide +kernel⟩
set_option maxRecDepth 100000 in
set_option maxHeartbeats 4000000 in
theorem c_X2_requireConcept (l : Launch) (w : GP) (f : CS) (x : Nat) (hI : gI f) (h : x < nC f) : Met l yX2_requireConcept (gws yX2_requireConcept cX2_requireConcept 2 none) ({ frames := 1, cells := 0, slots := 0, locals := 21 }) (gPc w f [.ref (w.2.2.2 0), .int (nI x)]) gRv 0 0 (fun _ => False) := by
  refine g_read (by decide) (Nat.le_of_ble_eq_true rfl) ?_
  intro P_ E_ S_ M_ B_ T_ C_ ls G hV hl
  obtain ⟨hx, hb, hml, hown, hts⟩ := id G.1
  obtain ⟨⟨hT, hT24⟩, ⟨hC, hC12⟩, ⟨hD, hD6⟩, hLn⟩ := id hI
  have hl : lv_has ls 2 [(0, .ref (w.2.2.2 0)), (1, .int (nI x))] := hl
  refine lv_aload_n hx hb dX2_requireConcept_0 rfl (lv_at hl 0 rfl) ?_
  refine g_get hx hb hts hown hV 0 0 (by decide) (v := .ref (w.2.2.2 1)) rfl rfl gin2 (by decide) gm_155 (rfl) dX2_requireConcept_1 ?_
  refine lv_iload_n hx hb dX2_requireConcept_4 rfl (lv_at hl 1 rfl) ?_
  refine g_callV (As := [.int (nI x)]) (rest := []) G.1 hV 1 (by decide) rfl rfl ok_X0_isConcept gm_60 gm_61 gm_184 (c_X0_isConcept l w f (nI x) hI ) ⟨rfl, rfl⟩ ⟨Nat.le_of_ble_eq_true rfl, Nat.le_of_ble_eq_true rfl⟩ rfl hl.1 rfl (Nat.le_of_ble_eq_true rfl) ⟨Nat.zero_le _, Nat.zero_le _⟩ dX2_requireConcept_5 ?_
  refine lv_if_ne (tgt := 22) hx hb dX2_requireConcept_8 (by decide) (fun c8 => ?_) (fun c8 => ?_)
  · skip
    have c8 : 0 ≤ (nI x) ∧ (nI x) < nI (nC f) := g_if1.mp c8
    exact g_vret G dX2_requireConcept_22
  · skip
    have c8 : ¬ (0 ≤ (nI x) ∧ (nI x) < nI (nC f)) := g_if0.mp c8
    exact absurd ⟨nI_pos' (by omega), (g_lt (by omega) (by omega)).mpr h⟩ c8
theorem ok_X2_requireTerm : gOK yX2_requireTerm cX2_requireTerm 2 none 1 := ⟨gm_210, gm_18, by decide +kernel⟩
set_option maxRecDepth 100000 in
set_option maxHeartbeats 4000000 in
theorem c_X2_requireTerm (l : Launch) (w : GP) (f : CS) (x : Nat) (hI : gI f) (h : x < nT f) : Met l yX2_requireTerm (gws yX2_requireTerm cX2_requireTerm 2 none) ({ frames := 1, cells := 0, slots := 0, locals := 21 }) (gPc w f [.ref (w.2.2.2 0), .int (nI x)]) gRv 0 0 (fun _ => False) := by
  refine g_read (by decide) (Nat.le_of_ble_eq_true rfl) ?_
  intro P_ E_ S_ M_ B_ T_ C_ ls G hV hl
  obtain ⟨hx, hb, hml, hown, hts⟩ := id G.1
  obtain ⟨⟨hT, hT24⟩, ⟨hC, hC12⟩, ⟨hD, hD6⟩, hLn⟩ := id hI
  have hl : lv_has ls 2 [(0, .ref (w.2.2.2 0)), (1, .int (nI x))] := hl
  refine lv_aload_n hx hb dX2_requireTerm_0 rfl (lv_at hl 0 rfl) ?_
  refine g_get hx hb hts hown hV 0 0 (by decide) (v := .ref (w.2.2.2 1)) rfl rfl gin2 (by decide) gm_155 (rfl) dX2_requireTerm_1 ?_
  refine lv_iload_n hx hb dX2_requireTerm_4 rfl (lv_at hl 1 rfl) ?_
  refine g_callV (As := [.int (nI x)]) (rest := []) G.1 hV 1 (by decide) rfl rfl ok_X0_isTerm gm_40 gm_41 gm_199 (c_X0_isTerm l w f (nI x) hI ) ⟨rfl, rfl⟩ ⟨Nat.le_of_ble_eq_true rfl, Nat.le_of_ble_eq_true rfl⟩ rfl hl.1 rfl (Nat.le_of_ble_eq_true rfl) ⟨Nat.zero_le _, Nat.zero_le _⟩ dX2_requireTerm_5 ?_
  refine lv_if_ne (tgt := 22) hx hb dX2_requireTerm_8 (by decide) (fun c8 => ?_) (fun c8 => ?_)
  · skip
    have c8 : 0 ≤ (nI x) ∧ (nI x) < nI (nT f) := g_if1.mp c8
    exact g_vret G dX2_requireTerm_22
  · skip
    have c8 : ¬ (0 ≤ (nI x) ∧ (nI x) < nI (nT f)) := g_if0.mp c8
    exact absurd ⟨nI_pos' (by omega), (g_lt (by omega) (by omega)).mpr h⟩ c8
theorem ok_X2_requireTwoConcepts : gOK yX2_requireTwoConcepts cX2_requireTwoConcepts 3 none 2 := ⟨gm_267, gm_18, by decide +kernel⟩
set_option maxRecDepth 100000 in
set_option maxHeartbeats 4000000 in
theorem c_X2_requireTwoConcepts (l : Launch) (w : GP) (f : CS) (x : Nat) (y : Nat) (hI : gI f) (h : x < nC f) (h2 : y < nC f) (h3 : ¬ x = y) : Met l yX2_requireTwoConcepts (gws yX2_requireTwoConcepts cX2_requireTwoConcepts 3 none) ({ frames := 2, cells := 0, slots := 0, locals := 42 }) (gPc w f [.ref (w.2.2.2 0), .int (nI x), .int (nI y)]) gRv 0 0 (fun _ => False) := by
  refine g_read (by decide) (Nat.le_of_ble_eq_true rfl) ?_
  intro P_ E_ S_ M_ B_ T_ C_ ls G hV hl
  obtain ⟨hx, hb, hml, hown, hts⟩ := id G.1
  obtain ⟨⟨hT, hT24⟩, ⟨hC, hC12⟩, ⟨hD, hD6⟩, hLn⟩ := id hI
  have hl : lv_has ls 3 [(0, .ref (w.2.2.2 0)), (1, .int (nI x)), (2, .int (nI y))] := hl
  refine lv_aload_n hx hb dX2_requireTwoConcepts_0 rfl (lv_at hl 0 rfl) ?_
  refine lv_iload_n hx hb dX2_requireTwoConcepts_1 rfl (lv_at hl 1 rfl) ?_
  refine g_callVv (As := [.int (nI x)]) (rest := []) G.1 hV 0 (by decide) rfl rfl ok_X2_requireConcept gm_187 gm_188 gm_186 (c_X2_requireConcept l w f x hI (by omega)) ⟨rfl, rfl⟩ ⟨Nat.le_of_ble_eq_true rfl, Nat.le_of_ble_eq_true rfl⟩ rfl hl.1 rfl (Nat.le_of_ble_eq_true rfl) ⟨Nat.zero_le _, Nat.zero_le _⟩ dX2_requireTwoConcepts_2 ?_
  refine lv_aload_n hx hb dX2_requireTwoConcepts_5 rfl (lv_at hl 0 rfl) ?_
  refine lv_iload_n hx hb dX2_requireTwoConcepts_6 rfl (lv_at hl 2 rfl) ?_
  refine g_callVv (As := [.int (nI y)]) (rest := []) G.1 hV 0 (by decide) rfl rfl ok_X2_requireConcept gm_187 gm_188 gm_186 (c_X2_requireConcept l w f y hI (by omega)) ⟨rfl, rfl⟩ ⟨Nat.le_of_ble_eq_true rfl, Nat.le_of_ble_eq_true rfl⟩ rfl hl.1 rfl (Nat.le_of_ble_eq_true rfl) ⟨Nat.zero_le _, Nat.zero_le _⟩ dX2_requireTwoConcepts_7 ?_
  refine lv_iload_n hx hb dX2_requireTwoConcepts_10 rfl (lv_at hl 1 rfl) ?_
  refine lv_iload_n hx hb dX2_requireTwoConcepts_11 rfl (lv_at hl 2 rfl) ?_
  refine lv_icmp_ne (tgt := 26) hx hb dX2_requireTwoConcepts_12 (by decide) (fun c12 => ?_) (fun c12 => ?_)
  · skip
    have c12 : ¬ (x = y) := fun q => c12 ((g_eq (by omega) (by omega)).mpr q)
    exact g_vret G dX2_requireTwoConcepts_26
  · skip
    have c12 : x = y := (g_eq (by omega) (by omega)).mp c12
    exfalso; omega
theorem ok_X2_requireLanguage : gOK yX2_requireLanguage cX2_requireLanguage 2 none 1 := ⟨gm_193, gm_18, by decide +kernel⟩
set_option maxRecDepth 100000 in
set_option maxHeartbeats 4000000 in
theorem c_X2_requireLanguage (l : Launch) (w : GP) (f : CS) (x : Nat) (hI : gI f) (h : x < 3) : Met l yX2_requireLanguage (gws yX2_requireLanguage cX2_requireLanguage 2 none) ({ frames := 0, cells := 0, slots := 0, locals := 0 }) (gPc w f [.ref (w.2.2.2 0), .int (nI x)]) gRv 0 0 (fun _ => False) := by
  refine g_read (by decide) (Nat.le_of_ble_eq_true rfl) ?_
  intro P_ E_ S_ M_ B_ T_ C_ ls G hV hl
  obtain ⟨hx, hb, hml, hown, hts⟩ := id G.1
  obtain ⟨⟨hT, hT24⟩, ⟨hC, hC12⟩, ⟨hD, hD6⟩, hLn⟩ := id hI
  have hl : lv_has ls 2 [(0, .ref (w.2.2.2 0)), (1, .int (nI x))] := hl
  refine lv_iload_n hx hb dX2_requireLanguage_0 rfl (lv_at hl 1 rfl) ?_
  refine lv_if_lt (tgt := 9) hx hb dX2_requireLanguage_1 (by decide) (fun c1 => ?_) (fun c1 => ?_)
  · skip
    have c1 : nI x < nI 0 := c1
    have c1 : x < 0 := (g_lt (by omega) (by omega)).mp c1
    exfalso; omega
  · skip
    have c1 : ¬ (nI x < nI 0) := c1
    have c1 : ¬ (x < 0) := fun q => c1 ((g_lt (by omega) (by omega)).mpr q)
    refine lv_iload_n hx hb dX2_requireLanguage_4 rfl (lv_at hl 1 rfl) ?_
    refine lv_iconst (v := nI 3) hx hb dX2_requireLanguage_5 (by decide) ?_
    refine lv_icmp_lt (tgt := 20) hx hb dX2_requireLanguage_6 (by decide) (fun c6 => ?_) (fun c6 => ?_)
    · skip
      have c6 : x < 3 := (g_lt (by omega) (by omega)).mp c6
      exact g_vret G dX2_requireLanguage_20
    · skip
      have c6 : ¬ (x < 3) := fun q => c6 ((g_lt (by omega) (by omega)).mpr q)
      exfalso; omega
theorem ok_X2_requireDocument : gOK yX2_requireDocument cX2_requireDocument 2 none 1 := ⟨gm_284, gm_18, by decide +kernel⟩
set_option maxRecDepth 100000 in
set_option maxHeartbeats 4000000 in
theorem c_X2_requireDocument (l : Launch) (w : GP) (f : CS) (x : Nat) (hI : gI f) (h : x < nD f) : Met l yX2_requireDocument (gws yX2_requireDocument cX2_requireDocument 2 none) ({ frames := 0, cells := 0, slots := 0, locals := 0 }) (gPc w f [.ref (w.2.2.2 0), .int (nI x)]) gRv 0 0 (fun _ => False) := by
  refine g_read (by decide) (Nat.le_of_ble_eq_true rfl) ?_
  intro P_ E_ S_ M_ B_ T_ C_ ls G hV hl
  obtain ⟨hx, hb, hml, hown, hts⟩ := id G.1
  obtain ⟨⟨hT, hT24⟩, ⟨hC, hC12⟩, ⟨hD, hD6⟩, hLn⟩ := id hI
  have hl : lv_has ls 2 [(0, .ref (w.2.2.2 0)), (1, .int (nI x))] := hl
  refine lv_iload_n hx hb dX2_requireDocument_0 rfl (lv_at hl 1 rfl) ?_
  refine lv_if_lt (tgt := 15) hx hb dX2_requireDocument_1 (by decide) (fun c1 => ?_) (fun c1 => ?_)
  · skip
    have c1 : nI x < nI 0 := c1
    have c1 : x < 0 := (g_lt (by omega) (by omega)).mp c1
    exfalso; omega
  · skip
    have c1 : ¬ (nI x < nI 0) := c1
    have c1 : ¬ (x < 0) := fun q => c1 ((g_lt (by omega) (by omega)).mpr q)
    refine lv_iload_n hx hb dX2_requireDocument_4 rfl (lv_at hl 1 rfl) ?_
    refine lv_aload_n hx hb dX2_requireDocument_5 rfl (lv_at hl 0 rfl) ?_
    refine g_get hx hb hts hown hV 0 1 (by decide) (v := .ref (w.2.2.2 2)) rfl rfl gin2 (by decide) gm_158 (rfl) dX2_requireDocument_6 ?_
    refine g_get hx hb hts hown hV 2 1 (by decide) (v := .int (nI (nD f))) rfl rfl gin1 (by decide) gm_276 (by rw [← hD]; rfl) dX2_requireDocument_9 ?_
    refine lv_icmp_lt (tgt := 26) hx hb dX2_requireDocument_12 (by decide) (fun c12 => ?_) (fun c12 => ?_)
    · skip
      have c12 : x < (nD f) := (g_lt (by omega) (by omega)).mp c12
      exact g_vret G dX2_requireDocument_26
    · skip
      have c12 : ¬ (x < (nD f)) := fun q => c12 ((g_lt (by omega) (by omega)).mpr q)
      exfalso; omega
theorem ok_X2_requireText : gOK yX2_requireText cX2_requireText 3 (some .int) 2 := ⟨gm_289, gm_18, by decide +kernel⟩
set_option maxRecDepth 100000 in
set_option maxHeartbeats 4000000 in
theorem c_X2_requireText (l : Launch) (w : GP) (f : CS) (x : Nat) (y : Nat) (hI : gI f) (h : x < nD f) (h2 : y < 3) : Met l yX2_requireText (gws yX2_requireText cX2_requireText 3 (some .int)) ({ frames := 1, cells := 0, slots := 0, locals := 21 }) (gPc w f [.ref (w.2.2.2 0), .int (nI x), .int (nI y)]) (gRd (.int (nI (x * 3 + y)))) 0 0 (fun _ => False) := by
  refine g_read (by decide) (Nat.le_of_ble_eq_true rfl) ?_
  intro P_ E_ S_ M_ B_ T_ C_ ls G hV hl
  obtain ⟨hx, hb, hml, hown, hts⟩ := id G.1
  obtain ⟨⟨hT, hT24⟩, ⟨hC, hC12⟩, ⟨hD, hD6⟩, hLn⟩ := id hI
  have hl : lv_has ls 3 [(0, .ref (w.2.2.2 0)), (1, .int (nI x)), (2, .int (nI y))] := hl
  refine lv_aload_n hx hb dX2_requireText_0 rfl (lv_at hl 0 rfl) ?_
  refine lv_iload_n hx hb dX2_requireText_1 rfl (lv_at hl 1 rfl) ?_
  refine g_callVv (As := [.int (nI x)]) (rest := []) G.1 hV 0 (by decide) rfl rfl ok_X2_requireDocument gm_282 gm_283 gm_281 (c_X2_requireDocument l w f x hI (by omega)) ⟨rfl, rfl⟩ ⟨Nat.le_of_ble_eq_true rfl, Nat.le_of_ble_eq_true rfl⟩ rfl hl.1 rfl (Nat.le_of_ble_eq_true rfl) ⟨Nat.zero_le _, Nat.zero_le _⟩ dX2_requireText_2 ?_
  refine lv_aload_n hx hb dX2_requireText_5 rfl (lv_at hl 0 rfl) ?_
  refine lv_iload_n hx hb dX2_requireText_6 rfl (lv_at hl 2 rfl) ?_
  refine g_callVv (As := [.int (nI y)]) (rest := []) G.1 hV 0 (by decide) rfl rfl ok_X2_requireLanguage gm_191 gm_192 gm_190 (c_X2_requireLanguage l w f y hI (by omega)) ⟨rfl, rfl⟩ ⟨Nat.le_of_ble_eq_true rfl, Nat.le_of_ble_eq_true rfl⟩ rfl hl.1 rfl (Nat.le_of_ble_eq_true rfl) ⟨Nat.zero_le _, Nat.zero_le _⟩ dX2_requireText_7 ?_
  refine lv_iload_n hx hb dX2_requireText_10 rfl (lv_at hl 1 rfl) ?_
  refine lv_iconst (v := nI 3) hx hb dX2_requireText_11 (by decide) ?_
  refine g_imuln hx hb dX2_requireText_12 ?_
  refine lv_iload_n hx hb dX2_requireText_13 rfl (lv_at hl 2 rfl) ?_
  refine g_iaddn hx hb dX2_requireText_14 ?_
  exact g_iret G (rfl) dX2_requireText_15
theorem ok_X2_requirePlace : gOK yX2_requirePlace cX2_requirePlace 3 none 2 := ⟨gm_297, gm_18, by decide +kernel⟩
set_option maxRecDepth 100000 in
set_option maxHeartbeats 4000000 in
theorem c_X2_requirePlace (l : Launch) (w : GP) (f : CS) (x : Nat) (y : Nat) (hI : gI f) (h : x < y) (h2 : y < 100) : Met l yX2_requirePlace (gws yX2_requirePlace cX2_requirePlace 3 none) ({ frames := 0, cells := 0, slots := 0, locals := 0 }) (gPc w f [.ref (w.2.2.2 0), .int (nI x), .int (nI y)]) gRv 0 0 (fun _ => False) := by
  refine g_read (by decide) (Nat.le_of_ble_eq_true rfl) ?_
  intro P_ E_ S_ M_ B_ T_ C_ ls G hV hl
  obtain ⟨hx, hb, hml, hown, hts⟩ := id G.1
  obtain ⟨⟨hT, hT24⟩, ⟨hC, hC12⟩, ⟨hD, hD6⟩, hLn⟩ := id hI
  have hl : lv_has ls 3 [(0, .ref (w.2.2.2 0)), (1, .int (nI x)), (2, .int (nI y))] := hl
  refine lv_iload_n hx hb dX2_requirePlace_0 rfl (lv_at hl 1 rfl) ?_
  refine lv_if_lt (tgt := 9) hx hb dX2_requirePlace_1 (by decide) (fun c1 => ?_) (fun c1 => ?_)
  · skip
    have c1 : nI x < nI 0 := c1
    have c1 : x < 0 := (g_lt (by omega) (by omega)).mp c1
    exfalso; omega
  · skip
    have c1 : ¬ (nI x < nI 0) := c1
    have c1 : ¬ (x < 0) := fun q => c1 ((g_lt (by omega) (by omega)).mpr q)
    refine lv_iload_n hx hb dX2_requirePlace_4 rfl (lv_at hl 1 rfl) ?_
    refine lv_iload_n hx hb dX2_requirePlace_5 rfl (lv_at hl 2 rfl) ?_
    refine lv_icmp_lt (tgt := 20) hx hb dX2_requirePlace_6 (by decide) (fun c6 => ?_) (fun c6 => ?_)
    · skip
      have c6 : x < y := (g_lt (by omega) (by omega)).mp c6
      exact g_vret G dX2_requirePlace_20
    · skip
      have c6 : ¬ (x < y) := fun q => c6 ((g_lt (by omega) (by omega)).mpr q)
      exfalso; omega
theorem ok_X2_requireWhat : gOK yX2_requireWhat cX2_requireWhat 3 none 2 := ⟨gm_248, gm_18, by decide +kernel⟩
set_option maxRecDepth 100000 in
set_option maxHeartbeats 4000000 in
theorem c_X2_requireWhat (l : Launch) (w : GP) (f : CS) (x : Nat) (y : Nat) (hI : gI f) (h : x ≤ y) (h2 : y < 100) : Met l yX2_requireWhat (gws yX2_requireWhat cX2_requireWhat 3 none) ({ frames := 0, cells := 0, slots := 0, locals := 0 }) (gPc w f [.ref (w.2.2.2 0), .int (nI x), .int (nI y)]) gRv 0 0 (fun _ => False) := by
  refine g_read (by decide) (Nat.le_of_ble_eq_true rfl) ?_
  intro P_ E_ S_ M_ B_ T_ C_ ls G hV hl
  obtain ⟨hx, hb, hml, hown, hts⟩ := id G.1
  obtain ⟨⟨hT, hT24⟩, ⟨hC, hC12⟩, ⟨hD, hD6⟩, hLn⟩ := id hI
  have hl : lv_has ls 3 [(0, .ref (w.2.2.2 0)), (1, .int (nI x)), (2, .int (nI y))] := hl
  refine lv_iload_n hx hb dX2_requireWhat_0 rfl (lv_at hl 1 rfl) ?_
  refine lv_if_lt (tgt := 9) hx hb dX2_requireWhat_1 (by decide) (fun c1 => ?_) (fun c1 => ?_)
  · skip
    have c1 : nI x < nI 0 := c1
    have c1 : x < 0 := (g_lt (by omega) (by omega)).mp c1
    exfalso; omega
  · skip
    have c1 : ¬ (nI x < nI 0) := c1
    have c1 : ¬ (x < 0) := fun q => c1 ((g_lt (by omega) (by omega)).mpr q)
    refine lv_iload_n hx hb dX2_requireWhat_4 rfl (lv_at hl 1 rfl) ?_
    refine lv_iload_n hx hb dX2_requireWhat_5 rfl (lv_at hl 2 rfl) ?_
    refine lv_icmp_le (tgt := 20) hx hb dX2_requireWhat_6 (by decide) (fun c6 => ?_) (fun c6 => ?_)
    · skip
      have c6 : x ≤ y := (g_le (by omega) (by omega)).mp c6
      exact g_vret G dX2_requireWhat_20
    · skip
      have c6 : ¬ (x ≤ y) := fun q => c6 ((g_le (by omega) (by omega)).mpr q)
      exfalso; omega
theorem ok_X2_requireDays : gOK yX2_requireDays cX2_requireDays 2 none 1 := ⟨gm_327, gm_18, by decide +kernel⟩
set_option maxRecDepth 100000 in
set_option maxHeartbeats 4000000 in
theorem c_X2_requireDays (l : Launch) (w : GP) (f : CS) (x : Nat) (hI : gI f) (h : 1 ≤ x) (h2 : x ≤ 40) : Met l yX2_requireDays (gws yX2_requireDays cX2_requireDays 2 none) ({ frames := 0, cells := 0, slots := 0, locals := 0 }) (gPc w f [.ref (w.2.2.2 0), .int (nI x)]) gRv 0 0 (fun _ => False) := by
  refine g_read (by decide) (Nat.le_of_ble_eq_true rfl) ?_
  intro P_ E_ S_ M_ B_ T_ C_ ls G hV hl
  obtain ⟨hx, hb, hml, hown, hts⟩ := id G.1
  obtain ⟨⟨hT, hT24⟩, ⟨hC, hC12⟩, ⟨hD, hD6⟩, hLn⟩ := id hI
  have hl : lv_has ls 2 [(0, .ref (w.2.2.2 0)), (1, .int (nI x))] := hl
  refine lv_iload_n hx hb dX2_requireDays_0 rfl (lv_at hl 1 rfl) ?_
  refine lv_iconst (v := nI 1) hx hb dX2_requireDays_1 (by decide) ?_
  refine lv_icmp_lt (tgt := 11) hx hb dX2_requireDays_2 (by decide) (fun c2 => ?_) (fun c2 => ?_)
  · skip
    have c2 : x < 1 := (g_lt (by omega) (by omega)).mp c2
    exfalso; omega
  · skip
    have c2 : ¬ (x < 1) := fun q => c2 ((g_lt (by omega) (by omega)).mpr q)
    refine lv_iload_n hx hb dX2_requireDays_5 rfl (lv_at hl 1 rfl) ?_
    refine lv_bipush (v := nI 40) hx hb dX2_requireDays_6 (by decide) ?_
    refine lv_icmp_le (tgt := 22) hx hb dX2_requireDays_8 (by decide) (fun c8 => ?_) (fun c8 => ?_)
    · skip
      have c8 : x ≤ 40 := (g_le (by omega) (by omega)).mp c8
      exact g_vret G dX2_requireDays_22
    · skip
      have c8 : ¬ (x ≤ 40) := fun q => c8 ((g_le (by omega) (by omega)).mpr q)
      exfalso; omega
theorem ok_X2_ofTerm : gOK yX2_ofTerm cX2_ofTerm 3 (some .int) 2 := ⟨gm_359, gm_18, by decide +kernel⟩
set_option maxRecDepth 100000 in
set_option maxHeartbeats 4000000 in
theorem c_X2_ofTerm (l : Launch) (w : GP) (f : CS) (t : Nat) (q : Nat) (hI : gI f) (ht : t < nT f) (hq : q < 8) : Met l yX2_ofTerm (gws yX2_ofTerm cX2_ofTerm 3 (some .int)) ({ frames := 3, cells := 0, slots := 0, locals := 69 }) (gPc w f [.ref (w.2.2.2 0), .int (nI t), .int (nI q)]) (gRd (.int (otF f t q))) 0 0 (fun _ => False) := by
  refine g_read (by decide) (Nat.le_of_ble_eq_true rfl) ?_
  intro P_ E_ S_ M_ B_ T_ C_ ls G hV hl
  obtain ⟨hx, hb, hml, hown, hts⟩ := id G.1
  obtain ⟨⟨hT, hT24⟩, ⟨hC, hC12⟩, ⟨hD, hD6⟩, hLn⟩ := id hI
  have hl : lv_has ls 3 [(0, .ref (w.2.2.2 0)), (1, .int (nI t)), (2, .int (nI q))] := hl
  refine lv_aload_n hx hb dX2_ofTerm_0 rfl (lv_at hl 0 rfl) ?_
  refine lv_iload_n hx hb dX2_ofTerm_1 rfl (lv_at hl 1 rfl) ?_
  refine g_callVv (As := [.int (nI t)]) (rest := []) G.1 hV 0 (by decide) rfl rfl ok_X2_requireTerm gm_208 gm_209 gm_207 (c_X2_requireTerm l w f t hI (by omega)) ⟨rfl, rfl⟩ ⟨Nat.le_of_ble_eq_true rfl, Nat.le_of_ble_eq_true rfl⟩ rfl hl.1 rfl (Nat.le_of_ble_eq_true rfl) ⟨Nat.zero_le _, Nat.zero_le _⟩ dX2_ofTerm_2 ?_
  refine lv_aload_n hx hb dX2_ofTerm_5 rfl (lv_at hl 0 rfl) ?_
  refine lv_iload_n hx hb dX2_ofTerm_6 rfl (lv_at hl 2 rfl) ?_
  refine lv_bipush (v := nI 7) hx hb dX2_ofTerm_7 (by decide) ?_
  refine g_callVv (As := [.int (nI q), .int (nI 7)]) (rest := []) G.1 hV 0 (by decide) rfl rfl ok_X2_requireWhat gm_246 gm_247 gm_245 (c_X2_requireWhat l w f q 7 hI (by omega) (by omega)) ⟨rfl, rfl⟩ ⟨Nat.le_of_ble_eq_true rfl, Nat.le_of_ble_eq_true rfl⟩ rfl hl.1 rfl (Nat.le_of_ble_eq_true rfl) ⟨Nat.zero_le _, Nat.zero_le _⟩ dX2_ofTerm_9 ?_
  have hcs : q = 0 ∨ q = 1 ∨ q = 2 ∨ q = 3 ∨ q = 4 ∨ q = 5 ∨ q = 6 ∨ q = 7 := by omega
  rcases hcs with rfl | rfl | rfl | rfl | rfl | rfl | rfl | rfl
  · skip
    refine lv_iload_n hx hb dX2_ofTerm_12 rfl (lv_at hl 2 rfl) ?_
    refine lv_tableIn (off := 43) (tgt := 56) hx hb dX2_ofTerm_13 (by decide) (by decide) (by decide) (by decide) ?_
    refine lv_aload_n hx hb dX2_ofTerm_56 rfl (lv_at hl 0 rfl) ?_
    refine g_get hx hb hts hown hV 0 0 (by decide) (v := .ref (w.2.2.2 1)) rfl rfl gin2 (by decide) gm_155 (rfl) dX2_ofTerm_57 ?_
    refine g_get hx hb hts hown hV 1 3 (by decide) (v := .ref (w.2.2.2 4)) rfl rfl gin0 (by decide) gm_239 (rfl) dX2_ofTerm_60 ?_
    refine lv_iload_n hx hb dX2_ofTerm_63 rfl (lv_at hl 1 rfl) ?_
    refine g_ialn (a := 2) (n := 24) hx hb hV 4 (by decide) (by decide) rfl rfl (i := t) (by omega) dX2_ofTerm_64 ?_
    exact g_iret G (rfl) dX2_ofTerm_65
  · skip
    refine lv_iload_n hx hb dX2_ofTerm_12 rfl (lv_at hl 2 rfl) ?_
    refine lv_tableIn (off := 53) (tgt := 66) hx hb dX2_ofTerm_13 (by decide) (by decide) (by decide) (by decide) ?_
    refine lv_aload_n hx hb dX2_ofTerm_66 rfl (lv_at hl 0 rfl) ?_
    refine g_get hx hb hts hown hV 0 0 (by decide) (v := .ref (w.2.2.2 1)) rfl rfl gin2 (by decide) gm_155 (rfl) dX2_ofTerm_67 ?_
    refine g_get hx hb hts hown hV 1 4 (by decide) (v := .ref (w.2.2.2 5)) rfl rfl gin0 (by decide) gm_240 (rfl) dX2_ofTerm_70 ?_
    refine lv_iload_n hx hb dX2_ofTerm_73 rfl (lv_at hl 1 rfl) ?_
    refine g_ialn (a := 3) (n := 24) hx hb hV 5 (by decide) (by decide) rfl rfl (i := t) (by omega) dX2_ofTerm_74 ?_
    exact g_iret G (rfl) dX2_ofTerm_75
  · skip
    refine lv_iload_n hx hb dX2_ofTerm_12 rfl (lv_at hl 2 rfl) ?_
    refine lv_tableIn (off := 63) (tgt := 76) hx hb dX2_ofTerm_13 (by decide) (by decide) (by decide) (by decide) ?_
    refine lv_aload_n hx hb dX2_ofTerm_76 rfl (lv_at hl 0 rfl) ?_
    refine g_get hx hb hts hown hV 0 0 (by decide) (v := .ref (w.2.2.2 1)) rfl rfl gin2 (by decide) gm_155 (rfl) dX2_ofTerm_77 ?_
    refine g_get hx hb hts hown hV 1 5 (by decide) (v := .ref (w.2.2.2 6)) rfl rfl gin0 (by decide) gm_241 (rfl) dX2_ofTerm_80 ?_
    refine lv_iload_n hx hb dX2_ofTerm_83 rfl (lv_at hl 1 rfl) ?_
    refine g_ialn (a := 4) (n := 24) hx hb hV 6 (by decide) (by decide) rfl rfl (i := t) (by omega) dX2_ofTerm_84 ?_
    exact g_iret G (rfl) dX2_ofTerm_85
  · skip
    refine lv_iload_n hx hb dX2_ofTerm_12 rfl (lv_at hl 2 rfl) ?_
    refine lv_tableIn (off := 73) (tgt := 86) hx hb dX2_ofTerm_13 (by decide) (by decide) (by decide) (by decide) ?_
    refine lv_aload_n hx hb dX2_ofTerm_86 rfl (lv_at hl 0 rfl) ?_
    refine g_get hx hb hts hown hV 0 0 (by decide) (v := .ref (w.2.2.2 1)) rfl rfl gin2 (by decide) gm_155 (rfl) dX2_ofTerm_87 ?_
    refine g_get hx hb hts hown hV 1 6 (by decide) (v := .ref (w.2.2.2 7)) rfl rfl gin0 (by decide) gm_206 (rfl) dX2_ofTerm_90 ?_
    refine lv_iload_n hx hb dX2_ofTerm_93 rfl (lv_at hl 1 rfl) ?_
    refine g_ialn (a := 5) (n := 24) hx hb hV 7 (by decide) (by decide) rfl rfl (i := t) (by omega) dX2_ofTerm_94 ?_
    exact g_iret G (rfl) dX2_ofTerm_95
  · skip
    refine lv_iload_n hx hb dX2_ofTerm_12 rfl (lv_at hl 2 rfl) ?_
    refine lv_tableIn (off := 83) (tgt := 96) hx hb dX2_ofTerm_13 (by decide) (by decide) (by decide) (by decide) ?_
    refine lv_aload_n hx hb dX2_ofTerm_96 rfl (lv_at hl 0 rfl) ?_
    refine g_get hx hb hts hown hV 0 0 (by decide) (v := .ref (w.2.2.2 1)) rfl rfl gin2 (by decide) gm_155 (rfl) dX2_ofTerm_97 ?_
    refine g_get hx hb hts hown hV 1 7 (by decide) (v := .ref (w.2.2.2 8)) rfl rfl gin0 (by decide) gm_242 (rfl) dX2_ofTerm_100 ?_
    refine lv_iload_n hx hb dX2_ofTerm_103 rfl (lv_at hl 1 rfl) ?_
    refine g_ialn (a := 6) (n := 24) hx hb hV 8 (by decide) (by decide) rfl rfl (i := t) (by omega) dX2_ofTerm_104 ?_
    refine g_callS (As := [.int (f 6 t)]) (rest := []) G.1 hV ok_J6_bitCount_0f7a4 gm_28 gm_249 (c_J6_bitCount_0f7a4 l w f (f 6 t)  ) ⟨rfl, rfl⟩ ⟨Nat.le_of_ble_eq_true rfl, Nat.le_of_ble_eq_true rfl⟩ rfl hl.1 rfl (Nat.le_of_ble_eq_true rfl) ⟨Nat.zero_le _, Nat.zero_le _⟩ dX2_ofTerm_105 ?_
    exact g_iret G (rfl) dX2_ofTerm_108
  · skip
    refine lv_iload_n hx hb dX2_ofTerm_12 rfl (lv_at hl 2 rfl) ?_
    refine lv_tableIn (off := 96) (tgt := 109) hx hb dX2_ofTerm_13 (by decide) (by decide) (by decide) (by decide) ?_
    refine lv_aload_n hx hb dX2_ofTerm_109 rfl (lv_at hl 0 rfl) ?_
    refine g_get hx hb hts hown hV 0 0 (by decide) (v := .ref (w.2.2.2 1)) rfl rfl gin2 (by decide) gm_155 (rfl) dX2_ofTerm_110 ?_
    refine g_get hx hb hts hown hV 1 8 (by decide) (v := .ref (w.2.2.2 9)) rfl rfl gin0 (by decide) gm_243 (rfl) dX2_ofTerm_113 ?_
    refine lv_iload_n hx hb dX2_ofTerm_116 rfl (lv_at hl 1 rfl) ?_
    refine g_ialn (a := 7) (n := 24) hx hb hV 9 (by decide) (by decide) rfl rfl (i := t) (by omega) dX2_ofTerm_117 ?_
    refine g_callS (As := [.int (f 7 t)]) (rest := []) G.1 hV ok_J6_bitCount_0f7a4 gm_28 gm_249 (c_J6_bitCount_0f7a4 l w f (f 7 t)  ) ⟨rfl, rfl⟩ ⟨Nat.le_of_ble_eq_true rfl, Nat.le_of_ble_eq_true rfl⟩ rfl hl.1 rfl (Nat.le_of_ble_eq_true rfl) ⟨Nat.zero_le _, Nat.zero_le _⟩ dX2_ofTerm_118 ?_
    exact g_iret G (rfl) dX2_ofTerm_121
  · skip
    refine lv_iload_n hx hb dX2_ofTerm_12 rfl (lv_at hl 2 rfl) ?_
    refine lv_tableIn (off := 109) (tgt := 122) hx hb dX2_ofTerm_13 (by decide) (by decide) (by decide) (by decide) ?_
    refine lv_aload_n hx hb dX2_ofTerm_122 rfl (lv_at hl 0 rfl) ?_
    refine g_get hx hb hts hown hV 0 0 (by decide) (v := .ref (w.2.2.2 1)) rfl rfl gin2 (by decide) gm_155 (rfl) dX2_ofTerm_123 ?_
    refine g_get hx hb hts hown hV 1 6 (by decide) (v := .ref (w.2.2.2 7)) rfl rfl gin0 (by decide) gm_206 (rfl) dX2_ofTerm_126 ?_
    refine lv_iload_n hx hb dX2_ofTerm_129 rfl (lv_at hl 1 rfl) ?_
    refine g_ialn (a := 5) (n := 24) hx hb hV 7 (by decide) (by decide) rfl rfl (i := t) (by omega) dX2_ofTerm_130 ?_
    refine lv_iconst (v := nI 3) hx hb dX2_ofTerm_131 (by decide) ?_
    refine lv_icmp_ne (tgt := 147) hx hb dX2_ofTerm_132 (by decide) (fun c132 => ?_) (fun c132 => ?_)
    · skip
      refine lv_iconst (v := -1) hx hb dX2_ofTerm_147 (by decide) ?_
      exact g_iret G (by show _ = Value.int (if _ then _ else _); rw [if_neg c132]) dX2_ofTerm_148
    · skip
      refine lv_aload_n hx hb dX2_ofTerm_135 rfl (lv_at hl 0 rfl) ?_
      refine g_get hx hb hts hown hV 0 0 (by decide) (v := .ref (w.2.2.2 1)) rfl rfl gin2 (by decide) gm_155 (rfl) dX2_ofTerm_136 ?_
      refine g_get hx hb hts hown hV 1 9 (by decide) (v := .ref (w.2.2.2 10)) rfl rfl gin0 (by decide) gm_244 (rfl) dX2_ofTerm_139 ?_
      refine lv_iload_n hx hb dX2_ofTerm_142 rfl (lv_at hl 1 rfl) ?_
      refine g_ialn (a := 8) (n := 24) hx hb hV 10 (by decide) (by decide) rfl rfl (i := t) (by omega) dX2_ofTerm_143 ?_
      refine lv_goto (tgt := 148) hx hb dX2_ofTerm_144 (by decide) ?_
      exact g_iret G (by show _ = Value.int (if _ then _ else _); rw [if_pos c132]) dX2_ofTerm_148
  · skip
    refine lv_iload_n hx hb dX2_ofTerm_12 rfl (lv_at hl 2 rfl) ?_
    refine lv_tableOut (tgt := 149) hx hb dX2_ofTerm_13 (by decide) (by decide) ?_
    refine lv_aload_n hx hb dX2_ofTerm_149 rfl (lv_at hl 0 rfl) ?_
    refine g_get hx hb hts hown hV 0 1 (by decide) (v := .ref (w.2.2.2 2)) rfl rfl gin2 (by decide) gm_158 (rfl) dX2_ofTerm_150 ?_
    refine lv_iconst (v := nI 1) hx hb dX2_ofTerm_153 (by decide) ?_
    refine lv_iload_n hx hb dX2_ofTerm_154 rfl (lv_at hl 1 rfl) ?_
    refine lv_ishl hx hb dX2_ofTerm_155 ?_
    refine g_callV (As := [.int ((nI 1) <<< ((nI t) &&& 31))]) (rest := []) G.1 hV 2 (by decide) rfl rfl ok_X1_usesAmong gm_251 gm_252 gm_250 (c_X1_usesAmong l w f ((nI 1) <<< ((nI t) &&& 31)) hI ) ⟨rfl, rfl⟩ ⟨Nat.le_of_ble_eq_true rfl, Nat.le_of_ble_eq_true rfl⟩ rfl hl.1 rfl (Nat.le_of_ble_eq_true rfl) ⟨Nat.zero_le _, Nat.zero_le _⟩ dX2_ofTerm_156 ?_
    exact g_iret G (rfl) dX2_ofTerm_159
theorem ok_X2_ofConcept : gOK yX2_ofConcept cX2_ofConcept 4 (some .int) 2 := ⟨gm_367, gm_18, by decide +kernel⟩
set_option maxRecDepth 100000 in
set_option maxHeartbeats 4000000 in
theorem c_X2_ofConcept (l : Launch) (w : GP) (f : CS) (c : Nat) (q : Nat) (hI : gI f) (ht : c < nC f) (hq : q < 7) : Met l yX2_ofConcept (gws yX2_ofConcept cX2_ofConcept 4 (some .int)) ({ frames := 3, cells := 0, slots := 0, locals := 71 }) (gPc w f [.ref (w.2.2.2 0), .int (nI c), .int (nI q)]) (gRd (.int (ocF f c q))) 0 0 (fun _ => False) := by
  refine g_read (by decide) (Nat.le_of_ble_eq_true rfl) ?_
  intro P_ E_ S_ M_ B_ T_ C_ ls G hV hl
  obtain ⟨hx, hb, hml, hown, hts⟩ := id G.1
  obtain ⟨⟨hT, hT24⟩, ⟨hC, hC12⟩, ⟨hD, hD6⟩, hLn⟩ := id hI
  have hl : lv_has ls 4 [(0, .ref (w.2.2.2 0)), (1, .int (nI c)), (2, .int (nI q))] := hl
  refine lv_aload_n hx hb dX2_ofConcept_0 rfl (lv_at hl 0 rfl) ?_
  refine lv_iload_n hx hb dX2_ofConcept_1 rfl (lv_at hl 1 rfl) ?_
  refine g_callVv (As := [.int (nI c)]) (rest := []) G.1 hV 0 (by decide) rfl rfl ok_X2_requireConcept gm_187 gm_188 gm_186 (c_X2_requireConcept l w f c hI (by omega)) ⟨rfl, rfl⟩ ⟨Nat.le_of_ble_eq_true rfl, Nat.le_of_ble_eq_true rfl⟩ rfl hl.1 rfl (Nat.le_of_ble_eq_true rfl) ⟨Nat.zero_le _, Nat.zero_le _⟩ dX2_ofConcept_2 ?_
  refine lv_aload_n hx hb dX2_ofConcept_5 rfl (lv_at hl 0 rfl) ?_
  refine lv_iload_n hx hb dX2_ofConcept_6 rfl (lv_at hl 2 rfl) ?_
  refine lv_bipush (v := nI 6) hx hb dX2_ofConcept_7 (by decide) ?_
  refine g_callVv (As := [.int (nI q), .int (nI 6)]) (rest := []) G.1 hV 0 (by decide) rfl rfl ok_X2_requireWhat gm_246 gm_247 gm_245 (c_X2_requireWhat l w f q 6 hI (by omega) (by omega)) ⟨rfl, rfl⟩ ⟨Nat.le_of_ble_eq_true rfl, Nat.le_of_ble_eq_true rfl⟩ rfl hl.1 rfl (Nat.le_of_ble_eq_true rfl) ⟨Nat.zero_le _, Nat.zero_le _⟩ dX2_ofConcept_9 ?_
  refine lv_aload_n hx hb dX2_ofConcept_12 rfl (lv_at hl 0 rfl) ?_
  refine g_get hx hb hts hown hV 0 0 (by decide) (v := .ref (w.2.2.2 1)) rfl rfl gin2 (by decide) gm_155 (rfl) dX2_ofConcept_13 ?_
  refine lv_iload_n hx hb dX2_ofConcept_16 rfl (lv_at hl 1 rfl) ?_
  refine g_callV (As := [.int (nI c)]) (rest := []) G.1 hV 1 (by decide) rfl rfl ok_X0_termsOf gm_52 gm_53 gm_255 (c_X0_termsOf l w f (nI c) hI ) ⟨rfl, rfl⟩ ⟨Nat.le_of_ble_eq_true rfl, Nat.le_of_ble_eq_true rfl⟩ rfl hl.1 rfl (Nat.le_of_ble_eq_true rfl) ⟨Nat.zero_le _, Nat.zero_le _⟩ dX2_ofConcept_17 ?_
  refine lv_istore_n (lv' := [(3, .int (ofC f (nI c))), (0, .ref (w.2.2.2 0)), (1, .int (nI c)), (2, .int (nI q))]) hx hb dX2_ofConcept_20 rfl hl (by decide) rfl (fun ls hl => ?_)
  have hcs : q = 0 ∨ q = 1 ∨ q = 2 ∨ q = 3 ∨ q = 4 ∨ q = 5 ∨ q = 6 := by omega
  rcases hcs with rfl | rfl | rfl | rfl | rfl | rfl | rfl
  · skip
    refine lv_iload_n hx hb dX2_ofConcept_21 rfl (lv_at hl 3 rfl) ?_
    refine lv_tableIn (off := 42) (tgt := 64) hx hb dX2_ofConcept_22 (by decide) (by decide) (by decide) (by decide) ?_
    refine lv_aload_n hx hb dX2_ofConcept_64 rfl (lv_at hl 1 rfl) ?_
    refine g_get hx hb hts hown hV 0 0 (by decide) (v := .ref (w.2.2.2 1)) rfl rfl gin2 (by decide) gm_155 (rfl) dX2_ofConcept_65 ?_
    refine g_get hx hb hts hown hV 1 2 (by decide) (v := .ref (w.2.2.2 3)) rfl rfl gin0 (by decide) gm_254 (rfl) dX2_ofConcept_68 ?_
    refine lv_iload_n hx hb dX2_ofConcept_71 rfl (lv_at hl 2 rfl) ?_
    refine g_ialn (a := 1) (n := 12) hx hb hV 3 (by decide) (by decide) rfl rfl (i := c) (by omega) dX2_ofConcept_72 ?_
    exact g_iret G (rfl) dX2_ofConcept_73
  · skip
    refine lv_iload_n hx hb dX2_ofConcept_21 rfl (lv_at hl 3 rfl) ?_
    refine lv_tableIn (off := 52) (tgt := 74) hx hb dX2_ofConcept_22 (by decide) (by decide) (by decide) (by decide) ?_
    refine lv_iload_n hx hb dX2_ofConcept_74 rfl (lv_at hl 0 rfl) ?_
    refine g_callS (As := [.int (ofC f (nI c))]) (rest := []) G.1 hV ok_J6_bitCount_0f7a4 gm_28 gm_249 (c_J6_bitCount_0f7a4 l w f (ofC f (nI c))  ) ⟨rfl, rfl⟩ ⟨Nat.le_of_ble_eq_true rfl, Nat.le_of_ble_eq_true rfl⟩ rfl hl.1 rfl (Nat.le_of_ble_eq_true rfl) ⟨Nat.zero_le _, Nat.zero_le _⟩ dX2_ofConcept_75 ?_
    exact g_iret G (rfl) dX2_ofConcept_78
  · skip
    refine lv_iload_n hx hb dX2_ofConcept_21 rfl (lv_at hl 3 rfl) ?_
    refine lv_tableIn (off := 75) (tgt := 97) hx hb dX2_ofConcept_22 (by decide) (by decide) (by decide) (by decide) ?_
    refine lv_aload_n hx hb dX2_ofConcept_97 rfl (lv_at hl 1 rfl) ?_
    refine g_get hx hb hts hown hV 0 0 (by decide) (v := .ref (w.2.2.2 1)) rfl rfl gin2 (by decide) gm_155 (rfl) dX2_ofConcept_98 ?_
    refine lv_iload_n hx hb dX2_ofConcept_101 rfl (lv_at hl 2 rfl) ?_
    refine lv_iload_n hx hb dX2_ofConcept_102 rfl (lv_at hl 3 rfl) ?_
    refine lv_iconst (v := nI 2) hx hb dX2_ofConcept_103 (by decide) ?_
    refine g_isubn hx hb (by decide) dX2_ofConcept_104 ?_
    refine g_callV (As := [.int (nI c), .int (nI (2 - 2))]) (rest := []) G.1 hV 1 (by decide) rfl rfl ok_X0_preferredOf gm_36 gm_37 gm_260 (c_X0_preferredOf l w f (nI c) (nI (2 - 2)) hI ) ⟨rfl, rfl⟩ ⟨Nat.le_of_ble_eq_true rfl, Nat.le_of_ble_eq_true rfl⟩ rfl hl.1 rfl (Nat.le_of_ble_eq_true rfl) ⟨Nat.zero_le _, Nat.zero_le _⟩ dX2_ofConcept_105 ?_
    exact g_iret G (rfl) dX2_ofConcept_108
  · skip
    refine lv_iload_n hx hb dX2_ofConcept_21 rfl (lv_at hl 3 rfl) ?_
    refine lv_tableIn (off := 75) (tgt := 97) hx hb dX2_ofConcept_22 (by decide) (by decide) (by decide) (by decide) ?_
    refine lv_aload_n hx hb dX2_ofConcept_97 rfl (lv_at hl 1 rfl) ?_
    refine g_get hx hb hts hown hV 0 0 (by decide) (v := .ref (w.2.2.2 1)) rfl rfl gin2 (by decide) gm_155 (rfl) dX2_ofConcept_98 ?_
    refine lv_iload_n hx hb dX2_ofConcept_101 rfl (lv_at hl 2 rfl) ?_
    refine lv_iload_n hx hb dX2_ofConcept_102 rfl (lv_at hl 3 rfl) ?_
    refine lv_iconst (v := nI 2) hx hb dX2_ofConcept_103 (by decide) ?_
    refine g_isubn hx hb (by decide) dX2_ofConcept_104 ?_
    refine g_callV (As := [.int (nI c), .int (nI (3 - 2))]) (rest := []) G.1 hV 1 (by decide) rfl rfl ok_X0_preferredOf gm_36 gm_37 gm_260 (c_X0_preferredOf l w f (nI c) (nI (3 - 2)) hI ) ⟨rfl, rfl⟩ ⟨Nat.le_of_ble_eq_true rfl, Nat.le_of_ble_eq_true rfl⟩ rfl hl.1 rfl (Nat.le_of_ble_eq_true rfl) ⟨Nat.zero_le _, Nat.zero_le _⟩ dX2_ofConcept_105 ?_
    exact g_iret G (rfl) dX2_ofConcept_108
  · skip
    refine lv_iload_n hx hb dX2_ofConcept_21 rfl (lv_at hl 3 rfl) ?_
    refine lv_tableIn (off := 75) (tgt := 97) hx hb dX2_ofConcept_22 (by decide) (by decide) (by decide) (by decide) ?_
    refine lv_aload_n hx hb dX2_ofConcept_97 rfl (lv_at hl 1 rfl) ?_
    refine g_get hx hb hts hown hV 0 0 (by decide) (v := .ref (w.2.2.2 1)) rfl rfl gin2 (by decide) gm_155 (rfl) dX2_ofConcept_98 ?_
    refine lv_iload_n hx hb dX2_ofConcept_101 rfl (lv_at hl 2 rfl) ?_
    refine lv_iload_n hx hb dX2_ofConcept_102 rfl (lv_at hl 3 rfl) ?_
    refine lv_iconst (v := nI 2) hx hb dX2_ofConcept_103 (by decide) ?_
    refine g_isubn hx hb (by decide) dX2_ofConcept_104 ?_
    refine g_callV (As := [.int (nI c), .int (nI (4 - 2))]) (rest := []) G.1 hV 1 (by decide) rfl rfl ok_X0_preferredOf gm_36 gm_37 gm_260 (c_X0_preferredOf l w f (nI c) (nI (4 - 2)) hI ) ⟨rfl, rfl⟩ ⟨Nat.le_of_ble_eq_true rfl, Nat.le_of_ble_eq_true rfl⟩ rfl hl.1 rfl (Nat.le_of_ble_eq_true rfl) ⟨Nat.zero_le _, Nat.zero_le _⟩ dX2_ofConcept_105 ?_
    exact g_iret G (rfl) dX2_ofConcept_108
  · skip
    refine lv_iload_n hx hb dX2_ofConcept_21 rfl (lv_at hl 3 rfl) ?_
    refine lv_tableIn (off := 57) (tgt := 79) hx hb dX2_ofConcept_22 (by decide) (by decide) (by decide) (by decide) ?_
    refine lv_aload_n hx hb dX2_ofConcept_79 rfl (lv_at hl 1 rfl) ?_
    refine g_get hx hb hts hown hV 0 1 (by decide) (v := .ref (w.2.2.2 2)) rfl rfl gin2 (by decide) gm_158 (rfl) dX2_ofConcept_80 ?_
    refine lv_iload_n hx hb dX2_ofConcept_83 rfl (lv_at hl 0 rfl) ?_
    refine g_callV (As := [.int (ofC f (nI c))]) (rest := []) G.1 hV 2 (by decide) rfl rfl ok_X1_usesAmong gm_251 gm_252 gm_250 (c_X1_usesAmong l w f (ofC f (nI c)) hI ) ⟨rfl, rfl⟩ ⟨Nat.le_of_ble_eq_true rfl, Nat.le_of_ble_eq_true rfl⟩ rfl hl.1 rfl (Nat.le_of_ble_eq_true rfl) ⟨Nat.zero_le _, Nat.zero_le _⟩ dX2_ofConcept_84 ?_
    exact g_iret G (rfl) dX2_ofConcept_87
  · skip
    refine lv_iload_n hx hb dX2_ofConcept_21 rfl (lv_at hl 3 rfl) ?_
    refine lv_tableIn (off := 66) (tgt := 88) hx hb dX2_ofConcept_22 (by decide) (by decide) (by decide) (by decide) ?_
    refine lv_aload_n hx hb dX2_ofConcept_88 rfl (lv_at hl 1 rfl) ?_
    refine g_get hx hb hts hown hV 0 1 (by decide) (v := .ref (w.2.2.2 2)) rfl rfl gin2 (by decide) gm_158 (rfl) dX2_ofConcept_89 ?_
    refine lv_iload_n hx hb dX2_ofConcept_92 rfl (lv_at hl 0 rfl) ?_
    refine g_callV (As := [.int (ofC f (nI c))]) (rest := []) G.1 hV 2 (by decide) rfl rfl ok_X1_documentsWith gm_257 gm_258 gm_256 (c_X1_documentsWith l w f (ofC f (nI c)) hI ) ⟨rfl, rfl⟩ ⟨Nat.le_of_ble_eq_true rfl, Nat.le_of_ble_eq_true rfl⟩ rfl hl.1 rfl (Nat.le_of_ble_eq_true rfl) ⟨Nat.zero_le _, Nat.zero_le _⟩ dX2_ofConcept_93 ?_
    exact g_iret G (rfl) dX2_ofConcept_96
theorem ok_X2_ofText : gOK yX2_ofText cX2_ofText 5 (some .int) 3 := ⟨gm_371, gm_18, by decide +kernel⟩
set_option maxRecDepth 100000 in
set_option maxHeartbeats 4000000 in
theorem c_X2_ofText (l : Launch) (w : GP) (f : CS) (d : Nat) (g : Nat) (q : Nat) (hI : gI f) (hd : d < nD f) (hg : g < 3) (hq : q < 7) : Met l yX2_ofText (gws yX2_ofText cX2_ofText 5 (some .int)) ({ frames := 4, cells := 0, slots := 0, locals := 91 }) (gPc w f [.ref (w.2.2.2 0), .int (nI d), .int (nI g), .int (nI q)]) (gRd (.int (oxF f (d * 3 + g) q))) 0 0 (fun _ => False) := by
  refine g_read (by decide) (Nat.le_of_ble_eq_true rfl) ?_
  intro P_ E_ S_ M_ B_ T_ C_ ls G hV hl
  obtain ⟨hx, hb, hml, hown, hts⟩ := id G.1
  obtain ⟨⟨hT, hT24⟩, ⟨hC, hC12⟩, ⟨hD, hD6⟩, hLn⟩ := id hI
  have hl : lv_has ls 5 [(0, .ref (w.2.2.2 0)), (1, .int (nI d)), (2, .int (nI g)), (3, .int (nI q))] := hl
  refine lv_aload_n hx hb dX2_ofText_0 rfl (lv_at hl 0 rfl) ?_
  refine lv_iload_n hx hb dX2_ofText_1 rfl (lv_at hl 1 rfl) ?_
  refine lv_iload_n hx hb dX2_ofText_2 rfl (lv_at hl 2 rfl) ?_
  refine g_callV (As := [.int (nI d), .int (nI g)]) (rest := []) G.1 hV 0 (by decide) rfl rfl ok_X2_requireText gm_287 gm_288 gm_286 (c_X2_requireText l w f d g hI (by omega) (by omega)) ⟨rfl, rfl⟩ ⟨Nat.le_of_ble_eq_true rfl, Nat.le_of_ble_eq_true rfl⟩ rfl hl.1 rfl (Nat.le_of_ble_eq_true rfl) ⟨Nat.zero_le _, Nat.zero_le _⟩ dX2_ofText_3 ?_
  refine lv_istore (lv' := [(4, .int (nI (d * 3 + g))), (0, .ref (w.2.2.2 0)), (1, .int (nI d)), (2, .int (nI g)), (3, .int (nI q))]) hx hb dX2_ofText_6 hl (by decide) rfl (fun ls hl => ?_)
  refine lv_aload_n hx hb dX2_ofText_8 rfl (lv_at hl 1 rfl) ?_
  refine lv_iload_n hx hb dX2_ofText_9 rfl (lv_at hl 4 rfl) ?_
  refine lv_bipush (v := nI 6) hx hb dX2_ofText_10 (by decide) ?_
  refine g_callVv (As := [.int (nI q), .int (nI 6)]) (rest := []) G.1 hV 0 (by decide) rfl rfl ok_X2_requireWhat gm_246 gm_247 gm_245 (c_X2_requireWhat l w f q 6 hI (by omega) (by omega)) ⟨rfl, rfl⟩ ⟨Nat.le_of_ble_eq_true rfl, Nat.le_of_ble_eq_true rfl⟩ rfl hl.1 rfl (Nat.le_of_ble_eq_true rfl) ⟨Nat.zero_le _, Nat.zero_le _⟩ dX2_ofText_12 ?_
  have hcs : q = 0 ∨ q = 1 ∨ q = 2 ∨ q = 3 ∨ q = 4 ∨ q = 5 ∨ q = 6 := by omega
  rcases hcs with rfl | rfl | rfl | rfl | rfl | rfl | rfl
  · skip
    refine lv_iload_n hx hb dX2_ofText_15 rfl (lv_at hl 4 rfl) ?_
    refine lv_tableIn (off := 40) (tgt := 56) hx hb dX2_ofText_16 (by decide) (by decide) (by decide) (by decide) ?_
    refine lv_aload_n hx hb dX2_ofText_56 rfl (lv_at hl 1 rfl) ?_
    refine g_get hx hb hts hown hV 0 1 (by decide) (v := .ref (w.2.2.2 2)) rfl rfl gin2 (by decide) gm_158 (rfl) dX2_ofText_57 ?_
    refine g_get hx hb hts hown hV 2 2 (by decide) (v := .ref (w.2.2.2 16)) rfl rfl gin1 (by decide) gm_302 (rfl) dX2_ofText_60 ?_
    refine lv_iload hx hb dX2_ofText_63 (lv_at hl 0 rfl) ?_
    refine g_ialn (a := 11) (n := 18) hx hb hV 16 (by decide) (by decide) rfl rfl (i := d * 3 + g) (by omega) dX2_ofText_65 ?_
    rw [(hLn (d * 3 + g) (by omega)).1]
    exact g_iret G (rfl) dX2_ofText_66
  · skip
    refine lv_iload_n hx hb dX2_ofText_15 rfl (lv_at hl 4 rfl) ?_
    refine lv_tableIn (off := 51) (tgt := 67) hx hb dX2_ofText_16 (by decide) (by decide) (by decide) (by decide) ?_
    refine lv_aload_n hx hb dX2_ofText_67 rfl (lv_at hl 1 rfl) ?_
    refine g_get hx hb hts hown hV 0 1 (by decide) (v := .ref (w.2.2.2 2)) rfl rfl gin2 (by decide) gm_158 (rfl) dX2_ofText_68 ?_
    refine g_get hx hb hts hown hV 2 3 (by decide) (v := .ref (w.2.2.2 17)) rfl rfl gin1 (by decide) gm_285 (rfl) dX2_ofText_71 ?_
    refine lv_iload hx hb dX2_ofText_74 (lv_at hl 0 rfl) ?_
    refine g_ialn (a := 12) (n := 18) hx hb hV 17 (by decide) (by decide) rfl rfl (i := d * 3 + g) (by omega) dX2_ofText_76 ?_
    exact g_iret G (rfl) dX2_ofText_77
  · skip
    refine lv_iload_n hx hb dX2_ofText_15 rfl (lv_at hl 4 rfl) ?_
    refine lv_tableIn (off := 62) (tgt := 78) hx hb dX2_ofText_16 (by decide) (by decide) (by decide) (by decide) ?_
    refine lv_aload_n hx hb dX2_ofText_78 rfl (lv_at hl 1 rfl) ?_
    refine g_get hx hb hts hown hV 0 1 (by decide) (v := .ref (w.2.2.2 2)) rfl rfl gin2 (by decide) gm_158 (rfl) dX2_ofText_79 ?_
    refine lv_iload hx hb dX2_ofText_82 (lv_at hl 0 rfl) ?_
    refine lv_iconst (v := -1) hx hb dX2_ofText_84 (by decide) ?_
    refine g_callV (As := [.int (nI (d * 3 + g)), .int (-1)]) (rest := []) G.1 hV 2 (by decide) rfl rfl ok_X1_usesAmongIn gm_112 gm_113 gm_313 (c_X1_usesAmongIn l w f (d * 3 + g) (-1) hI (by omega)) ⟨rfl, rfl⟩ ⟨Nat.le_of_ble_eq_true rfl, Nat.le_of_ble_eq_true rfl⟩ rfl hl.1 rfl (Nat.le_of_ble_eq_true rfl) ⟨Nat.zero_le _, Nat.zero_le _⟩ dX2_ofText_85 ?_
    exact g_iret G (rfl) dX2_ofText_88
  · skip
    refine lv_iload_n hx hb dX2_ofText_15 rfl (lv_at hl 4 rfl) ?_
    refine lv_tableIn (off := 73) (tgt := 89) hx hb dX2_ofText_16 (by decide) (by decide) (by decide) (by decide) ?_
    refine lv_aload_n hx hb dX2_ofText_89 rfl (lv_at hl 1 rfl) ?_
    refine g_get hx hb hts hown hV 0 1 (by decide) (v := .ref (w.2.2.2 2)) rfl rfl gin2 (by decide) gm_158 (rfl) dX2_ofText_90 ?_
    refine lv_iload hx hb dX2_ofText_93 (lv_at hl 0 rfl) ?_
    refine lv_iconst (v := nI 3) hx hb dX2_ofText_95 (by decide) ?_
    refine g_callV (As := [.int (nI (d * 3 + g)), .int (nI 3)]) (rest := []) G.1 hV 2 (by decide) rfl rfl ok_X1_usesInState gm_116 gm_117 gm_314 (c_X1_usesInState l w f (d * 3 + g) (nI 3) hI (by omega)) ⟨rfl, rfl⟩ ⟨Nat.le_of_ble_eq_true rfl, Nat.le_of_ble_eq_true rfl⟩ rfl hl.1 rfl (Nat.le_of_ble_eq_true rfl) ⟨Nat.zero_le _, Nat.zero_le _⟩ dX2_ofText_96 ?_
    exact g_iret G (rfl) dX2_ofText_99
  · skip
    refine lv_iload_n hx hb dX2_ofText_15 rfl (lv_at hl 4 rfl) ?_
    refine lv_tableIn (off := 84) (tgt := 100) hx hb dX2_ofText_16 (by decide) (by decide) (by decide) (by decide) ?_
    refine lv_aload_n hx hb dX2_ofText_100 rfl (lv_at hl 1 rfl) ?_
    refine g_get hx hb hts hown hV 0 1 (by decide) (v := .ref (w.2.2.2 2)) rfl rfl gin2 (by decide) gm_158 (rfl) dX2_ofText_101 ?_
    refine lv_iload hx hb dX2_ofText_104 (lv_at hl 0 rfl) ?_
    refine g_callV (As := [.int (nI (d * 3 + g))]) (rest := []) G.1 hV 2 (by decide) rfl rfl ok_X1_firstBanned gm_120 gm_121 gm_315 (c_X1_firstBanned l w f (d * 3 + g) hI (by omega)) ⟨rfl, rfl⟩ ⟨Nat.le_of_ble_eq_true rfl, Nat.le_of_ble_eq_true rfl⟩ rfl hl.1 rfl (Nat.le_of_ble_eq_true rfl) ⟨Nat.zero_le _, Nat.zero_le _⟩ dX2_ofText_106 ?_
    exact g_iret G (rfl) dX2_ofText_109
  · skip
    refine lv_iload_n hx hb dX2_ofText_15 rfl (lv_at hl 4 rfl) ?_
    refine lv_tableIn (off := 94) (tgt := 110) hx hb dX2_ofText_16 (by decide) (by decide) (by decide) (by decide) ?_
    refine lv_aload_n hx hb dX2_ofText_110 rfl (lv_at hl 1 rfl) ?_
    refine g_get hx hb hts hown hV 0 1 (by decide) (v := .ref (w.2.2.2 2)) rfl rfl gin2 (by decide) gm_158 (rfl) dX2_ofText_111 ?_
    refine lv_iload hx hb dX2_ofText_114 (lv_at hl 0 rfl) ?_
    refine g_callV (As := [.int (nI (d * 3 + g))]) (rest := []) G.1 hV 2 (by decide) rfl rfl ok_X1_consistency gm_149 gm_150 gm_311 (c_X1_consistency l w f (d * 3 + g) hI (by omega)) ⟨rfl, rfl⟩ ⟨Nat.le_of_ble_eq_true rfl, Nat.le_of_ble_eq_true rfl⟩ rfl hl.1 rfl (Nat.le_of_ble_eq_true rfl) ⟨Nat.zero_le _, Nat.zero_le _⟩ dX2_ofText_116 ?_
    exact g_iret G (rfl) dX2_ofText_119
  · skip
    refine lv_iload_n hx hb dX2_ofText_15 rfl (lv_at hl 4 rfl) ?_
    refine lv_tableOut (tgt := 120) hx hb dX2_ofText_16 (by decide) (by decide) ?_
    refine lv_aload_n hx hb dX2_ofText_120 rfl (lv_at hl 1 rfl) ?_
    refine g_get hx hb hts hown hV 0 1 (by decide) (v := .ref (w.2.2.2 2)) rfl rfl gin2 (by decide) gm_158 (rfl) dX2_ofText_121 ?_
    refine lv_iload hx hb dX2_ofText_124 (lv_at hl 0 rfl) ?_
    refine g_callV (As := [.int (nI (d * 3 + g))]) (rest := []) G.1 hV 2 (by decide) rfl rfl ok_X1_ambiguousForms gm_317 gm_318 gm_316 (c_X1_ambiguousForms l w f (d * 3 + g) hI (by omega)) ⟨rfl, rfl⟩ ⟨Nat.le_of_ble_eq_true rfl, Nat.le_of_ble_eq_true rfl⟩ rfl hl.1 rfl (Nat.le_of_ble_eq_true rfl) ⟨Nat.zero_le _, Nat.zero_le _⟩ dX2_ofText_126 ?_
    exact g_iret G (rfl) dX2_ofText_129
theorem ok_X2_many : gOK yX2_many cX2_many 2 (some .int) 1 := ⟨gm_380, gm_18, by decide +kernel⟩
set_option maxRecDepth 100000 in
set_option maxHeartbeats 4000000 in
theorem c_X2_many (l : Launch) (w : GP) (f : CS) (q : Nat) (hI : gI f) (hq : q < 13) : Met l yX2_many (gws yX2_many cX2_many 2 (some .int)) ({ frames := 3, cells := 0, slots := 0, locals := 69 }) (gPc w f [.ref (w.2.2.2 0), .int (nI q)]) (gRd (.int (maF f q))) 0 0 (fun _ => False) := by
  refine g_read (by decide) (Nat.le_of_ble_eq_true rfl) ?_
  intro P_ E_ S_ M_ B_ T_ C_ ls G hV hl
  obtain ⟨hx, hb, hml, hown, hts⟩ := id G.1
  obtain ⟨⟨hT, hT24⟩, ⟨hC, hC12⟩, ⟨hD, hD6⟩, hLn⟩ := id hI
  have hl : lv_has ls 2 [(0, .ref (w.2.2.2 0)), (1, .int (nI q))] := hl
  refine lv_aload_n hx hb dX2_many_0 rfl (lv_at hl 0 rfl) ?_
  refine lv_iload_n hx hb dX2_many_1 rfl (lv_at hl 1 rfl) ?_
  refine lv_bipush (v := nI 12) hx hb dX2_many_2 (by decide) ?_
  refine g_callVv (As := [.int (nI q), .int (nI 12)]) (rest := []) G.1 hV 0 (by decide) rfl rfl ok_X2_requireWhat gm_246 gm_247 gm_245 (c_X2_requireWhat l w f q 12 hI (by omega) (by omega)) ⟨rfl, rfl⟩ ⟨Nat.le_of_ble_eq_true rfl, Nat.le_of_ble_eq_true rfl⟩ rfl hl.1 rfl (Nat.le_of_ble_eq_true rfl) ⟨Nat.zero_le _, Nat.zero_le _⟩ dX2_many_4 ?_
  have hcs : q = 0 ∨ q = 1 ∨ q = 2 ∨ q = 3 ∨ q = 4 ∨ q = 5 ∨ q = 6 ∨ q = 7 ∨ q = 8 ∨ q = 9 ∨ q = 10 ∨ q = 11 ∨ q = 12 := by omega
  rcases hcs with rfl | rfl | rfl | rfl | rfl | rfl | rfl | rfl | rfl | rfl | rfl | rfl | rfl
  · skip
    refine lv_iload_n hx hb dX2_many_7 rfl (lv_at hl 1 rfl) ?_
    refine lv_tableIn (off := 64) (tgt := 72) hx hb dX2_many_8 (by decide) (by decide) (by decide) (by decide) ?_
    refine lv_aload_n hx hb dX2_many_72 rfl (lv_at hl 0 rfl) ?_
    refine g_get hx hb hts hown hV 0 0 (by decide) (v := .ref (w.2.2.2 1)) rfl rfl gin2 (by decide) gm_155 (rfl) dX2_many_73 ?_
    refine g_get hx hb hts hown hV 1 0 (by decide) (v := .int (nI (nC f))) rfl rfl gin0 (by decide) gm_169 (by rw [← hC]; rfl) dX2_many_76 ?_
    exact g_iret G (rfl) dX2_many_79
  · skip
    refine lv_iload_n hx hb dX2_many_7 rfl (lv_at hl 1 rfl) ?_
    refine lv_tableIn (off := 72) (tgt := 80) hx hb dX2_many_8 (by decide) (by decide) (by decide) (by decide) ?_
    refine lv_aload_n hx hb dX2_many_80 rfl (lv_at hl 0 rfl) ?_
    refine g_get hx hb hts hown hV 0 0 (by decide) (v := .ref (w.2.2.2 1)) rfl rfl gin2 (by decide) gm_155 (rfl) dX2_many_81 ?_
    refine g_callV (As := []) (rest := []) G.1 hV 1 (by decide) rfl rfl ok_X0_conceptsWithTerms gm_329 gm_330 gm_328 (c_X0_conceptsWithTerms l w f  hI ) ⟨rfl, rfl⟩ ⟨Nat.le_of_ble_eq_true rfl, Nat.le_of_ble_eq_true rfl⟩ rfl hl.1 rfl (Nat.le_of_ble_eq_true rfl) ⟨Nat.zero_le _, Nat.zero_le _⟩ dX2_many_84 ?_
    exact g_iret G (rfl) dX2_many_87
  · skip
    refine lv_iload_n hx hb dX2_many_7 rfl (lv_at hl 1 rfl) ?_
    refine lv_tableIn (off := 80) (tgt := 88) hx hb dX2_many_8 (by decide) (by decide) (by decide) (by decide) ?_
    refine lv_aload_n hx hb dX2_many_88 rfl (lv_at hl 0 rfl) ?_
    refine g_get hx hb hts hown hV 0 0 (by decide) (v := .ref (w.2.2.2 1)) rfl rfl gin2 (by decide) gm_155 (rfl) dX2_many_89 ?_
    refine g_get hx hb hts hown hV 1 1 (by decide) (v := .int (nI (nT f))) rfl rfl gin0 (by decide) gm_185 (by rw [← hT]; rfl) dX2_many_92 ?_
    exact g_iret G (rfl) dX2_many_95
  · skip
    refine lv_iload_n hx hb dX2_many_7 rfl (lv_at hl 1 rfl) ?_
    refine lv_tableIn (off := 88) (tgt := 96) hx hb dX2_many_8 (by decide) (by decide) (by decide) (by decide) ?_
    refine lv_aload_n hx hb dX2_many_96 rfl (lv_at hl 0 rfl) ?_
    refine g_get hx hb hts hown hV 0 0 (by decide) (v := .ref (w.2.2.2 1)) rfl rfl gin2 (by decide) gm_155 (rfl) dX2_many_97 ?_
    refine lv_iload_n hx hb dX2_many_100 rfl (lv_at hl 1 rfl) ?_
    refine lv_iconst (v := nI 3) hx hb dX2_many_101 (by decide) ?_
    refine g_isubn hx hb (by decide) dX2_many_102 ?_
    refine g_callV (As := [.int (nI (3 - 3))]) (rest := []) G.1 hV 1 (by decide) rfl rfl ok_X0_termsInState gm_333 gm_334 gm_332 (c_X0_termsInState l w f (nI (3 - 3)) hI ) ⟨rfl, rfl⟩ ⟨Nat.le_of_ble_eq_true rfl, Nat.le_of_ble_eq_true rfl⟩ rfl hl.1 rfl (Nat.le_of_ble_eq_true rfl) ⟨Nat.zero_le _, Nat.zero_le _⟩ dX2_many_103 ?_
    exact g_iret G (rfl) dX2_many_106
  · skip
    refine lv_iload_n hx hb dX2_many_7 rfl (lv_at hl 1 rfl) ?_
    refine lv_tableIn (off := 88) (tgt := 96) hx hb dX2_many_8 (by decide) (by decide) (by decide) (by decide) ?_
    refine lv_aload_n hx hb dX2_many_96 rfl (lv_at hl 0 rfl) ?_
    refine g_get hx hb hts hown hV 0 0 (by decide) (v := .ref (w.2.2.2 1)) rfl rfl gin2 (by decide) gm_155 (rfl) dX2_many_97 ?_
    refine lv_iload_n hx hb dX2_many_100 rfl (lv_at hl 1 rfl) ?_
    refine lv_iconst (v := nI 3) hx hb dX2_many_101 (by decide) ?_
    refine g_isubn hx hb (by decide) dX2_many_102 ?_
    refine g_callV (As := [.int (nI (4 - 3))]) (rest := []) G.1 hV 1 (by decide) rfl rfl ok_X0_termsInState gm_333 gm_334 gm_332 (c_X0_termsInState l w f (nI (4 - 3)) hI ) ⟨rfl, rfl⟩ ⟨Nat.le_of_ble_eq_true rfl, Nat.le_of_ble_eq_true rfl⟩ rfl hl.1 rfl (Nat.le_of_ble_eq_true rfl) ⟨Nat.zero_le _, Nat.zero_le _⟩ dX2_many_103 ?_
    exact g_iret G (rfl) dX2_many_106
  · skip
    refine lv_iload_n hx hb dX2_many_7 rfl (lv_at hl 1 rfl) ?_
    refine lv_tableIn (off := 88) (tgt := 96) hx hb dX2_many_8 (by decide) (by decide) (by decide) (by decide) ?_
    refine lv_aload_n hx hb dX2_many_96 rfl (lv_at hl 0 rfl) ?_
    refine g_get hx hb hts hown hV 0 0 (by decide) (v := .ref (w.2.2.2 1)) rfl rfl gin2 (by decide) gm_155 (rfl) dX2_many_97 ?_
    refine lv_iload_n hx hb dX2_many_100 rfl (lv_at hl 1 rfl) ?_
    refine lv_iconst (v := nI 3) hx hb dX2_many_101 (by decide) ?_
    refine g_isubn hx hb (by decide) dX2_many_102 ?_
    refine g_callV (As := [.int (nI (5 - 3))]) (rest := []) G.1 hV 1 (by decide) rfl rfl ok_X0_termsInState gm_333 gm_334 gm_332 (c_X0_termsInState l w f (nI (5 - 3)) hI ) ⟨rfl, rfl⟩ ⟨Nat.le_of_ble_eq_true rfl, Nat.le_of_ble_eq_true rfl⟩ rfl hl.1 rfl (Nat.le_of_ble_eq_true rfl) ⟨Nat.zero_le _, Nat.zero_le _⟩ dX2_many_103 ?_
    exact g_iret G (rfl) dX2_many_106
  · skip
    refine lv_iload_n hx hb dX2_many_7 rfl (lv_at hl 1 rfl) ?_
    refine lv_tableIn (off := 88) (tgt := 96) hx hb dX2_many_8 (by decide) (by decide) (by decide) (by decide) ?_
    refine lv_aload_n hx hb dX2_many_96 rfl (lv_at hl 0 rfl) ?_
    refine g_get hx hb hts hown hV 0 0 (by decide) (v := .ref (w.2.2.2 1)) rfl rfl gin2 (by decide) gm_155 (rfl) dX2_many_97 ?_
    refine lv_iload_n hx hb dX2_many_100 rfl (lv_at hl 1 rfl) ?_
    refine lv_iconst (v := nI 3) hx hb dX2_many_101 (by decide) ?_
    refine g_isubn hx hb (by decide) dX2_many_102 ?_
    refine g_callV (As := [.int (nI (6 - 3))]) (rest := []) G.1 hV 1 (by decide) rfl rfl ok_X0_termsInState gm_333 gm_334 gm_332 (c_X0_termsInState l w f (nI (6 - 3)) hI ) ⟨rfl, rfl⟩ ⟨Nat.le_of_ble_eq_true rfl, Nat.le_of_ble_eq_true rfl⟩ rfl hl.1 rfl (Nat.le_of_ble_eq_true rfl) ⟨Nat.zero_le _, Nat.zero_le _⟩ dX2_many_103 ?_
    exact g_iret G (rfl) dX2_many_106
  · skip
    refine lv_iload_n hx hb dX2_many_7 rfl (lv_at hl 1 rfl) ?_
    refine lv_tableIn (off := 99) (tgt := 107) hx hb dX2_many_8 (by decide) (by decide) (by decide) (by decide) ?_
    refine lv_aload_n hx hb dX2_many_107 rfl (lv_at hl 0 rfl) ?_
    refine g_get hx hb hts hown hV 0 1 (by decide) (v := .ref (w.2.2.2 2)) rfl rfl gin2 (by decide) gm_158 (rfl) dX2_many_108 ?_
    refine g_get hx hb hts hown hV 2 1 (by decide) (v := .int (nI (nD f))) rfl rfl gin1 (by decide) gm_276 (by rw [← hD]; rfl) dX2_many_111 ?_
    exact g_iret G (rfl) dX2_many_114
  · skip
    refine lv_iload_n hx hb dX2_many_7 rfl (lv_at hl 1 rfl) ?_
    refine lv_tableIn (off := 107) (tgt := 115) hx hb dX2_many_8 (by decide) (by decide) (by decide) (by decide) ?_
    refine lv_aload_n hx hb dX2_many_115 rfl (lv_at hl 0 rfl) ?_
    refine g_get hx hb hts hown hV 0 1 (by decide) (v := .ref (w.2.2.2 2)) rfl rfl gin2 (by decide) gm_158 (rfl) dX2_many_116 ?_
    refine lv_iload_n hx hb dX2_many_119 rfl (lv_at hl 1 rfl) ?_
    refine lv_bipush (v := nI 8) hx hb dX2_many_120 (by decide) ?_
    refine g_isubn hx hb (by decide) dX2_many_122 ?_
    refine g_callV (As := [.int (nI (8 - 8))]) (rest := []) G.1 hV 2 (by decide) rfl rfl ok_X1_textsInState gm_337 gm_338 gm_336 (c_X1_textsInState l w f (nI (8 - 8)) hI ) ⟨rfl, rfl⟩ ⟨Nat.le_of_ble_eq_true rfl, Nat.le_of_ble_eq_true rfl⟩ rfl hl.1 rfl (Nat.le_of_ble_eq_true rfl) ⟨Nat.zero_le _, Nat.zero_le _⟩ dX2_many_123 ?_
    exact g_iret G (rfl) dX2_many_126
  · skip
    refine lv_iload_n hx hb dX2_many_7 rfl (lv_at hl 1 rfl) ?_
    refine lv_tableIn (off := 107) (tgt := 115) hx hb dX2_many_8 (by decide) (by decide) (by decide) (by decide) ?_
    refine lv_aload_n hx hb dX2_many_115 rfl (lv_at hl 0 rfl) ?_
    refine g_get hx hb hts hown hV 0 1 (by decide) (v := .ref (w.2.2.2 2)) rfl rfl gin2 (by decide) gm_158 (rfl) dX2_many_116 ?_
    refine lv_iload_n hx hb dX2_many_119 rfl (lv_at hl 1 rfl) ?_
    refine lv_bipush (v := nI 8) hx hb dX2_many_120 (by decide) ?_
    refine g_isubn hx hb (by decide) dX2_many_122 ?_
    refine g_callV (As := [.int (nI (9 - 8))]) (rest := []) G.1 hV 2 (by decide) rfl rfl ok_X1_textsInState gm_337 gm_338 gm_336 (c_X1_textsInState l w f (nI (9 - 8)) hI ) ⟨rfl, rfl⟩ ⟨Nat.le_of_ble_eq_true rfl, Nat.le_of_ble_eq_true rfl⟩ rfl hl.1 rfl (Nat.le_of_ble_eq_true rfl) ⟨Nat.zero_le _, Nat.zero_le _⟩ dX2_many_123 ?_
    exact g_iret G (rfl) dX2_many_126
  · skip
    refine lv_iload_n hx hb dX2_many_7 rfl (lv_at hl 1 rfl) ?_
    refine lv_tableIn (off := 107) (tgt := 115) hx hb dX2_many_8 (by decide) (by decide) (by decide) (by decide) ?_
    refine lv_aload_n hx hb dX2_many_115 rfl (lv_at hl 0 rfl) ?_
    refine g_get hx hb hts hown hV 0 1 (by decide) (v := .ref (w.2.2.2 2)) rfl rfl gin2 (by decide) gm_158 (rfl) dX2_many_116 ?_
    refine lv_iload_n hx hb dX2_many_119 rfl (lv_at hl 1 rfl) ?_
    refine lv_bipush (v := nI 8) hx hb dX2_many_120 (by decide) ?_
    refine g_isubn hx hb (by decide) dX2_many_122 ?_
    refine g_callV (As := [.int (nI (10 - 8))]) (rest := []) G.1 hV 2 (by decide) rfl rfl ok_X1_textsInState gm_337 gm_338 gm_336 (c_X1_textsInState l w f (nI (10 - 8)) hI ) ⟨rfl, rfl⟩ ⟨Nat.le_of_ble_eq_true rfl, Nat.le_of_ble_eq_true rfl⟩ rfl hl.1 rfl (Nat.le_of_ble_eq_true rfl) ⟨Nat.zero_le _, Nat.zero_le _⟩ dX2_many_123 ?_
    exact g_iret G (rfl) dX2_many_126
  · skip
    refine lv_iload_n hx hb dX2_many_7 rfl (lv_at hl 1 rfl) ?_
    refine lv_tableIn (off := 119) (tgt := 127) hx hb dX2_many_8 (by decide) (by decide) (by decide) (by decide) ?_
    refine lv_aload_n hx hb dX2_many_127 rfl (lv_at hl 0 rfl) ?_
    refine g_get hx hb hts hown hV 0 1 (by decide) (v := .ref (w.2.2.2 2)) rfl rfl gin2 (by decide) gm_158 (rfl) dX2_many_128 ?_
    refine lv_iconst (v := -1) hx hb dX2_many_131 (by decide) ?_
    refine g_callV (As := [.int (-1)]) (rest := []) G.1 hV 2 (by decide) rfl rfl ok_X1_usesAmong gm_251 gm_252 gm_250 (c_X1_usesAmong l w f (-1) hI ) ⟨rfl, rfl⟩ ⟨Nat.le_of_ble_eq_true rfl, Nat.le_of_ble_eq_true rfl⟩ rfl hl.1 rfl (Nat.le_of_ble_eq_true rfl) ⟨Nat.zero_le _, Nat.zero_le _⟩ dX2_many_132 ?_
    exact g_iret G (rfl) dX2_many_135
  · skip
    refine lv_iload_n hx hb dX2_many_7 rfl (lv_at hl 1 rfl) ?_
    refine lv_tableOut (tgt := 136) hx hb dX2_many_8 (by decide) (by decide) ?_
    refine lv_aload_n hx hb dX2_many_136 rfl (lv_at hl 0 rfl) ?_
    refine g_get hx hb hts hown hV 0 2 (by decide) (v := .int (f 0 3)) rfl rfl gin2 (by decide) gm_159 (rfl) dX2_many_137 ?_
    exact g_iret G (rfl) dX2_many_140
theorem ok_X2_use : gOK yX2_use cX2_use 5 (some .int) 3 := ⟨gm_375, gm_18, by decide +kernel⟩
set_option maxRecDepth 100000 in
set_option maxHeartbeats 4000000 in
theorem c_X2_use (l : Launch) (w : GP) (f : CS) (d : Nat) (g : Nat) (p : Nat) (hI : gI f) (hd : d < nD f) (hg : g < 3) (hp : p < nL f (d * 3 + g)) : Met l yX2_use (gws yX2_use cX2_use 5 (some .int)) ({ frames := 2, cells := 0, slots := 0, locals := 43 }) (gPc w f [.ref (w.2.2.2 0), .int (nI d), .int (nI g), .int (nI p)]) (gRd (.int (f (40 + (d * 3 + g)) p))) 0 0 (fun _ => False) := by
  refine g_read (by decide) (Nat.le_of_ble_eq_true rfl) ?_
  intro P_ E_ S_ M_ B_ T_ C_ ls G hV hl
  obtain ⟨hx, hb, hml, hown, hts⟩ := id G.1
  obtain ⟨⟨hT, hT24⟩, ⟨hC, hC12⟩, ⟨hD, hD6⟩, hLn⟩ := id hI
  have hl : lv_has ls 5 [(0, .ref (w.2.2.2 0)), (1, .int (nI d)), (2, .int (nI g)), (3, .int (nI p))] := hl
  have hLt := hLn (d * 3 + g) (by omega)
  refine lv_aload_n hx hb dX2_use_0 rfl (lv_at hl 0 rfl) ?_
  refine lv_iload_n hx hb dX2_use_1 rfl (lv_at hl 1 rfl) ?_
  refine lv_iload_n hx hb dX2_use_2 rfl (lv_at hl 2 rfl) ?_
  refine g_callV (As := [.int (nI d), .int (nI g)]) (rest := []) G.1 hV 0 (by decide) rfl rfl ok_X2_requireText gm_287 gm_288 gm_286 (c_X2_requireText l w f d g hI (by omega) (by omega)) ⟨rfl, rfl⟩ ⟨Nat.le_of_ble_eq_true rfl, Nat.le_of_ble_eq_true rfl⟩ rfl hl.1 rfl (Nat.le_of_ble_eq_true rfl) ⟨Nat.zero_le _, Nat.zero_le _⟩ dX2_use_3 ?_
  refine lv_istore (lv' := [(4, .int (nI (d * 3 + g))), (0, .ref (w.2.2.2 0)), (1, .int (nI d)), (2, .int (nI g)), (3, .int (nI p))]) hx hb dX2_use_6 hl (by decide) rfl (fun ls hl => ?_)
  refine lv_aload_n hx hb dX2_use_8 rfl (lv_at hl 1 rfl) ?_
  refine lv_iload_n hx hb dX2_use_9 rfl (lv_at hl 4 rfl) ?_
  refine lv_aload_n hx hb dX2_use_10 rfl (lv_at hl 1 rfl) ?_
  refine g_get hx hb hts hown hV 0 1 (by decide) (v := .ref (w.2.2.2 2)) rfl rfl gin2 (by decide) gm_158 (rfl) dX2_use_11 ?_
  refine g_get hx hb hts hown hV 2 2 (by decide) (v := .ref (w.2.2.2 16)) rfl rfl gin1 (by decide) gm_302 (rfl) dX2_use_14 ?_
  refine lv_iload hx hb dX2_use_17 (lv_at hl 0 rfl) ?_
  refine g_ialn (a := 11) (n := 18) hx hb hV 16 (by decide) (by decide) rfl rfl (i := d * 3 + g) (by omega) dX2_use_19 ?_
  rw [(hLn (d * 3 + g) (by omega)).1]
  refine g_callVv (As := [.int (nI p), .int (nI (nL f (d * 3 + g)))]) (rest := []) G.1 hV 0 (by decide) rfl rfl ok_X2_requirePlace gm_295 gm_296 gm_294 (c_X2_requirePlace l w f p (nL f (d * 3 + g)) hI (by omega) (by omega)) ⟨rfl, rfl⟩ ⟨Nat.le_of_ble_eq_true rfl, Nat.le_of_ble_eq_true rfl⟩ rfl hl.1 rfl (Nat.le_of_ble_eq_true rfl) ⟨Nat.zero_le _, Nat.zero_le _⟩ dX2_use_20 ?_
  refine lv_aload_n hx hb dX2_use_23 rfl (lv_at hl 1 rfl) ?_
  refine g_get hx hb hts hown hV 0 1 (by decide) (v := .ref (w.2.2.2 2)) rfl rfl gin2 (by decide) gm_158 (rfl) dX2_use_24 ?_
  refine g_get hx hb hts hown hV 2 5 (by decide) (v := .ref (w.2.2.2 37)) rfl rfl gin1 (by decide) gm_312 (rfl) dX2_use_27 ?_
  refine lv_iload hx hb dX2_use_30 (lv_at hl 0 rfl) ?_
  refine g_row (n := 18) (b := 38) hx hb hV 37 (by decide) rfl (i := d * 3 + g) (by omega) (by decide) dX2_use_32 ?_
  refine lv_iload_n hx hb dX2_use_33 rfl (lv_at hl 4 rfl) ?_
  refine g_ialn (a := 40 + (d * 3 + g)) (n := 12) hx hb hV (38 + (d * 3 + g)) (by omega) (by omega) (gid_38 (by omega)) (gn_38 (by omega)) (i := p) (by omega) dX2_use_34 ?_
  exact g_iret G (rfl) dX2_use_35
theorem ok_X2_agreement : gOK yX2_agreement cX2_agreement 2 (some .int) 1 := ⟨gm_396, gm_18, by decide +kernel⟩
set_option maxRecDepth 100000 in
set_option maxHeartbeats 4000000 in
theorem c_X2_agreement (l : Launch) (w : GP) (f : CS) (d : Nat) (hI : gI f) (hd : d < nD f) : Met l yX2_agreement (gws yX2_agreement cX2_agreement 2 (some .int)) ({ frames := 3, cells := 0, slots := 0, locals := 71 }) (gPc w f [.ref (w.2.2.2 0), .int (nI d)]) (gRd (.int (nI (agN f d)))) 0 0 (fun _ => False) := by
  refine g_read (by decide) (Nat.le_of_ble_eq_true rfl) ?_
  intro P_ E_ S_ M_ B_ T_ C_ ls G hV hl
  obtain ⟨hx, hb, hml, hown, hts⟩ := id G.1
  obtain ⟨⟨hT, hT24⟩, ⟨hC, hC12⟩, ⟨hD, hD6⟩, hLn⟩ := id hI
  have hl : lv_has ls 2 [(0, .ref (w.2.2.2 0)), (1, .int (nI d))] := hl
  refine lv_aload_n hx hb dX2_agreement_0 rfl (lv_at hl 0 rfl) ?_
  refine lv_iload_n hx hb dX2_agreement_1 rfl (lv_at hl 1 rfl) ?_
  refine g_callVv (As := [.int (nI d)]) (rest := []) G.1 hV 0 (by decide) rfl rfl ok_X2_requireDocument gm_282 gm_283 gm_281 (c_X2_requireDocument l w f d hI (by omega)) ⟨rfl, rfl⟩ ⟨Nat.le_of_ble_eq_true rfl, Nat.le_of_ble_eq_true rfl⟩ rfl hl.1 rfl (Nat.le_of_ble_eq_true rfl) ⟨Nat.zero_le _, Nat.zero_le _⟩ dX2_agreement_2 ?_
  refine lv_aload_n hx hb dX2_agreement_5 rfl (lv_at hl 0 rfl) ?_
  refine g_get hx hb hts hown hV 0 1 (by decide) (v := .ref (w.2.2.2 2)) rfl rfl gin2 (by decide) gm_158 (rfl) dX2_agreement_6 ?_
  refine lv_iload_n hx hb dX2_agreement_9 rfl (lv_at hl 1 rfl) ?_
  refine g_callV (As := [.int (nI d)]) (rest := []) G.1 hV 2 (by decide) rfl rfl ok_X1_agreementOf gm_321 gm_322 gm_320 (c_X1_agreementOf l w f d hI (by omega)) ⟨rfl, rfl⟩ ⟨Nat.le_of_ble_eq_true rfl, Nat.le_of_ble_eq_true rfl⟩ rfl hl.1 rfl (Nat.le_of_ble_eq_true rfl) ⟨Nat.zero_le _, Nat.zero_le _⟩ dX2_agreement_10 ?_
  exact g_iret G (rfl) dX2_agreement_13
theorem ok_X2_reopenedBy : gOK yX2_reopenedBy cX2_reopenedBy 2 (some .int) 1 := ⟨gm_363, gm_18, by decide +kernel⟩
set_option maxRecDepth 100000 in
set_option maxHeartbeats 4000000 in
theorem c_X2_reopenedBy (l : Launch) (w : GP) (f : CS) (t : Nat) (hI : gI f) (ht : t < nT f) : Met l yX2_reopenedBy (gws yX2_reopenedBy cX2_reopenedBy 2 (some .int)) ({ frames := 4, cells := 0, slots := 0, locals := 93 }) (gPc w f [.ref (w.2.2.2 0), .int (nI t)]) (gRd (.int (rbF f t))) 0 0 (fun _ => False) := by
  refine g_read (by decide) (Nat.le_of_ble_eq_true rfl) ?_
  intro P_ E_ S_ M_ B_ T_ C_ ls G hV hl
  obtain ⟨hx, hb, hml, hown, hts⟩ := id G.1
  obtain ⟨⟨hT, hT24⟩, ⟨hC, hC12⟩, ⟨hD, hD6⟩, hLn⟩ := id hI
  have hl : lv_has ls 2 [(0, .ref (w.2.2.2 0)), (1, .int (nI t))] := hl
  refine lv_aload_n hx hb dX2_reopenedBy_0 rfl (lv_at hl 0 rfl) ?_
  refine lv_iload_n hx hb dX2_reopenedBy_1 rfl (lv_at hl 1 rfl) ?_
  refine g_callVv (As := [.int (nI t)]) (rest := []) G.1 hV 0 (by decide) rfl rfl ok_X2_requireTerm gm_208 gm_209 gm_207 (c_X2_requireTerm l w f t hI (by omega)) ⟨rfl, rfl⟩ ⟨Nat.le_of_ble_eq_true rfl, Nat.le_of_ble_eq_true rfl⟩ rfl hl.1 rfl (Nat.le_of_ble_eq_true rfl) ⟨Nat.zero_le _, Nat.zero_le _⟩ dX2_reopenedBy_2 ?_
  refine lv_aload_n hx hb dX2_reopenedBy_5 rfl (lv_at hl 0 rfl) ?_
  refine g_get hx hb hts hown hV 0 0 (by decide) (v := .ref (w.2.2.2 1)) rfl rfl gin2 (by decide) gm_155 (rfl) dX2_reopenedBy_6 ?_
  refine lv_iload_n hx hb dX2_reopenedBy_9 rfl (lv_at hl 1 rfl) ?_
  refine g_callV (As := [.int (nI t)]) (rest := []) G.1 hV 1 (by decide) rfl rfl ok_X0_canBeBanned gm_228 gm_229 gm_227 (c_X0_canBeBanned l w f t hI (by omega)) ⟨rfl, rfl⟩ ⟨Nat.le_of_ble_eq_true rfl, Nat.le_of_ble_eq_true rfl⟩ rfl hl.1 rfl (Nat.le_of_ble_eq_true rfl) ⟨Nat.zero_le _, Nat.zero_le _⟩ dX2_reopenedBy_10 ?_
  refine lv_if_eq (tgt := 29) hx hb dX2_reopenedBy_13 (by decide) (fun c13 => ?_) (fun c13 => ?_)
  · skip
    have c13 : ¬ (canB f t) := g_if0.mp c13
    refine lv_iconst (v := nI 0) hx hb dX2_reopenedBy_29 (by decide) ?_
    exact g_iret G (by unfold rbF; rw [if_neg c13]) dX2_reopenedBy_30
  · skip
    have c13 : canB f t := g_if1.mp c13
    refine lv_aload_n hx hb dX2_reopenedBy_16 rfl (lv_at hl 0 rfl) ?_
    refine g_get hx hb hts hown hV 0 1 (by decide) (v := .ref (w.2.2.2 2)) rfl rfl gin2 (by decide) gm_158 (rfl) dX2_reopenedBy_17 ?_
    refine lv_iconst (v := nI 1) hx hb dX2_reopenedBy_20 (by decide) ?_
    refine lv_iload_n hx hb dX2_reopenedBy_21 rfl (lv_at hl 1 rfl) ?_
    refine lv_ishl hx hb dX2_reopenedBy_22 ?_
    refine g_callV (As := [.int ((nI 1) <<< ((nI t) &&& 31))]) (rest := []) G.1 hV 2 (by decide) rfl rfl ok_X1_reopenedByOverdue gm_141 gm_142 gm_348 (c_X1_reopenedByOverdue l w f ((nI 1) <<< ((nI t) &&& 31)) hI ) ⟨rfl, rfl⟩ ⟨Nat.le_of_ble_eq_true rfl, Nat.le_of_ble_eq_true rfl⟩ rfl hl.1 rfl (Nat.le_of_ble_eq_true rfl) ⟨Nat.zero_le _, Nat.zero_le _⟩ dX2_reopenedBy_23 ?_
    refine lv_goto (tgt := 30) hx hb dX2_reopenedBy_26 (by decide) ?_
    exact g_iret G (by unfold rbF; rw [if_pos c13]; rfl) dX2_reopenedBy_30
theorem ok_X2_reopenedIn : gOK yX2_reopenedIn cX2_reopenedIn 2 (some .int) 1 := ⟨gm_400, gm_18, by decide +kernel⟩
set_option maxRecDepth 100000 in
set_option maxHeartbeats 4000000 in
theorem c_X2_reopenedIn (l : Launch) (w : GP) (f : CS) (k : Nat) (hI : gI f) (h1 : 1 ≤ k) (h2 : k ≤ 40) : Met l yX2_reopenedIn (gws yX2_reopenedIn cX2_reopenedIn 2 (some .int)) ({ frames := 4, cells := 0, slots := 0, locals := 93 }) (gPc w f [.ref (w.2.2.2 0), .int (nI k)]) (gRd (.int (riF f k))) 0 0 (fun _ => False) := by
  refine g_read (by decide) (Nat.le_of_ble_eq_true rfl) ?_
  intro P_ E_ S_ M_ B_ T_ C_ ls G hV hl
  obtain ⟨hx, hb, hml, hown, hts⟩ := id G.1
  obtain ⟨⟨hT, hT24⟩, ⟨hC, hC12⟩, ⟨hD, hD6⟩, hLn⟩ := id hI
  have hl : lv_has ls 2 [(0, .ref (w.2.2.2 0)), (1, .int (nI k))] := hl
  refine lv_aload_n hx hb dX2_reopenedIn_0 rfl (lv_at hl 0 rfl) ?_
  refine lv_iload_n hx hb dX2_reopenedIn_1 rfl (lv_at hl 1 rfl) ?_
  refine g_callVv (As := [.int (nI k)]) (rest := []) G.1 hV 0 (by decide) rfl rfl ok_X2_requireDays gm_325 gm_326 gm_324 (c_X2_requireDays l w f k hI (by omega) (by omega)) ⟨rfl, rfl⟩ ⟨Nat.le_of_ble_eq_true rfl, Nat.le_of_ble_eq_true rfl⟩ rfl hl.1 rfl (Nat.le_of_ble_eq_true rfl) ⟨Nat.zero_le _, Nat.zero_le _⟩ dX2_reopenedIn_2 ?_
  refine lv_aload_n hx hb dX2_reopenedIn_5 rfl (lv_at hl 0 rfl) ?_
  refine g_get hx hb hts hown hV 0 1 (by decide) (v := .ref (w.2.2.2 2)) rfl rfl gin2 (by decide) gm_158 (rfl) dX2_reopenedIn_6 ?_
  refine lv_aload_n hx hb dX2_reopenedIn_9 rfl (lv_at hl 0 rfl) ?_
  refine g_get hx hb hts hown hV 0 0 (by decide) (v := .ref (w.2.2.2 1)) rfl rfl gin2 (by decide) gm_155 (rfl) dX2_reopenedIn_10 ?_
  refine lv_aload_n hx hb dX2_reopenedIn_13 rfl (lv_at hl 0 rfl) ?_
  refine g_get hx hb hts hown hV 0 2 (by decide) (v := .int (f 0 3)) rfl rfl gin2 (by decide) gm_159 (rfl) dX2_reopenedIn_14 ?_
  refine lv_iload_n hx hb dX2_reopenedIn_17 rfl (lv_at hl 1 rfl) ?_
  refine lv_iadd hx hb dX2_reopenedIn_18 ?_
  refine g_callV (As := [.int ((f 0 3) + (nI k))]) (rest := [.ref (w.2.2.2 2)]) G.1 hV 1 (by decide) rfl rfl ok_X0_overdueOn gm_137 gm_138 gm_349 (c_X0_overdueOn l w f ((f 0 3) + (nI k)) hI ) ⟨rfl, rfl⟩ ⟨Nat.le_of_ble_eq_true rfl, Nat.le_of_ble_eq_true rfl⟩ rfl hl.1 rfl (Nat.le_of_ble_eq_true rfl) ⟨Nat.zero_le _, Nat.zero_le _⟩ dX2_reopenedIn_19 ?_
  refine g_callV (As := [.int (due f ((f 0 3) + (nI k)))]) (rest := []) G.1 hV 2 (by decide) rfl rfl ok_X1_reopenedByOverdue gm_141 gm_142 gm_348 (c_X1_reopenedByOverdue l w f (due f ((f 0 3) + (nI k))) hI ) ⟨rfl, rfl⟩ ⟨Nat.le_of_ble_eq_true rfl, Nat.le_of_ble_eq_true rfl⟩ rfl hl.1 rfl (Nat.le_of_ble_eq_true rfl) ⟨Nat.zero_le _, Nat.zero_le _⟩ dX2_reopenedIn_22 ?_
  exact g_iret G (rfl) dX2_reopenedIn_25
theorem ok_X2_changedBy : gOK yX2_changedBy cX2_changedBy 3 (some .int) 2 := ⟨gm_632, gm_18, by decide +kernel⟩
set_option maxRecDepth 100000 in
set_option maxHeartbeats 4000000 in
theorem c_X2_changedBy (l : Launch) (w : GP) (f : CS) (a : Nat) (b : Nat) (hI : gI f) (h : a < nC f) (h2 : b < nC f) (h3 : ¬ a = b) : Met l yX2_changedBy (gws yX2_changedBy cX2_changedBy 3 (some .int)) ({ frames := 5, cells := 0, slots := 0, locals := 130 }) (gPc w f [.ref (w.2.2.2 0), .int (nI a), .int (nI b)]) (gRd (.int (cyF f a b))) 0 0 (fun _ => False) := by
  refine g_read (by decide) (Nat.le_of_ble_eq_true rfl) ?_
  intro P_ E_ S_ M_ B_ T_ C_ ls G hV hl
  obtain ⟨hx, hb, hml, hown, hts⟩ := id G.1
  obtain ⟨⟨hT, hT24⟩, ⟨hC, hC12⟩, ⟨hD, hD6⟩, hLn⟩ := id hI
  have hl : lv_has ls 3 [(0, .ref (w.2.2.2 0)), (1, .int (nI a)), (2, .int (nI b))] := hl
  refine lv_aload_n hx hb dX2_changedBy_0 rfl (lv_at hl 0 rfl) ?_
  refine lv_iload_n hx hb dX2_changedBy_1 rfl (lv_at hl 1 rfl) ?_
  refine lv_iload_n hx hb dX2_changedBy_2 rfl (lv_at hl 2 rfl) ?_
  refine g_callVv (As := [.int (nI a), .int (nI b)]) (rest := []) G.1 hV 0 (by decide) rfl rfl ok_X2_requireTwoConcepts gm_265 gm_266 gm_264 (c_X2_requireTwoConcepts l w f a b hI (by omega) (by omega) (by omega)) ⟨rfl, rfl⟩ ⟨Nat.le_of_ble_eq_true rfl, Nat.le_of_ble_eq_true rfl⟩ rfl hl.1 rfl (Nat.le_of_ble_eq_true rfl) ⟨Nat.zero_le _, Nat.zero_le _⟩ dX2_changedBy_3 ?_
  refine lv_aload_n hx hb dX2_changedBy_6 rfl (lv_at hl 0 rfl) ?_
  refine g_get hx hb hts hown hV 0 0 (by decide) (v := .ref (w.2.2.2 1)) rfl rfl gin2 (by decide) gm_155 (rfl) dX2_changedBy_7 ?_
  refine lv_iload_n hx hb dX2_changedBy_10 rfl (lv_at hl 1 rfl) ?_
  refine lv_iload_n hx hb dX2_changedBy_11 rfl (lv_at hl 2 rfl) ?_
  refine g_callV (As := [.int (nI a), .int (nI b)]) (rest := []) G.1 hV 1 (by decide) rfl rfl ok_X0_canBeJoined gm_269 gm_270 gm_268 (c_X0_canBeJoined l w f (nI a) (nI b) hI ) ⟨rfl, rfl⟩ ⟨Nat.le_of_ble_eq_true rfl, Nat.le_of_ble_eq_true rfl⟩ rfl hl.1 rfl (Nat.le_of_ble_eq_true rfl) ⟨Nat.zero_le _, Nat.zero_le _⟩ dX2_changedBy_12 ?_
  refine lv_if_ne (tgt := 20) hx hb dX2_changedBy_15 (by decide) (fun c15 => ?_) (fun c15 => ?_)
  · skip
    have c15 : canJ f (nI a) (nI b) := g_if1.mp c15
    refine lv_aload_n hx hb dX2_changedBy_20 rfl (lv_at hl 0 rfl) ?_
    refine g_get hx hb hts hown hV 0 1 (by decide) (v := .ref (w.2.2.2 2)) rfl rfl gin2 (by decide) gm_158 (rfl) dX2_changedBy_21 ?_
    refine lv_iload_n hx hb dX2_changedBy_24 rfl (lv_at hl 1 rfl) ?_
    refine lv_iload_n hx hb dX2_changedBy_25 rfl (lv_at hl 2 rfl) ?_
    refine va_mmax hx hb (hml.trans hl.1.symm) hown (hts _ gm_263) (hts _ gm_48) (hts _ gm_49) (hts _ gm_50) (Nat.le_of_ble_eq_true rfl) (Nat.le_of_ble_eq_true rfl) (Nat.zero_le _) (Nat.zero_le _) dX2_changedBy_26 ?_
    refine W.eq (g2 := F0 M_ _ ls [.int (nI (if a < b then b else a)), .ref (w.2.2.2 2)]) (by rw [show (if nI a < nI b then nI b else nI a) = nI (if a < b then b else a) from by simp only [g_lt (show a < 2 ^ 31 by omega) (show b < 2 ^ 31 by omega)]; split <;> rfl]) ?_
    refine lv_iload_n hx hb dX2_changedBy_29 rfl (lv_at hl 1 rfl) ?_
    refine lv_iload_n hx hb dX2_changedBy_30 rfl (lv_at hl 2 rfl) ?_
    refine va_mmin hx hb (hml.trans hl.1.symm) hown (hts _ gm_262) (hts _ gm_72) (hts _ gm_49) (hts _ gm_73) (Nat.le_of_ble_eq_true rfl) (Nat.le_of_ble_eq_true rfl) (Nat.zero_le _) (Nat.zero_le _) dX2_changedBy_31 ?_
    refine W.eq (g2 := F0 M_ _ ls [.int (nI (if b < a then b else a)), .int (nI (if a < b then b else a)), .ref (w.2.2.2 2)]) (by rw [show (if nI b < nI a then nI b else nI a) = nI (if b < a then b else a) from by simp only [g_lt (show b < 2 ^ 31 by omega) (show a < 2 ^ 31 by omega)]; split <;> rfl]) ?_
    refine g_callV (As := [.int (nI (if a < b then b else a)), .int (nI (if b < a then b else a))]) (rest := []) G.1 hV 2 (by decide) rfl rfl ok_X1_usesChangedByMoving gm_351 gm_352 gm_350 (c_X1_usesChangedByMoving l w f (nI (if a < b then b else a)) (nI (if b < a then b else a)) hI ) ⟨rfl, rfl⟩ ⟨Nat.le_of_ble_eq_true rfl, Nat.le_of_ble_eq_true rfl⟩ rfl hl.1 rfl (Nat.le_of_ble_eq_true rfl) ⟨Nat.zero_le _, Nat.zero_le _⟩ dX2_changedBy_34 ?_
    exact g_iret G (by unfold cyF; rw [if_pos c15]) dX2_changedBy_37
  · skip
    have c15 : ¬ (canJ f (nI a) (nI b)) := g_if0.mp c15
    refine lv_iconst (v := -1) hx hb dX2_changedBy_18 (by decide) ?_
    exact g_iret G (by unfold cyF; rw [if_neg c15]) dX2_changedBy_19
theorem ok_X2_formFor : gOK yX2_formFor cX2_formFor 7 (some .int) 4 := ⟨gm_636, gm_18, by decide +kernel⟩
set_option maxRecDepth 100000 in
set_option maxHeartbeats 4000000 in
theorem c_X2_formFor (l : Launch) (w : GP) (f : CS) (d : Nat) (g : Nat) (p : Nat) (k : Nat) (hI : gI f) (hd : d < nD f) (hg : g < 3) (hp : p < (if nL f (d * 3 + g) + 1 ≤ 12 then nL f (d * 3 + g) + 1 else 12)) (hk : k < nT f) : Met l yX2_formFor (gws yX2_formFor cX2_formFor 7 (some .int)) ({ frames := 4, cells := 0, slots := 0, locals := 105 }) (gPc w f [.ref (w.2.2.2 0), .int (nI d), .int (nI g), .int (nI p), .int (nI k)]) (gRd (.int (ffF f (d * 3 + g) p k))) 0 0 (fun _ => False) := by
  refine g_read (by decide) (Nat.le_of_ble_eq_true rfl) ?_
  intro P_ E_ S_ M_ B_ T_ C_ ls G hV hl
  obtain ⟨hx, hb, hml, hown, hts⟩ := id G.1
  obtain ⟨⟨hT, hT24⟩, ⟨hC, hC12⟩, ⟨hD, hD6⟩, hLn⟩ := id hI
  have hl : lv_has ls 7 [(0, .ref (w.2.2.2 0)), (1, .int (nI d)), (2, .int (nI g)), (3, .int (nI p)), (4, .int (nI k))] := hl
  have hLt := hLn (d * 3 + g) (by omega)
  have hp12 : p < 12 := by split at hp <;> omega
  refine lv_aload_n hx hb dX2_formFor_0 rfl (lv_at hl 0 rfl) ?_
  refine lv_iload_n hx hb dX2_formFor_1 rfl (lv_at hl 1 rfl) ?_
  refine lv_iload_n hx hb dX2_formFor_2 rfl (lv_at hl 2 rfl) ?_
  refine g_callV (As := [.int (nI d), .int (nI g)]) (rest := []) G.1 hV 0 (by decide) rfl rfl ok_X2_requireText gm_287 gm_288 gm_286 (c_X2_requireText l w f d g hI (by omega) (by omega)) ⟨rfl, rfl⟩ ⟨Nat.le_of_ble_eq_true rfl, Nat.le_of_ble_eq_true rfl⟩ rfl hl.1 rfl (Nat.le_of_ble_eq_true rfl) ⟨Nat.zero_le _, Nat.zero_le _⟩ dX2_formFor_3 ?_
  refine lv_istore (lv' := [(5, .int (nI (d * 3 + g))), (0, .ref (w.2.2.2 0)), (1, .int (nI d)), (2, .int (nI g)), (3, .int (nI p)), (4, .int (nI k))]) hx hb dX2_formFor_6 hl (by decide) rfl (fun ls hl => ?_)
  refine lv_aload_n hx hb dX2_formFor_8 rfl (lv_at hl 1 rfl) ?_
  refine lv_iload_n hx hb dX2_formFor_9 rfl (lv_at hl 4 rfl) ?_
  refine lv_aload_n hx hb dX2_formFor_10 rfl (lv_at hl 1 rfl) ?_
  refine g_get hx hb hts hown hV 0 1 (by decide) (v := .ref (w.2.2.2 2)) rfl rfl gin2 (by decide) gm_158 (rfl) dX2_formFor_11 ?_
  refine lv_iload hx hb dX2_formFor_14 (lv_at hl 0 rfl) ?_
  refine g_callV (As := [.int (nI (d * 3 + g))]) (rest := [.int (nI p), .ref (w.2.2.2 0)]) G.1 hV 2 (by decide) rfl rfl ok_X1_placesToWrite gm_291 gm_292 gm_290 (c_X1_placesToWrite l w f (d * 3 + g) hI (by omega)) ⟨rfl, rfl⟩ ⟨Nat.le_of_ble_eq_true rfl, Nat.le_of_ble_eq_true rfl⟩ rfl hl.1 rfl (Nat.le_of_ble_eq_true rfl) ⟨Nat.zero_le _, Nat.zero_le _⟩ dX2_formFor_16 ?_
  refine g_callVv (As := [.int (nI p), .int (nI (if nL f (d * 3 + g) + 1 ≤ 12 then nL f (d * 3 + g) + 1 else 12))]) (rest := []) G.1 hV 0 (by decide) rfl rfl ok_X2_requirePlace gm_295 gm_296 gm_294 (c_X2_requirePlace l w f p (if nL f (d * 3 + g) + 1 ≤ 12 then nL f (d * 3 + g) + 1 else 12) hI (hp) (by split <;> omega)) ⟨rfl, rfl⟩ ⟨Nat.le_of_ble_eq_true rfl, Nat.le_of_ble_eq_true rfl⟩ rfl hl.1 rfl (Nat.le_of_ble_eq_true rfl) ⟨Nat.zero_le _, Nat.zero_le _⟩ dX2_formFor_19 ?_
  refine lv_aload_n hx hb dX2_formFor_22 rfl (lv_at hl 1 rfl) ?_
  refine lv_iload hx hb dX2_formFor_23 (lv_at hl 5 rfl) ?_
  refine g_callVv (As := [.int (nI k)]) (rest := []) G.1 hV 0 (by decide) rfl rfl ok_X2_requireTerm gm_208 gm_209 gm_207 (c_X2_requireTerm l w f k hI (by omega)) ⟨rfl, rfl⟩ ⟨Nat.le_of_ble_eq_true rfl, Nat.le_of_ble_eq_true rfl⟩ rfl hl.1 rfl (Nat.le_of_ble_eq_true rfl) ⟨Nat.zero_le _, Nat.zero_le _⟩ dX2_formFor_25 ?_
  refine lv_aload_n hx hb dX2_formFor_28 rfl (lv_at hl 1 rfl) ?_
  refine g_get hx hb hts hown hV 0 0 (by decide) (v := .ref (w.2.2.2 1)) rfl rfl gin2 (by decide) gm_155 (rfl) dX2_formFor_29 ?_
  refine g_get hx hb hts hown hV 1 5 (by decide) (v := .ref (w.2.2.2 6)) rfl rfl gin0 (by decide) gm_241 (rfl) dX2_formFor_32 ?_
  refine lv_iload hx hb dX2_formFor_35 (lv_at hl 5 rfl) ?_
  refine g_ialn (a := 4) (n := 24) hx hb hV 6 (by decide) (by decide) rfl rfl (i := k) (by omega) dX2_formFor_37 ?_
  refine lv_iconst (v := nI 4) hx hb dX2_formFor_38 (by decide) ?_
  refine lv_imul hx hb dX2_formFor_39 ?_
  refine lv_istore (lv' := [(6, .int ((f 4 k) * (nI 4))), (5, .int (nI (d * 3 + g))), (0, .ref (w.2.2.2 0)), (1, .int (nI d)), (2, .int (nI g)), (3, .int (nI p)), (4, .int (nI k))]) hx hb dX2_formFor_40 hl (by decide) rfl (fun ls hl => ?_)
  refine lv_aload_n hx hb dX2_formFor_42 rfl (lv_at hl 2 rfl) ?_
  refine g_get hx hb hts hown hV 0 1 (by decide) (v := .ref (w.2.2.2 2)) rfl rfl gin2 (by decide) gm_158 (rfl) dX2_formFor_43 ?_
  refine lv_iload hx hb dX2_formFor_46 (lv_at hl 1 rfl) ?_
  refine lv_iload_n hx hb dX2_formFor_48 rfl (lv_at hl 5 rfl) ?_
  refine lv_iload hx hb dX2_formFor_49 (lv_at hl 0 rfl) ?_
  refine lv_iconst (v := -1) hx hb dX2_formFor_51 (by decide) ?_
  refine lv_iconst (v := -1) hx hb dX2_formFor_52 (by decide) ?_
  refine g_callV (As := [.int (nI (d * 3 + g)), .int (nI p), .int ((f 4 k) * (nI 4)), .int (-1), .int (-1)]) (rest := []) G.1 hV 2 (by decide) rfl rfl ok_X1_useOf gm_95 gm_96 gm_354 (c_X1_useOf l w f (d * 3 + g) p ((f 4 k) * (nI 4)) (-1) (-1) hI (by omega) (by omega)) ⟨rfl, rfl⟩ ⟨Nat.le_of_ble_eq_true rfl, Nat.le_of_ble_eq_true rfl⟩ rfl hl.1 rfl (Nat.le_of_ble_eq_true rfl) ⟨Nat.zero_le _, Nat.zero_le _⟩ dX2_formFor_53 ?_
  refine lv_iload hx hb dX2_formFor_56 (lv_at hl 6 rfl) ?_
  refine lv_icmp_ne (tgt := 66) hx hb dX2_formFor_58 (by decide) (fun c58 => ?_) (fun c58 => ?_)
  · skip
    refine lv_iconst (v := -1) hx hb dX2_formFor_66 (by decide) ?_
    exact g_iret G (by unfold ffF; rw [if_neg c58]) dX2_formFor_67
  · skip
    refine lv_iload hx hb dX2_formFor_61 (lv_at hl 0 rfl) ?_
    refine lv_goto (tgt := 67) hx hb dX2_formFor_63 (by decide) ?_
    exact g_iret G (by unfold ffF; rw [if_pos c58]) dX2_formFor_67
theorem ok_X2_digestTerms : gOK yX2_digestTerms cX2_digestTerms 7 (some .long) 1 := ⟨gm_384, gm_18, by decide +kernel⟩
set_option maxRecDepth 100000 in
set_option maxHeartbeats 4000000 in
theorem c_X2_digestTerms (l : Launch) (w : GP) (f : CS) (d : Int64) (hI : gI f)  : Met l yX2_digestTerms (gws yX2_digestTerms cX2_digestTerms 7 (some .long)) ({ frames := 5, cells := 0, slots := 0, locals := 114 }) (gPc w f [.ref (w.2.2.2 0), .long d]) (gRd (.long (dgT f d (nT f)))) 0 0 (fun _ => False) := by
  refine g_read (by decide) (Nat.le_of_ble_eq_true rfl) ?_
  intro P_ E_ S_ M_ B_ T_ C_ ls G hV hl
  obtain ⟨hx, hb, hml, hown, hts⟩ := id G.1
  obtain ⟨⟨hT, hT24⟩, ⟨hC, hC12⟩, ⟨hD, hD6⟩, hLn⟩ := id hI
  have hl : lv_has ls 7 [(0, .ref (w.2.2.2 0)), (1, .long d)] := hl
  refine lv_lload_n hx hb dX2_digestTerms_0 rfl (lv_at hl 1 rfl) ?_
  refine lv_lstore_n (lv' := [(3, .long d), (0, .ref (w.2.2.2 0)), (1, .long d)]) hx hb dX2_digestTerms_1 rfl hl (by decide) rfl (fun ls hl => ?_)
  refine lv_iconst (v := nI 0) hx hb dX2_digestTerms_2 (by decide) ?_
  refine lv_istore (lv' := [(5, .int (nI 0)), (3, .long d), (0, .ref (w.2.2.2 0)), (1, .long d)]) hx hb dX2_digestTerms_3 hl (by decide) rfl (fun ls hl => ?_)
  refine g_for (P := fun t => ∀ (ls : Array Slot), lv_has ls 7 [(3, .long (dgT f d t)), (5, .int (nI t)), (0, .ref (w.2.2.2 0)), (1, .long d)] → W P_ l E_ _ S_ M_ _ B_ T_ C_ S_.heap [] 0 0 _ (F0 M_ 5 ls [])) (nT f) ?_ ?_ 0 (Nat.zero_le _) ls (lv_sub hl [1, 0, 2, 3] rfl)
  · intro t ht ih ls hl
    refine lv_iload hx hb dX2_digestTerms_5 (lv_at hl 1 rfl) ?_
    refine lv_aload_n hx hb dX2_digestTerms_7 rfl (lv_at hl 2 rfl) ?_
    refine g_get hx hb hts hown hV 0 0 (by decide) (v := .ref (w.2.2.2 1)) rfl rfl gin2 (by decide) gm_155 (rfl) dX2_digestTerms_8 ?_
    refine g_get hx hb hts hown hV 1 1 (by decide) (v := .int (nI (nT f))) rfl rfl gin0 (by decide) gm_185 (by rw [← hT]; rfl) dX2_digestTerms_11 ?_
    refine lv_icmp_ge (tgt := 69) hx hb dX2_digestTerms_14 (by decide) (fun c14 => ?_) (fun c14 => ?_)
    · skip
      have c14 : (nT f) ≤ t := (g_le (by omega) (by omega)).mp c14
      exact absurd c14 (by omega)
    · skip
      have c14 : ¬ ((nT f) ≤ t) := fun q => c14 ((g_le (by omega) (by omega)).mpr q)
      refine lv_iconst (v := nI 0) hx hb dX2_digestTerms_17 (by decide) ?_
      refine lv_istore (lv' := [(6, .int (nI 0)), (3, .long (dgT f d t)), (5, .int (nI t)), (0, .ref (w.2.2.2 0)), (1, .long d)]) hx hb dX2_digestTerms_18 hl (by decide) rfl (fun ls hl => ?_)
      refine g_for (P := fun k => ∀ (ls : Array Slot), lv_has ls 7 [(3, .long (dgl (otF f t) (dgT f d t) k)), (6, .int (nI k)), (5, .int (nI t)), (0, .ref (w.2.2.2 0)), (1, .long d)] → W P_ l E_ _ S_ M_ _ B_ T_ C_ S_.heap [] 0 0 _ (F0 M_ 20 ls [])) (8) ?_ ?_ 0 (Nat.zero_le _) ls (lv_sub hl [1, 0, 2, 3, 4] rfl)
      · intro k hk ih ls hl
        refine lv_iload hx hb dX2_digestTerms_20 (lv_at hl 1 rfl) ?_
        refine lv_bipush (v := nI 7) hx hb dX2_digestTerms_22 (by decide) ?_
        refine lv_icmp_gt (tgt := 49) hx hb dX2_digestTerms_24 (by decide) (fun c24 => ?_) (fun c24 => ?_)
        · skip
          have c24 : 7 < k := (g_lt (by omega) (by omega)).mp c24
          exact absurd c24 (by omega)
        · skip
          have c24 : ¬ (7 < k) := fun q => c24 ((g_lt (by omega) (by omega)).mpr q)
          refine lv_lload_n hx hb dX2_digestTerms_27 rfl (lv_at hl 0 rfl) ?_
          refine lv_ldc2 hx hb hown (hts _ gm_355) dX2_digestTerms_28 ?_
          refine lv_lmul hx hb dX2_digestTerms_31 ?_
          refine lv_aload_n hx hb dX2_digestTerms_32 rfl (lv_at hl 3 rfl) ?_
          refine lv_iload hx hb dX2_digestTerms_33 (lv_at hl 2 rfl) ?_
          refine lv_iload hx hb dX2_digestTerms_35 (lv_at hl 1 rfl) ?_
          refine g_callV (As := [.int (nI t), .int (nI k)]) (rest := [.long ((dgl (otF f t) (dgT f d t) k) * 31)]) G.1 hV 0 (by decide) rfl rfl ok_X2_ofTerm gm_357 gm_358 gm_356 (c_X2_ofTerm l w f t k hI (by omega) (by omega)) ⟨rfl, rfl⟩ ⟨Nat.le_of_ble_eq_true rfl, Nat.le_of_ble_eq_true rfl⟩ rfl hl.1 rfl (Nat.le_of_ble_eq_true rfl) ⟨Nat.zero_le _, Nat.zero_le _⟩ dX2_digestTerms_37 ?_
          refine lv_i2l hx hb dX2_digestTerms_40 rfl ?_
          refine lv_ladd hx hb dX2_digestTerms_41 ?_
          refine lv_lstore_n (lv' := [(3, .long (((dgl (otF f t) (dgT f d t) k) * 31) + ((otF f t k).toInt64))), (6, .int (nI k)), (5, .int (nI t)), (0, .ref (w.2.2.2 0)), (1, .long d)]) hx hb dX2_digestTerms_42 rfl hl (by decide) rfl (fun ls hl => ?_)
          refine lv_iinc (v := nI (k + 1)) (lv' := [(6, .int (nI (k + 1))), (3, .long (((dgl (otF f t) (dgT f d t) k) * 31) + ((otF f t k).toInt64))), (5, .int (nI t)), (0, .ref (w.2.2.2 0)), (1, .long d)]) hx hb dX2_digestTerms_43 hl (k := 1) rfl (g_inc k 1) (by decide) rfl (fun ls hl => ?_)
          refine lv_goto (tgt := 20) hx hb dX2_digestTerms_46 (by decide) ?_
          refine ih ls ?_
          rw [(show dgl (otF f t) (dgT f d t) (k + 1) = ((dgl (otF f t) (dgT f d t) k) * 31) + ((otF f t k).toInt64) from rfl)]
          exact lv_sub hl [1, 0, 2, 3, 4] rfl
      · intro ls hl
        refine lv_iload hx hb dX2_digestTerms_20 (lv_at hl 1 rfl) ?_
        refine lv_bipush (v := nI 7) hx hb dX2_digestTerms_22 (by decide) ?_
        refine lv_icmp_gt (tgt := 49) hx hb dX2_digestTerms_24 (by decide) (fun c24 => ?_) (fun c24 => ?_)
        · skip
          have c24 : 7 < 8 := (g_lt (by omega) (by omega)).mp c24
          refine lv_lload_n hx hb dX2_digestTerms_49 rfl (lv_at hl 0 rfl) ?_
          refine lv_ldc2 hx hb hown (hts _ gm_355) dX2_digestTerms_50 ?_
          refine lv_lmul hx hb dX2_digestTerms_53 ?_
          refine lv_aload_n hx hb dX2_digestTerms_54 rfl (lv_at hl 3 rfl) ?_
          refine lv_iload hx hb dX2_digestTerms_55 (lv_at hl 2 rfl) ?_
          refine g_callV (As := [.int (nI t)]) (rest := [.long ((dgl (otF f t) (dgT f d t) 8) * 31)]) G.1 hV 0 (by decide) rfl rfl ok_X2_reopenedBy gm_361 gm_362 gm_360 (c_X2_reopenedBy l w f t hI (by omega)) ⟨rfl, rfl⟩ ⟨Nat.le_of_ble_eq_true rfl, Nat.le_of_ble_eq_true rfl⟩ rfl hl.1 rfl (Nat.le_of_ble_eq_true rfl) ⟨Nat.zero_le _, Nat.zero_le _⟩ dX2_digestTerms_57 ?_
          refine lv_i2l hx hb dX2_digestTerms_60 rfl ?_
          refine lv_ladd hx hb dX2_digestTerms_61 ?_
          refine lv_lstore_n (lv' := [(3, .long (((dgl (otF f t) (dgT f d t) 8) * 31) + ((rbF f t).toInt64))), (6, .int (nI 8)), (5, .int (nI t)), (0, .ref (w.2.2.2 0)), (1, .long d)]) hx hb dX2_digestTerms_62 rfl hl (by decide) rfl (fun ls hl => ?_)
          refine lv_iinc (v := nI (t + 1)) (lv' := [(5, .int (nI (t + 1))), (3, .long (((dgl (otF f t) (dgT f d t) 8) * 31) + ((rbF f t).toInt64))), (6, .int (nI 8)), (0, .ref (w.2.2.2 0)), (1, .long d)]) hx hb dX2_digestTerms_63 hl (k := 2) rfl (g_inc t 1) (by decide) rfl (fun ls hl => ?_)
          refine lv_goto (tgt := 5) hx hb dX2_digestTerms_66 (by decide) ?_
          refine ih ls ?_
          rw [(show dgT f d (t + 1) = ((dgl (otF f t) (dgT f d t) 8) * 31) + ((rbF f t).toInt64) from rfl)]
          exact lv_sub hl [1, 0, 3, 4] rfl
        · skip
          have c24 : ¬ (7 < 8) := fun q => c24 ((g_lt (by omega) (by omega)).mpr q)
          exact absurd c24 (by omega)
  · intro ls hl
    refine lv_iload hx hb dX2_digestTerms_5 (lv_at hl 1 rfl) ?_
    refine lv_aload_n hx hb dX2_digestTerms_7 rfl (lv_at hl 2 rfl) ?_
    refine g_get hx hb hts hown hV 0 0 (by decide) (v := .ref (w.2.2.2 1)) rfl rfl gin2 (by decide) gm_155 (rfl) dX2_digestTerms_8 ?_
    refine g_get hx hb hts hown hV 1 1 (by decide) (v := .int (nI (nT f))) rfl rfl gin0 (by decide) gm_185 (by rw [← hT]; rfl) dX2_digestTerms_11 ?_
    refine lv_icmp_ge (tgt := 69) hx hb dX2_digestTerms_14 (by decide) (fun c14 => ?_) (fun c14 => ?_)
    · skip
      have c14 : (nT f) ≤ (nT f) := (g_le (by omega) (by omega)).mp c14
      refine lv_lload_n hx hb dX2_digestTerms_69 rfl (lv_at hl 0 rfl) ?_
      exact g_lret G (rfl) dX2_digestTerms_70
    · skip
      have c14 : ¬ ((nT f) ≤ (nT f)) := fun q => c14 ((g_le (by omega) (by omega)).mpr q)
      exact absurd c14 (by omega)
theorem ok_X2_digestConcepts : gOK yX2_digestConcepts cX2_digestConcepts 7 (some .long) 1 := ⟨gm_388, gm_18, by decide +kernel⟩
set_option maxRecDepth 100000 in
set_option maxHeartbeats 4000000 in
theorem c_X2_digestConcepts (l : Launch) (w : GP) (f : CS) (d : Int64) (hI : gI f)  : Met l yX2_digestConcepts (gws yX2_digestConcepts cX2_digestConcepts 7 (some .long)) ({ frames := 4, cells := 0, slots := 0, locals := 94 }) (gPc w f [.ref (w.2.2.2 0), .long d]) (gRd (.long (dgC f d (nC f)))) 0 0 (fun _ => False) := by
  refine g_read (by decide) (Nat.le_of_ble_eq_true rfl) ?_
  intro P_ E_ S_ M_ B_ T_ C_ ls G hV hl
  obtain ⟨hx, hb, hml, hown, hts⟩ := id G.1
  obtain ⟨⟨hT, hT24⟩, ⟨hC, hC12⟩, ⟨hD, hD6⟩, hLn⟩ := id hI
  have hl : lv_has ls 7 [(0, .ref (w.2.2.2 0)), (1, .long d)] := hl
  refine lv_lload_n hx hb dX2_digestConcepts_0 rfl (lv_at hl 1 rfl) ?_
  refine lv_lstore_n (lv' := [(3, .long d), (0, .ref (w.2.2.2 0)), (1, .long d)]) hx hb dX2_digestConcepts_1 rfl hl (by decide) rfl (fun ls hl => ?_)
  refine lv_iconst (v := nI 0) hx hb dX2_digestConcepts_2 (by decide) ?_
  refine lv_istore (lv' := [(5, .int (nI 0)), (3, .long d), (0, .ref (w.2.2.2 0)), (1, .long d)]) hx hb dX2_digestConcepts_3 hl (by decide) rfl (fun ls hl => ?_)
  refine g_for (P := fun t => ∀ (ls : Array Slot), lv_has ls 7 [(3, .long (dgC f d t)), (5, .int (nI t)), (0, .ref (w.2.2.2 0)), (1, .long d)] → W P_ l E_ _ S_ M_ _ B_ T_ C_ S_.heap [] 0 0 _ (F0 M_ 5 ls [])) (nC f) ?_ ?_ 0 (Nat.zero_le _) ls (lv_sub hl [1, 0, 2, 3] rfl)
  · intro t ht ih ls hl
    refine lv_iload hx hb dX2_digestConcepts_5 (lv_at hl 1 rfl) ?_
    refine lv_aload_n hx hb dX2_digestConcepts_7 rfl (lv_at hl 2 rfl) ?_
    refine g_get hx hb hts hown hV 0 0 (by decide) (v := .ref (w.2.2.2 1)) rfl rfl gin2 (by decide) gm_155 (rfl) dX2_digestConcepts_8 ?_
    refine g_get hx hb hts hown hV 1 0 (by decide) (v := .int (nI (nC f))) rfl rfl gin0 (by decide) gm_169 (by rw [← hC]; rfl) dX2_digestConcepts_11 ?_
    refine lv_icmp_ge (tgt := 55) hx hb dX2_digestConcepts_14 (by decide) (fun c14 => ?_) (fun c14 => ?_)
    · skip
      have c14 : (nC f) ≤ t := (g_le (by omega) (by omega)).mp c14
      exact absurd c14 (by omega)
    · skip
      have c14 : ¬ ((nC f) ≤ t) := fun q => c14 ((g_le (by omega) (by omega)).mpr q)
      refine lv_iconst (v := nI 0) hx hb dX2_digestConcepts_17 (by decide) ?_
      refine lv_istore (lv' := [(6, .int (nI 0)), (3, .long (dgC f d t)), (5, .int (nI t)), (0, .ref (w.2.2.2 0)), (1, .long d)]) hx hb dX2_digestConcepts_18 hl (by decide) rfl (fun ls hl => ?_)
      refine g_for (P := fun k => ∀ (ls : Array Slot), lv_has ls 7 [(3, .long (dgl (ocF f t) (dgC f d t) k)), (6, .int (nI k)), (5, .int (nI t)), (0, .ref (w.2.2.2 0)), (1, .long d)] → W P_ l E_ _ S_ M_ _ B_ T_ C_ S_.heap [] 0 0 _ (F0 M_ 20 ls [])) (7) ?_ ?_ 0 (Nat.zero_le _) ls (lv_sub hl [1, 0, 2, 3, 4] rfl)
      · intro k hk ih ls hl
        refine lv_iload hx hb dX2_digestConcepts_20 (lv_at hl 1 rfl) ?_
        refine lv_bipush (v := nI 6) hx hb dX2_digestConcepts_22 (by decide) ?_
        refine lv_icmp_gt (tgt := 49) hx hb dX2_digestConcepts_24 (by decide) (fun c24 => ?_) (fun c24 => ?_)
        · skip
          have c24 : 6 < k := (g_lt (by omega) (by omega)).mp c24
          exact absurd c24 (by omega)
        · skip
          have c24 : ¬ (6 < k) := fun q => c24 ((g_lt (by omega) (by omega)).mpr q)
          refine lv_lload_n hx hb dX2_digestConcepts_27 rfl (lv_at hl 0 rfl) ?_
          refine lv_ldc2 hx hb hown (hts _ gm_355) dX2_digestConcepts_28 ?_
          refine lv_lmul hx hb dX2_digestConcepts_31 ?_
          refine lv_aload_n hx hb dX2_digestConcepts_32 rfl (lv_at hl 3 rfl) ?_
          refine lv_iload hx hb dX2_digestConcepts_33 (lv_at hl 2 rfl) ?_
          refine lv_iload hx hb dX2_digestConcepts_35 (lv_at hl 1 rfl) ?_
          refine g_callV (As := [.int (nI t), .int (nI k)]) (rest := [.long ((dgl (ocF f t) (dgC f d t) k) * 31)]) G.1 hV 0 (by decide) rfl rfl ok_X2_ofConcept gm_365 gm_366 gm_364 (c_X2_ofConcept l w f t k hI (by omega) (by omega)) ⟨rfl, rfl⟩ ⟨Nat.le_of_ble_eq_true rfl, Nat.le_of_ble_eq_true rfl⟩ rfl hl.1 rfl (Nat.le_of_ble_eq_true rfl) ⟨Nat.zero_le _, Nat.zero_le _⟩ dX2_digestConcepts_37 ?_
          refine lv_i2l hx hb dX2_digestConcepts_40 rfl ?_
          refine lv_ladd hx hb dX2_digestConcepts_41 ?_
          refine lv_lstore_n (lv' := [(3, .long (((dgl (ocF f t) (dgC f d t) k) * 31) + ((ocF f t k).toInt64))), (6, .int (nI k)), (5, .int (nI t)), (0, .ref (w.2.2.2 0)), (1, .long d)]) hx hb dX2_digestConcepts_42 rfl hl (by decide) rfl (fun ls hl => ?_)
          refine lv_iinc (v := nI (k + 1)) (lv' := [(6, .int (nI (k + 1))), (3, .long (((dgl (ocF f t) (dgC f d t) k) * 31) + ((ocF f t k).toInt64))), (5, .int (nI t)), (0, .ref (w.2.2.2 0)), (1, .long d)]) hx hb dX2_digestConcepts_43 hl (k := 1) rfl (g_inc k 1) (by decide) rfl (fun ls hl => ?_)
          refine lv_goto (tgt := 20) hx hb dX2_digestConcepts_46 (by decide) ?_
          refine ih ls ?_
          rw [(show dgl (ocF f t) (dgC f d t) (k + 1) = ((dgl (ocF f t) (dgC f d t) k) * 31) + ((ocF f t k).toInt64) from rfl)]
          exact lv_sub hl [1, 0, 2, 3, 4] rfl
      · intro ls hl
        refine lv_iload hx hb dX2_digestConcepts_20 (lv_at hl 1 rfl) ?_
        refine lv_bipush (v := nI 6) hx hb dX2_digestConcepts_22 (by decide) ?_
        refine lv_icmp_gt (tgt := 49) hx hb dX2_digestConcepts_24 (by decide) (fun c24 => ?_) (fun c24 => ?_)
        · skip
          have c24 : 6 < 7 := (g_lt (by omega) (by omega)).mp c24
          refine lv_iinc (v := nI (t + 1)) (lv' := [(5, .int (nI (t + 1))), (3, .long (dgl (ocF f t) (dgC f d t) 7)), (6, .int (nI 7)), (0, .ref (w.2.2.2 0)), (1, .long d)]) hx hb dX2_digestConcepts_49 hl (k := 2) rfl (g_inc t 1) (by decide) rfl (fun ls hl => ?_)
          refine lv_goto (tgt := 5) hx hb dX2_digestConcepts_52 (by decide) ?_
          refine ih ls ?_
          rw [(show dgC f d (t + 1) = dgl (ocF f t) (dgC f d t) 7 from rfl)]
          exact lv_sub hl [1, 0, 3, 4] rfl
        · skip
          have c24 : ¬ (6 < 7) := fun q => c24 ((g_lt (by omega) (by omega)).mpr q)
          exact absurd c24 (by omega)
  · intro ls hl
    refine lv_iload hx hb dX2_digestConcepts_5 (lv_at hl 1 rfl) ?_
    refine lv_aload_n hx hb dX2_digestConcepts_7 rfl (lv_at hl 2 rfl) ?_
    refine g_get hx hb hts hown hV 0 0 (by decide) (v := .ref (w.2.2.2 1)) rfl rfl gin2 (by decide) gm_155 (rfl) dX2_digestConcepts_8 ?_
    refine g_get hx hb hts hown hV 1 0 (by decide) (v := .int (nI (nC f))) rfl rfl gin0 (by decide) gm_169 (by rw [← hC]; rfl) dX2_digestConcepts_11 ?_
    refine lv_icmp_ge (tgt := 55) hx hb dX2_digestConcepts_14 (by decide) (fun c14 => ?_) (fun c14 => ?_)
    · skip
      have c14 : (nC f) ≤ (nC f) := (g_le (by omega) (by omega)).mp c14
      refine lv_lload_n hx hb dX2_digestConcepts_55 rfl (lv_at hl 0 rfl) ?_
      exact g_lret G (rfl) dX2_digestConcepts_56
    · skip
      have c14 : ¬ ((nC f) ≤ (nC f)) := fun q => c14 ((g_le (by omega) (by omega)).mpr q)
      exact absurd c14 (by omega)
theorem ok_X2_digestTexts : gOK yX2_digestTexts cX2_digestTexts 9 (some .long) 1 := ⟨gm_392, gm_18, by decide +kernel⟩
set_option maxRecDepth 100000 in
set_option maxHeartbeats 4000000 in
theorem c_X2_digestTexts (l : Launch) (w : GP) (f : CS) (d : Int64) (hI : gI f)  : Met l yX2_digestTexts (gws yX2_digestTexts cX2_digestTexts 9 (some .long)) ({ frames := 5, cells := 0, slots := 0, locals := 115 }) (gPc w f [.ref (w.2.2.2 0), .long d]) (gRd (.long (dgX f d (nD f * 3)))) 0 0 (fun _ => False) := by
  refine g_read (by decide) (Nat.le_of_ble_eq_true rfl) ?_
  intro P_ E_ S_ M_ B_ T_ C_ ls G hV hl
  obtain ⟨hx, hb, hml, hown, hts⟩ := id G.1
  obtain ⟨⟨hT, hT24⟩, ⟨hC, hC12⟩, ⟨hD, hD6⟩, hLn⟩ := id hI
  have hl : lv_has ls 9 [(0, .ref (w.2.2.2 0)), (1, .long d)] := hl
  refine lv_lload_n hx hb dX2_digestTexts_0 rfl (lv_at hl 1 rfl) ?_
  refine lv_lstore_n (lv' := [(3, .long d), (0, .ref (w.2.2.2 0)), (1, .long d)]) hx hb dX2_digestTexts_1 rfl hl (by decide) rfl (fun ls hl => ?_)
  refine lv_iconst (v := nI 0) hx hb dX2_digestTexts_2 (by decide) ?_
  refine lv_istore (lv' := [(5, .int (nI 0)), (3, .long d), (0, .ref (w.2.2.2 0)), (1, .long d)]) hx hb dX2_digestTexts_3 hl (by decide) rfl (fun ls hl => ?_)
  refine g_for (P := fun t => ∀ (ls : Array Slot), lv_has ls 9 [(3, .long (dgX f d t)), (5, .int (nI t)), (0, .ref (w.2.2.2 0)), (1, .long d)] → W P_ l E_ _ S_ M_ _ B_ T_ C_ S_.heap [] 0 0 _ (F0 M_ 5 ls [])) (nD f * 3) ?_ ?_ 0 (Nat.zero_le _) ls (lv_sub hl [1, 0, 2, 3] rfl)
  · intro t ht ih ls hl
    refine lv_iload hx hb dX2_digestTexts_5 (lv_at hl 1 rfl) ?_
    refine lv_aload_n hx hb dX2_digestTexts_7 rfl (lv_at hl 2 rfl) ?_
    refine g_get hx hb hts hown hV 0 1 (by decide) (v := .ref (w.2.2.2 2)) rfl rfl gin2 (by decide) gm_158 (rfl) dX2_digestTexts_8 ?_
    refine g_callV (As := []) (rest := [.int (nI t)]) G.1 hV 2 (by decide) rfl rfl ok_X1_textCount gm_103 gm_104 gm_200 (c_X1_textCount l w f  hI ) ⟨rfl, rfl⟩ ⟨Nat.le_of_ble_eq_true rfl, Nat.le_of_ble_eq_true rfl⟩ rfl hl.1 rfl (Nat.le_of_ble_eq_true rfl) ⟨Nat.zero_le _, Nat.zero_le _⟩ dX2_digestTexts_11 ?_
    refine lv_icmp_ge (tgt := 111) hx hb dX2_digestTexts_14 (by decide) (fun c14 => ?_) (fun c14 => ?_)
    · skip
      have c14 : (nD f * 3) ≤ t := (g_le (by omega) (by omega)).mp c14
      exact absurd c14 (by omega)
    · skip
      have c14 : ¬ ((nD f * 3) ≤ t) := fun q => c14 ((g_le (by omega) (by omega)).mpr q)
      have hLt := hLn t (by omega); have htd : t / 3 * 3 + t % 3 = t := by omega
      refine lv_iload hx hb dX2_digestTexts_17 (lv_at hl 1 rfl) ?_
      refine lv_iconst (v := nI 3) hx hb dX2_digestTexts_19 (by decide) ?_
      refine g_idivn hx hb (by omega) (by decide) (by decide) dX2_digestTexts_20 ?_
      refine lv_istore (lv' := [(6, .int (nI (t / 3))), (3, .long (dgX f d t)), (5, .int (nI t)), (0, .ref (w.2.2.2 0)), (1, .long d)]) hx hb dX2_digestTexts_21 hl (by decide) rfl (fun ls hl => ?_)
      refine lv_iload hx hb dX2_digestTexts_23 (lv_at hl 2 rfl) ?_
      refine lv_iconst (v := nI 3) hx hb dX2_digestTexts_25 (by decide) ?_
      refine g_iremn hx hb (by omega) (by omega) (by omega) dX2_digestTexts_26 ?_
      refine lv_istore (lv' := [(7, .int (nI (t % 3))), (6, .int (nI (t / 3))), (3, .long (dgX f d t)), (5, .int (nI t)), (0, .ref (w.2.2.2 0)), (1, .long d)]) hx hb dX2_digestTexts_27 hl (by decide) rfl (fun ls hl => ?_)
      refine lv_iconst (v := nI 0) hx hb dX2_digestTexts_29 (by decide) ?_
      refine lv_istore (lv' := [(8, .int (nI 0)), (7, .int (nI (t % 3))), (6, .int (nI (t / 3))), (3, .long (dgX f d t)), (5, .int (nI t)), (0, .ref (w.2.2.2 0)), (1, .long d)]) hx hb dX2_digestTexts_30 hl (by decide) rfl (fun ls hl => ?_)
      refine g_for (P := fun k => ∀ (ls : Array Slot), lv_has ls 9 [(3, .long (dgl (oxF f t) (dgX f d t) k)), (8, .int (nI k)), (7, .int (nI (t % 3))), (6, .int (nI (t / 3))), (5, .int (nI t)), (0, .ref (w.2.2.2 0)), (1, .long d)] → W P_ l E_ _ S_ M_ _ B_ T_ C_ S_.heap [] 0 0 _ (F0 M_ 32 ls [])) (7) ?_ ?_ 0 (Nat.zero_le _) ls (lv_sub hl [3, 0, 1, 2, 4, 5, 6] rfl)
      · intro k hk ih ls hl
        refine lv_iload hx hb dX2_digestTexts_32 (lv_at hl 1 rfl) ?_
        refine lv_bipush (v := nI 6) hx hb dX2_digestTexts_34 (by decide) ?_
        refine lv_icmp_gt (tgt := 63) hx hb dX2_digestTexts_36 (by decide) (fun c36 => ?_) (fun c36 => ?_)
        · skip
          have c36 : 6 < k := (g_lt (by omega) (by omega)).mp c36
          exact absurd c36 (by omega)
        · skip
          have c36 : ¬ (6 < k) := fun q => c36 ((g_lt (by omega) (by omega)).mpr q)
          refine lv_lload_n hx hb dX2_digestTexts_39 rfl (lv_at hl 0 rfl) ?_
          refine lv_ldc2 hx hb hown (hts _ gm_355) dX2_digestTexts_40 ?_
          refine lv_lmul hx hb dX2_digestTexts_43 ?_
          refine lv_aload_n hx hb dX2_digestTexts_44 rfl (lv_at hl 5 rfl) ?_
          refine lv_iload hx hb dX2_digestTexts_45 (lv_at hl 3 rfl) ?_
          refine lv_iload hx hb dX2_digestTexts_47 (lv_at hl 2 rfl) ?_
          refine lv_iload hx hb dX2_digestTexts_49 (lv_at hl 1 rfl) ?_
          refine g_callV (As := [.int (nI (t / 3)), .int (nI (t % 3)), .int (nI k)]) (rest := [.long ((dgl (oxF f t) (dgX f d t) k) * 31)]) G.1 hV 0 (by decide) rfl rfl ok_X2_ofText gm_369 gm_370 gm_368 (c_X2_ofText l w f (t / 3) (t % 3) k hI (by omega) (by omega) (by omega)) ⟨rfl, rfl⟩ ⟨Nat.le_of_ble_eq_true rfl, Nat.le_of_ble_eq_true rfl⟩ rfl hl.1 rfl (Nat.le_of_ble_eq_true rfl) ⟨Nat.zero_le _, Nat.zero_le _⟩ dX2_digestTexts_51 ?_
          refine lv_i2l hx hb dX2_digestTexts_54 rfl ?_
          refine lv_ladd hx hb dX2_digestTexts_55 ?_
          refine lv_lstore_n (lv' := [(3, .long (((dgl (oxF f t) (dgX f d t) k) * 31) + ((oxF f ((t / 3) * 3 + (t % 3)) k).toInt64))), (8, .int (nI k)), (7, .int (nI (t % 3))), (6, .int (nI (t / 3))), (5, .int (nI t)), (0, .ref (w.2.2.2 0)), (1, .long d)]) hx hb dX2_digestTexts_56 rfl hl (by decide) rfl (fun ls hl => ?_)
          refine lv_iinc (v := nI (k + 1)) (lv' := [(8, .int (nI (k + 1))), (3, .long (((dgl (oxF f t) (dgX f d t) k) * 31) + ((oxF f ((t / 3) * 3 + (t % 3)) k).toInt64))), (7, .int (nI (t % 3))), (6, .int (nI (t / 3))), (5, .int (nI t)), (0, .ref (w.2.2.2 0)), (1, .long d)]) hx hb dX2_digestTexts_57 hl (k := 1) rfl (g_inc k 1) (by decide) rfl (fun ls hl => ?_)
          refine lv_goto (tgt := 32) hx hb dX2_digestTexts_60 (by decide) ?_
          refine ih ls ?_
          rw [(show dgl (oxF f t) (dgX f d t) (k + 1) = ((dgl (oxF f t) (dgX f d t) k) * 31) + ((oxF f ((t / 3) * 3 + (t % 3)) k).toInt64) from by rw [htd]; rfl)]
          exact lv_sub hl [1, 0, 2, 3, 4, 5, 6] rfl
      · intro ls hl
        refine lv_iload hx hb dX2_digestTexts_32 (lv_at hl 1 rfl) ?_
        refine lv_bipush (v := nI 6) hx hb dX2_digestTexts_34 (by decide) ?_
        refine lv_icmp_gt (tgt := 63) hx hb dX2_digestTexts_36 (by decide) (fun c36 => ?_) (fun c36 => ?_)
        · skip
          have c36 : 6 < 7 := (g_lt (by omega) (by omega)).mp c36
          refine lv_iconst (v := nI 0) hx hb dX2_digestTexts_63 (by decide) ?_
          refine lv_istore (lv' := [(8, .int (nI 0)), (3, .long (dgl (oxF f t) (dgX f d t) 7)), (7, .int (nI (t % 3))), (6, .int (nI (t / 3))), (5, .int (nI t)), (0, .ref (w.2.2.2 0)), (1, .long d)]) hx hb dX2_digestTexts_64 hl (by decide) rfl (fun ls hl => ?_)
          refine g_for (P := fun k => ∀ (ls : Array Slot), lv_has ls 9 [(3, .long (dgl (f (40 + t)) (dgl (oxF f t) (dgX f d t) 7) k)), (8, .int (nI k)), (7, .int (nI (t % 3))), (6, .int (nI (t / 3))), (5, .int (nI t)), (0, .ref (w.2.2.2 0)), (1, .long d)] → W P_ l E_ _ S_ M_ _ B_ T_ C_ S_.heap [] 0 0 _ (F0 M_ 66 ls [])) (nL f t) ?_ ?_ 0 (Nat.zero_le _) ls (lv_sub hl [1, 0, 2, 3, 4, 5, 6] rfl)
          · intro k hk ih ls hl
            refine lv_iload hx hb dX2_digestTexts_66 (lv_at hl 1 rfl) ?_
            refine lv_aload_n hx hb dX2_digestTexts_68 rfl (lv_at hl 5 rfl) ?_
            refine g_get hx hb hts hown hV 0 1 (by decide) (v := .ref (w.2.2.2 2)) rfl rfl gin2 (by decide) gm_158 (rfl) dX2_digestTexts_69 ?_
            refine g_get hx hb hts hown hV 2 2 (by decide) (v := .ref (w.2.2.2 16)) rfl rfl gin1 (by decide) gm_302 (rfl) dX2_digestTexts_72 ?_
            refine lv_iload hx hb dX2_digestTexts_75 (lv_at hl 4 rfl) ?_
            refine g_ialn (a := 11) (n := 18) hx hb hV 16 (by decide) (by decide) rfl rfl (i := t) (by omega) dX2_digestTexts_77 ?_
            rw [(hLn t (by omega)).1]
            refine lv_icmp_ge (tgt := 105) hx hb dX2_digestTexts_78 (by decide) (fun c78 => ?_) (fun c78 => ?_)
            · skip
              have c78 : (nL f t) ≤ k := (g_le (by omega) (by omega)).mp c78
              exact absurd c78 (by omega)
            · skip
              have c78 : ¬ ((nL f t) ≤ k) := fun q => c78 ((g_le (by omega) (by omega)).mpr q)
              refine lv_lload_n hx hb dX2_digestTexts_81 rfl (lv_at hl 0 rfl) ?_
              refine lv_ldc2 hx hb hown (hts _ gm_355) dX2_digestTexts_82 ?_
              refine lv_lmul hx hb dX2_digestTexts_85 ?_
              refine lv_aload_n hx hb dX2_digestTexts_86 rfl (lv_at hl 5 rfl) ?_
              refine lv_iload hx hb dX2_digestTexts_87 (lv_at hl 3 rfl) ?_
              refine lv_iload hx hb dX2_digestTexts_89 (lv_at hl 2 rfl) ?_
              refine lv_iload hx hb dX2_digestTexts_91 (lv_at hl 1 rfl) ?_
              refine g_callV (As := [.int (nI (t / 3)), .int (nI (t % 3)), .int (nI k)]) (rest := [.long ((dgl (f (40 + t)) (dgl (oxF f t) (dgX f d t) 7) k) * 31)]) G.1 hV 0 (by decide) rfl rfl ok_X2_use gm_373 gm_374 gm_372 (c_X2_use l w f (t / 3) (t % 3) k hI (by omega) (by omega) (by rw [htd]; omega)) ⟨rfl, rfl⟩ ⟨Nat.le_of_ble_eq_true rfl, Nat.le_of_ble_eq_true rfl⟩ rfl hl.1 rfl (Nat.le_of_ble_eq_true rfl) ⟨Nat.zero_le _, Nat.zero_le _⟩ dX2_digestTexts_93 ?_
              refine lv_i2l hx hb dX2_digestTexts_96 rfl ?_
              refine lv_ladd hx hb dX2_digestTexts_97 ?_
              refine lv_lstore_n (lv' := [(3, .long (((dgl (f (40 + t)) (dgl (oxF f t) (dgX f d t) 7) k) * 31) + ((f (40 + ((t / 3) * 3 + (t % 3))) k).toInt64))), (8, .int (nI k)), (7, .int (nI (t % 3))), (6, .int (nI (t / 3))), (5, .int (nI t)), (0, .ref (w.2.2.2 0)), (1, .long d)]) hx hb dX2_digestTexts_98 rfl hl (by decide) rfl (fun ls hl => ?_)
              refine lv_iinc (v := nI (k + 1)) (lv' := [(8, .int (nI (k + 1))), (3, .long (((dgl (f (40 + t)) (dgl (oxF f t) (dgX f d t) 7) k) * 31) + ((f (40 + ((t / 3) * 3 + (t % 3))) k).toInt64))), (7, .int (nI (t % 3))), (6, .int (nI (t / 3))), (5, .int (nI t)), (0, .ref (w.2.2.2 0)), (1, .long d)]) hx hb dX2_digestTexts_99 hl (k := 1) rfl (g_inc k 1) (by decide) rfl (fun ls hl => ?_)
              refine lv_goto (tgt := 66) hx hb dX2_digestTexts_102 (by decide) ?_
              refine ih ls ?_
              rw [(show dgl (f (40 + t)) (dgl (oxF f t) (dgX f d t) 7) (k + 1) = ((dgl (f (40 + t)) (dgl (oxF f t) (dgX f d t) 7) k) * 31) + ((f (40 + ((t / 3) * 3 + (t % 3))) k).toInt64) from by rw [htd]; rfl)]
              exact lv_sub hl [1, 0, 2, 3, 4, 5, 6] rfl
          · intro ls hl
            refine lv_iload hx hb dX2_digestTexts_66 (lv_at hl 1 rfl) ?_
            refine lv_aload_n hx hb dX2_digestTexts_68 rfl (lv_at hl 5 rfl) ?_
            refine g_get hx hb hts hown hV 0 1 (by decide) (v := .ref (w.2.2.2 2)) rfl rfl gin2 (by decide) gm_158 (rfl) dX2_digestTexts_69 ?_
            refine g_get hx hb hts hown hV 2 2 (by decide) (v := .ref (w.2.2.2 16)) rfl rfl gin1 (by decide) gm_302 (rfl) dX2_digestTexts_72 ?_
            refine lv_iload hx hb dX2_digestTexts_75 (lv_at hl 4 rfl) ?_
            refine g_ialn (a := 11) (n := 18) hx hb hV 16 (by decide) (by decide) rfl rfl (i := t) (by omega) dX2_digestTexts_77 ?_
            rw [(hLn t (by omega)).1]
            refine lv_icmp_ge (tgt := 105) hx hb dX2_digestTexts_78 (by decide) (fun c78 => ?_) (fun c78 => ?_)
            · skip
              have c78 : (nL f t) ≤ (nL f t) := (g_le (by omega) (by omega)).mp c78
              refine lv_iinc (v := nI (t + 1)) (lv' := [(5, .int (nI (t + 1))), (3, .long (dgl (f (40 + t)) (dgl (oxF f t) (dgX f d t) 7) (nL f t))), (8, .int (nI (nL f t))), (7, .int (nI (t % 3))), (6, .int (nI (t / 3))), (0, .ref (w.2.2.2 0)), (1, .long d)]) hx hb dX2_digestTexts_105 hl (k := 4) rfl (g_inc t 1) (by decide) rfl (fun ls hl => ?_)
              refine lv_goto (tgt := 5) hx hb dX2_digestTexts_108 (by decide) ?_
              refine ih ls ?_
              rw [(show dgX f d (t + 1) = dgl (f (40 + t)) (dgl (oxF f t) (dgX f d t) 7) (nL f t) from rfl)]
              exact lv_sub hl [1, 0, 5, 6] rfl
            · skip
              have c78 : ¬ ((nL f t) ≤ (nL f t)) := fun q => c78 ((g_le (by omega) (by omega)).mpr q)
              exact absurd c78 (by omega)
        · skip
          have c36 : ¬ (6 < 7) := fun q => c36 ((g_lt (by omega) (by omega)).mpr q)
          exact absurd c36 (by omega)
  · intro ls hl
    refine lv_iload hx hb dX2_digestTexts_5 (lv_at hl 1 rfl) ?_
    refine lv_aload_n hx hb dX2_digestTexts_7 rfl (lv_at hl 2 rfl) ?_
    refine g_get hx hb hts hown hV 0 1 (by decide) (v := .ref (w.2.2.2 2)) rfl rfl gin2 (by decide) gm_158 (rfl) dX2_digestTexts_8 ?_
    refine g_callV (As := []) (rest := [.int (nI (nD f * 3))]) G.1 hV 2 (by decide) rfl rfl ok_X1_textCount gm_103 gm_104 gm_200 (c_X1_textCount l w f  hI ) ⟨rfl, rfl⟩ ⟨Nat.le_of_ble_eq_true rfl, Nat.le_of_ble_eq_true rfl⟩ rfl hl.1 rfl (Nat.le_of_ble_eq_true rfl) ⟨Nat.zero_le _, Nat.zero_le _⟩ dX2_digestTexts_11 ?_
    refine lv_icmp_ge (tgt := 111) hx hb dX2_digestTexts_14 (by decide) (fun c14 => ?_) (fun c14 => ?_)
    · skip
      have c14 : (nD f * 3) ≤ (nD f * 3) := (g_le (by omega) (by omega)).mp c14
      refine lv_lload_n hx hb dX2_digestTexts_111 rfl (lv_at hl 0 rfl) ?_
      exact g_lret G (rfl) dX2_digestTexts_112
    · skip
      have c14 : ¬ ((nD f * 3) ≤ (nD f * 3)) := fun q => c14 ((g_le (by omega) (by omega)).mpr q)
      exact absurd c14 (by omega)
theorem ok_X2_digest : gOK yX2_digest cX2_digest 4 (some .long) 0 := ⟨gm_825, gm_18, by decide +kernel⟩
set_option maxRecDepth 100000 in
set_option maxHeartbeats 4000000 in
theorem c_X2_digest (l : Launch) (w : GP) (f : CS)  (hI : gI f)  : Met l yX2_digest (gws yX2_digest cX2_digest 4 (some .long)) ({ frames := 6, cells := 0, slots := 0, locals := 143 }) (gPc w f [.ref (w.2.2.2 0)]) (gRd (.long (dig f))) 0 0 (fun _ => False) := by
  refine g_read (by decide) (Nat.le_of_ble_eq_true rfl) ?_
  intro P_ E_ S_ M_ B_ T_ C_ ls G hV hl
  obtain ⟨hx, hb, hml, hown, hts⟩ := id G.1
  obtain ⟨⟨hT, hT24⟩, ⟨hC, hC12⟩, ⟨hD, hD6⟩, hLn⟩ := id hI
  have hl : lv_has ls 4 [(0, .ref (w.2.2.2 0))] := hl
  refine lv_ldc2 hx hb hown (hts _ gm_376) dX2_digest_0 ?_
  refine lv_lstore_n (lv' := [(1, .long 58116), (0, .ref (w.2.2.2 0))]) hx hb dX2_digest_3 rfl hl (by decide) rfl (fun ls hl => ?_)
  refine lv_iconst (v := nI 0) hx hb dX2_digest_4 (by decide) ?_
  refine lv_istore_n (lv' := [(3, .int (nI 0)), (1, .long 58116), (0, .ref (w.2.2.2 0))]) hx hb dX2_digest_5 rfl hl (by decide) rfl (fun ls hl => ?_)
  refine g_for (P := fun k => ∀ (ls : Array Slot), lv_has ls 4 [(1, .long (dgl (maF f) (58116) k)), (3, .int (nI k)), (0, .ref (w.2.2.2 0))] → W P_ l E_ _ S_ M_ _ B_ T_ C_ S_.heap [] 0 0 _ (F0 M_ 6 ls [])) (13) ?_ ?_ 0 (Nat.zero_le _) ls (lv_sub hl [1, 0, 2] rfl)
  · intro k hk ih ls hl
    refine lv_iload_n hx hb dX2_digest_6 rfl (lv_at hl 1 rfl) ?_
    refine lv_bipush (v := nI 12) hx hb dX2_digest_7 (by decide) ?_
    refine lv_icmp_gt (tgt := 31) hx hb dX2_digest_9 (by decide) (fun c9 => ?_) (fun c9 => ?_)
    · skip
      have c9 : 12 < k := (g_lt (by omega) (by omega)).mp c9
      exact absurd c9 (by omega)
    · skip
      have c9 : ¬ (12 < k) := fun q => c9 ((g_lt (by omega) (by omega)).mpr q)
      refine lv_lload_n hx hb dX2_digest_12 rfl (lv_at hl 0 rfl) ?_
      refine lv_ldc2 hx hb hown (hts _ gm_355) dX2_digest_13 ?_
      refine lv_lmul hx hb dX2_digest_16 ?_
      refine lv_aload_n hx hb dX2_digest_17 rfl (lv_at hl 2 rfl) ?_
      refine lv_iload_n hx hb dX2_digest_18 rfl (lv_at hl 1 rfl) ?_
      refine g_callV (As := [.int (nI k)]) (rest := [.long ((dgl (maF f) (58116) k) * 31)]) G.1 hV 0 (by decide) rfl rfl ok_X2_many gm_378 gm_379 gm_377 (c_X2_many l w f k hI (by omega)) ⟨rfl, rfl⟩ ⟨Nat.le_of_ble_eq_true rfl, Nat.le_of_ble_eq_true rfl⟩ rfl hl.1 rfl (Nat.le_of_ble_eq_true rfl) ⟨Nat.zero_le _, Nat.zero_le _⟩ dX2_digest_19 ?_
      refine lv_i2l hx hb dX2_digest_22 rfl ?_
      refine lv_ladd hx hb dX2_digest_23 ?_
      refine lv_lstore_n (lv' := [(1, .long (((dgl (maF f) (58116) k) * 31) + ((maF f k).toInt64))), (3, .int (nI k)), (0, .ref (w.2.2.2 0))]) hx hb dX2_digest_24 rfl hl (by decide) rfl (fun ls hl => ?_)
      refine lv_iinc (v := nI (k + 1)) (lv' := [(3, .int (nI (k + 1))), (1, .long (((dgl (maF f) (58116) k) * 31) + ((maF f k).toInt64))), (0, .ref (w.2.2.2 0))]) hx hb dX2_digest_25 hl (k := 1) rfl (g_inc k 1) (by decide) rfl (fun ls hl => ?_)
      refine lv_goto (tgt := 6) hx hb dX2_digest_28 (by decide) ?_
      refine ih ls ?_
      rw [(show dgl (maF f) (58116) (k + 1) = ((dgl (maF f) (58116) k) * 31) + ((maF f k).toInt64) from rfl)]
      exact lv_sub hl [1, 0, 2] rfl
  · intro ls hl
    refine lv_iload_n hx hb dX2_digest_6 rfl (lv_at hl 1 rfl) ?_
    refine lv_bipush (v := nI 12) hx hb dX2_digest_7 (by decide) ?_
    refine lv_icmp_gt (tgt := 31) hx hb dX2_digest_9 (by decide) (fun c9 => ?_) (fun c9 => ?_)
    · skip
      have c9 : 12 < 13 := (g_lt (by omega) (by omega)).mp c9
      refine lv_aload_n hx hb dX2_digest_31 rfl (lv_at hl 2 rfl) ?_
      refine lv_lload_n hx hb dX2_digest_32 rfl (lv_at hl 0 rfl) ?_
      refine g_callV (As := [.long (dgl (maF f) (58116) 13)]) (rest := []) G.1 hV 0 (by decide) rfl rfl ok_X2_digestTerms gm_382 gm_383 gm_381 (c_X2_digestTerms l w f (dgl (maF f) (58116) 13) hI ) ⟨rfl, rfl⟩ ⟨Nat.le_of_ble_eq_true rfl, Nat.le_of_ble_eq_true rfl⟩ rfl hl.1 rfl (Nat.le_of_ble_eq_true rfl) ⟨Nat.zero_le _, Nat.zero_le _⟩ dX2_digest_33 ?_
      refine lv_lstore_n (lv' := [(1, .long (dgT f (dgl (maF f) (58116) 13) (nT f))), (3, .int (nI 13)), (0, .ref (w.2.2.2 0))]) hx hb dX2_digest_36 rfl hl (by decide) rfl (fun ls hl => ?_)
      refine lv_aload_n hx hb dX2_digest_37 rfl (lv_at hl 2 rfl) ?_
      refine lv_lload_n hx hb dX2_digest_38 rfl (lv_at hl 0 rfl) ?_
      refine g_callV (As := [.long (dgT f (dgl (maF f) (58116) 13) (nT f))]) (rest := []) G.1 hV 0 (by decide) rfl rfl ok_X2_digestConcepts gm_386 gm_387 gm_385 (c_X2_digestConcepts l w f (dgT f (dgl (maF f) (58116) 13) (nT f)) hI ) ⟨rfl, rfl⟩ ⟨Nat.le_of_ble_eq_true rfl, Nat.le_of_ble_eq_true rfl⟩ rfl hl.1 rfl (Nat.le_of_ble_eq_true rfl) ⟨Nat.zero_le _, Nat.zero_le _⟩ dX2_digest_39 ?_
      refine lv_lstore_n (lv' := [(1, .long (dgC f (dgT f (dgl (maF f) (58116) 13) (nT f)) (nC f))), (3, .int (nI 13)), (0, .ref (w.2.2.2 0))]) hx hb dX2_digest_42 rfl hl (by decide) rfl (fun ls hl => ?_)
      refine lv_aload_n hx hb dX2_digest_43 rfl (lv_at hl 2 rfl) ?_
      refine lv_lload_n hx hb dX2_digest_44 rfl (lv_at hl 0 rfl) ?_
      refine g_callV (As := [.long (dgC f (dgT f (dgl (maF f) (58116) 13) (nT f)) (nC f))]) (rest := []) G.1 hV 0 (by decide) rfl rfl ok_X2_digestTexts gm_390 gm_391 gm_389 (c_X2_digestTexts l w f (dgC f (dgT f (dgl (maF f) (58116) 13) (nT f)) (nC f)) hI ) ⟨rfl, rfl⟩ ⟨Nat.le_of_ble_eq_true rfl, Nat.le_of_ble_eq_true rfl⟩ rfl hl.1 rfl (Nat.le_of_ble_eq_true rfl) ⟨Nat.zero_le _, Nat.zero_le _⟩ dX2_digest_45 ?_
      refine lv_lstore_n (lv' := [(1, .long (dgX f (dgC f (dgT f (dgl (maF f) (58116) 13) (nT f)) (nC f)) (nD f * 3))), (3, .int (nI 13)), (0, .ref (w.2.2.2 0))]) hx hb dX2_digest_48 rfl hl (by decide) rfl (fun ls hl => ?_)
      refine lv_iconst (v := nI 0) hx hb dX2_digest_49 (by decide) ?_
      refine lv_istore_n (lv' := [(3, .int (nI 0)), (1, .long (dgX f (dgC f (dgT f (dgl (maF f) (58116) 13) (nT f)) (nC f)) (nD f * 3))), (0, .ref (w.2.2.2 0))]) hx hb dX2_digest_50 rfl hl (by decide) rfl (fun ls hl => ?_)
      refine g_for (P := fun k => ∀ (ls : Array Slot), lv_has ls 4 [(1, .long (dgl (fun d => nI (agN f d)) (dgX f (dgC f (dgT f (dgl (maF f) 58116 13) (nT f)) (nC f)) (nD f * 3)) k)), (3, .int (nI k)), (0, .ref (w.2.2.2 0))] → W P_ l E_ _ S_ M_ _ B_ T_ C_ S_.heap [] 0 0 _ (F0 M_ 51 ls [])) (nD f) ?_ ?_ 0 (Nat.zero_le _) ls (lv_sub hl [1, 0, 2] rfl)
      · intro k hk ih ls hl
        refine lv_iload_n hx hb dX2_digest_51 rfl (lv_at hl 1 rfl) ?_
        refine lv_aload_n hx hb dX2_digest_52 rfl (lv_at hl 2 rfl) ?_
        refine g_get hx hb hts hown hV 0 1 (by decide) (v := .ref (w.2.2.2 2)) rfl rfl gin2 (by decide) gm_158 (rfl) dX2_digest_53 ?_
        refine g_get hx hb hts hown hV 2 1 (by decide) (v := .int (nI (nD f))) rfl rfl gin1 (by decide) gm_276 (by rw [← hD]; rfl) dX2_digest_56 ?_
        refine lv_icmp_ge (tgt := 81) hx hb dX2_digest_59 (by decide) (fun c59 => ?_) (fun c59 => ?_)
        · skip
          have c59 : (nD f) ≤ k := (g_le (by omega) (by omega)).mp c59
          exact absurd c59 (by omega)
        · skip
          have c59 : ¬ ((nD f) ≤ k) := fun q => c59 ((g_le (by omega) (by omega)).mpr q)
          refine lv_lload_n hx hb dX2_digest_62 rfl (lv_at hl 0 rfl) ?_
          refine lv_ldc2 hx hb hown (hts _ gm_355) dX2_digest_63 ?_
          refine lv_lmul hx hb dX2_digest_66 ?_
          refine lv_aload_n hx hb dX2_digest_67 rfl (lv_at hl 2 rfl) ?_
          refine lv_iload_n hx hb dX2_digest_68 rfl (lv_at hl 1 rfl) ?_
          refine g_callV (As := [.int (nI k)]) (rest := [.long ((dgl (fun d => nI (agN f d)) (dgX f (dgC f (dgT f (dgl (maF f) 58116 13) (nT f)) (nC f)) (nD f * 3)) k) * 31)]) G.1 hV 0 (by decide) rfl rfl ok_X2_agreement gm_394 gm_395 gm_393 (c_X2_agreement l w f k hI (by omega)) ⟨rfl, rfl⟩ ⟨Nat.le_of_ble_eq_true rfl, Nat.le_of_ble_eq_true rfl⟩ rfl hl.1 rfl (Nat.le_of_ble_eq_true rfl) ⟨Nat.zero_le _, Nat.zero_le _⟩ dX2_digest_69 ?_
          refine lv_i2l hx hb dX2_digest_72 rfl ?_
          refine lv_ladd hx hb dX2_digest_73 ?_
          refine lv_lstore_n (lv' := [(1, .long (((dgl (fun d => nI (agN f d)) (dgX f (dgC f (dgT f (dgl (maF f) 58116 13) (nT f)) (nC f)) (nD f * 3)) k) * 31) + ((nI (agN f k)).toInt64))), (3, .int (nI k)), (0, .ref (w.2.2.2 0))]) hx hb dX2_digest_74 rfl hl (by decide) rfl (fun ls hl => ?_)
          refine lv_iinc (v := nI (k + 1)) (lv' := [(3, .int (nI (k + 1))), (1, .long (((dgl (fun d => nI (agN f d)) (dgX f (dgC f (dgT f (dgl (maF f) 58116 13) (nT f)) (nC f)) (nD f * 3)) k) * 31) + ((nI (agN f k)).toInt64))), (0, .ref (w.2.2.2 0))]) hx hb dX2_digest_75 hl (k := 1) rfl (g_inc k 1) (by decide) rfl (fun ls hl => ?_)
          refine lv_goto (tgt := 51) hx hb dX2_digest_78 (by decide) ?_
          refine ih ls ?_
          rw [(show dgl (fun d => nI (agN f d)) (dgX f (dgC f (dgT f (dgl (maF f) 58116 13) (nT f)) (nC f)) (nD f * 3)) (k + 1) = ((dgl (fun d => nI (agN f d)) (dgX f (dgC f (dgT f (dgl (maF f) 58116 13) (nT f)) (nC f)) (nD f * 3)) k) * 31) + ((nI (agN f k)).toInt64) from rfl)]
          exact lv_sub hl [1, 0, 2] rfl
      · intro ls hl
        refine lv_iload_n hx hb dX2_digest_51 rfl (lv_at hl 1 rfl) ?_
        refine lv_aload_n hx hb dX2_digest_52 rfl (lv_at hl 2 rfl) ?_
        refine g_get hx hb hts hown hV 0 1 (by decide) (v := .ref (w.2.2.2 2)) rfl rfl gin2 (by decide) gm_158 (rfl) dX2_digest_53 ?_
        refine g_get hx hb hts hown hV 2 1 (by decide) (v := .int (nI (nD f))) rfl rfl gin1 (by decide) gm_276 (by rw [← hD]; rfl) dX2_digest_56 ?_
        refine lv_icmp_ge (tgt := 81) hx hb dX2_digest_59 (by decide) (fun c59 => ?_) (fun c59 => ?_)
        · skip
          have c59 : (nD f) ≤ (nD f) := (g_le (by omega) (by omega)).mp c59
          refine lv_lload_n hx hb dX2_digest_81 rfl (lv_at hl 0 rfl) ?_
          refine lv_ldc2 hx hb hown (hts _ gm_355) dX2_digest_82 ?_
          refine lv_lmul hx hb dX2_digest_85 ?_
          refine lv_aload_n hx hb dX2_digest_86 rfl (lv_at hl 2 rfl) ?_
          refine lv_bipush (v := nI 10) hx hb dX2_digest_87 (by decide) ?_
          refine g_callV (As := [.int (nI 10)]) (rest := [.long ((dgl (fun d => nI (agN f d)) (dgX f (dgC f (dgT f (dgl (maF f) 58116 13) (nT f)) (nC f)) (nD f * 3)) (nD f)) * 31)]) G.1 hV 0 (by decide) rfl rfl ok_X2_reopenedIn gm_398 gm_399 gm_397 (c_X2_reopenedIn l w f 10 hI (by omega) (by omega)) ⟨rfl, rfl⟩ ⟨Nat.le_of_ble_eq_true rfl, Nat.le_of_ble_eq_true rfl⟩ rfl hl.1 rfl (Nat.le_of_ble_eq_true rfl) ⟨Nat.zero_le _, Nat.zero_le _⟩ dX2_digest_89 ?_
          refine lv_i2l hx hb dX2_digest_92 rfl ?_
          refine lv_ladd hx hb dX2_digest_93 ?_
          exact g_lret G (rfl) dX2_digest_94
        · skip
          have c59 : ¬ ((nD f) ≤ (nD f)) := fun q => c59 ((g_le (by omega) (by omega)).mpr q)
          exact absurd c59 (by omega)
    · skip
      have c9 : ¬ (12 < 13) := fun q => c9 ((g_lt (by omega) (by omega)).mpr q)
      exact absurd c9 (by omega)
