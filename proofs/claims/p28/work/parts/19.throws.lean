set_option maxRecDepth 100000 in
set_option maxHeartbeats 4000000 in
theorem x_X2_requireTwoConcepts (l : Launch) (hfl : l.stackTraces = false) (w : GP) (f : CS) (x : Nat) (y : Nat) (hI : gI f) (h : x < nC f) (h2 : y < nC f) (h3 : x = y) : vx_Met l yX2_requireTwoConcepts (gxs yX2_requireTwoConcepts cX2_requireTwoConcepts 3 none) ({ frames := 6, cells := 1, slots := 6, locals := 82 }) (gPx w f [.ref (w.2.2.2 0), .int (nI x), .int (nI y)]) noQ (gT eA) 1 6 (fun _ => False) := by
  refine x_read (by decide) (Nat.le_of_ble_eq_true rfl) ?_
  intro P_ E_ S_ M_ B_ T_ C_ ls G hall hxt hX hV hl
  obtain ⟨hx, hb, hml, hown, hts⟩ := id G.1
  obtain ⟨⟨hT, hT24⟩, ⟨hC, hC12⟩, ⟨hD, hD6⟩, hLn⟩ := id hI
  have hl : lv_has ls 3 [(0, .ref (w.2.2.2 0)), (1, .int (nI x)), (2, .int (nI y))] := hl
  refine lv_aload_n hx hb dX2_requireTwoConcepts_0 rfl (lv_at hl 0 rfl) ?_
  refine lv_iload_n hx hb dX2_requireTwoConcepts_1 rfl (lv_at hl 1 rfl) ?_
  refine g_callVv (As := [.int (nI x)]) (rest := []) G.1 hV 0 (by decide) rfl rfl ok_X2_requireConcept gm_187 gm_188 gm_186 (c_X2_requireConcept l w f x hI (by omega)) ⟨rfl, rfl⟩ ⟨Nat.le_of_ble_eq_true rfl, Nat.le_of_ble_eq_true rfl⟩ rfl hl.1 rfl (Nat.le_of_ble_eq_true rfl) ⟨Nat.zero_le _, Nat.zero_le _⟩ dX2_requireTwoConcepts_2 ?_
  refine lv_aload_n hx hb dX2_requireTwoConcepts_5 rfl (lv_at hl 0 rfl) ?_
  refine lv_iload_n hx hb dX2_requireTwoConcepts_6 rfl (lv_at hl 2 rfl) ?_
  refine g_callVv (As := [.int (nI y)]) (rest := []) G.1 hV 0 (by decide) rfl rfl ok_X2_requireConcept gm_187 gm_188 gm_186 (c_X2_requireConcept l w f y hI (by omega)) ⟨rfl, rfl⟩ ⟨Nat.le_of_ble_eq_true rfl, Nat.le_of_ble_eq_true rfl⟩ rfl hl.1 rfl (Nat.le_of_ble_eq_true rfl) ⟨Nat.zero_le _, Nat.zero_le _⟩ dX2_requireTwoConcepts_7 ?_
  refine lv_iload_n hx hb dX2_requireTwoConcepts_10 rfl (lv_at hl 1 rfl) ?_
  refine lv_iload_n hx hb dX2_requireTwoConcepts_11 rfl (lv_at hl 2 rfl) ?_
  refine lv_icmp_ne (tgt := 26) hx hb dX2_requireTwoConcepts_12 (by decide) (fun c12 => ?_) (fun c12 => ?_)
  · skip
    have c12 : ¬ (x = y) := fun q => c12 ((g_eq (by omega) (by omega)).mpr q)
    exfalso; omega
  · skip
    have c12 : x = y := (g_eq (by omega) (by omega)).mp c12
    exact g_thrW (ik := 46) (is := 339) (ic := 50) (X := eA) (text := "the same CONCEPT") G hfl hX hxt (by decide +kernel) gm_165 gm_166 (by decide +kernel) (gx_hat gx_at50 hall hX.2.2.1.1 hX.2.2.1.2.2.2 gx_no50) gx_ot50 hl.1 dX2_requireTwoConcepts_15 dX2_requireTwoConcepts_18 dX2_requireTwoConcepts_19 dX2_requireTwoConcepts_22 dX2_requireTwoConcepts_25 ⟨Nat.le_of_ble_eq_true rfl, Nat.le_of_ble_eq_true rfl, Nat.le_of_ble_eq_true rfl, Nat.le_of_ble_eq_true rfl⟩
set_option maxRecDepth 100000 in
set_option maxHeartbeats 4000000 in
theorem x_X2_requireRoomForConcept (l : Launch) (hfl : l.stackTraces = false) (w : GP) (f : CS)  (hI : gI f) (h : ¬ nC f < 12) : vx_Met l yX2_requireRoomForConcept (gxs yX2_requireRoomForConcept cX2_requireRoomForConcept 1 none) ({ frames := 6, cells := 1, slots := 6, locals := 82 }) (gPx w f [.ref (w.2.2.2 0)]) noQ (gT eS) 1 6 (fun _ => False) := by
  refine x_read (by decide) (Nat.le_of_ble_eq_true rfl) ?_
  intro P_ E_ S_ M_ B_ T_ C_ ls G hall hxt hX hV hl
  obtain ⟨hx, hb, hml, hown, hts⟩ := id G.1
  obtain ⟨⟨hT, hT24⟩, ⟨hC, hC12⟩, ⟨hD, hD6⟩, hLn⟩ := id hI
  have hl : lv_has ls 1 [(0, .ref (w.2.2.2 0))] := hl
  refine lv_aload_n hx hb dX2_requireRoomForConcept_0 rfl (lv_at hl 0 rfl) ?_
  refine g_get hx hb hts hown hV 0 0 (by decide) (v := .ref (w.2.2.2 1)) rfl rfl gin2 (by decide) gm_155 (rfl) dX2_requireRoomForConcept_1 ?_
  refine g_get hx hb hts hown hV 1 0 (by decide) (v := .int (nI (nC f))) rfl rfl gin0 (by decide) gm_169 (by rw [← hC]; rfl) dX2_requireRoomForConcept_4 ?_
  refine lv_bipush (v := nI 12) hx hb dX2_requireRoomForConcept_7 (by decide) ?_
  refine lv_icmp_lt (tgt := 23) hx hb dX2_requireRoomForConcept_9 (by decide) (fun c9 => ?_) (fun c9 => ?_)
  · skip
    have c9 : (nC f) < 12 := (g_lt (by omega) (by omega)).mp c9
    exfalso; omega
  · skip
    have c9 : ¬ ((nC f) < 12) := fun q => c9 ((g_lt (by omega) (by omega)).mpr q)
    exact g_thrW (ik := 60) (is := 332) (ic := 64) (X := eS) (text := "no room for a CONCEPT") G hfl hX hxt (by decide +kernel) gm_167 gm_168 (by decide +kernel) (gx_hat gx_at64 hall hX.2.2.1.2.1 hX.2.2.1.2.2.2 gx_no64) gx_ot64 hl.1 dX2_requireRoomForConcept_12 dX2_requireRoomForConcept_15 dX2_requireRoomForConcept_16 dX2_requireRoomForConcept_19 dX2_requireRoomForConcept_22 ⟨Nat.le_of_ble_eq_true rfl, Nat.le_of_ble_eq_true rfl, Nat.le_of_ble_eq_true rfl, Nat.le_of_ble_eq_true rfl⟩
set_option maxRecDepth 100000 in
set_option maxHeartbeats 4000000 in
theorem x_X2_changedBy (l : Launch) (hfl : l.stackTraces = false) (w : GP) (f : CS) (a : Nat) (b : Nat) (hI : gI f) (h : a < nC f) (h2 : b < nC f) (h3 : a = b) : vx_Met l yX2_changedBy (gxs yX2_changedBy cX2_changedBy 3 (some .int)) ({ frames := 7, cells := 1, slots := 6, locals := 104 }) (gPx w f [.ref (w.2.2.2 0), .int (nI a), .int (nI b)]) noQ (gT eA) 1 6 (fun _ => False) := by
  refine x_read (by decide) (Nat.le_of_ble_eq_true rfl) ?_
  intro P_ E_ S_ M_ B_ T_ C_ ls G hall hxt hX hV hl
  obtain ⟨hx, hb, hml, hown, hts⟩ := id G.1
  obtain ⟨⟨hT, hT24⟩, ⟨hC, hC12⟩, ⟨hD, hD6⟩, hLn⟩ := id hI
  have hl : lv_has ls 3 [(0, .ref (w.2.2.2 0)), (1, .int (nI a)), (2, .int (nI b))] := hl
  refine lv_aload_n hx hb dX2_changedBy_0 rfl (lv_at hl 0 rfl) ?_
  refine lv_iload_n hx hb dX2_changedBy_1 rfl (lv_at hl 1 rfl) ?_
  refine lv_iload_n hx hb dX2_changedBy_2 rfl (lv_at hl 2 rfl) ?_
  exact g_callX (As := [.int (nI a), .int (nI b)]) (rest := []) G.1 hall hV hX hxt G.2.2 0 (by decide) rfl rfl ok_X2_requireTwoConcepts gm_265 gm_266 gm_264 (x_X2_requireTwoConcepts l hfl w f a b hI (by omega) (by omega) (by omega)) ⟨rfl, rfl⟩ ⟨Nat.le_of_ble_eq_true rfl, Nat.le_of_ble_eq_true rfl⟩ rfl hl.1 rfl (Nat.le_of_ble_eq_true rfl) ⟨Nat.le_of_ble_eq_true rfl, Nat.le_of_ble_eq_true rfl⟩ dX2_changedBy_3
set_option maxRecDepth 100000 in
set_option maxHeartbeats 4000000 in
theorem x_X2_join (l : Launch) (hfl : l.stackTraces = false) (w : GP) (f : CS) (a : Nat) (b : Nat) (hI : gI f) (h : a < nC f) (h2 : b < nC f) (h3 : ¬ a = b) (h4 : ¬ canJ f (nI a) (nI b)) : vx_Met l yX2_join (gxs yX2_join cX2_join 4 (some .int)) ({ frames := 6, cells := 1, slots := 6, locals := 82 }) (gPx w f [.ref (w.2.2.2 0), .int (nI a), .int (nI b)]) noQ (gT eS) 1 6 (fun _ => False) := by
  refine x_read (by decide) (Nat.le_of_ble_eq_true rfl) ?_
  intro P_ E_ S_ M_ B_ T_ C_ ls G hall hxt hX hV hl
  obtain ⟨hx, hb, hml, hown, hts⟩ := id G.1
  obtain ⟨⟨hT, hT24⟩, ⟨hC, hC12⟩, ⟨hD, hD6⟩, hLn⟩ := id hI
  have hl : lv_has ls 4 [(0, .ref (w.2.2.2 0)), (1, .int (nI a)), (2, .int (nI b))] := hl
  refine lv_aload_n hx hb dX2_join_0 rfl (lv_at hl 0 rfl) ?_
  refine lv_iload_n hx hb dX2_join_1 rfl (lv_at hl 1 rfl) ?_
  refine lv_iload_n hx hb dX2_join_2 rfl (lv_at hl 2 rfl) ?_
  refine g_callVv (As := [.int (nI a), .int (nI b)]) (rest := []) G.1 hV 0 (by decide) rfl rfl ok_X2_requireTwoConcepts gm_265 gm_266 gm_264 (c_X2_requireTwoConcepts l w f a b hI (by omega) (by omega) (by omega)) ⟨rfl, rfl⟩ ⟨Nat.le_of_ble_eq_true rfl, Nat.le_of_ble_eq_true rfl⟩ rfl hl.1 rfl (Nat.le_of_ble_eq_true rfl) ⟨Nat.zero_le _, Nat.zero_le _⟩ dX2_join_3 ?_
  refine lv_aload_n hx hb dX2_join_6 rfl (lv_at hl 0 rfl) ?_
  refine g_get hx hb hts hown hV 0 0 (by decide) (v := .ref (w.2.2.2 1)) rfl rfl gin2 (by decide) gm_155 (rfl) dX2_join_7 ?_
  refine lv_iload_n hx hb dX2_join_10 rfl (lv_at hl 1 rfl) ?_
  refine lv_iload_n hx hb dX2_join_11 rfl (lv_at hl 2 rfl) ?_
  refine g_callV (As := [.int (nI a), .int (nI b)]) (rest := []) G.1 hV 1 (by decide) rfl rfl ok_X0_canBeJoined gm_269 gm_270 gm_268 (c_X0_canBeJoined l w f (nI a) (nI b) hI ) ⟨rfl, rfl⟩ ⟨Nat.le_of_ble_eq_true rfl, Nat.le_of_ble_eq_true rfl⟩ rfl hl.1 rfl (Nat.le_of_ble_eq_true rfl) ⟨Nat.zero_le _, Nat.zero_le _⟩ dX2_join_12 ?_
  refine lv_if_ne (tgt := 28) hx hb dX2_join_15 (by decide) (fun c15 => ?_) (fun c15 => ?_)
  · skip
    have c15 : canJ f (nI a) (nI b) := g_if1.mp c15
    exact absurd c15 h4
  · skip
    have c15 : ¬ (canJ f (nI a) (nI b)) := g_if0.mp c15
    exact g_thr (ik := 60) (is := 173) (ic := 64) (X := eS) (text := "cannot be JOINED") G hfl hX hxt (by decide +kernel) gm_167 gm_168 (by decide +kernel) (gx_hat gx_at64 hall hX.2.2.1.2.1 hX.2.2.1.2.2.2 gx_no64) gx_ot64 hl.1 dX2_join_18 dX2_join_21 dX2_join_22 dX2_join_24 dX2_join_27 ⟨Nat.le_of_ble_eq_true rfl, Nat.le_of_ble_eq_true rfl, Nat.le_of_ble_eq_true rfl, Nat.le_of_ble_eq_true rfl⟩
set_option maxRecDepth 100000 in
set_option maxHeartbeats 4000000 in
theorem x_X2_term (l : Launch) (hfl : l.stackTraces = false) (w : GP) (f : CS) (c : Nat) (g : Nat) (x : Nat) (hI : gI f) (h : c < nC f) (h2 : g < 3) (h3 : x < 20) (h4 : 24 ≤ nT f ∨ hasT f (nI c) (nI g) (nI x) = true) : vx_Met l yX2_term (gxs yX2_term cX2_term 4 (some .int)) ({ frames := 6, cells := 1, slots := 6, locals := 82 }) (gPx w f [.ref (w.2.2.2 0), .int (nI c), .int (nI g), .int (nI x)]) noQ (gT eS) 1 6 (fun _ => False) := by
  refine x_read (by decide) (Nat.le_of_ble_eq_true rfl) ?_
  intro P_ E_ S_ M_ B_ T_ C_ ls G hall hxt hX hV hl
  obtain ⟨hx, hb, hml, hown, hts⟩ := id G.1
  obtain ⟨⟨hT, hT24⟩, ⟨hC, hC12⟩, ⟨hD, hD6⟩, hLn⟩ := id hI
  have hl : lv_has ls 4 [(0, .ref (w.2.2.2 0)), (1, .int (nI c)), (2, .int (nI g)), (3, .int (nI x))] := hl
  refine lv_aload_n hx hb dX2_term_0 rfl (lv_at hl 0 rfl) ?_
  refine lv_iload_n hx hb dX2_term_1 rfl (lv_at hl 1 rfl) ?_
  refine g_callVv (As := [.int (nI c)]) (rest := []) G.1 hV 0 (by decide) rfl rfl ok_X2_requireConcept gm_187 gm_188 gm_186 (c_X2_requireConcept l w f c hI (by omega)) ⟨rfl, rfl⟩ ⟨Nat.le_of_ble_eq_true rfl, Nat.le_of_ble_eq_true rfl⟩ rfl hl.1 rfl (Nat.le_of_ble_eq_true rfl) ⟨Nat.zero_le _, Nat.zero_le _⟩ dX2_term_2 ?_
  refine lv_aload_n hx hb dX2_term_5 rfl (lv_at hl 0 rfl) ?_
  refine lv_iload_n hx hb dX2_term_6 rfl (lv_at hl 2 rfl) ?_
  refine g_callVv (As := [.int (nI g)]) (rest := []) G.1 hV 0 (by decide) rfl rfl ok_X2_requireLanguage gm_191 gm_192 gm_190 (c_X2_requireLanguage l w f g hI (by omega)) ⟨rfl, rfl⟩ ⟨Nat.le_of_ble_eq_true rfl, Nat.le_of_ble_eq_true rfl⟩ rfl hl.1 rfl (Nat.le_of_ble_eq_true rfl) ⟨Nat.zero_le _, Nat.zero_le _⟩ dX2_term_7 ?_
  refine lv_iload_n hx hb dX2_term_10 rfl (lv_at hl 3 rfl) ?_
  refine lv_if_lt (tgt := 20) hx hb dX2_term_11 (by decide) (fun c11 => ?_) (fun c11 => ?_)
  · skip
    rw [show (0 : Int32) = nI 0 from rfl] at c11
    have c11 : x < 0 := (g_lt (by omega) (by omega)).mp c11
    exfalso; omega
  · skip
    rw [show (0 : Int32) = nI 0 from rfl] at c11
    have c11 : ¬ (x < 0) := fun q => c11 ((g_lt (by omega) (by omega)).mpr q)
    refine lv_iload_n hx hb dX2_term_14 rfl (lv_at hl 3 rfl) ?_
    refine lv_bipush (v := nI 20) hx hb dX2_term_15 (by decide) ?_
    refine lv_icmp_lt (tgt := 30) hx hb dX2_term_17 (by decide) (fun c17 => ?_) (fun c17 => ?_)
    · skip
      have c17 : x < 20 := (g_lt (by omega) (by omega)).mp c17
      refine lv_aload_n hx hb dX2_term_30 rfl (lv_at hl 0 rfl) ?_
      refine g_get hx hb hts hown hV 0 0 (by decide) (v := .ref (w.2.2.2 1)) rfl rfl gin2 (by decide) gm_155 (rfl) dX2_term_31 ?_
      refine g_get hx hb hts hown hV 1 1 (by decide) (v := .int (nI (nT f))) rfl rfl gin0 (by decide) gm_185 (by rw [← hT]; rfl) dX2_term_34 ?_
      refine lv_bipush (v := nI 24) hx hb dX2_term_37 (by decide) ?_
      refine lv_icmp_ge (tgt := 55) hx hb dX2_term_39 (by decide) (fun c39 => ?_) (fun c39 => ?_)
      · skip
        have c39 : 24 ≤ (nT f) := (g_le (by omega) (by omega)).mp c39
        exact g_thr (ik := 60) (is := 62) (ic := 64) (X := eS) (text := "no room for that TERM") G hfl hX hxt (by decide +kernel) gm_167 gm_168 (by decide +kernel) (gx_hat gx_at64 hall hX.2.2.1.2.1 hX.2.2.1.2.2.2 gx_no64) gx_ot64 hl.1 dX2_term_55 dX2_term_58 dX2_term_59 dX2_term_61 dX2_term_64 ⟨Nat.le_of_ble_eq_true rfl, Nat.le_of_ble_eq_true rfl, Nat.le_of_ble_eq_true rfl, Nat.le_of_ble_eq_true rfl⟩
      · skip
        have c39 : ¬ (24 ≤ (nT f)) := fun q => c39 ((g_le (by omega) (by omega)).mpr q)
        refine lv_aload_n hx hb dX2_term_42 rfl (lv_at hl 0 rfl) ?_
        refine g_get hx hb hts hown hV 0 0 (by decide) (v := .ref (w.2.2.2 1)) rfl rfl gin2 (by decide) gm_155 (rfl) dX2_term_43 ?_
        refine lv_iload_n hx hb dX2_term_46 rfl (lv_at hl 1 rfl) ?_
        refine lv_iload_n hx hb dX2_term_47 rfl (lv_at hl 2 rfl) ?_
        refine lv_iload_n hx hb dX2_term_48 rfl (lv_at hl 3 rfl) ?_
        refine g_callV (As := [.int (nI c), .int (nI g), .int (nI x)]) (rest := []) G.1 hV 1 (by decide) rfl rfl ok_X0_hasTerm gm_44 gm_45 gm_194 (c_X0_hasTerm l w f (nI c) (nI g) (nI x) hI ) ⟨rfl, rfl⟩ ⟨Nat.le_of_ble_eq_true rfl, Nat.le_of_ble_eq_true rfl⟩ rfl hl.1 rfl (Nat.le_of_ble_eq_true rfl) ⟨Nat.zero_le _, Nat.zero_le _⟩ dX2_term_49 ?_
        refine lv_if_eq (tgt := 65) hx hb dX2_term_52 (by decide) (fun c52 => ?_) (fun c52 => ?_)
        · skip
          have c52 : ¬ (hasT f (nI c) (nI g) (nI x) = true) := g_if0.mp c52
          exfalso; rcases h4 with q | q; omega; exact c52 q
        · skip
          have c52 : hasT f (nI c) (nI g) (nI x) = true := g_if1.mp c52
          exact g_thr (ik := 60) (is := 62) (ic := 64) (X := eS) (text := "no room for that TERM") G hfl hX hxt (by decide +kernel) gm_167 gm_168 (by decide +kernel) (gx_hat gx_at64 hall hX.2.2.1.2.1 hX.2.2.1.2.2.2 gx_no64) gx_ot64 hl.1 dX2_term_55 dX2_term_58 dX2_term_59 dX2_term_61 dX2_term_64 ⟨Nat.le_of_ble_eq_true rfl, Nat.le_of_ble_eq_true rfl, Nat.le_of_ble_eq_true rfl, Nat.le_of_ble_eq_true rfl⟩
    · skip
      have c17 : ¬ (x < 20) := fun q => c17 ((g_lt (by omega) (by omega)).mpr q)
      exfalso; omega
set_option maxRecDepth 100000 in
set_option maxHeartbeats 4000000 in
theorem x_X2_vote (l : Launch) (hfl : l.stackTraces = false) (w : GP) (f : CS) (t : Nat) (v : Nat) (b : Prop) [Decidable b] (hI : gI f) (h : t < nT f) (h2 : v < 5) (h3 : ¬ f 5 t = nI 0 ∨ hs (f 6 t ||| f 7 t) (nI v) = true) : vx_Met l yX2_vote (gxs yX2_vote cX2_vote 5 (some .int)) ({ frames := 6, cells := 1, slots := 6, locals := 82 }) (gPx w f [.ref (w.2.2.2 0), .int (nI t), .int (nI v), .int (if b then 1 else 0)]) noQ (gT eS) 1 6 (fun _ => False) := by
  refine x_read (by decide) (Nat.le_of_ble_eq_true rfl) ?_
  intro P_ E_ S_ M_ B_ T_ C_ ls G hall hxt hX hV hl
  obtain ⟨hx, hb, hml, hown, hts⟩ := id G.1
  obtain ⟨⟨hT, hT24⟩, ⟨hC, hC12⟩, ⟨hD, hD6⟩, hLn⟩ := id hI
  have hl : lv_has ls 5 [(0, .ref (w.2.2.2 0)), (1, .int (nI t)), (2, .int (nI v)), (3, .int (if b then 1 else 0))] := hl
  refine lv_aload_n hx hb dX2_vote_0 rfl (lv_at hl 0 rfl) ?_
  refine lv_iload_n hx hb dX2_vote_1 rfl (lv_at hl 1 rfl) ?_
  refine g_callVv (As := [.int (nI t)]) (rest := []) G.1 hV 0 (by decide) rfl rfl ok_X2_requireTerm gm_208 gm_209 gm_207 (c_X2_requireTerm l w f t hI (by omega)) ⟨rfl, rfl⟩ ⟨Nat.le_of_ble_eq_true rfl, Nat.le_of_ble_eq_true rfl⟩ rfl hl.1 rfl (Nat.le_of_ble_eq_true rfl) ⟨Nat.zero_le _, Nat.zero_le _⟩ dX2_vote_2 ?_
  refine lv_iload_n hx hb dX2_vote_5 rfl (lv_at hl 2 rfl) ?_
  refine lv_if_lt (tgt := 14) hx hb dX2_vote_6 (by decide) (fun c6 => ?_) (fun c6 => ?_)
  · skip
    rw [show (0 : Int32) = nI 0 from rfl] at c6
    have c6 : v < 0 := (g_lt (by omega) (by omega)).mp c6
    exfalso; omega
  · skip
    rw [show (0 : Int32) = nI 0 from rfl] at c6
    have c6 : ¬ (v < 0) := fun q => c6 ((g_lt (by omega) (by omega)).mpr q)
    refine lv_iload_n hx hb dX2_vote_9 rfl (lv_at hl 2 rfl) ?_
    refine lv_iconst (v := nI 5) hx hb dX2_vote_10 (by decide) ?_
    refine lv_icmp_lt (tgt := 24) hx hb dX2_vote_11 (by decide) (fun c11 => ?_) (fun c11 => ?_)
    · skip
      have c11 : v < 5 := (g_lt (by omega) (by omega)).mp c11
      refine lv_aload_n hx hb dX2_vote_24 rfl (lv_at hl 0 rfl) ?_
      refine g_get hx hb hts hown hV 0 0 (by decide) (v := .ref (w.2.2.2 1)) rfl rfl gin2 (by decide) gm_155 (rfl) dX2_vote_25 ?_
      refine g_get hx hb hts hown hV 1 6 (by decide) (v := .ref (w.2.2.2 7)) rfl rfl gin0 (by decide) gm_206 (rfl) dX2_vote_28 ?_
      refine lv_iload_n hx hb dX2_vote_31 rfl (lv_at hl 1 rfl) ?_
      refine g_ialn (a := 5) (n := 24) hx hb hV 7 (by decide) (by decide) rfl rfl (i := t) (by omega) dX2_vote_32 ?_
      refine lv_if_ne (tgt := 48) hx hb dX2_vote_33 (by decide) (fun c33 => ?_) (fun c33 => ?_)
      · skip
        exact g_thr (ik := 60) (is := 85) (ic := 64) (X := eS) (text := "no such vote any more") G hfl hX hxt (by decide +kernel) gm_167 gm_168 (by decide +kernel) (gx_hat gx_at64 hall hX.2.2.1.2.1 hX.2.2.1.2.2.2 gx_no64) gx_ot64 hl.1 dX2_vote_48 dX2_vote_51 dX2_vote_52 dX2_vote_54 dX2_vote_57 ⟨Nat.le_of_ble_eq_true rfl, Nat.le_of_ble_eq_true rfl, Nat.le_of_ble_eq_true rfl, Nat.le_of_ble_eq_true rfl⟩
      · skip
        refine lv_aload_n hx hb dX2_vote_36 rfl (lv_at hl 0 rfl) ?_
        refine g_get hx hb hts hown hV 0 0 (by decide) (v := .ref (w.2.2.2 1)) rfl rfl gin2 (by decide) gm_155 (rfl) dX2_vote_37 ?_
        refine lv_iload_n hx hb dX2_vote_40 rfl (lv_at hl 1 rfl) ?_
        refine lv_iload_n hx hb dX2_vote_41 rfl (lv_at hl 2 rfl) ?_
        refine g_callV (As := [.int (nI t), .int (nI v)]) (rest := []) G.1 hV 1 (by decide) rfl rfl ok_X0_hasVoted gm_212 gm_213 gm_211 (c_X0_hasVoted l w f t (nI v) hI (by omega)) ⟨rfl, rfl⟩ ⟨Nat.le_of_ble_eq_true rfl, Nat.le_of_ble_eq_true rfl⟩ rfl hl.1 rfl (Nat.le_of_ble_eq_true rfl) ⟨Nat.zero_le _, Nat.zero_le _⟩ dX2_vote_42 ?_
        refine lv_if_eq (tgt := 58) hx hb dX2_vote_45 (by decide) (fun c45 => ?_) (fun c45 => ?_)
        · skip
          have c45 : ¬ (hs (f 6 t ||| f 7 t) (nI v) = true) := g_if0.mp c45
          exfalso; rcases h3 with q | q; exact q c33; exact c45 q
        · skip
          have c45 : hs (f 6 t ||| f 7 t) (nI v) = true := g_if1.mp c45
          exact g_thr (ik := 60) (is := 85) (ic := 64) (X := eS) (text := "no such vote any more") G hfl hX hxt (by decide +kernel) gm_167 gm_168 (by decide +kernel) (gx_hat gx_at64 hall hX.2.2.1.2.1 hX.2.2.1.2.2.2 gx_no64) gx_ot64 hl.1 dX2_vote_48 dX2_vote_51 dX2_vote_52 dX2_vote_54 dX2_vote_57 ⟨Nat.le_of_ble_eq_true rfl, Nat.le_of_ble_eq_true rfl, Nat.le_of_ble_eq_true rfl, Nat.le_of_ble_eq_true rfl⟩
    · skip
      have c11 : ¬ (v < 5) := fun q => c11 ((g_lt (by omega) (by omega)).mpr q)
      exfalso; omega
set_option maxRecDepth 100000 in
set_option maxHeartbeats 4000000 in
theorem x_X2_prefer (l : Launch) (hfl : l.stackTraces = false) (w : GP) (f : CS) (t : Nat) (hI : gI f) (h : t < nT f) (h3 : ¬ f 5 t = nI 1) : vx_Met l yX2_prefer (gxs yX2_prefer cX2_prefer 2 (some .int)) ({ frames := 6, cells := 1, slots := 6, locals := 82 }) (gPx w f [.ref (w.2.2.2 0), .int (nI t)]) noQ (gT eS) 1 6 (fun _ => False) := by
  refine x_read (by decide) (Nat.le_of_ble_eq_true rfl) ?_
  intro P_ E_ S_ M_ B_ T_ C_ ls G hall hxt hX hV hl
  obtain ⟨hx, hb, hml, hown, hts⟩ := id G.1
  obtain ⟨⟨hT, hT24⟩, ⟨hC, hC12⟩, ⟨hD, hD6⟩, hLn⟩ := id hI
  have hl : lv_has ls 2 [(0, .ref (w.2.2.2 0)), (1, .int (nI t))] := hl
  refine lv_aload_n hx hb dX2_prefer_0 rfl (lv_at hl 0 rfl) ?_
  refine lv_iload_n hx hb dX2_prefer_1 rfl (lv_at hl 1 rfl) ?_
  refine g_callVv (As := [.int (nI t)]) (rest := []) G.1 hV 0 (by decide) rfl rfl ok_X2_requireTerm gm_208 gm_209 gm_207 (c_X2_requireTerm l w f t hI (by omega)) ⟨rfl, rfl⟩ ⟨Nat.le_of_ble_eq_true rfl, Nat.le_of_ble_eq_true rfl⟩ rfl hl.1 rfl (Nat.le_of_ble_eq_true rfl) ⟨Nat.zero_le _, Nat.zero_le _⟩ dX2_prefer_2 ?_
  refine lv_aload_n hx hb dX2_prefer_5 rfl (lv_at hl 0 rfl) ?_
  refine g_get hx hb hts hown hV 0 0 (by decide) (v := .ref (w.2.2.2 1)) rfl rfl gin2 (by decide) gm_155 (rfl) dX2_prefer_6 ?_
  refine g_get hx hb hts hown hV 1 6 (by decide) (v := .ref (w.2.2.2 7)) rfl rfl gin0 (by decide) gm_206 (rfl) dX2_prefer_9 ?_
  refine lv_iload_n hx hb dX2_prefer_12 rfl (lv_at hl 1 rfl) ?_
  refine g_ialn (a := 5) (n := 24) hx hb hV 7 (by decide) (by decide) rfl rfl (i := t) (by omega) dX2_prefer_13 ?_
  refine lv_iconst (v := nI 1) hx hb dX2_prefer_14 (by decide) ?_
  refine lv_icmp_eq (tgt := 28) hx hb dX2_prefer_15 (by decide) (fun c15 => ?_) (fun c15 => ?_)
  · skip
    exact absurd c15 h3
  · skip
    exact g_thr (ik := 60) (is := 94) (ic := 64) (X := eS) (text := "not ADMITTED") G hfl hX hxt (by decide +kernel) gm_167 gm_168 (by decide +kernel) (gx_hat gx_at64 hall hX.2.2.1.2.1 hX.2.2.1.2.2.2 gx_no64) gx_ot64 hl.1 dX2_prefer_18 dX2_prefer_21 dX2_prefer_22 dX2_prefer_24 dX2_prefer_27 ⟨Nat.le_of_ble_eq_true rfl, Nat.le_of_ble_eq_true rfl, Nat.le_of_ble_eq_true rfl, Nat.le_of_ble_eq_true rfl⟩
set_option maxRecDepth 100000 in
set_option maxHeartbeats 4000000 in
theorem x_X2_ban (l : Launch) (hfl : l.stackTraces = false) (w : GP) (f : CS) (t : Nat) (g : Nat) (hI : gI f) (h : t < nT f) (h2 : g ≤ 30) (h3 : ¬ canB f t) : vx_Met l yX2_ban (gxs yX2_ban cX2_ban 3 (some .int)) ({ frames := 6, cells := 1, slots := 6, locals := 82 }) (gPx w f [.ref (w.2.2.2 0), .int (nI t), .int (nI g)]) noQ (gT eS) 1 6 (fun _ => False) := by
  refine x_read (by decide) (Nat.le_of_ble_eq_true rfl) ?_
  intro P_ E_ S_ M_ B_ T_ C_ ls G hall hxt hX hV hl
  obtain ⟨hx, hb, hml, hown, hts⟩ := id G.1
  obtain ⟨⟨hT, hT24⟩, ⟨hC, hC12⟩, ⟨hD, hD6⟩, hLn⟩ := id hI
  have hl : lv_has ls 3 [(0, .ref (w.2.2.2 0)), (1, .int (nI t)), (2, .int (nI g))] := hl
  refine lv_aload_n hx hb dX2_ban_0 rfl (lv_at hl 0 rfl) ?_
  refine lv_iload_n hx hb dX2_ban_1 rfl (lv_at hl 1 rfl) ?_
  refine g_callVv (As := [.int (nI t)]) (rest := []) G.1 hV 0 (by decide) rfl rfl ok_X2_requireTerm gm_208 gm_209 gm_207 (c_X2_requireTerm l w f t hI (by omega)) ⟨rfl, rfl⟩ ⟨Nat.le_of_ble_eq_true rfl, Nat.le_of_ble_eq_true rfl⟩ rfl hl.1 rfl (Nat.le_of_ble_eq_true rfl) ⟨Nat.zero_le _, Nat.zero_le _⟩ dX2_ban_2 ?_
  refine lv_iload_n hx hb dX2_ban_5 rfl (lv_at hl 2 rfl) ?_
  refine lv_if_lt (tgt := 15) hx hb dX2_ban_6 (by decide) (fun c6 => ?_) (fun c6 => ?_)
  · skip
    rw [show (0 : Int32) = nI 0 from rfl] at c6
    have c6 : g < 0 := (g_lt (by omega) (by omega)).mp c6
    exfalso; omega
  · skip
    rw [show (0 : Int32) = nI 0 from rfl] at c6
    have c6 : ¬ (g < 0) := fun q => c6 ((g_lt (by omega) (by omega)).mpr q)
    refine lv_iload_n hx hb dX2_ban_9 rfl (lv_at hl 2 rfl) ?_
    refine lv_bipush (v := nI 30) hx hb dX2_ban_10 (by decide) ?_
    refine lv_icmp_le (tgt := 25) hx hb dX2_ban_12 (by decide) (fun c12 => ?_) (fun c12 => ?_)
    · skip
      have c12 : g ≤ 30 := (g_le (by omega) (by omega)).mp c12
      refine lv_aload_n hx hb dX2_ban_25 rfl (lv_at hl 0 rfl) ?_
      refine g_get hx hb hts hown hV 0 0 (by decide) (v := .ref (w.2.2.2 1)) rfl rfl gin2 (by decide) gm_155 (rfl) dX2_ban_26 ?_
      refine lv_iload_n hx hb dX2_ban_29 rfl (lv_at hl 1 rfl) ?_
      refine g_callV (As := [.int (nI t)]) (rest := []) G.1 hV 1 (by decide) rfl rfl ok_X0_canBeBanned gm_228 gm_229 gm_227 (c_X0_canBeBanned l w f t hI (by omega)) ⟨rfl, rfl⟩ ⟨Nat.le_of_ble_eq_true rfl, Nat.le_of_ble_eq_true rfl⟩ rfl hl.1 rfl (Nat.le_of_ble_eq_true rfl) ⟨Nat.zero_le _, Nat.zero_le _⟩ dX2_ban_30 ?_
      refine lv_if_ne (tgt := 46) hx hb dX2_ban_33 (by decide) (fun c33 => ?_) (fun c33 => ?_)
      · skip
        have c33 : canB f t := g_if1.mp c33
        exact absurd c33 h3
      · skip
        have c33 : ¬ (canB f t) := g_if0.mp c33
        exact g_thr (ik := 60) (is := 105) (ic := 64) (X := eS) (text := "neither ADMITTED nor PREFERRED") G hfl hX hxt (by decide +kernel) gm_167 gm_168 (by decide +kernel) (gx_hat gx_at64 hall hX.2.2.1.2.1 hX.2.2.1.2.2.2 gx_no64) gx_ot64 hl.1 dX2_ban_36 dX2_ban_39 dX2_ban_40 dX2_ban_42 dX2_ban_45 ⟨Nat.le_of_ble_eq_true rfl, Nat.le_of_ble_eq_true rfl, Nat.le_of_ble_eq_true rfl, Nat.le_of_ble_eq_true rfl⟩
    · skip
      have c12 : ¬ (g ≤ 30) := fun q => c12 ((g_le (by omega) (by omega)).mpr q)
      exfalso; omega
set_option maxRecDepth 100000 in
set_option maxHeartbeats 4000000 in
theorem x_X2_allow (l : Launch) (hfl : l.stackTraces = false) (w : GP) (f : CS) (t : Nat) (hI : gI f) (h : t < nT f) (h3 : ¬ f 5 t = nI 3) : vx_Met l yX2_allow (gxs yX2_allow cX2_allow 2 (some .int)) ({ frames := 6, cells := 1, slots := 6, locals := 82 }) (gPx w f [.ref (w.2.2.2 0), .int (nI t)]) noQ (gT eS) 1 6 (fun _ => False) := by
  refine x_read (by decide) (Nat.le_of_ble_eq_true rfl) ?_
  intro P_ E_ S_ M_ B_ T_ C_ ls G hall hxt hX hV hl
  obtain ⟨hx, hb, hml, hown, hts⟩ := id G.1
  obtain ⟨⟨hT, hT24⟩, ⟨hC, hC12⟩, ⟨hD, hD6⟩, hLn⟩ := id hI
  have hl : lv_has ls 2 [(0, .ref (w.2.2.2 0)), (1, .int (nI t))] := hl
  refine lv_aload_n hx hb dX2_allow_0 rfl (lv_at hl 0 rfl) ?_
  refine lv_iload_n hx hb dX2_allow_1 rfl (lv_at hl 1 rfl) ?_
  refine g_callVv (As := [.int (nI t)]) (rest := []) G.1 hV 0 (by decide) rfl rfl ok_X2_requireTerm gm_208 gm_209 gm_207 (c_X2_requireTerm l w f t hI (by omega)) ⟨rfl, rfl⟩ ⟨Nat.le_of_ble_eq_true rfl, Nat.le_of_ble_eq_true rfl⟩ rfl hl.1 rfl (Nat.le_of_ble_eq_true rfl) ⟨Nat.zero_le _, Nat.zero_le _⟩ dX2_allow_2 ?_
  refine lv_aload_n hx hb dX2_allow_5 rfl (lv_at hl 0 rfl) ?_
  refine g_get hx hb hts hown hV 0 0 (by decide) (v := .ref (w.2.2.2 1)) rfl rfl gin2 (by decide) gm_155 (rfl) dX2_allow_6 ?_
  refine g_get hx hb hts hown hV 1 6 (by decide) (v := .ref (w.2.2.2 7)) rfl rfl gin0 (by decide) gm_206 (rfl) dX2_allow_9 ?_
  refine lv_iload_n hx hb dX2_allow_12 rfl (lv_at hl 1 rfl) ?_
  refine g_ialn (a := 5) (n := 24) hx hb hV 7 (by decide) (by decide) rfl rfl (i := t) (by omega) dX2_allow_13 ?_
  refine lv_iconst (v := nI 3) hx hb dX2_allow_14 (by decide) ?_
  refine lv_icmp_eq (tgt := 28) hx hb dX2_allow_15 (by decide) (fun c15 => ?_) (fun c15 => ?_)
  · skip
    exact absurd c15 h3
  · skip
    exact g_thr (ik := 60) (is := 114) (ic := 64) (X := eS) (text := "not BANNED") G hfl hX hxt (by decide +kernel) gm_167 gm_168 (by decide +kernel) (gx_hat gx_at64 hall hX.2.2.1.2.1 hX.2.2.1.2.2.2 gx_no64) gx_ot64 hl.1 dX2_allow_18 dX2_allow_21 dX2_allow_22 dX2_allow_24 dX2_allow_27 ⟨Nat.le_of_ble_eq_true rfl, Nat.le_of_ble_eq_true rfl, Nat.le_of_ble_eq_true rfl, Nat.le_of_ble_eq_true rfl⟩
set_option maxRecDepth 100000 in
set_option maxHeartbeats 4000000 in
theorem x_X2_split (l : Launch) (hfl : l.stackTraces = false) (w : GP) (f : CS) (c : Nat) (s : Int32) (x : Nat) (hI : gI f) (h : c < nC f) (h2 : s < nI 1 ∨ ¬ s &&& (ofC f (nI c) ^^^ (-1)) = 0 ∨ s = ofC f (nI c)) : vx_Met l yX2_split (gxs yX2_split cX2_split 6 (some .int)) ({ frames := 6, cells := 1, slots := 6, locals := 82 }) (gPx w f [.ref (w.2.2.2 0), .int (nI c), .int s, .int (nI x)]) noQ (gT eA) 1 6 (fun _ => False) := by
  refine x_read (by decide) (Nat.le_of_ble_eq_true rfl) ?_
  intro P_ E_ S_ M_ B_ T_ C_ ls G hall hxt hX hV hl
  obtain ⟨hx, hb, hml, hown, hts⟩ := id G.1
  obtain ⟨⟨hT, hT24⟩, ⟨hC, hC12⟩, ⟨hD, hD6⟩, hLn⟩ := id hI
  have hl : lv_has ls 6 [(0, .ref (w.2.2.2 0)), (1, .int (nI c)), (2, .int s), (3, .int (nI x))] := hl
  refine lv_aload_n hx hb dX2_split_0 rfl (lv_at hl 0 rfl) ?_
  refine lv_iload_n hx hb dX2_split_1 rfl (lv_at hl 1 rfl) ?_
  refine g_callVv (As := [.int (nI c)]) (rest := []) G.1 hV 0 (by decide) rfl rfl ok_X2_requireConcept gm_187 gm_188 gm_186 (c_X2_requireConcept l w f c hI (by omega)) ⟨rfl, rfl⟩ ⟨Nat.le_of_ble_eq_true rfl, Nat.le_of_ble_eq_true rfl⟩ rfl hl.1 rfl (Nat.le_of_ble_eq_true rfl) ⟨Nat.zero_le _, Nat.zero_le _⟩ dX2_split_2 ?_
  refine lv_aload_n hx hb dX2_split_5 rfl (lv_at hl 0 rfl) ?_
  refine g_get hx hb hts hown hV 0 0 (by decide) (v := .ref (w.2.2.2 1)) rfl rfl gin2 (by decide) gm_155 (rfl) dX2_split_6 ?_
  refine lv_iload_n hx hb dX2_split_9 rfl (lv_at hl 1 rfl) ?_
  refine g_callV (As := [.int (nI c)]) (rest := []) G.1 hV 1 (by decide) rfl rfl ok_X0_termsOf gm_52 gm_53 gm_255 (c_X0_termsOf l w f (nI c) hI ) ⟨rfl, rfl⟩ ⟨Nat.le_of_ble_eq_true rfl, Nat.le_of_ble_eq_true rfl⟩ rfl hl.1 rfl (Nat.le_of_ble_eq_true rfl) ⟨Nat.zero_le _, Nat.zero_le _⟩ dX2_split_10 ?_
  refine lv_istore (lv' := [(4, .int (ofC f (nI c))), (0, .ref (w.2.2.2 0)), (1, .int (nI c)), (2, .int s), (3, .int (nI x))]) hx hb dX2_split_13 hl (by decide) rfl (fun ls hl => ?_)
  refine lv_iload_n hx hb dX2_split_15 rfl (lv_at hl 3 rfl) ?_
  refine lv_iconst (v := nI 1) hx hb dX2_split_16 (by decide) ?_
  refine lv_icmp_lt (tgt := 35) hx hb dX2_split_17 (by decide) (fun c17 => ?_) (fun c17 => ?_)
  · skip
    exact g_thr (ik := 46) (is := 162) (ic := 50) (X := eA) (text := "no such part of the CONCEPT") G hfl hX hxt (by decide +kernel) gm_165 gm_166 (by decide +kernel) (gx_hat gx_at50 hall hX.2.2.1.1 hX.2.2.1.2.2.2 gx_no50) gx_ot50 hl.1 dX2_split_35 dX2_split_38 dX2_split_39 dX2_split_41 dX2_split_44 ⟨Nat.le_of_ble_eq_true rfl, Nat.le_of_ble_eq_true rfl, Nat.le_of_ble_eq_true rfl, Nat.le_of_ble_eq_true rfl⟩
  · skip
    refine lv_iload_n hx hb dX2_split_20 rfl (lv_at hl 3 rfl) ?_
    refine lv_iload hx hb dX2_split_21 (lv_at hl 0 rfl) ?_
    refine lv_iconst (v := -1) hx hb dX2_split_23 (by decide) ?_
    refine lv_ixor hx hb dX2_split_24 ?_
    refine lv_iand hx hb dX2_split_25 ?_
    refine lv_if_ne (tgt := 35) hx hb dX2_split_26 (by decide) (fun c26 => ?_) (fun c26 => ?_)
    · skip
      exact g_thr (ik := 46) (is := 162) (ic := 50) (X := eA) (text := "no such part of the CONCEPT") G hfl hX hxt (by decide +kernel) gm_165 gm_166 (by decide +kernel) (gx_hat gx_at50 hall hX.2.2.1.1 hX.2.2.1.2.2.2 gx_no50) gx_ot50 hl.1 dX2_split_35 dX2_split_38 dX2_split_39 dX2_split_41 dX2_split_44 ⟨Nat.le_of_ble_eq_true rfl, Nat.le_of_ble_eq_true rfl, Nat.le_of_ble_eq_true rfl, Nat.le_of_ble_eq_true rfl⟩
    · skip
      refine lv_iload_n hx hb dX2_split_29 rfl (lv_at hl 3 rfl) ?_
      refine lv_iload hx hb dX2_split_30 (lv_at hl 0 rfl) ?_
      refine lv_icmp_ne (tgt := 45) hx hb dX2_split_32 (by decide) (fun c32 => ?_) (fun c32 => ?_)
      · skip
        exfalso; rcases h2 with q | q | q; exact c17 q; exact q c26; exact c32 q
      · skip
        exact g_thr (ik := 46) (is := 162) (ic := 50) (X := eA) (text := "no such part of the CONCEPT") G hfl hX hxt (by decide +kernel) gm_165 gm_166 (by decide +kernel) (gx_hat gx_at50 hall hX.2.2.1.1 hX.2.2.1.2.2.2 gx_no50) gx_ot50 hl.1 dX2_split_35 dX2_split_38 dX2_split_39 dX2_split_41 dX2_split_44 ⟨Nat.le_of_ble_eq_true rfl, Nat.le_of_ble_eq_true rfl, Nat.le_of_ble_eq_true rfl, Nat.le_of_ble_eq_true rfl⟩
set_option maxRecDepth 100000 in
set_option maxHeartbeats 4000000 in
theorem x_X2_approve (l : Launch) (hfl : l.stackTraces = false) (w : GP) (f : CS) (d : Nat) (g : Nat) (hI : gI f) (hd : d < nD f) (hg : g < 3) (h4 : ¬ (0 < nL f (d * 3 + g) ∧ ¬ f 12 (d * 3 + g) = nI 1 ∧ fbI f (d * 3 + g) = -1)) : vx_Met l yX2_approve (gxs yX2_approve cX2_approve 4 (some .int)) ({ frames := 6, cells := 1, slots := 6, locals := 88 }) (gPx w f [.ref (w.2.2.2 0), .int (nI d), .int (nI g)]) noQ (gT eS) 1 6 (fun _ => False) := by
  refine x_read (by decide) (Nat.le_of_ble_eq_true rfl) ?_
  intro P_ E_ S_ M_ B_ T_ C_ ls G hall hxt hX hV hl
  obtain ⟨hx, hb, hml, hown, hts⟩ := id G.1
  obtain ⟨⟨hT, hT24⟩, ⟨hC, hC12⟩, ⟨hD, hD6⟩, hLn⟩ := id hI
  have hl : lv_has ls 4 [(0, .ref (w.2.2.2 0)), (1, .int (nI d)), (2, .int (nI g))] := hl
  refine lv_aload_n hx hb dX2_approve_0 rfl (lv_at hl 0 rfl) ?_
  refine lv_iload_n hx hb dX2_approve_1 rfl (lv_at hl 1 rfl) ?_
  refine lv_iload_n hx hb dX2_approve_2 rfl (lv_at hl 2 rfl) ?_
  refine g_callV (As := [.int (nI d), .int (nI g)]) (rest := []) G.1 hV 0 (by decide) rfl rfl ok_X2_requireText gm_287 gm_288 gm_286 (c_X2_requireText l w f d g hI (by omega) (by omega)) ⟨rfl, rfl⟩ ⟨Nat.le_of_ble_eq_true rfl, Nat.le_of_ble_eq_true rfl⟩ rfl hl.1 rfl (Nat.le_of_ble_eq_true rfl) ⟨Nat.zero_le _, Nat.zero_le _⟩ dX2_approve_3 ?_
  refine lv_istore_n (lv' := [(3, .int (nI (d * 3 + g))), (0, .ref (w.2.2.2 0)), (1, .int (nI d)), (2, .int (nI g))]) hx hb dX2_approve_6 rfl hl (by decide) rfl (fun ls hl => ?_)
  refine lv_aload_n hx hb dX2_approve_7 rfl (lv_at hl 1 rfl) ?_
  refine g_get hx hb hts hown hV 0 1 (by decide) (v := .ref (w.2.2.2 2)) rfl rfl gin2 (by decide) gm_158 (rfl) dX2_approve_8 ?_
  refine lv_iload_n hx hb dX2_approve_11 rfl (lv_at hl 0 rfl) ?_
  refine g_callV (As := [.int (nI (d * 3 + g))]) (rest := []) G.1 hV 2 (by decide) rfl rfl ok_X1_canBeApproved gm_308 gm_309 gm_307 (c_X1_canBeApproved l w f (d * 3 + g) hI (by omega)) ⟨rfl, rfl⟩ ⟨Nat.le_of_ble_eq_true rfl, Nat.le_of_ble_eq_true rfl⟩ rfl hl.1 rfl (Nat.le_of_ble_eq_true rfl) ⟨Nat.zero_le _, Nat.zero_le _⟩ dX2_approve_12 ?_
  refine lv_if_ne (tgt := 28) hx hb dX2_approve_15 (by decide) (fun c15 => ?_) (fun c15 => ?_)
  · skip
    have c15 : 0 < nL f (d * 3 + g) ∧ ¬ f 12 (d * 3 + g) = nI 1 ∧ fbI f (d * 3 + g) = -1 := g_if1.mp c15
    exact absurd c15 h4
  · skip
    have c15 : ¬ (0 < nL f (d * 3 + g) ∧ ¬ f 12 (d * 3 + g) = nI 1 ∧ fbI f (d * 3 + g) = -1) := g_if0.mp c15
    exact g_thr (ik := 60) (is := 223) (ic := 64) (X := eS) (text := "the TEXT cannot be APPROVED") G hfl hX hxt (by decide +kernel) gm_167 gm_168 (by decide +kernel) (gx_hat gx_at64 hall hX.2.2.1.2.1 hX.2.2.1.2.2.2 gx_no64) gx_ot64 hl.1 dX2_approve_18 dX2_approve_21 dX2_approve_22 dX2_approve_24 dX2_approve_27 ⟨Nat.le_of_ble_eq_true rfl, Nat.le_of_ble_eq_true rfl, Nat.le_of_ble_eq_true rfl, Nat.le_of_ble_eq_true rfl⟩
set_option maxRecDepth 100000 in
set_option maxHeartbeats 4000000 in
theorem x_X2_cut (l : Launch) (hfl : l.stackTraces = false) (w : GP) (f : CS) (d : Nat) (g : Nat) (hI : gI f) (hd : d < nD f) (hg : g < 3) (h4 : ¬ 1 ≤ nL f (d * 3 + g) ∨ f 12 (d * 3 + g) = nI 1) : vx_Met l yX2_cut (gxs yX2_cut cX2_cut 4 (some .int)) ({ frames := 6, cells := 1, slots := 6, locals := 82 }) (gPx w f [.ref (w.2.2.2 0), .int (nI d), .int (nI g)]) noQ (gT eS) 1 6 (fun _ => False) := by
  refine x_read (by decide) (Nat.le_of_ble_eq_true rfl) ?_
  intro P_ E_ S_ M_ B_ T_ C_ ls G hall hxt hX hV hl
  obtain ⟨hx, hb, hml, hown, hts⟩ := id G.1
  obtain ⟨⟨hT, hT24⟩, ⟨hC, hC12⟩, ⟨hD, hD6⟩, hLn⟩ := id hI
  have hl : lv_has ls 4 [(0, .ref (w.2.2.2 0)), (1, .int (nI d)), (2, .int (nI g))] := hl
  have hLt := hLn (d * 3 + g) (by omega)
  refine lv_aload_n hx hb dX2_cut_0 rfl (lv_at hl 0 rfl) ?_
  refine lv_iload_n hx hb dX2_cut_1 rfl (lv_at hl 1 rfl) ?_
  refine lv_iload_n hx hb dX2_cut_2 rfl (lv_at hl 2 rfl) ?_
  refine g_callV (As := [.int (nI d), .int (nI g)]) (rest := []) G.1 hV 0 (by decide) rfl rfl ok_X2_requireText gm_287 gm_288 gm_286 (c_X2_requireText l w f d g hI (by omega) (by omega)) ⟨rfl, rfl⟩ ⟨Nat.le_of_ble_eq_true rfl, Nat.le_of_ble_eq_true rfl⟩ rfl hl.1 rfl (Nat.le_of_ble_eq_true rfl) ⟨Nat.zero_le _, Nat.zero_le _⟩ dX2_cut_3 ?_
  refine lv_istore_n (lv' := [(3, .int (nI (d * 3 + g))), (0, .ref (w.2.2.2 0)), (1, .int (nI d)), (2, .int (nI g))]) hx hb dX2_cut_6 rfl hl (by decide) rfl (fun ls hl => ?_)
  refine lv_aload_n hx hb dX2_cut_7 rfl (lv_at hl 1 rfl) ?_
  refine g_get hx hb hts hown hV 0 1 (by decide) (v := .ref (w.2.2.2 2)) rfl rfl gin2 (by decide) gm_158 (rfl) dX2_cut_8 ?_
  refine g_get hx hb hts hown hV 2 3 (by decide) (v := .ref (w.2.2.2 17)) rfl rfl gin1 (by decide) gm_285 (rfl) dX2_cut_11 ?_
  refine lv_iload_n hx hb dX2_cut_14 rfl (lv_at hl 0 rfl) ?_
  refine g_ialn (a := 12) (n := 18) hx hb hV 17 (by decide) (by decide) rfl rfl (i := d * 3 + g) (by omega) dX2_cut_15 ?_
  refine lv_iconst (v := nI 1) hx hb dX2_cut_16 (by decide) ?_
  refine lv_icmp_eq (tgt := 33) hx hb dX2_cut_17 (by decide) (fun c17 => ?_) (fun c17 => ?_)
  · skip
    exact g_thr (ik := 60) (is := 215) (ic := 64) (X := eS) (text := "the TEXT cannot be cut") G hfl hX hxt (by decide +kernel) gm_167 gm_168 (by decide +kernel) (gx_hat gx_at64 hall hX.2.2.1.2.1 hX.2.2.1.2.2.2 gx_no64) gx_ot64 hl.1 dX2_cut_33 dX2_cut_36 dX2_cut_37 dX2_cut_39 dX2_cut_42 ⟨Nat.le_of_ble_eq_true rfl, Nat.le_of_ble_eq_true rfl, Nat.le_of_ble_eq_true rfl, Nat.le_of_ble_eq_true rfl⟩
  · skip
    refine lv_aload_n hx hb dX2_cut_20 rfl (lv_at hl 1 rfl) ?_
    refine g_get hx hb hts hown hV 0 1 (by decide) (v := .ref (w.2.2.2 2)) rfl rfl gin2 (by decide) gm_158 (rfl) dX2_cut_21 ?_
    refine g_get hx hb hts hown hV 2 2 (by decide) (v := .ref (w.2.2.2 16)) rfl rfl gin1 (by decide) gm_302 (rfl) dX2_cut_24 ?_
    refine lv_iload_n hx hb dX2_cut_27 rfl (lv_at hl 0 rfl) ?_
    refine g_ialn (a := 11) (n := 18) hx hb hV 16 (by decide) (by decide) rfl rfl (i := d * 3 + g) (by omega) dX2_cut_28 ?_
    rw [(hLn (d * 3 + g) (by omega)).1]
    refine lv_iconst (v := nI 1) hx hb dX2_cut_29 (by decide) ?_
    refine lv_icmp_ge (tgt := 43) hx hb dX2_cut_30 (by decide) (fun c30 => ?_) (fun c30 => ?_)
    · skip
      have c30 : 1 ≤ (nL f (d * 3 + g)) := (g_le (by omega) (by omega)).mp c30
      exfalso; rcases h4 with q | q; omega; exact c17 q
    · skip
      have c30 : ¬ (1 ≤ (nL f (d * 3 + g))) := fun q => c30 ((g_le (by omega) (by omega)).mpr q)
      exact g_thr (ik := 60) (is := 215) (ic := 64) (X := eS) (text := "the TEXT cannot be cut") G hfl hX hxt (by decide +kernel) gm_167 gm_168 (by decide +kernel) (gx_hat gx_at64 hall hX.2.2.1.2.1 hX.2.2.1.2.2.2 gx_no64) gx_ot64 hl.1 dX2_cut_33 dX2_cut_36 dX2_cut_37 dX2_cut_39 dX2_cut_42 ⟨Nat.le_of_ble_eq_true rfl, Nat.le_of_ble_eq_true rfl, Nat.le_of_ble_eq_true rfl, Nat.le_of_ble_eq_true rfl⟩
set_option maxRecDepth 100000 in
set_option maxHeartbeats 4000000 in
theorem x_X2_write (l : Launch) (hfl : l.stackTraces = false) (w : GP) (f : CS) (d : Nat) (g : Nat) (p : Nat) (x : Nat) (hI : gI f) (hd : d < nD f) (hg : g < 3) (hp : p < (if nL f (d * 3 + g) + 1 ≤ 12 then nL f (d * 3 + g) + 1 else 12)) (hx0 : x < 80) (h5 : f 12 (d * 3 + g) = nI 1) : vx_Met l yX2_write (gxs yX2_write cX2_write 6 (some .int)) ({ frames := 6, cells := 1, slots := 6, locals := 82 }) (gPx w f [.ref (w.2.2.2 0), .int (nI d), .int (nI g), .int (nI p), .int (nI x)]) noQ (gT eS) 1 6 (fun _ => False) := by
  refine x_read (by decide) (Nat.le_of_ble_eq_true rfl) ?_
  intro P_ E_ S_ M_ B_ T_ C_ ls G hall hxt hX hV hl
  obtain ⟨hx, hb, hml, hown, hts⟩ := id G.1
  obtain ⟨⟨hT, hT24⟩, ⟨hC, hC12⟩, ⟨hD, hD6⟩, hLn⟩ := id hI
  have hl : lv_has ls 6 [(0, .ref (w.2.2.2 0)), (1, .int (nI d)), (2, .int (nI g)), (3, .int (nI p)), (4, .int (nI x))] := hl
  have hLt := hLn (d * 3 + g) (by omega)
  refine lv_aload_n hx hb dX2_write_0 rfl (lv_at hl 0 rfl) ?_
  refine lv_iload_n hx hb dX2_write_1 rfl (lv_at hl 1 rfl) ?_
  refine lv_iload_n hx hb dX2_write_2 rfl (lv_at hl 2 rfl) ?_
  refine g_callV (As := [.int (nI d), .int (nI g)]) (rest := []) G.1 hV 0 (by decide) rfl rfl ok_X2_requireText gm_287 gm_288 gm_286 (c_X2_requireText l w f d g hI (by omega) (by omega)) ⟨rfl, rfl⟩ ⟨Nat.le_of_ble_eq_true rfl, Nat.le_of_ble_eq_true rfl⟩ rfl hl.1 rfl (Nat.le_of_ble_eq_true rfl) ⟨Nat.zero_le _, Nat.zero_le _⟩ dX2_write_3 ?_
  refine lv_istore (lv' := [(5, .int (nI (d * 3 + g))), (0, .ref (w.2.2.2 0)), (1, .int (nI d)), (2, .int (nI g)), (3, .int (nI p)), (4, .int (nI x))]) hx hb dX2_write_6 hl (by decide) rfl (fun ls hl => ?_)
  refine lv_aload_n hx hb dX2_write_8 rfl (lv_at hl 1 rfl) ?_
  refine lv_iload_n hx hb dX2_write_9 rfl (lv_at hl 4 rfl) ?_
  refine lv_aload_n hx hb dX2_write_10 rfl (lv_at hl 1 rfl) ?_
  refine g_get hx hb hts hown hV 0 1 (by decide) (v := .ref (w.2.2.2 2)) rfl rfl gin2 (by decide) gm_158 (rfl) dX2_write_11 ?_
  refine lv_iload hx hb dX2_write_14 (lv_at hl 0 rfl) ?_
  refine g_callV (As := [.int (nI (d * 3 + g))]) (rest := [.int (nI p), .ref (w.2.2.2 0)]) G.1 hV 2 (by decide) rfl rfl ok_X1_placesToWrite gm_291 gm_292 gm_290 (c_X1_placesToWrite l w f (d * 3 + g) hI (by omega)) ⟨rfl, rfl⟩ ⟨Nat.le_of_ble_eq_true rfl, Nat.le_of_ble_eq_true rfl⟩ rfl hl.1 rfl (Nat.le_of_ble_eq_true rfl) ⟨Nat.zero_le _, Nat.zero_le _⟩ dX2_write_16 ?_
  refine g_callVv (As := [.int (nI p), .int (nI (if nL f (d * 3 + g) + 1 ≤ 12 then nL f (d * 3 + g) + 1 else 12))]) (rest := []) G.1 hV 0 (by decide) rfl rfl ok_X2_requirePlace gm_295 gm_296 gm_294 (c_X2_requirePlace l w f p (if nL f (d * 3 + g) + 1 ≤ 12 then nL f (d * 3 + g) + 1 else 12) hI (hp) (by split <;> omega)) ⟨rfl, rfl⟩ ⟨Nat.le_of_ble_eq_true rfl, Nat.le_of_ble_eq_true rfl⟩ rfl hl.1 rfl (Nat.le_of_ble_eq_true rfl) ⟨Nat.zero_le _, Nat.zero_le _⟩ dX2_write_19 ?_
  refine lv_iload hx hb dX2_write_22 (lv_at hl 5 rfl) ?_
  refine lv_if_lt (tgt := 34) hx hb dX2_write_24 (by decide) (fun c24 => ?_) (fun c24 => ?_)
  · skip
    rw [show (0 : Int32) = nI 0 from rfl] at c24
    have c24 : x < 0 := (g_lt (by omega) (by omega)).mp c24
    exfalso; omega
  · skip
    rw [show (0 : Int32) = nI 0 from rfl] at c24
    have c24 : ¬ (x < 0) := fun q => c24 ((g_lt (by omega) (by omega)).mpr q)
    refine lv_iload hx hb dX2_write_27 (lv_at hl 5 rfl) ?_
    refine lv_bipush (v := nI 80) hx hb dX2_write_29 (by decide) ?_
    refine lv_icmp_lt (tgt := 44) hx hb dX2_write_31 (by decide) (fun c31 => ?_) (fun c31 => ?_)
    · skip
      have c31 : x < 80 := (g_lt (by omega) (by omega)).mp c31
      refine lv_aload_n hx hb dX2_write_44 rfl (lv_at hl 1 rfl) ?_
      refine g_get hx hb hts hown hV 0 1 (by decide) (v := .ref (w.2.2.2 2)) rfl rfl gin2 (by decide) gm_158 (rfl) dX2_write_45 ?_
      refine g_get hx hb hts hown hV 2 3 (by decide) (v := .ref (w.2.2.2 17)) rfl rfl gin1 (by decide) gm_285 (rfl) dX2_write_48 ?_
      refine lv_iload hx hb dX2_write_51 (lv_at hl 0 rfl) ?_
      refine g_ialn (a := 12) (n := 18) hx hb hV 17 (by decide) (by decide) rfl rfl (i := d * 3 + g) (by omega) dX2_write_53 ?_
      refine lv_iconst (v := nI 1) hx hb dX2_write_54 (by decide) ?_
      refine lv_icmp_ne (tgt := 68) hx hb dX2_write_55 (by decide) (fun c55 => ?_) (fun c55 => ?_)
      · skip
        exact absurd h5 c55
      · skip
        exact g_thr (ik := 60) (is := 207) (ic := 64) (X := eS) (text := "the TEXT is APPROVED") G hfl hX hxt (by decide +kernel) gm_167 gm_168 (by decide +kernel) (gx_hat gx_at64 hall hX.2.2.1.2.1 hX.2.2.1.2.2.2 gx_no64) gx_ot64 hl.1 dX2_write_58 dX2_write_61 dX2_write_62 dX2_write_64 dX2_write_67 ⟨Nat.le_of_ble_eq_true rfl, Nat.le_of_ble_eq_true rfl, Nat.le_of_ble_eq_true rfl, Nat.le_of_ble_eq_true rfl⟩
    · skip
      have c31 : ¬ (x < 80) := fun q => c31 ((g_lt (by omega) (by omega)).mpr q)
      exfalso; omega
set_option maxRecDepth 100000 in
set_option maxHeartbeats 4000000 in
theorem x_X2_split_2 (l : Launch) (hfl : l.stackTraces = false) (w : GP) (f : CS) (c : Nat) (s : Int32) (x : Nat) (hI : gI f) (h : c < nC f) (h2 : ¬ s < nI 1) (h3 : s &&& (ofC f (nI c) ^^^ (-1)) = 0) (h4 : ¬ s = ofC f (nI c)) (h5 : x < 4) (h6 : ¬ nC f < 12) : vx_Met l yX2_split (gxs yX2_split cX2_split 6 (some .int)) ({ frames := 7, cells := 1, slots := 6, locals := 102 }) (gPx w f [.ref (w.2.2.2 0), .int (nI c), .int s, .int (nI x)]) noQ (gT eS) 1 6 (fun _ => False) := by
  refine x_read (by decide) (Nat.le_of_ble_eq_true rfl) ?_
  intro P_ E_ S_ M_ B_ T_ C_ ls G hall hxt hX hV hl
  obtain ⟨hx, hb, hml, hown, hts⟩ := id G.1
  obtain ⟨⟨hT, hT24⟩, ⟨hC, hC12⟩, ⟨hD, hD6⟩, hLn⟩ := id hI
  have hl : lv_has ls 6 [(0, .ref (w.2.2.2 0)), (1, .int (nI c)), (2, .int s), (3, .int (nI x))] := hl
  refine lv_aload_n hx hb dX2_split_0 rfl (lv_at hl 0 rfl) ?_
  refine lv_iload_n hx hb dX2_split_1 rfl (lv_at hl 1 rfl) ?_
  refine g_callVv (As := [.int (nI c)]) (rest := []) G.1 hV 0 (by decide) rfl rfl ok_X2_requireConcept gm_187 gm_188 gm_186 (c_X2_requireConcept l w f c hI (by omega)) ⟨rfl, rfl⟩ ⟨Nat.le_of_ble_eq_true rfl, Nat.le_of_ble_eq_true rfl⟩ rfl hl.1 rfl (Nat.le_of_ble_eq_true rfl) ⟨Nat.zero_le _, Nat.zero_le _⟩ dX2_split_2 ?_
  refine lv_aload_n hx hb dX2_split_5 rfl (lv_at hl 0 rfl) ?_
  refine g_get hx hb hts hown hV 0 0 (by decide) (v := .ref (w.2.2.2 1)) rfl rfl gin2 (by decide) gm_155 (rfl) dX2_split_6 ?_
  refine lv_iload_n hx hb dX2_split_9 rfl (lv_at hl 1 rfl) ?_
  refine g_callV (As := [.int (nI c)]) (rest := []) G.1 hV 1 (by decide) rfl rfl ok_X0_termsOf gm_52 gm_53 gm_255 (c_X0_termsOf l w f (nI c) hI ) ⟨rfl, rfl⟩ ⟨Nat.le_of_ble_eq_true rfl, Nat.le_of_ble_eq_true rfl⟩ rfl hl.1 rfl (Nat.le_of_ble_eq_true rfl) ⟨Nat.zero_le _, Nat.zero_le _⟩ dX2_split_10 ?_
  refine lv_istore (lv' := [(4, .int (ofC f (nI c))), (0, .ref (w.2.2.2 0)), (1, .int (nI c)), (2, .int s), (3, .int (nI x))]) hx hb dX2_split_13 hl (by decide) rfl (fun ls hl => ?_)
  refine lv_iload_n hx hb dX2_split_15 rfl (lv_at hl 3 rfl) ?_
  refine lv_iconst (v := nI 1) hx hb dX2_split_16 (by decide) ?_
  refine lv_icmp_lt (tgt := 35) hx hb dX2_split_17 (by decide) (fun c17 => ?_) (fun c17 => ?_)
  · skip
    exact absurd c17 h2
  · skip
    refine lv_iload_n hx hb dX2_split_20 rfl (lv_at hl 3 rfl) ?_
    refine lv_iload hx hb dX2_split_21 (lv_at hl 0 rfl) ?_
    refine lv_iconst (v := -1) hx hb dX2_split_23 (by decide) ?_
    refine lv_ixor hx hb dX2_split_24 ?_
    refine lv_iand hx hb dX2_split_25 ?_
    refine lv_if_ne (tgt := 35) hx hb dX2_split_26 (by decide) (fun c26 => ?_) (fun c26 => ?_)
    · skip
      exact absurd h3 c26
    · skip
      refine lv_iload_n hx hb dX2_split_29 rfl (lv_at hl 3 rfl) ?_
      refine lv_iload hx hb dX2_split_30 (lv_at hl 0 rfl) ?_
      refine lv_icmp_ne (tgt := 45) hx hb dX2_split_32 (by decide) (fun c32 => ?_) (fun c32 => ?_)
      · skip
        refine lv_aload_n hx hb dX2_split_45 rfl (lv_at hl 1 rfl) ?_
        refine lv_iload_n hx hb dX2_split_46 rfl (lv_at hl 4 rfl) ?_
        refine g_callVv (As := [.int (nI x)]) (rest := []) G.1 hV 0 (by decide) rfl rfl ok_X2_requireDomain gm_171 gm_172 gm_170 (c_X2_requireDomain l w f x hI (h5)) ⟨rfl, rfl⟩ ⟨Nat.le_of_ble_eq_true rfl, Nat.le_of_ble_eq_true rfl⟩ rfl hl.1 rfl (Nat.le_of_ble_eq_true rfl) ⟨Nat.zero_le _, Nat.zero_le _⟩ dX2_split_47 ?_
        refine lv_aload_n hx hb dX2_split_50 rfl (lv_at hl 1 rfl) ?_
        exact g_callX (As := []) (rest := []) G.1 hall hV hX hxt G.2.2 0 (by decide) rfl rfl ok_X2_requireRoomForConcept gm_175 gm_176 gm_174 (x_X2_requireRoomForConcept l hfl w f  hI (by omega)) ⟨rfl, rfl⟩ ⟨Nat.le_of_ble_eq_true rfl, Nat.le_of_ble_eq_true rfl⟩ rfl hl.1 rfl (Nat.le_of_ble_eq_true rfl) ⟨Nat.le_of_ble_eq_true rfl, Nat.le_of_ble_eq_true rfl⟩ dX2_split_51
      · skip
        exact absurd c32 h4
