set_option maxRecDepth 100000 in
set_option maxHeartbeats 4000000 in
theorem x_X2_requireConcept (l : Launch) (hfl : l.stackTraces = false) (w : GP) (f : CS) (x : Int32) (hI : gI f) (h0 : nC f = 0) : vx_Met l yX2_requireConcept (gxs yX2_requireConcept cX2_requireConcept 2 none) ({ frames := 6, cells := 1, slots := 6, locals := 82 }) (gPx w f [.ref (w.2.2.2 0), .int x]) noQ (gT eI) 1 6 (fun _ => False) := by
  refine x_read (by decide) (Nat.le_of_ble_eq_true rfl) ?_
  intro P_ E_ S_ M_ B_ T_ C_ ls G hall hxt hX hV hl
  obtain ⟨hx, hb, hml, hown, hts⟩ := id G.1
  obtain ⟨⟨hT, hT24⟩, ⟨hC, hC12⟩, ⟨hD, hD6⟩, hLn⟩ := id hI
  have hl : lv_has ls 2 [(0, .ref (w.2.2.2 0)), (1, .int x)] := hl
  refine lv_aload_n hx hb dX2_requireConcept_0 rfl (lv_at hl 0 rfl) ?_
  refine g_get hx hb hts hown hV 0 0 (by decide) (v := .ref (w.2.2.2 1)) rfl rfl gin2 (by decide) gm_155 (rfl) dX2_requireConcept_1 ?_
  refine lv_iload_n hx hb dX2_requireConcept_4 rfl (lv_at hl 1 rfl) ?_
  refine g_callV (As := [.int x]) (rest := []) G.1 hV 1 (by decide) rfl rfl ok_X0_isConcept gm_60 gm_61 gm_184 (c_X0_isConcept l w f x hI ) ⟨rfl, rfl⟩ ⟨Nat.le_of_ble_eq_true rfl, Nat.le_of_ble_eq_true rfl⟩ rfl hl.1 rfl (Nat.le_of_ble_eq_true rfl) ⟨Nat.zero_le _, Nat.zero_le _⟩ dX2_requireConcept_5 ?_
  refine lv_if_ne (tgt := 22) hx hb dX2_requireConcept_8 (by decide) (fun c8 => ?_) (fun c8 => ?_)
  · skip
    have c8 : 0 ≤ x ∧ x < nI (nC f) := g_if1.mp c8
    rw [h0] at c8; exact absurd (Int32.lt_of_le_of_lt c8.1 c8.2) (by decide)
  · skip
    have c8 : ¬ (0 ≤ x ∧ x < nI (nC f)) := g_if0.mp c8
    exact g_thrW (ik := 72) (is := 337) (ic := 76) (X := eI) (text := "no such CONCEPT") G hfl hX hxt (by decide +kernel) gm_182 gm_183 (by decide +kernel) (gx_hat gx_at76 hall hX.2.2.1.2.2.1 hX.2.2.1.2.2.2 gx_no76) gx_ot76 hl.1 dX2_requireConcept_11 dX2_requireConcept_14 dX2_requireConcept_15 dX2_requireConcept_18 dX2_requireConcept_21 ⟨Nat.le_of_ble_eq_true rfl, Nat.le_of_ble_eq_true rfl, Nat.le_of_ble_eq_true rfl, Nat.le_of_ble_eq_true rfl⟩
set_option maxRecDepth 100000 in
set_option maxHeartbeats 4000000 in
theorem x_X2_requireTerm (l : Launch) (hfl : l.stackTraces = false) (w : GP) (f : CS) (x : Int32) (hI : gI f) (h0 : nT f = 0) : vx_Met l yX2_requireTerm (gxs yX2_requireTerm cX2_requireTerm 2 none) ({ frames := 6, cells := 1, slots := 6, locals := 82 }) (gPx w f [.ref (w.2.2.2 0), .int x]) noQ (gT eI) 1 6 (fun _ => False) := by
  refine x_read (by decide) (Nat.le_of_ble_eq_true rfl) ?_
  intro P_ E_ S_ M_ B_ T_ C_ ls G hall hxt hX hV hl
  obtain ⟨hx, hb, hml, hown, hts⟩ := id G.1
  obtain ⟨⟨hT, hT24⟩, ⟨hC, hC12⟩, ⟨hD, hD6⟩, hLn⟩ := id hI
  have hl : lv_has ls 2 [(0, .ref (w.2.2.2 0)), (1, .int x)] := hl
  refine lv_aload_n hx hb dX2_requireTerm_0 rfl (lv_at hl 0 rfl) ?_
  refine g_get hx hb hts hown hV 0 0 (by decide) (v := .ref (w.2.2.2 1)) rfl rfl gin2 (by decide) gm_155 (rfl) dX2_requireTerm_1 ?_
  refine lv_iload_n hx hb dX2_requireTerm_4 rfl (lv_at hl 1 rfl) ?_
  refine g_callV (As := [.int x]) (rest := []) G.1 hV 1 (by decide) rfl rfl ok_X0_isTerm gm_40 gm_41 gm_199 (c_X0_isTerm l w f x hI ) ⟨rfl, rfl⟩ ⟨Nat.le_of_ble_eq_true rfl, Nat.le_of_ble_eq_true rfl⟩ rfl hl.1 rfl (Nat.le_of_ble_eq_true rfl) ⟨Nat.zero_le _, Nat.zero_le _⟩ dX2_requireTerm_5 ?_
  refine lv_if_ne (tgt := 22) hx hb dX2_requireTerm_8 (by decide) (fun c8 => ?_) (fun c8 => ?_)
  · skip
    have c8 : 0 ≤ x ∧ x < nI (nT f) := g_if1.mp c8
    rw [h0] at c8; exact absurd (Int32.lt_of_le_of_lt c8.1 c8.2) (by decide)
  · skip
    have c8 : ¬ (0 ≤ x ∧ x < nI (nT f)) := g_if0.mp c8
    exact g_thrW (ik := 72) (is := 346) (ic := 76) (X := eI) (text := "no such TERM") G hfl hX hxt (by decide +kernel) gm_182 gm_183 (by decide +kernel) (gx_hat gx_at76 hall hX.2.2.1.2.2.1 hX.2.2.1.2.2.2 gx_no76) gx_ot76 hl.1 dX2_requireTerm_11 dX2_requireTerm_14 dX2_requireTerm_15 dX2_requireTerm_18 dX2_requireTerm_21 ⟨Nat.le_of_ble_eq_true rfl, Nat.le_of_ble_eq_true rfl, Nat.le_of_ble_eq_true rfl, Nat.le_of_ble_eq_true rfl⟩
set_option maxRecDepth 100000 in
set_option maxHeartbeats 4000000 in
theorem x_X2_requireDocument (l : Launch) (hfl : l.stackTraces = false) (w : GP) (f : CS) (x : Int32) (hI : gI f) (h0 : nD f = 0) : vx_Met l yX2_requireDocument (gxs yX2_requireDocument cX2_requireDocument 2 none) ({ frames := 6, cells := 1, slots := 6, locals := 82 }) (gPx w f [.ref (w.2.2.2 0), .int x]) noQ (gT eI) 1 6 (fun _ => False) := by
  refine x_read (by decide) (Nat.le_of_ble_eq_true rfl) ?_
  intro P_ E_ S_ M_ B_ T_ C_ ls G hall hxt hX hV hl
  obtain ⟨hx, hb, hml, hown, hts⟩ := id G.1
  obtain ⟨⟨hT, hT24⟩, ⟨hC, hC12⟩, ⟨hD, hD6⟩, hLn⟩ := id hI
  have hl : lv_has ls 2 [(0, .ref (w.2.2.2 0)), (1, .int x)] := hl
  refine lv_iload_n hx hb dX2_requireDocument_0 rfl (lv_at hl 1 rfl) ?_
  refine lv_if_lt (tgt := 15) hx hb dX2_requireDocument_1 (by decide) (fun c1 => ?_) (fun c1 => ?_)
  · skip
    exact g_thrW (ik := 72) (is := 348) (ic := 76) (X := eI) (text := "no such DOCUMENT") G hfl hX hxt (by decide +kernel) gm_182 gm_183 (by decide +kernel) (gx_hat gx_at76 hall hX.2.2.1.2.2.1 hX.2.2.1.2.2.2 gx_no76) gx_ot76 hl.1 dX2_requireDocument_15 dX2_requireDocument_18 dX2_requireDocument_19 dX2_requireDocument_22 dX2_requireDocument_25 ⟨Nat.le_of_ble_eq_true rfl, Nat.le_of_ble_eq_true rfl, Nat.le_of_ble_eq_true rfl, Nat.le_of_ble_eq_true rfl⟩
  · skip
    refine lv_iload_n hx hb dX2_requireDocument_4 rfl (lv_at hl 1 rfl) ?_
    refine lv_aload_n hx hb dX2_requireDocument_5 rfl (lv_at hl 0 rfl) ?_
    refine g_get hx hb hts hown hV 0 1 (by decide) (v := .ref (w.2.2.2 2)) rfl rfl gin2 (by decide) gm_158 (rfl) dX2_requireDocument_6 ?_
    refine g_get hx hb hts hown hV 2 1 (by decide) (v := .int (nI (nD f))) rfl rfl gin1 (by decide) gm_276 (by rw [← hD]; rfl) dX2_requireDocument_9 ?_
    refine lv_icmp_lt (tgt := 26) hx hb dX2_requireDocument_12 (by decide) (fun c12 => ?_) (fun c12 => ?_)
    · skip
      rw [h0] at c12; exact absurd c12 c1
    · skip
      exact g_thrW (ik := 72) (is := 348) (ic := 76) (X := eI) (text := "no such DOCUMENT") G hfl hX hxt (by decide +kernel) gm_182 gm_183 (by decide +kernel) (gx_hat gx_at76 hall hX.2.2.1.2.2.1 hX.2.2.1.2.2.2 gx_no76) gx_ot76 hl.1 dX2_requireDocument_15 dX2_requireDocument_18 dX2_requireDocument_19 dX2_requireDocument_22 dX2_requireDocument_25 ⟨Nat.le_of_ble_eq_true rfl, Nat.le_of_ble_eq_true rfl, Nat.le_of_ble_eq_true rfl, Nat.le_of_ble_eq_true rfl⟩
set_option maxRecDepth 100000 in
set_option maxHeartbeats 4000000 in
theorem x_X2_requireDomain (l : Launch) (hfl : l.stackTraces = false) (w : GP) (f : CS) (x : Int32) (hI : gI f) (h0 : ¬ (0 ≤ x ∧ x < nI 4)) : vx_Met l yX2_requireDomain (gxs yX2_requireDomain cX2_requireDomain 2 none) ({ frames := 6, cells := 1, slots := 6, locals := 82 }) (gPx w f [.ref (w.2.2.2 0), .int x]) noQ (gT eA) 1 6 (fun _ => False) := by
  refine x_read (by decide) (Nat.le_of_ble_eq_true rfl) ?_
  intro P_ E_ S_ M_ B_ T_ C_ ls G hall hxt hX hV hl
  obtain ⟨hx, hb, hml, hown, hts⟩ := id G.1
  obtain ⟨⟨hT, hT24⟩, ⟨hC, hC12⟩, ⟨hD, hD6⟩, hLn⟩ := id hI
  have hl : lv_has ls 2 [(0, .ref (w.2.2.2 0)), (1, .int x)] := hl
  refine lv_iload_n hx hb dX2_requireDomain_0 rfl (lv_at hl 1 rfl) ?_
  refine lv_if_lt (tgt := 9) hx hb dX2_requireDomain_1 (by decide) (fun c1 => ?_) (fun c1 => ?_)
  · skip
    exact g_thrW (ik := 46) (is := 330) (ic := 50) (X := eA) (text := "no such DOMAIN") G hfl hX hxt (by decide +kernel) gm_165 gm_166 (by decide +kernel) (gx_hat gx_at50 hall hX.2.2.1.1 hX.2.2.1.2.2.2 gx_no50) gx_ot50 hl.1 dX2_requireDomain_9 dX2_requireDomain_12 dX2_requireDomain_13 dX2_requireDomain_16 dX2_requireDomain_19 ⟨Nat.le_of_ble_eq_true rfl, Nat.le_of_ble_eq_true rfl, Nat.le_of_ble_eq_true rfl, Nat.le_of_ble_eq_true rfl⟩
  · skip
    refine lv_iload_n hx hb dX2_requireDomain_4 rfl (lv_at hl 1 rfl) ?_
    refine lv_iconst (v := nI 4) hx hb dX2_requireDomain_5 (by decide) ?_
    refine lv_icmp_lt (tgt := 20) hx hb dX2_requireDomain_6 (by decide) (fun c6 => ?_) (fun c6 => ?_)
    · skip
      exact absurd ⟨Int32.not_lt.mp c1, c6⟩ h0
    · skip
      exact g_thrW (ik := 46) (is := 330) (ic := 50) (X := eA) (text := "no such DOMAIN") G hfl hX hxt (by decide +kernel) gm_165 gm_166 (by decide +kernel) (gx_hat gx_at50 hall hX.2.2.1.1 hX.2.2.1.2.2.2 gx_no50) gx_ot50 hl.1 dX2_requireDomain_9 dX2_requireDomain_12 dX2_requireDomain_13 dX2_requireDomain_16 dX2_requireDomain_19 ⟨Nat.le_of_ble_eq_true rfl, Nat.le_of_ble_eq_true rfl, Nat.le_of_ble_eq_true rfl, Nat.le_of_ble_eq_true rfl⟩
set_option maxRecDepth 100000 in
set_option maxHeartbeats 4000000 in
theorem x_X2_requireDays (l : Launch) (hfl : l.stackTraces = false) (w : GP) (f : CS) (x : Int32) (hI : gI f) (h0 : ¬ (nI 1 ≤ x ∧ x ≤ nI 40)) : vx_Met l yX2_requireDays (gxs yX2_requireDays cX2_requireDays 2 none) ({ frames := 6, cells := 1, slots := 6, locals := 82 }) (gPx w f [.ref (w.2.2.2 0), .int x]) noQ (gT eA) 1 6 (fun _ => False) := by
  refine x_read (by decide) (Nat.le_of_ble_eq_true rfl) ?_
  intro P_ E_ S_ M_ B_ T_ C_ ls G hall hxt hX hV hl
  obtain ⟨hx, hb, hml, hown, hts⟩ := id G.1
  obtain ⟨⟨hT, hT24⟩, ⟨hC, hC12⟩, ⟨hD, hD6⟩, hLn⟩ := id hI
  have hl : lv_has ls 2 [(0, .ref (w.2.2.2 0)), (1, .int x)] := hl
  refine lv_iload_n hx hb dX2_requireDays_0 rfl (lv_at hl 1 rfl) ?_
  refine lv_iconst (v := nI 1) hx hb dX2_requireDays_1 (by decide) ?_
  refine lv_icmp_lt (tgt := 11) hx hb dX2_requireDays_2 (by decide) (fun c2 => ?_) (fun c2 => ?_)
  · skip
    exact g_thrW (ik := 46) (is := 354) (ic := 50) (X := eA) (text := "no such number of DAYS") G hfl hX hxt (by decide +kernel) gm_165 gm_166 (by decide +kernel) (gx_hat gx_at50 hall hX.2.2.1.1 hX.2.2.1.2.2.2 gx_no50) gx_ot50 hl.1 dX2_requireDays_11 dX2_requireDays_14 dX2_requireDays_15 dX2_requireDays_18 dX2_requireDays_21 ⟨Nat.le_of_ble_eq_true rfl, Nat.le_of_ble_eq_true rfl, Nat.le_of_ble_eq_true rfl, Nat.le_of_ble_eq_true rfl⟩
  · skip
    refine lv_iload_n hx hb dX2_requireDays_5 rfl (lv_at hl 1 rfl) ?_
    refine lv_bipush (v := nI 40) hx hb dX2_requireDays_6 (by decide) ?_
    refine lv_icmp_le (tgt := 22) hx hb dX2_requireDays_8 (by decide) (fun c8 => ?_) (fun c8 => ?_)
    · skip
      exact absurd ⟨Int32.not_lt.mp c2, c8⟩ h0
    · skip
      exact g_thrW (ik := 46) (is := 354) (ic := 50) (X := eA) (text := "no such number of DAYS") G hfl hX hxt (by decide +kernel) gm_165 gm_166 (by decide +kernel) (gx_hat gx_at50 hall hX.2.2.1.1 hX.2.2.1.2.2.2 gx_no50) gx_ot50 hl.1 dX2_requireDays_11 dX2_requireDays_14 dX2_requireDays_15 dX2_requireDays_18 dX2_requireDays_21 ⟨Nat.le_of_ble_eq_true rfl, Nat.le_of_ble_eq_true rfl, Nat.le_of_ble_eq_true rfl, Nat.le_of_ble_eq_true rfl⟩
set_option maxRecDepth 100000 in
set_option maxHeartbeats 4000000 in
theorem x_X2_requireWhat (l : Launch) (hfl : l.stackTraces = false) (w : GP) (f : CS) (x : Int32) (y : Nat) (hI : gI f) (h0 : ¬ (0 ≤ x ∧ x ≤ nI y)) : vx_Met l yX2_requireWhat (gxs yX2_requireWhat cX2_requireWhat 3 none) ({ frames := 6, cells := 1, slots := 6, locals := 82 }) (gPx w f [.ref (w.2.2.2 0), .int x, .int (nI y)]) noQ (gT eA) 1 6 (fun _ => False) := by
  refine x_read (by decide) (Nat.le_of_ble_eq_true rfl) ?_
  intro P_ E_ S_ M_ B_ T_ C_ ls G hall hxt hX hV hl
  obtain ⟨hx, hb, hml, hown, hts⟩ := id G.1
  obtain ⟨⟨hT, hT24⟩, ⟨hC, hC12⟩, ⟨hD, hD6⟩, hLn⟩ := id hI
  have hl : lv_has ls 3 [(0, .ref (w.2.2.2 0)), (1, .int x), (2, .int (nI y))] := hl
  refine lv_iload_n hx hb dX2_requireWhat_0 rfl (lv_at hl 1 rfl) ?_
  refine lv_if_lt (tgt := 9) hx hb dX2_requireWhat_1 (by decide) (fun c1 => ?_) (fun c1 => ?_)
  · skip
    exact g_thrW (ik := 46) (is := 352) (ic := 50) (X := eA) (text := "no such question") G hfl hX hxt (by decide +kernel) gm_165 gm_166 (by decide +kernel) (gx_hat gx_at50 hall hX.2.2.1.1 hX.2.2.1.2.2.2 gx_no50) gx_ot50 hl.1 dX2_requireWhat_9 dX2_requireWhat_12 dX2_requireWhat_13 dX2_requireWhat_16 dX2_requireWhat_19 ⟨Nat.le_of_ble_eq_true rfl, Nat.le_of_ble_eq_true rfl, Nat.le_of_ble_eq_true rfl, Nat.le_of_ble_eq_true rfl⟩
  · skip
    refine lv_iload_n hx hb dX2_requireWhat_4 rfl (lv_at hl 1 rfl) ?_
    refine lv_iload_n hx hb dX2_requireWhat_5 rfl (lv_at hl 2 rfl) ?_
    refine lv_icmp_le (tgt := 20) hx hb dX2_requireWhat_6 (by decide) (fun c6 => ?_) (fun c6 => ?_)
    · skip
      exact absurd ⟨Int32.not_lt.mp c1, c6⟩ h0
    · skip
      exact g_thrW (ik := 46) (is := 352) (ic := 50) (X := eA) (text := "no such question") G hfl hX hxt (by decide +kernel) gm_165 gm_166 (by decide +kernel) (gx_hat gx_at50 hall hX.2.2.1.1 hX.2.2.1.2.2.2 gx_no50) gx_ot50 hl.1 dX2_requireWhat_9 dX2_requireWhat_12 dX2_requireWhat_13 dX2_requireWhat_16 dX2_requireWhat_19 ⟨Nat.le_of_ble_eq_true rfl, Nat.le_of_ble_eq_true rfl, Nat.le_of_ble_eq_true rfl, Nat.le_of_ble_eq_true rfl⟩
set_option maxRecDepth 100000 in
set_option maxHeartbeats 4000000 in
theorem x_X2_requireText (l : Launch) (hfl : l.stackTraces = false) (w : GP) (f : CS) (x : Int32) (y : Int32) (hI : gI f) (h0 : nD f = 0) : vx_Met l yX2_requireText (gxs yX2_requireText cX2_requireText 3 (some .int)) ({ frames := 7, cells := 1, slots := 6, locals := 103 }) (gPx w f [.ref (w.2.2.2 0), .int x, .int y]) noQ (gT eI) 1 6 (fun _ => False) := by
  refine x_read (by decide) (Nat.le_of_ble_eq_true rfl) ?_
  intro P_ E_ S_ M_ B_ T_ C_ ls G hall hxt hX hV hl
  obtain ⟨hx, hb, hml, hown, hts⟩ := id G.1
  obtain ⟨⟨hT, hT24⟩, ⟨hC, hC12⟩, ⟨hD, hD6⟩, hLn⟩ := id hI
  have hl : lv_has ls 3 [(0, .ref (w.2.2.2 0)), (1, .int x), (2, .int y)] := hl
  refine lv_aload_n hx hb dX2_requireText_0 rfl (lv_at hl 0 rfl) ?_
  refine lv_iload_n hx hb dX2_requireText_1 rfl (lv_at hl 1 rfl) ?_
  exact g_callX (As := [.int x]) (rest := []) G.1 hall hV hX hxt G.2.2 0 (by decide) rfl rfl ok_X2_requireDocument gm_282 gm_283 gm_281 (x_X2_requireDocument l hfl w f x hI (h0)) ⟨rfl, rfl⟩ ⟨Nat.le_of_ble_eq_true rfl, Nat.le_of_ble_eq_true rfl⟩ rfl hl.1 rfl (Nat.le_of_ble_eq_true rfl) ⟨Nat.le_of_ble_eq_true rfl, Nat.le_of_ble_eq_true rfl⟩ dX2_requireText_2
set_option maxRecDepth 100000 in
set_option maxHeartbeats 4000000 in
theorem x_X2_requireTwoConcepts (l : Launch) (hfl : l.stackTraces = false) (w : GP) (f : CS) (x : Int32) (y : Int32) (hI : gI f) (h0 : nC f = 0) : vx_Met l yX2_requireTwoConcepts (gxs yX2_requireTwoConcepts cX2_requireTwoConcepts 3 none) ({ frames := 7, cells := 1, slots := 6, locals := 103 }) (gPx w f [.ref (w.2.2.2 0), .int x, .int y]) noQ (gT eI) 1 6 (fun _ => False) := by
  refine x_read (by decide) (Nat.le_of_ble_eq_true rfl) ?_
  intro P_ E_ S_ M_ B_ T_ C_ ls G hall hxt hX hV hl
  obtain ⟨hx, hb, hml, hown, hts⟩ := id G.1
  obtain ⟨⟨hT, hT24⟩, ⟨hC, hC12⟩, ⟨hD, hD6⟩, hLn⟩ := id hI
  have hl : lv_has ls 3 [(0, .ref (w.2.2.2 0)), (1, .int x), (2, .int y)] := hl
  refine lv_aload_n hx hb dX2_requireTwoConcepts_0 rfl (lv_at hl 0 rfl) ?_
  refine lv_iload_n hx hb dX2_requireTwoConcepts_1 rfl (lv_at hl 1 rfl) ?_
  exact g_callX (As := [.int x]) (rest := []) G.1 hall hV hX hxt G.2.2 0 (by decide) rfl rfl ok_X2_requireConcept gm_187 gm_188 gm_186 (x_X2_requireConcept l hfl w f x hI (h0)) ⟨rfl, rfl⟩ ⟨Nat.le_of_ble_eq_true rfl, Nat.le_of_ble_eq_true rfl⟩ rfl hl.1 rfl (Nat.le_of_ble_eq_true rfl) ⟨Nat.le_of_ble_eq_true rfl, Nat.le_of_ble_eq_true rfl⟩ dX2_requireTwoConcepts_2
set_option maxRecDepth 100000 in
set_option maxHeartbeats 4000000 in
theorem x_X2_concept (l : Launch) (hfl : l.stackTraces = false) (w : GP) (f : CS) (x : Int32) (hI : gI f) (h0 : ¬ (0 ≤ x ∧ x < nI 4)) : vx_Met l yX2_concept (gxs yX2_concept cX2_concept 2 (some .int)) ({ frames := 7, cells := 1, slots := 6, locals := 103 }) (gPx w f [.ref (w.2.2.2 0), .int x]) noQ (gT eA) 1 6 (fun _ => False) := by
  refine x_read (by decide) (Nat.le_of_ble_eq_true rfl) ?_
  intro P_ E_ S_ M_ B_ T_ C_ ls G hall hxt hX hV hl
  obtain ⟨hx, hb, hml, hown, hts⟩ := id G.1
  obtain ⟨⟨hT, hT24⟩, ⟨hC, hC12⟩, ⟨hD, hD6⟩, hLn⟩ := id hI
  have hl : lv_has ls 2 [(0, .ref (w.2.2.2 0)), (1, .int x)] := hl
  refine lv_aload_n hx hb dX2_concept_0 rfl (lv_at hl 0 rfl) ?_
  refine lv_iload_n hx hb dX2_concept_1 rfl (lv_at hl 1 rfl) ?_
  exact g_callX (As := [.int x]) (rest := []) G.1 hall hV hX hxt G.2.2 0 (by decide) rfl rfl ok_X2_requireDomain gm_171 gm_172 gm_170 (x_X2_requireDomain l hfl w f x hI (h0)) ⟨rfl, rfl⟩ ⟨Nat.le_of_ble_eq_true rfl, Nat.le_of_ble_eq_true rfl⟩ rfl hl.1 rfl (Nat.le_of_ble_eq_true rfl) ⟨Nat.le_of_ble_eq_true rfl, Nat.le_of_ble_eq_true rfl⟩ dX2_concept_2
set_option maxRecDepth 100000 in
set_option maxHeartbeats 4000000 in
theorem x_X2_term (l : Launch) (hfl : l.stackTraces = false) (w : GP) (f : CS) (x : Int32) (y : Int32) (z : Int32) (hI : gI f) (h0 : nC f = 0) : vx_Met l yX2_term (gxs yX2_term cX2_term 4 (some .int)) ({ frames := 7, cells := 1, slots := 6, locals := 103 }) (gPx w f [.ref (w.2.2.2 0), .int x, .int y, .int z]) noQ (gT eI) 1 6 (fun _ => False) := by
  refine x_read (by decide) (Nat.le_of_ble_eq_true rfl) ?_
  intro P_ E_ S_ M_ B_ T_ C_ ls G hall hxt hX hV hl
  obtain ⟨hx, hb, hml, hown, hts⟩ := id G.1
  obtain ⟨⟨hT, hT24⟩, ⟨hC, hC12⟩, ⟨hD, hD6⟩, hLn⟩ := id hI
  have hl : lv_has ls 4 [(0, .ref (w.2.2.2 0)), (1, .int x), (2, .int y), (3, .int z)] := hl
  refine lv_aload_n hx hb dX2_term_0 rfl (lv_at hl 0 rfl) ?_
  refine lv_iload_n hx hb dX2_term_1 rfl (lv_at hl 1 rfl) ?_
  exact g_callX (As := [.int x]) (rest := []) G.1 hall hV hX hxt G.2.2 0 (by decide) rfl rfl ok_X2_requireConcept gm_187 gm_188 gm_186 (x_X2_requireConcept l hfl w f x hI (h0)) ⟨rfl, rfl⟩ ⟨Nat.le_of_ble_eq_true rfl, Nat.le_of_ble_eq_true rfl⟩ rfl hl.1 rfl (Nat.le_of_ble_eq_true rfl) ⟨Nat.le_of_ble_eq_true rfl, Nat.le_of_ble_eq_true rfl⟩ dX2_term_2
set_option maxRecDepth 100000 in
set_option maxHeartbeats 4000000 in
theorem x_X2_vote (l : Launch) (hfl : l.stackTraces = false) (w : GP) (f : CS) (x : Int32) (y : Int32) (b : Prop) [Decidable b] (hI : gI f) (h0 : nT f = 0) : vx_Met l yX2_vote (gxs yX2_vote cX2_vote 5 (some .int)) ({ frames := 7, cells := 1, slots := 6, locals := 103 }) (gPx w f [.ref (w.2.2.2 0), .int x, .int y, .int (if b then 1 else 0)]) noQ (gT eI) 1 6 (fun _ => False) := by
  refine x_read (by decide) (Nat.le_of_ble_eq_true rfl) ?_
  intro P_ E_ S_ M_ B_ T_ C_ ls G hall hxt hX hV hl
  obtain ⟨hx, hb, hml, hown, hts⟩ := id G.1
  obtain ⟨⟨hT, hT24⟩, ⟨hC, hC12⟩, ⟨hD, hD6⟩, hLn⟩ := id hI
  have hl : lv_has ls 5 [(0, .ref (w.2.2.2 0)), (1, .int x), (2, .int y), (3, .int (if b then 1 else 0))] := hl
  refine lv_aload_n hx hb dX2_vote_0 rfl (lv_at hl 0 rfl) ?_
  refine lv_iload_n hx hb dX2_vote_1 rfl (lv_at hl 1 rfl) ?_
  exact g_callX (As := [.int x]) (rest := []) G.1 hall hV hX hxt G.2.2 0 (by decide) rfl rfl ok_X2_requireTerm gm_208 gm_209 gm_207 (x_X2_requireTerm l hfl w f x hI (h0)) ⟨rfl, rfl⟩ ⟨Nat.le_of_ble_eq_true rfl, Nat.le_of_ble_eq_true rfl⟩ rfl hl.1 rfl (Nat.le_of_ble_eq_true rfl) ⟨Nat.le_of_ble_eq_true rfl, Nat.le_of_ble_eq_true rfl⟩ dX2_vote_2
set_option maxRecDepth 100000 in
set_option maxHeartbeats 4000000 in
theorem x_X2_prefer (l : Launch) (hfl : l.stackTraces = false) (w : GP) (f : CS) (x : Int32) (hI : gI f) (h0 : nT f = 0) : vx_Met l yX2_prefer (gxs yX2_prefer cX2_prefer 2 (some .int)) ({ frames := 7, cells := 1, slots := 6, locals := 103 }) (gPx w f [.ref (w.2.2.2 0), .int x]) noQ (gT eI) 1 6 (fun _ => False) := by
  refine x_read (by decide) (Nat.le_of_ble_eq_true rfl) ?_
  intro P_ E_ S_ M_ B_ T_ C_ ls G hall hxt hX hV hl
  obtain ⟨hx, hb, hml, hown, hts⟩ := id G.1
  obtain ⟨⟨hT, hT24⟩, ⟨hC, hC12⟩, ⟨hD, hD6⟩, hLn⟩ := id hI
  have hl : lv_has ls 2 [(0, .ref (w.2.2.2 0)), (1, .int x)] := hl
  refine lv_aload_n hx hb dX2_prefer_0 rfl (lv_at hl 0 rfl) ?_
  refine lv_iload_n hx hb dX2_prefer_1 rfl (lv_at hl 1 rfl) ?_
  exact g_callX (As := [.int x]) (rest := []) G.1 hall hV hX hxt G.2.2 0 (by decide) rfl rfl ok_X2_requireTerm gm_208 gm_209 gm_207 (x_X2_requireTerm l hfl w f x hI (h0)) ⟨rfl, rfl⟩ ⟨Nat.le_of_ble_eq_true rfl, Nat.le_of_ble_eq_true rfl⟩ rfl hl.1 rfl (Nat.le_of_ble_eq_true rfl) ⟨Nat.le_of_ble_eq_true rfl, Nat.le_of_ble_eq_true rfl⟩ dX2_prefer_2
set_option maxRecDepth 100000 in
set_option maxHeartbeats 4000000 in
theorem x_X2_allow (l : Launch) (hfl : l.stackTraces = false) (w : GP) (f : CS) (x : Int32) (hI : gI f) (h0 : nT f = 0) : vx_Met l yX2_allow (gxs yX2_allow cX2_allow 2 (some .int)) ({ frames := 7, cells := 1, slots := 6, locals := 103 }) (gPx w f [.ref (w.2.2.2 0), .int x]) noQ (gT eI) 1 6 (fun _ => False) := by
  refine x_read (by decide) (Nat.le_of_ble_eq_true rfl) ?_
  intro P_ E_ S_ M_ B_ T_ C_ ls G hall hxt hX hV hl
  obtain ⟨hx, hb, hml, hown, hts⟩ := id G.1
  obtain ⟨⟨hT, hT24⟩, ⟨hC, hC12⟩, ⟨hD, hD6⟩, hLn⟩ := id hI
  have hl : lv_has ls 2 [(0, .ref (w.2.2.2 0)), (1, .int x)] := hl
  refine lv_aload_n hx hb dX2_allow_0 rfl (lv_at hl 0 rfl) ?_
  refine lv_iload_n hx hb dX2_allow_1 rfl (lv_at hl 1 rfl) ?_
  exact g_callX (As := [.int x]) (rest := []) G.1 hall hV hX hxt G.2.2 0 (by decide) rfl rfl ok_X2_requireTerm gm_208 gm_209 gm_207 (x_X2_requireTerm l hfl w f x hI (h0)) ⟨rfl, rfl⟩ ⟨Nat.le_of_ble_eq_true rfl, Nat.le_of_ble_eq_true rfl⟩ rfl hl.1 rfl (Nat.le_of_ble_eq_true rfl) ⟨Nat.le_of_ble_eq_true rfl, Nat.le_of_ble_eq_true rfl⟩ dX2_allow_2
set_option maxRecDepth 100000 in
set_option maxHeartbeats 4000000 in
theorem x_X2_reopenedBy (l : Launch) (hfl : l.stackTraces = false) (w : GP) (f : CS) (x : Int32) (hI : gI f) (h0 : nT f = 0) : vx_Met l yX2_reopenedBy (gxs yX2_reopenedBy cX2_reopenedBy 2 (some .int)) ({ frames := 7, cells := 1, slots := 6, locals := 103 }) (gPx w f [.ref (w.2.2.2 0), .int x]) noQ (gT eI) 1 6 (fun _ => False) := by
  refine x_read (by decide) (Nat.le_of_ble_eq_true rfl) ?_
  intro P_ E_ S_ M_ B_ T_ C_ ls G hall hxt hX hV hl
  obtain ⟨hx, hb, hml, hown, hts⟩ := id G.1
  obtain ⟨⟨hT, hT24⟩, ⟨hC, hC12⟩, ⟨hD, hD6⟩, hLn⟩ := id hI
  have hl : lv_has ls 2 [(0, .ref (w.2.2.2 0)), (1, .int x)] := hl
  refine lv_aload_n hx hb dX2_reopenedBy_0 rfl (lv_at hl 0 rfl) ?_
  refine lv_iload_n hx hb dX2_reopenedBy_1 rfl (lv_at hl 1 rfl) ?_
  exact g_callX (As := [.int x]) (rest := []) G.1 hall hV hX hxt G.2.2 0 (by decide) rfl rfl ok_X2_requireTerm gm_208 gm_209 gm_207 (x_X2_requireTerm l hfl w f x hI (h0)) ⟨rfl, rfl⟩ ⟨Nat.le_of_ble_eq_true rfl, Nat.le_of_ble_eq_true rfl⟩ rfl hl.1 rfl (Nat.le_of_ble_eq_true rfl) ⟨Nat.le_of_ble_eq_true rfl, Nat.le_of_ble_eq_true rfl⟩ dX2_reopenedBy_2
set_option maxRecDepth 100000 in
set_option maxHeartbeats 4000000 in
theorem x_X2_ban (l : Launch) (hfl : l.stackTraces = false) (w : GP) (f : CS) (x : Int32) (y : Int32) (hI : gI f) (h0 : nT f = 0) : vx_Met l yX2_ban (gxs yX2_ban cX2_ban 3 (some .int)) ({ frames := 7, cells := 1, slots := 6, locals := 103 }) (gPx w f [.ref (w.2.2.2 0), .int x, .int y]) noQ (gT eI) 1 6 (fun _ => False) := by
  refine x_read (by decide) (Nat.le_of_ble_eq_true rfl) ?_
  intro P_ E_ S_ M_ B_ T_ C_ ls G hall hxt hX hV hl
  obtain ⟨hx, hb, hml, hown, hts⟩ := id G.1
  obtain ⟨⟨hT, hT24⟩, ⟨hC, hC12⟩, ⟨hD, hD6⟩, hLn⟩ := id hI
  have hl : lv_has ls 3 [(0, .ref (w.2.2.2 0)), (1, .int x), (2, .int y)] := hl
  refine lv_aload_n hx hb dX2_ban_0 rfl (lv_at hl 0 rfl) ?_
  refine lv_iload_n hx hb dX2_ban_1 rfl (lv_at hl 1 rfl) ?_
  exact g_callX (As := [.int x]) (rest := []) G.1 hall hV hX hxt G.2.2 0 (by decide) rfl rfl ok_X2_requireTerm gm_208 gm_209 gm_207 (x_X2_requireTerm l hfl w f x hI (h0)) ⟨rfl, rfl⟩ ⟨Nat.le_of_ble_eq_true rfl, Nat.le_of_ble_eq_true rfl⟩ rfl hl.1 rfl (Nat.le_of_ble_eq_true rfl) ⟨Nat.le_of_ble_eq_true rfl, Nat.le_of_ble_eq_true rfl⟩ dX2_ban_2
set_option maxRecDepth 100000 in
set_option maxHeartbeats 4000000 in
theorem x_X2_ofTerm (l : Launch) (hfl : l.stackTraces = false) (w : GP) (f : CS) (x : Int32) (y : Int32) (hI : gI f) (h0 : nT f = 0) : vx_Met l yX2_ofTerm (gxs yX2_ofTerm cX2_ofTerm 3 (some .int)) ({ frames := 7, cells := 1, slots := 6, locals := 103 }) (gPx w f [.ref (w.2.2.2 0), .int x, .int y]) noQ (gT eI) 1 6 (fun _ => False) := by
  refine x_read (by decide) (Nat.le_of_ble_eq_true rfl) ?_
  intro P_ E_ S_ M_ B_ T_ C_ ls G hall hxt hX hV hl
  obtain ⟨hx, hb, hml, hown, hts⟩ := id G.1
  obtain ⟨⟨hT, hT24⟩, ⟨hC, hC12⟩, ⟨hD, hD6⟩, hLn⟩ := id hI
  have hl : lv_has ls 3 [(0, .ref (w.2.2.2 0)), (1, .int x), (2, .int y)] := hl
  refine lv_aload_n hx hb dX2_ofTerm_0 rfl (lv_at hl 0 rfl) ?_
  refine lv_iload_n hx hb dX2_ofTerm_1 rfl (lv_at hl 1 rfl) ?_
  exact g_callX (As := [.int x]) (rest := []) G.1 hall hV hX hxt G.2.2 0 (by decide) rfl rfl ok_X2_requireTerm gm_208 gm_209 gm_207 (x_X2_requireTerm l hfl w f x hI (h0)) ⟨rfl, rfl⟩ ⟨Nat.le_of_ble_eq_true rfl, Nat.le_of_ble_eq_true rfl⟩ rfl hl.1 rfl (Nat.le_of_ble_eq_true rfl) ⟨Nat.le_of_ble_eq_true rfl, Nat.le_of_ble_eq_true rfl⟩ dX2_ofTerm_2
set_option maxRecDepth 100000 in
set_option maxHeartbeats 4000000 in
theorem x_X2_ofConcept (l : Launch) (hfl : l.stackTraces = false) (w : GP) (f : CS) (x : Int32) (y : Int32) (hI : gI f) (h0 : nC f = 0) : vx_Met l yX2_ofConcept (gxs yX2_ofConcept cX2_ofConcept 4 (some .int)) ({ frames := 7, cells := 1, slots := 6, locals := 103 }) (gPx w f [.ref (w.2.2.2 0), .int x, .int y]) noQ (gT eI) 1 6 (fun _ => False) := by
  refine x_read (by decide) (Nat.le_of_ble_eq_true rfl) ?_
  intro P_ E_ S_ M_ B_ T_ C_ ls G hall hxt hX hV hl
  obtain ⟨hx, hb, hml, hown, hts⟩ := id G.1
  obtain ⟨⟨hT, hT24⟩, ⟨hC, hC12⟩, ⟨hD, hD6⟩, hLn⟩ := id hI
  have hl : lv_has ls 4 [(0, .ref (w.2.2.2 0)), (1, .int x), (2, .int y)] := hl
  refine lv_aload_n hx hb dX2_ofConcept_0 rfl (lv_at hl 0 rfl) ?_
  refine lv_iload_n hx hb dX2_ofConcept_1 rfl (lv_at hl 1 rfl) ?_
  exact g_callX (As := [.int x]) (rest := []) G.1 hall hV hX hxt G.2.2 0 (by decide) rfl rfl ok_X2_requireConcept gm_187 gm_188 gm_186 (x_X2_requireConcept l hfl w f x hI (h0)) ⟨rfl, rfl⟩ ⟨Nat.le_of_ble_eq_true rfl, Nat.le_of_ble_eq_true rfl⟩ rfl hl.1 rfl (Nat.le_of_ble_eq_true rfl) ⟨Nat.le_of_ble_eq_true rfl, Nat.le_of_ble_eq_true rfl⟩ dX2_ofConcept_2
set_option maxRecDepth 100000 in
set_option maxHeartbeats 4000000 in
theorem x_X2_split (l : Launch) (hfl : l.stackTraces = false) (w : GP) (f : CS) (x : Int32) (y : Int32) (z : Int32) (hI : gI f) (h0 : nC f = 0) : vx_Met l yX2_split (gxs yX2_split cX2_split 6 (some .int)) ({ frames := 7, cells := 1, slots := 6, locals := 103 }) (gPx w f [.ref (w.2.2.2 0), .int x, .int y, .int z]) noQ (gT eI) 1 6 (fun _ => False) := by
  refine x_read (by decide) (Nat.le_of_ble_eq_true rfl) ?_
  intro P_ E_ S_ M_ B_ T_ C_ ls G hall hxt hX hV hl
  obtain ⟨hx, hb, hml, hown, hts⟩ := id G.1
  obtain ⟨⟨hT, hT24⟩, ⟨hC, hC12⟩, ⟨hD, hD6⟩, hLn⟩ := id hI
  have hl : lv_has ls 6 [(0, .ref (w.2.2.2 0)), (1, .int x), (2, .int y), (3, .int z)] := hl
  refine lv_aload_n hx hb dX2_split_0 rfl (lv_at hl 0 rfl) ?_
  refine lv_iload_n hx hb dX2_split_1 rfl (lv_at hl 1 rfl) ?_
  exact g_callX (As := [.int x]) (rest := []) G.1 hall hV hX hxt G.2.2 0 (by decide) rfl rfl ok_X2_requireConcept gm_187 gm_188 gm_186 (x_X2_requireConcept l hfl w f x hI (h0)) ⟨rfl, rfl⟩ ⟨Nat.le_of_ble_eq_true rfl, Nat.le_of_ble_eq_true rfl⟩ rfl hl.1 rfl (Nat.le_of_ble_eq_true rfl) ⟨Nat.le_of_ble_eq_true rfl, Nat.le_of_ble_eq_true rfl⟩ dX2_split_2
set_option maxRecDepth 100000 in
set_option maxHeartbeats 4000000 in
theorem x_X2_join (l : Launch) (hfl : l.stackTraces = false) (w : GP) (f : CS) (x : Int32) (y : Int32) (hI : gI f) (h0 : nC f = 0) : vx_Met l yX2_join (gxs yX2_join cX2_join 4 (some .int)) ({ frames := 8, cells := 1, slots := 6, locals := 125 }) (gPx w f [.ref (w.2.2.2 0), .int x, .int y]) noQ (gT eI) 1 6 (fun _ => False) := by
  refine x_read (by decide) (Nat.le_of_ble_eq_true rfl) ?_
  intro P_ E_ S_ M_ B_ T_ C_ ls G hall hxt hX hV hl
  obtain ⟨hx, hb, hml, hown, hts⟩ := id G.1
  obtain ⟨⟨hT, hT24⟩, ⟨hC, hC12⟩, ⟨hD, hD6⟩, hLn⟩ := id hI
  have hl : lv_has ls 4 [(0, .ref (w.2.2.2 0)), (1, .int x), (2, .int y)] := hl
  refine lv_aload_n hx hb dX2_join_0 rfl (lv_at hl 0 rfl) ?_
  refine lv_iload_n hx hb dX2_join_1 rfl (lv_at hl 1 rfl) ?_
  refine lv_iload_n hx hb dX2_join_2 rfl (lv_at hl 2 rfl) ?_
  exact g_callX (As := [.int x, .int y]) (rest := []) G.1 hall hV hX hxt G.2.2 0 (by decide) rfl rfl ok_X2_requireTwoConcepts gm_265 gm_266 gm_264 (x_X2_requireTwoConcepts l hfl w f x y hI (h0)) ⟨rfl, rfl⟩ ⟨Nat.le_of_ble_eq_true rfl, Nat.le_of_ble_eq_true rfl⟩ rfl hl.1 rfl (Nat.le_of_ble_eq_true rfl) ⟨Nat.le_of_ble_eq_true rfl, Nat.le_of_ble_eq_true rfl⟩ dX2_join_3
set_option maxRecDepth 100000 in
set_option maxHeartbeats 4000000 in
theorem x_X2_changedBy (l : Launch) (hfl : l.stackTraces = false) (w : GP) (f : CS) (x : Int32) (y : Int32) (hI : gI f) (h0 : nC f = 0) : vx_Met l yX2_changedBy (gxs yX2_changedBy cX2_changedBy 3 (some .int)) ({ frames := 8, cells := 1, slots := 6, locals := 125 }) (gPx w f [.ref (w.2.2.2 0), .int x, .int y]) noQ (gT eI) 1 6 (fun _ => False) := by
  refine x_read (by decide) (Nat.le_of_ble_eq_true rfl) ?_
  intro P_ E_ S_ M_ B_ T_ C_ ls G hall hxt hX hV hl
  obtain ⟨hx, hb, hml, hown, hts⟩ := id G.1
  obtain ⟨⟨hT, hT24⟩, ⟨hC, hC12⟩, ⟨hD, hD6⟩, hLn⟩ := id hI
  have hl : lv_has ls 3 [(0, .ref (w.2.2.2 0)), (1, .int x), (2, .int y)] := hl
  refine lv_aload_n hx hb dX2_changedBy_0 rfl (lv_at hl 0 rfl) ?_
  refine lv_iload_n hx hb dX2_changedBy_1 rfl (lv_at hl 1 rfl) ?_
  refine lv_iload_n hx hb dX2_changedBy_2 rfl (lv_at hl 2 rfl) ?_
  exact g_callX (As := [.int x, .int y]) (rest := []) G.1 hall hV hX hxt G.2.2 0 (by decide) rfl rfl ok_X2_requireTwoConcepts gm_265 gm_266 gm_264 (x_X2_requireTwoConcepts l hfl w f x y hI (h0)) ⟨rfl, rfl⟩ ⟨Nat.le_of_ble_eq_true rfl, Nat.le_of_ble_eq_true rfl⟩ rfl hl.1 rfl (Nat.le_of_ble_eq_true rfl) ⟨Nat.le_of_ble_eq_true rfl, Nat.le_of_ble_eq_true rfl⟩ dX2_changedBy_3
set_option maxRecDepth 100000 in
set_option maxHeartbeats 4000000 in
theorem x_X2_write (l : Launch) (hfl : l.stackTraces = false) (w : GP) (f : CS) (x : Int32) (y : Int32) (z : Int32) (v : Int32) (hI : gI f) (h0 : nD f = 0) : vx_Met l yX2_write (gxs yX2_write cX2_write 6 (some .int)) ({ frames := 8, cells := 1, slots := 6, locals := 125 }) (gPx w f [.ref (w.2.2.2 0), .int x, .int y, .int z, .int v]) noQ (gT eI) 1 6 (fun _ => False) := by
  refine x_read (by decide) (Nat.le_of_ble_eq_true rfl) ?_
  intro P_ E_ S_ M_ B_ T_ C_ ls G hall hxt hX hV hl
  obtain ⟨hx, hb, hml, hown, hts⟩ := id G.1
  obtain ⟨⟨hT, hT24⟩, ⟨hC, hC12⟩, ⟨hD, hD6⟩, hLn⟩ := id hI
  have hl : lv_has ls 6 [(0, .ref (w.2.2.2 0)), (1, .int x), (2, .int y), (3, .int z), (4, .int v)] := hl
  refine lv_aload_n hx hb dX2_write_0 rfl (lv_at hl 0 rfl) ?_
  refine lv_iload_n hx hb dX2_write_1 rfl (lv_at hl 1 rfl) ?_
  refine lv_iload_n hx hb dX2_write_2 rfl (lv_at hl 2 rfl) ?_
  exact g_callX (As := [.int x, .int y]) (rest := []) G.1 hall hV hX hxt G.2.2 0 (by decide) rfl rfl ok_X2_requireText gm_287 gm_288 gm_286 (x_X2_requireText l hfl w f x y hI (h0)) ⟨rfl, rfl⟩ ⟨Nat.le_of_ble_eq_true rfl, Nat.le_of_ble_eq_true rfl⟩ rfl hl.1 rfl (Nat.le_of_ble_eq_true rfl) ⟨Nat.le_of_ble_eq_true rfl, Nat.le_of_ble_eq_true rfl⟩ dX2_write_3
set_option maxRecDepth 100000 in
set_option maxHeartbeats 4000000 in
theorem x_X2_cut (l : Launch) (hfl : l.stackTraces = false) (w : GP) (f : CS) (x : Int32) (y : Int32) (hI : gI f) (h0 : nD f = 0) : vx_Met l yX2_cut (gxs yX2_cut cX2_cut 4 (some .int)) ({ frames := 8, cells := 1, slots := 6, locals := 125 }) (gPx w f [.ref (w.2.2.2 0), .int x, .int y]) noQ (gT eI) 1 6 (fun _ => False) := by
  refine x_read (by decide) (Nat.le_of_ble_eq_true rfl) ?_
  intro P_ E_ S_ M_ B_ T_ C_ ls G hall hxt hX hV hl
  obtain ⟨hx, hb, hml, hown, hts⟩ := id G.1
  obtain ⟨⟨hT, hT24⟩, ⟨hC, hC12⟩, ⟨hD, hD6⟩, hLn⟩ := id hI
  have hl : lv_has ls 4 [(0, .ref (w.2.2.2 0)), (1, .int x), (2, .int y)] := hl
  refine lv_aload_n hx hb dX2_cut_0 rfl (lv_at hl 0 rfl) ?_
  refine lv_iload_n hx hb dX2_cut_1 rfl (lv_at hl 1 rfl) ?_
  refine lv_iload_n hx hb dX2_cut_2 rfl (lv_at hl 2 rfl) ?_
  exact g_callX (As := [.int x, .int y]) (rest := []) G.1 hall hV hX hxt G.2.2 0 (by decide) rfl rfl ok_X2_requireText gm_287 gm_288 gm_286 (x_X2_requireText l hfl w f x y hI (h0)) ⟨rfl, rfl⟩ ⟨Nat.le_of_ble_eq_true rfl, Nat.le_of_ble_eq_true rfl⟩ rfl hl.1 rfl (Nat.le_of_ble_eq_true rfl) ⟨Nat.le_of_ble_eq_true rfl, Nat.le_of_ble_eq_true rfl⟩ dX2_cut_3
set_option maxRecDepth 100000 in
set_option maxHeartbeats 4000000 in
theorem x_X2_approve (l : Launch) (hfl : l.stackTraces = false) (w : GP) (f : CS) (x : Int32) (y : Int32) (hI : gI f) (h0 : nD f = 0) : vx_Met l yX2_approve (gxs yX2_approve cX2_approve 4 (some .int)) ({ frames := 8, cells := 1, slots := 6, locals := 125 }) (gPx w f [.ref (w.2.2.2 0), .int x, .int y]) noQ (gT eI) 1 6 (fun _ => False) := by
  refine x_read (by decide) (Nat.le_of_ble_eq_true rfl) ?_
  intro P_ E_ S_ M_ B_ T_ C_ ls G hall hxt hX hV hl
  obtain ⟨hx, hb, hml, hown, hts⟩ := id G.1
  obtain ⟨⟨hT, hT24⟩, ⟨hC, hC12⟩, ⟨hD, hD6⟩, hLn⟩ := id hI
  have hl : lv_has ls 4 [(0, .ref (w.2.2.2 0)), (1, .int x), (2, .int y)] := hl
  refine lv_aload_n hx hb dX2_approve_0 rfl (lv_at hl 0 rfl) ?_
  refine lv_iload_n hx hb dX2_approve_1 rfl (lv_at hl 1 rfl) ?_
  refine lv_iload_n hx hb dX2_approve_2 rfl (lv_at hl 2 rfl) ?_
  exact g_callX (As := [.int x, .int y]) (rest := []) G.1 hall hV hX hxt G.2.2 0 (by decide) rfl rfl ok_X2_requireText gm_287 gm_288 gm_286 (x_X2_requireText l hfl w f x y hI (h0)) ⟨rfl, rfl⟩ ⟨Nat.le_of_ble_eq_true rfl, Nat.le_of_ble_eq_true rfl⟩ rfl hl.1 rfl (Nat.le_of_ble_eq_true rfl) ⟨Nat.le_of_ble_eq_true rfl, Nat.le_of_ble_eq_true rfl⟩ dX2_approve_3
set_option maxRecDepth 100000 in
set_option maxHeartbeats 4000000 in
theorem x_X2_use (l : Launch) (hfl : l.stackTraces = false) (w : GP) (f : CS) (x : Int32) (y : Int32) (z : Int32) (hI : gI f) (h0 : nD f = 0) : vx_Met l yX2_use (gxs yX2_use cX2_use 5 (some .int)) ({ frames := 8, cells := 1, slots := 6, locals := 125 }) (gPx w f [.ref (w.2.2.2 0), .int x, .int y, .int z]) noQ (gT eI) 1 6 (fun _ => False) := by
  refine x_read (by decide) (Nat.le_of_ble_eq_true rfl) ?_
  intro P_ E_ S_ M_ B_ T_ C_ ls G hall hxt hX hV hl
  obtain ⟨hx, hb, hml, hown, hts⟩ := id G.1
  obtain ⟨⟨hT, hT24⟩, ⟨hC, hC12⟩, ⟨hD, hD6⟩, hLn⟩ := id hI
  have hl : lv_has ls 5 [(0, .ref (w.2.2.2 0)), (1, .int x), (2, .int y), (3, .int z)] := hl
  refine lv_aload_n hx hb dX2_use_0 rfl (lv_at hl 0 rfl) ?_
  refine lv_iload_n hx hb dX2_use_1 rfl (lv_at hl 1 rfl) ?_
  refine lv_iload_n hx hb dX2_use_2 rfl (lv_at hl 2 rfl) ?_
  exact g_callX (As := [.int x, .int y]) (rest := []) G.1 hall hV hX hxt G.2.2 0 (by decide) rfl rfl ok_X2_requireText gm_287 gm_288 gm_286 (x_X2_requireText l hfl w f x y hI (h0)) ⟨rfl, rfl⟩ ⟨Nat.le_of_ble_eq_true rfl, Nat.le_of_ble_eq_true rfl⟩ rfl hl.1 rfl (Nat.le_of_ble_eq_true rfl) ⟨Nat.le_of_ble_eq_true rfl, Nat.le_of_ble_eq_true rfl⟩ dX2_use_3
set_option maxRecDepth 100000 in
set_option maxHeartbeats 4000000 in
theorem x_X2_ofText (l : Launch) (hfl : l.stackTraces = false) (w : GP) (f : CS) (x : Int32) (y : Int32) (z : Int32) (hI : gI f) (h0 : nD f = 0) : vx_Met l yX2_ofText (gxs yX2_ofText cX2_ofText 5 (some .int)) ({ frames := 8, cells := 1, slots := 6, locals := 125 }) (gPx w f [.ref (w.2.2.2 0), .int x, .int y, .int z]) noQ (gT eI) 1 6 (fun _ => False) := by
  refine x_read (by decide) (Nat.le_of_ble_eq_true rfl) ?_
  intro P_ E_ S_ M_ B_ T_ C_ ls G hall hxt hX hV hl
  obtain ⟨hx, hb, hml, hown, hts⟩ := id G.1
  obtain ⟨⟨hT, hT24⟩, ⟨hC, hC12⟩, ⟨hD, hD6⟩, hLn⟩ := id hI
  have hl : lv_has ls 5 [(0, .ref (w.2.2.2 0)), (1, .int x), (2, .int y), (3, .int z)] := hl
  refine lv_aload_n hx hb dX2_ofText_0 rfl (lv_at hl 0 rfl) ?_
  refine lv_iload_n hx hb dX2_ofText_1 rfl (lv_at hl 1 rfl) ?_
  refine lv_iload_n hx hb dX2_ofText_2 rfl (lv_at hl 2 rfl) ?_
  exact g_callX (As := [.int x, .int y]) (rest := []) G.1 hall hV hX hxt G.2.2 0 (by decide) rfl rfl ok_X2_requireText gm_287 gm_288 gm_286 (x_X2_requireText l hfl w f x y hI (h0)) ⟨rfl, rfl⟩ ⟨Nat.le_of_ble_eq_true rfl, Nat.le_of_ble_eq_true rfl⟩ rfl hl.1 rfl (Nat.le_of_ble_eq_true rfl) ⟨Nat.le_of_ble_eq_true rfl, Nat.le_of_ble_eq_true rfl⟩ dX2_ofText_3
set_option maxRecDepth 100000 in
set_option maxHeartbeats 4000000 in
theorem x_X2_formFor (l : Launch) (hfl : l.stackTraces = false) (w : GP) (f : CS) (x : Int32) (y : Int32) (z : Int32) (v : Int32) (hI : gI f) (h0 : nD f = 0) : vx_Met l yX2_formFor (gxs yX2_formFor cX2_formFor 7 (some .int)) ({ frames := 8, cells := 1, slots := 6, locals := 125 }) (gPx w f [.ref (w.2.2.2 0), .int x, .int y, .int z, .int v]) noQ (gT eI) 1 6 (fun _ => False) := by
  refine x_read (by decide) (Nat.le_of_ble_eq_true rfl) ?_
  intro P_ E_ S_ M_ B_ T_ C_ ls G hall hxt hX hV hl
  obtain ⟨hx, hb, hml, hown, hts⟩ := id G.1
  obtain ⟨⟨hT, hT24⟩, ⟨hC, hC12⟩, ⟨hD, hD6⟩, hLn⟩ := id hI
  have hl : lv_has ls 7 [(0, .ref (w.2.2.2 0)), (1, .int x), (2, .int y), (3, .int z), (4, .int v)] := hl
  refine lv_aload_n hx hb dX2_formFor_0 rfl (lv_at hl 0 rfl) ?_
  refine lv_iload_n hx hb dX2_formFor_1 rfl (lv_at hl 1 rfl) ?_
  refine lv_iload_n hx hb dX2_formFor_2 rfl (lv_at hl 2 rfl) ?_
  exact g_callX (As := [.int x, .int y]) (rest := []) G.1 hall hV hX hxt G.2.2 0 (by decide) rfl rfl ok_X2_requireText gm_287 gm_288 gm_286 (x_X2_requireText l hfl w f x y hI (h0)) ⟨rfl, rfl⟩ ⟨Nat.le_of_ble_eq_true rfl, Nat.le_of_ble_eq_true rfl⟩ rfl hl.1 rfl (Nat.le_of_ble_eq_true rfl) ⟨Nat.le_of_ble_eq_true rfl, Nat.le_of_ble_eq_true rfl⟩ dX2_formFor_3
set_option maxRecDepth 100000 in
set_option maxHeartbeats 4000000 in
theorem x_X2_agreement (l : Launch) (hfl : l.stackTraces = false) (w : GP) (f : CS) (x : Int32) (hI : gI f) (h0 : nD f = 0) : vx_Met l yX2_agreement (gxs yX2_agreement cX2_agreement 2 (some .int)) ({ frames := 7, cells := 1, slots := 6, locals := 103 }) (gPx w f [.ref (w.2.2.2 0), .int x]) noQ (gT eI) 1 6 (fun _ => False) := by
  refine x_read (by decide) (Nat.le_of_ble_eq_true rfl) ?_
  intro P_ E_ S_ M_ B_ T_ C_ ls G hall hxt hX hV hl
  obtain ⟨hx, hb, hml, hown, hts⟩ := id G.1
  obtain ⟨⟨hT, hT24⟩, ⟨hC, hC12⟩, ⟨hD, hD6⟩, hLn⟩ := id hI
  have hl : lv_has ls 2 [(0, .ref (w.2.2.2 0)), (1, .int x)] := hl
  refine lv_aload_n hx hb dX2_agreement_0 rfl (lv_at hl 0 rfl) ?_
  refine lv_iload_n hx hb dX2_agreement_1 rfl (lv_at hl 1 rfl) ?_
  exact g_callX (As := [.int x]) (rest := []) G.1 hall hV hX hxt G.2.2 0 (by decide) rfl rfl ok_X2_requireDocument gm_282 gm_283 gm_281 (x_X2_requireDocument l hfl w f x hI (h0)) ⟨rfl, rfl⟩ ⟨Nat.le_of_ble_eq_true rfl, Nat.le_of_ble_eq_true rfl⟩ rfl hl.1 rfl (Nat.le_of_ble_eq_true rfl) ⟨Nat.le_of_ble_eq_true rfl, Nat.le_of_ble_eq_true rfl⟩ dX2_agreement_2
set_option maxRecDepth 100000 in
set_option maxHeartbeats 4000000 in
theorem x_X2_pass (l : Launch) (hfl : l.stackTraces = false) (w : GP) (f : CS) (x : Int32) (hI : gI f) (h0 : ¬ (nI 1 ≤ x ∧ x ≤ nI 40)) : vx_Met l yX2_pass (gxs yX2_pass cX2_pass 4 (some .int)) ({ frames := 7, cells := 1, slots := 6, locals := 103 }) (gPx w f [.ref (w.2.2.2 0), .int x]) noQ (gT eA) 1 6 (fun _ => False) := by
  refine x_read (by decide) (Nat.le_of_ble_eq_true rfl) ?_
  intro P_ E_ S_ M_ B_ T_ C_ ls G hall hxt hX hV hl
  obtain ⟨hx, hb, hml, hown, hts⟩ := id G.1
  obtain ⟨⟨hT, hT24⟩, ⟨hC, hC12⟩, ⟨hD, hD6⟩, hLn⟩ := id hI
  have hl : lv_has ls 4 [(0, .ref (w.2.2.2 0)), (1, .int x)] := hl
  refine lv_aload_n hx hb dX2_pass_0 rfl (lv_at hl 0 rfl) ?_
  refine lv_iload_n hx hb dX2_pass_1 rfl (lv_at hl 1 rfl) ?_
  exact g_callX (As := [.int x]) (rest := []) G.1 hall hV hX hxt G.2.2 0 (by decide) rfl rfl ok_X2_requireDays gm_325 gm_326 gm_324 (x_X2_requireDays l hfl w f x hI (h0)) ⟨rfl, rfl⟩ ⟨Nat.le_of_ble_eq_true rfl, Nat.le_of_ble_eq_true rfl⟩ rfl hl.1 rfl (Nat.le_of_ble_eq_true rfl) ⟨Nat.le_of_ble_eq_true rfl, Nat.le_of_ble_eq_true rfl⟩ dX2_pass_2
set_option maxRecDepth 100000 in
set_option maxHeartbeats 4000000 in
theorem x_X2_reopenedIn (l : Launch) (hfl : l.stackTraces = false) (w : GP) (f : CS) (x : Int32) (hI : gI f) (h0 : ¬ (nI 1 ≤ x ∧ x ≤ nI 40)) : vx_Met l yX2_reopenedIn (gxs yX2_reopenedIn cX2_reopenedIn 2 (some .int)) ({ frames := 7, cells := 1, slots := 6, locals := 103 }) (gPx w f [.ref (w.2.2.2 0), .int x]) noQ (gT eA) 1 6 (fun _ => False) := by
  refine x_read (by decide) (Nat.le_of_ble_eq_true rfl) ?_
  intro P_ E_ S_ M_ B_ T_ C_ ls G hall hxt hX hV hl
  obtain ⟨hx, hb, hml, hown, hts⟩ := id G.1
  obtain ⟨⟨hT, hT24⟩, ⟨hC, hC12⟩, ⟨hD, hD6⟩, hLn⟩ := id hI
  have hl : lv_has ls 2 [(0, .ref (w.2.2.2 0)), (1, .int x)] := hl
  refine lv_aload_n hx hb dX2_reopenedIn_0 rfl (lv_at hl 0 rfl) ?_
  refine lv_iload_n hx hb dX2_reopenedIn_1 rfl (lv_at hl 1 rfl) ?_
  exact g_callX (As := [.int x]) (rest := []) G.1 hall hV hX hxt G.2.2 0 (by decide) rfl rfl ok_X2_requireDays gm_325 gm_326 gm_324 (x_X2_requireDays l hfl w f x hI (h0)) ⟨rfl, rfl⟩ ⟨Nat.le_of_ble_eq_true rfl, Nat.le_of_ble_eq_true rfl⟩ rfl hl.1 rfl (Nat.le_of_ble_eq_true rfl) ⟨Nat.le_of_ble_eq_true rfl, Nat.le_of_ble_eq_true rfl⟩ dX2_reopenedIn_2
set_option maxRecDepth 100000 in
set_option maxHeartbeats 4000000 in
theorem x_X2_many (l : Launch) (hfl : l.stackTraces = false) (w : GP) (f : CS) (x : Int32) (hI : gI f) (h0 : ¬ (0 ≤ x ∧ x ≤ nI 12)) : vx_Met l yX2_many (gxs yX2_many cX2_many 2 (some .int)) ({ frames := 7, cells := 1, slots := 6, locals := 104 }) (gPx w f [.ref (w.2.2.2 0), .int x]) noQ (gT eA) 1 6 (fun _ => False) := by
  refine x_read (by decide) (Nat.le_of_ble_eq_true rfl) ?_
  intro P_ E_ S_ M_ B_ T_ C_ ls G hall hxt hX hV hl
  obtain ⟨hx, hb, hml, hown, hts⟩ := id G.1
  obtain ⟨⟨hT, hT24⟩, ⟨hC, hC12⟩, ⟨hD, hD6⟩, hLn⟩ := id hI
  have hl : lv_has ls 2 [(0, .ref (w.2.2.2 0)), (1, .int x)] := hl
  refine lv_aload_n hx hb dX2_many_0 rfl (lv_at hl 0 rfl) ?_
  refine lv_iload_n hx hb dX2_many_1 rfl (lv_at hl 1 rfl) ?_
  refine lv_bipush (v := nI 12) hx hb dX2_many_2 (by decide) ?_
  exact g_callX (As := [.int x, .int (nI 12)]) (rest := []) G.1 hall hV hX hxt G.2.2 0 (by decide) rfl rfl ok_X2_requireWhat gm_246 gm_247 gm_245 (x_X2_requireWhat l hfl w f x 12 hI (h0)) ⟨rfl, rfl⟩ ⟨Nat.le_of_ble_eq_true rfl, Nat.le_of_ble_eq_true rfl⟩ rfl hl.1 rfl (Nat.le_of_ble_eq_true rfl) ⟨Nat.le_of_ble_eq_true rfl, Nat.le_of_ble_eq_true rfl⟩ dX2_many_4
