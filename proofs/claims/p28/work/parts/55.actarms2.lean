/-! act: concepts, days and texts. -/
set_option maxRecDepth 100000 in
set_option maxHeartbeats 4000000 in
theorem a_370 {l : Launch} (hfl : l.stackTraces = false) {w : GP} {f : CS} {x : Int32} {dy k d g : Nat} (hJ : J f dy) (hk : k < nT f) (hd : d < 2) (hg : g < 2) (hz9 : tsN f (nI 1) < 2 ^ 31) (hz : blN x 20 = 9) {P_ : Program} {E_ : Env} {S_ : State} {M_ : MethodId} {B_ : List Frame} {T_ : Method} {C_ : Code} {ls : Array Slot} {H : Heap} {locs : List Loc} (G : Gx P_ C_ cL_act 16 S_ (aV w x) RL M_ T_ (some .boolean)) (hall : ∀ v ∈ gwx, v.before (aV w x) S_ = true) (hxt : C_.exceptionTable.toList = tableOf actH) (hX : GX w S_ S_.heap) (hN : GNc S_) (hG : GS w (gA w) S_ H locs f) (hl : lv_has ls 16 [(0, .ref (w.2.2.2 0)), (1, .int x), (2, .int (nI (nT f))), (3, .int (nI k)), (4, .int (nI d)), (5, .int (nI g)), (6, .int (nI (nC f))), (7, .int (nI (tsN f (nI 1))))]) : W P_ l E_ aR S_ M_ (aV w x) B_ T_ C_ H locs 0 0 (MQ B_ (gWr w (aPost f x)) (aV w x) S_ 1 6 (gA w)) (F0 M_ 370 ls []) := by
  obtain ⟨hx, hb, hml, hown, hts⟩ := id G.1
  have hI := hJ.hI
  obtain ⟨⟨hT, hT24⟩, ⟨hC, hC12⟩, ⟨hD, hD6⟩, hLn⟩ := id hI
  have hT6 := hJ.T6
  have hC3 := hJ.C3
  have hD2 := hJ.D2
  have hdy := hJ.day
  have hdl := hJ.d199
  refine lv_aload_n hx hb dL_act_370 rfl (lv_at hl 0 rfl) ?_
  refine lv_iload_n hx hb dL_act_371 rfl (lv_at hl 1 rfl) ?_
  refine lv_iconst (v := nI 3) hx hb dL_act_372 (by decide) ?_
  refine lv_ishr hx hb dL_act_373 ?_
  refine lv_iload hx hb dL_act_374 (lv_at hl 6 rfl) ?_
  refine g_callS (As := [.int (x >>> ((nI 3) &&& 31)), .int (nI (nC f))]) (rest := [.ref (w.2.2.2 0)]) G.1 hG.1 ok_L_below gm_467 gm_466 (c_L_below l w f (x >>> ((nI 3) &&& 31)) (nC f)  (by omega) (by omega)) ⟨rfl, rfl⟩ ⟨Nat.le_of_ble_eq_true rfl, Nat.le_of_ble_eq_true rfl⟩ rfl hl.1 rfl (Nat.le_of_ble_eq_true rfl) ⟨Nat.le_of_ble_eq_true rfl, Nat.le_of_ble_eq_true rfl⟩ dL_act_376 ?_
  obtain ⟨a, ha, ea⟩ : ∃ z9, z9 < nC f ∧ blN (x >>> ((nI 3) &&& 31)) (nC f) = z9 := ⟨_, bl_lt _ (by omega), rfl⟩
  refine W.eq (g2 := F0 M_ _ ls [.int (nI a), .ref (w.2.2.2 0)]) (by first | (rw [ea]; done) | (rw [ea]; rfl)) ?_
  refine lv_iload_n hx hb dL_act_379 rfl (lv_at hl 1 rfl) ?_
  refine lv_bipush (v := nI 7) hx hb dL_act_380 (by decide) ?_
  refine lv_ishr hx hb dL_act_382 ?_
  refine lv_iload hx hb dL_act_383 (lv_at hl 6 rfl) ?_
  refine g_callS (As := [.int (x >>> ((nI 7) &&& 31)), .int (nI (nC f))]) (rest := [.int (nI a), .ref (w.2.2.2 0)]) G.1 hG.1 ok_L_below gm_467 gm_466 (c_L_below l w f (x >>> ((nI 7) &&& 31)) (nC f)  (by omega) (by omega)) ⟨rfl, rfl⟩ ⟨Nat.le_of_ble_eq_true rfl, Nat.le_of_ble_eq_true rfl⟩ rfl hl.1 rfl (Nat.le_of_ble_eq_true rfl) ⟨Nat.le_of_ble_eq_true rfl, Nat.le_of_ble_eq_true rfl⟩ dL_act_385 ?_
  obtain ⟨o, ho, eo⟩ : ∃ z9, z9 < nC f ∧ blN (x >>> ((nI 7) &&& 31)) (nC f) = z9 := ⟨_, bl_lt _ (by omega), rfl⟩
  refine W.eq (g2 := F0 M_ _ ls [.int (nI o), .int (nI a), .ref (w.2.2.2 0)]) (by first | (rw [eo]; done) | (rw [eo]; rfl)) ?_
  by_cases hq : a = o
  · skip
    exact a_694s hown hts hxt hX hN hG 17 rfl (by decide +kernel) (by decide +kernel) (a_runX (As := [.int (nI a), .int (nI o)]) (rest := []) G.1 hall hG.1 (hX.at hG) 0 (by decide) rfl rfl ok_X2_changedBy gm_422 gm_423 gm_486 (x_X2_changedBy l hfl w f a o hI (by omega) (by omega) (hq)) ⟨rfl, rfl⟩ ⟨Nat.le_of_ble_eq_true rfl, Nat.le_of_ble_eq_true rfl⟩ rfl hl.1 rfl (Nat.le_of_ble_eq_true rfl) ⟨Nat.le_of_ble_eq_true rfl, Nat.le_of_ble_eq_true rfl⟩ dL_act_388) (fun q H1 hG1 => a_694 (f := f) (fc := f) hJ (Nat.le_refl _) (Nat.le_refl _) hz9 (by omega) G hG1 (lv_sub hl [0, 1] rfl))
  · skip
    have hab := hq
    refine g_callV (As := [.int (nI a), .int (nI o)]) (rest := []) G.1 hG.1 0 (by decide) rfl rfl ok_X2_changedBy gm_422 gm_423 gm_486 (c_X2_changedBy l w f a o hI (by omega) (by omega) (hab)) ⟨rfl, rfl⟩ ⟨Nat.le_of_ble_eq_true rfl, Nat.le_of_ble_eq_true rfl⟩ rfl hl.1 rfl (Nat.le_of_ble_eq_true rfl) ⟨Nat.le_of_ble_eq_true rfl, Nat.le_of_ble_eq_true rfl⟩ dL_act_388 ?_
    refine lv_istore (lv' := [(11, .int (cyF f a o)), (0, .ref (w.2.2.2 0)), (1, .int x), (2, .int (nI (nT f))), (3, .int (nI k)), (4, .int (nI d)), (5, .int (nI g)), (6, .int (nI (nC f))), (7, .int (nI (tsN f (nI 1))))]) hx hb dL_act_391 hl (by decide) rfl (fun ls hl => ?_)
    refine lv_aload_n hx hb dL_act_393 rfl (lv_at hl 1 rfl) ?_
    refine lv_iload_n hx hb dL_act_394 rfl (lv_at hl 2 rfl) ?_
    refine lv_iconst (v := nI 3) hx hb dL_act_395 (by decide) ?_
    refine lv_ishr hx hb dL_act_396 ?_
    refine lv_iload hx hb dL_act_397 (lv_at hl 7 rfl) ?_
    refine g_callS (As := [.int (x >>> ((nI 3) &&& 31)), .int (nI (nC f))]) (rest := [.ref (w.2.2.2 0)]) G.1 hG.1 ok_L_below gm_467 gm_466 (c_L_below l w f (x >>> ((nI 3) &&& 31)) (nC f)  (by omega) (by omega)) ⟨rfl, rfl⟩ ⟨Nat.le_of_ble_eq_true rfl, Nat.le_of_ble_eq_true rfl⟩ rfl hl.1 rfl (Nat.le_of_ble_eq_true rfl) ⟨Nat.le_of_ble_eq_true rfl, Nat.le_of_ble_eq_true rfl⟩ dL_act_399 ?_
    refine W.eq (g2 := F0 M_ _ ls [.int (nI a), .ref (w.2.2.2 0)]) (by first | (rw [ea]; done) | (rw [ea]; rfl)) ?_
    refine lv_iload_n hx hb dL_act_402 rfl (lv_at hl 2 rfl) ?_
    refine lv_bipush (v := nI 7) hx hb dL_act_403 (by decide) ?_
    refine lv_ishr hx hb dL_act_405 ?_
    refine lv_iload hx hb dL_act_406 (lv_at hl 7 rfl) ?_
    refine g_callS (As := [.int (x >>> ((nI 7) &&& 31)), .int (nI (nC f))]) (rest := [.int (nI a), .ref (w.2.2.2 0)]) G.1 hG.1 ok_L_below gm_467 gm_466 (c_L_below l w f (x >>> ((nI 7) &&& 31)) (nC f)  (by omega) (by omega)) ⟨rfl, rfl⟩ ⟨Nat.le_of_ble_eq_true rfl, Nat.le_of_ble_eq_true rfl⟩ rfl hl.1 rfl (Nat.le_of_ble_eq_true rfl) ⟨Nat.le_of_ble_eq_true rfl, Nat.le_of_ble_eq_true rfl⟩ dL_act_408 ?_
    refine W.eq (g2 := F0 M_ _ ls [.int (nI o), .int (nI a), .ref (w.2.2.2 0)]) (by first | (rw [eo]; done) | (rw [eo]; rfl)) ?_
    by_cases hq : ¬ canJ f (nI a) (nI o)
    · skip
      exact a_724s hown hts hxt hX hN hG 29 rfl (by decide +kernel) (by decide +kernel) (a_runX (As := [.int (nI a), .int (nI o)]) (rest := []) G.1 hall hG.1 (hX.at hG) 0 (by decide) rfl rfl ok_X2_join gm_425 gm_426 gm_487 (x_X2_join l hfl w f a o hI (by omega) (by omega) (hab) (hq)) ⟨rfl, rfl⟩ ⟨Nat.le_of_ble_eq_true rfl, Nat.le_of_ble_eq_true rfl⟩ rfl hl.1 rfl (Nat.le_of_ble_eq_true rfl) ⟨Nat.le_of_ble_eq_true rfl, Nat.le_of_ble_eq_true rfl⟩ dL_act_411) (fun q H1 hG1 => a_724 (f := f) (fc := f) hJ (Nat.le_refl _) (Nat.le_refl _) hz9 (by omega) G hG1 (lv_sub hl [1, 2, 8] rfl))
    · skip
      have hq1 : canJ f (nI a) (nI o) := Decidable.of_not_not hq
      have hcy := am_cy hI hq1
      refine g_callW (As := [.int (nI a), .int (nI o)]) (rest := []) G.1 hG 0 (by decide) rfl rfl ok_X2_join gm_425 gm_426 gm_487 (c_X2_join l w f a o hI (by omega) (by omega) (hab) (hq1)) ⟨rfl, rfl⟩ ⟨Nat.le_of_ble_eq_true rfl, Nat.le_of_ble_eq_true rfl⟩ rfl hl.1 rfl (Nat.le_of_ble_eq_true rfl) ⟨Nat.le_of_ble_eq_true rfl, Nat.le_of_ble_eq_true rfl⟩ dL_act_411 (fun v f411 H locs hp hG => ?_)
      obtain ⟨rfl, rfl⟩ := hp
      obtain ⟨f1, r, ef, er, hr, J1, b2⟩ := am_join hJ ha ho hab hq1
      rw [← ef] at hG
      have hI := J1.hI
      obtain ⟨⟨hT, hT24⟩, ⟨hC, hC12⟩, ⟨hD, hD6⟩, hLn⟩ := id hI
      refine W.eq (g2 := F0 M_ _ ls [.int (nI r)]) (by first | (rw [er]; done) | (rw [er]; rfl)) ?_
      refine lv_if_lt (tgt := 426) hx hb dL_act_414 (by decide) (fun c414 => ?_) (fun c414 => ?_)
      · skip
        have c414 : nI r < nI 0 := c414
        have c414 : r < 0 := (g_lt (by omega) (by omega)).mp c414
        omega
      · skip
        have c414 : ¬ (nI r < nI 0) := c414
        have c414 : ¬ (r < 0) := fun q => c414 ((g_lt (by omega) (by omega)).mpr q)
        refine lv_iload hx hb dL_act_417 (lv_at hl 0 rfl) ?_
        refine lv_if_lt (tgt := 426) hx hb dL_act_419 (by decide) (fun c419 => ?_) (fun c419 => ?_)
        · skip
          exact absurd c419 hcy
        · skip
          refine lv_iconst (v := nI 1) hx hb dL_act_422 (by decide) ?_
          refine lv_goto (tgt := 427) hx hb dL_act_423 (by decide) ?_
          exact a_zret G hG (⟨rfl, _, J1, fun _ => b2⟩) (Or.inr rfl) (by decide) (by decide) dL_act_427
set_option maxRecDepth 100000 in
set_option maxHeartbeats 4000000 in
theorem a_428 {l : Launch} (hfl : l.stackTraces = false) {w : GP} {f : CS} {x : Int32} {dy k d g : Nat} (hJ : J f dy) (hk : k < nT f) (hd : d < 2) (hg : g < 2) (hz9 : tsN f (nI 1) < 2 ^ 31) (hz : blN x 20 = 10) {P_ : Program} {E_ : Env} {S_ : State} {M_ : MethodId} {B_ : List Frame} {T_ : Method} {C_ : Code} {ls : Array Slot} {H : Heap} {locs : List Loc} (G : Gx P_ C_ cL_act 16 S_ (aV w x) RL M_ T_ (some .boolean)) (hall : ∀ v ∈ gwx, v.before (aV w x) S_ = true) (hxt : C_.exceptionTable.toList = tableOf actH) (hX : GX w S_ S_.heap) (hN : GNc S_) (hG : GS w (gA w) S_ H locs f) (hl : lv_has ls 16 [(0, .ref (w.2.2.2 0)), (1, .int x), (2, .int (nI (nT f))), (3, .int (nI k)), (4, .int (nI d)), (5, .int (nI g)), (6, .int (nI (nC f))), (7, .int (nI (tsN f (nI 1))))]) : W P_ l E_ aR S_ M_ (aV w x) B_ T_ C_ H locs 0 0 (MQ B_ (gWr w (aPost f x)) (aV w x) S_ 1 6 (gA w)) (F0 M_ 428 ls []) := by
  obtain ⟨hx, hb, hml, hown, hts⟩ := id G.1
  have hI := hJ.hI
  obtain ⟨⟨hT, hT24⟩, ⟨hC, hC12⟩, ⟨hD, hD6⟩, hLn⟩ := id hI
  have hT6 := hJ.T6
  have hC3 := hJ.C3
  have hD2 := hJ.D2
  have hdy := hJ.day
  have hdl := hJ.d199
  obtain ⟨c, g2, x2, s2, hc, hg2, hx2, hs2, e2, e3, e4, e5, _, _⟩ := hJ.1.2.2.1.1 k hk
  refine lv_aload_n hx hb dL_act_428 rfl (lv_at hl 0 rfl) ?_
  refine lv_aload_n hx hb dL_act_429 rfl (lv_at hl 0 rfl) ?_
  refine lv_iload_n hx hb dL_act_430 rfl (lv_at hl 3 rfl) ?_
  refine lv_iconst (v := nI 0) hx hb dL_act_431 (by decide) ?_
  refine g_callV (v := .int (nI c)) (As := [.int (nI k), .int (nI 0)]) (rest := [.ref (w.2.2.2 0)]) G.1 hG.1 0 (by decide) rfl rfl ok_X2_ofTerm gm_357 gm_358 gm_479 (by have q9 := (c_X2_ofTerm l w f k 0 hI (by omega) (by omega)); rw [show gRd (.int (otF f k 0)) = gRd (.int (nI c)) from congrArg (fun z => gRd (.int z)) (show otF f k 0 = nI c from e2)] at q9; exact q9) ⟨rfl, rfl⟩ ⟨Nat.le_of_ble_eq_true rfl, Nat.le_of_ble_eq_true rfl⟩ rfl hl.1 rfl (Nat.le_of_ble_eq_true rfl) ⟨Nat.le_of_ble_eq_true rfl, Nat.le_of_ble_eq_true rfl⟩ dL_act_432 ?_
  refine lv_iconst (v := nI 1) hx hb dL_act_435 (by decide) ?_
  refine lv_iload_n hx hb dL_act_436 rfl (lv_at hl 3 rfl) ?_
  refine lv_ishl hx hb dL_act_437 ?_
  refine lv_iload_n hx hb dL_act_438 rfl (lv_at hl 1 rfl) ?_
  refine lv_bipush (v := nI 6) hx hb dL_act_439 (by decide) ?_
  refine lv_ishr hx hb dL_act_441 ?_
  refine lv_iconst (v := nI 4) hx hb dL_act_442 (by decide) ?_
  refine g_callS (As := [.int (x >>> ((nI 6) &&& 31)), .int (nI 4)]) (rest := [.int ((nI 1) <<< ((nI k) &&& 31)), .int (nI c), .ref (w.2.2.2 0)]) G.1 hG.1 ok_L_below gm_467 gm_466 (c_L_below l w f (x >>> ((nI 6) &&& 31)) 4  (by omega) (by omega)) ⟨rfl, rfl⟩ ⟨Nat.le_of_ble_eq_true rfl, Nat.le_of_ble_eq_true rfl⟩ rfl hl.1 rfl (Nat.le_of_ble_eq_true rfl) ⟨Nat.le_of_ble_eq_true rfl, Nat.le_of_ble_eq_true rfl⟩ dL_act_443 ?_
  obtain ⟨y, hy, ey⟩ : ∃ z9, z9 < 4 ∧ blN (x >>> ((nI 6) &&& 31)) 4 = z9 := ⟨_, bl_lt _ (by omega), rfl⟩
  refine W.eq (g2 := F0 M_ _ ls [.int (nI y), .int ((nI 1) <<< ((nI k) &&& 31)), .int (nI c), .ref (w.2.2.2 0)]) (by first | (rw [ey]; done) | (rw [ey]; rfl)) ?_
  by_cases hq : bit k = ofC f (nI c)
  · skip
    exact a_694s hown hts hxt hX hN hG 18 rfl (by decide +kernel) (by decide +kernel) (a_runX (As := [.int (nI c), .int ((nI 1) <<< ((nI k) &&& 31)), .int (nI y)]) (rest := []) G.1 hall hG.1 (hX.at hG) 0 (by decide) rfl rfl ok_X2_split gm_428 gm_429 gm_488 (x_X2_split l hfl w f c (bit k) y hI (by omega) (Or.inr (Or.inr hq))) ⟨rfl, rfl⟩ ⟨Nat.le_of_ble_eq_true rfl, Nat.le_of_ble_eq_true rfl⟩ rfl hl.1 rfl (Nat.le_of_ble_eq_true rfl) ⟨Nat.le_of_ble_eq_true rfl, Nat.le_of_ble_eq_true rfl⟩ dL_act_446) (fun q H1 hG1 => a_694 (f := f) (fc := f) hJ (Nat.le_refl _) (Nat.le_refl _) hz9 (by omega) G hG1 (lv_sub hl [0, 1] rfl))
  · skip
    have hq9 := hq
    by_cases hq : ¬ nC f < 12
    · skip
      exact a_724s hown hts hxt hX hN hG 30 rfl (by decide +kernel) (by decide +kernel) (a_runX (As := [.int (nI c), .int ((nI 1) <<< ((nI k) &&& 31)), .int (nI y)]) (rest := []) G.1 hall hG.1 (hX.at hG) 0 (by decide) rfl rfl ok_X2_split gm_428 gm_429 gm_488 (x_X2_split_2 l hfl w f c (bit k) y hI (by omega) (bit_pos k (by omega)) (bit_part hT24 hk e2) (hq9) (by omega) (hq)) ⟨rfl, rfl⟩ ⟨Nat.le_of_ble_eq_true rfl, Nat.le_of_ble_eq_true rfl⟩ rfl hl.1 rfl (Nat.le_of_ble_eq_true rfl) ⟨Nat.le_of_ble_eq_true rfl, Nat.le_of_ble_eq_true rfl⟩ dL_act_446) (fun q H1 hG1 => a_724 (f := f) (fc := f) hJ (Nat.le_refl _) (Nat.le_refl _) hz9 (by omega) G hG1 (lv_sub hl [0, 1, 7] rfl))
    · skip
      have hq1 : nC f < 12 := by omega
      refine g_callW (As := [.int (nI c), .int ((nI 1) <<< ((nI k) &&& 31)), .int (nI y)]) (rest := []) G.1 hG 0 (by decide) rfl rfl ok_X2_split gm_428 gm_429 gm_488 (c_X2_split l w f c ((nI 1) <<< ((nI k) &&& 31)) y hI (by omega) (bit_pos k (by omega)) (bit_part hT24 hk e2) (hq9) (by omega) (hq1)) ⟨rfl, rfl⟩ ⟨Nat.le_of_ble_eq_true rfl, Nat.le_of_ble_eq_true rfl⟩ rfl hl.1 rfl (Nat.le_of_ble_eq_true rfl) ⟨Nat.le_of_ble_eq_true rfl, Nat.le_of_ble_eq_true rfl⟩ dL_act_446 (fun v f446 H locs hp hG => ?_)
      obtain ⟨rfl, rfl⟩ := hp
      obtain ⟨f1, ef, J1, bT, bC, bc, b1, b2⟩ := am_split hJ hk hq1 hy hc e2
      rw [show spF f (nI 1 <<< (nI k &&& 31)) y = f1 from ef.symm] at hG
      have hI := J1.hI
      obtain ⟨⟨hT, hT24⟩, ⟨hC, hC12⟩, ⟨hD, hD6⟩, hLn⟩ := id hI
      refine lv_iload hx hb dL_act_449 (lv_at hl 6 rfl) ?_
      refine lv_icmp_ne (tgt := 480) hx hb dL_act_451 (by decide) (fun c451 => ?_) (fun c451 => ?_)
      · skip
        have c451 : ¬ ((nC f) = (nC f)) := fun q => c451 ((g_eq (by omega) (by omega)).mpr q)
        exact absurd rfl c451
      · skip
        have c451 : (nC f) = (nC f) := (g_eq (by omega) (by omega)).mp c451
        refine lv_aload_n hx hb dL_act_454 rfl (lv_at hl 0 rfl) ?_
        refine lv_iload_n hx hb dL_act_455 rfl (lv_at hl 3 rfl) ?_
        refine lv_iconst (v := nI 0) hx hb dL_act_456 (by decide) ?_
        refine g_callV (v := .int (nI (nC f))) (As := [.int (nI k), .int (nI 0)]) (rest := []) G.1 hG.1 0 (by decide) rfl rfl ok_X2_ofTerm gm_357 gm_358 gm_479 (by have q9 := (c_X2_ofTerm l w f1 k 0 hI (by omega) (by omega)); rw [show gRd (.int (otF f1 k 0)) = gRd (.int (nI (nC f))) from congrArg (fun z => gRd (.int z)) (show otF f1 k 0 = nI (nC f) from bc)] at q9; exact q9) ⟨rfl, rfl⟩ ⟨Nat.le_of_ble_eq_true rfl, Nat.le_of_ble_eq_true rfl⟩ rfl hl.1 rfl (Nat.le_of_ble_eq_true rfl) ⟨Nat.le_of_ble_eq_true rfl, Nat.le_of_ble_eq_true rfl⟩ dL_act_457 ?_
        refine lv_iload hx hb dL_act_460 (lv_at hl 6 rfl) ?_
        refine lv_icmp_ne (tgt := 480) hx hb dL_act_462 (by decide) (fun c462 => ?_) (fun c462 => ?_)
        · skip
          have c462 : ¬ ((nC f) = (nC f)) := fun q => c462 ((g_eq (by omega) (by omega)).mpr q)
          exact absurd rfl c462
        · skip
          have c462 : (nC f) = (nC f) := (g_eq (by omega) (by omega)).mp c462
          refine lv_aload_n hx hb dL_act_465 rfl (lv_at hl 0 rfl) ?_
          refine lv_iload hx hb dL_act_466 (lv_at hl 6 rfl) ?_
          refine lv_iconst (v := nI 1) hx hb dL_act_468 (by decide) ?_
          refine g_callV (v := .int (nI 1)) (As := [.int (nI (nC f)), .int (nI 1)]) (rest := []) G.1 hG.1 0 (by decide) rfl rfl ok_X2_ofConcept gm_365 gm_366 gm_482 (by have q9 := (c_X2_ofConcept l w f1 (nC f) 1 hI (by omega) (by omega)); rw [show gRd (.int (ocF f1 (nC f) 1)) = gRd (.int (nI 1)) from congrArg (fun z => gRd (.int z)) (show ocF f1 (nC f) 1 = nI 1 from b1)] at q9; exact q9) ⟨rfl, rfl⟩ ⟨Nat.le_of_ble_eq_true rfl, Nat.le_of_ble_eq_true rfl⟩ rfl hl.1 rfl (Nat.le_of_ble_eq_true rfl) ⟨Nat.le_of_ble_eq_true rfl, Nat.le_of_ble_eq_true rfl⟩ dL_act_469 ?_
          refine lv_iconst (v := nI 1) hx hb dL_act_472 (by decide) ?_
          refine lv_icmp_ne (tgt := 480) hx hb dL_act_473 (by decide) (fun c473 => ?_) (fun c473 => ?_)
          · skip
            have c473 : ¬ (1 = 1) := fun q => c473 ((g_eq (by omega) (by omega)).mpr q)
            omega
          · skip
            have c473 : 1 = 1 := (g_eq (by omega) (by omega)).mp c473
            refine lv_iconst (v := nI 1) hx hb dL_act_476 (by decide) ?_
            refine lv_goto (tgt := 481) hx hb dL_act_477 (by decide) ?_
            exact a_zret G hG (⟨rfl, _, J1, fun _ => b2⟩) (Or.inr rfl) (by decide) (by decide) dL_act_481
set_option maxRecDepth 100000 in
set_option maxHeartbeats 4000000 in
theorem a_482 {l : Launch} (hfl : l.stackTraces = false) {w : GP} {f : CS} {x : Int32} {dy k d g : Nat} (hJ : J f dy) (hk : k < nT f) (hd : d < 2) (hg : g < 2) (hz9 : tsN f (nI 1) < 2 ^ 31) (hz : blN x 20 = 11 ∨ blN x 20 = 12) {P_ : Program} {E_ : Env} {S_ : State} {M_ : MethodId} {B_ : List Frame} {T_ : Method} {C_ : Code} {ls : Array Slot} {H : Heap} {locs : List Loc} (G : Gx P_ C_ cL_act 16 S_ (aV w x) RL M_ T_ (some .boolean)) (hall : ∀ v ∈ gwx, v.before (aV w x) S_ = true) (hxt : C_.exceptionTable.toList = tableOf actH) (hX : GX w S_ S_.heap) (hN : GNc S_) (hG : GS w (gA w) S_ H locs f) (hl : lv_has ls 16 [(0, .ref (w.2.2.2 0)), (1, .int x), (2, .int (nI (nT f))), (3, .int (nI k)), (4, .int (nI d)), (5, .int (nI g)), (6, .int (nI (nC f))), (7, .int (nI (tsN f (nI 1))))]) : W P_ l E_ aR S_ M_ (aV w x) B_ T_ C_ H locs 0 0 (MQ B_ (gWr w (aPost f x)) (aV w x) S_ 1 6 (gA w)) (F0 M_ 482 ls []) := by
  obtain ⟨hx, hb, hml, hown, hts⟩ := id G.1
  have hI := hJ.hI
  obtain ⟨⟨hT, hT24⟩, ⟨hC, hC12⟩, ⟨hD, hD6⟩, hLn⟩ := id hI
  have hT6 := hJ.T6
  have hC3 := hJ.C3
  have hD2 := hJ.D2
  have hdy := hJ.day
  have hdl := hJ.d199
  refine lv_iconst (v := nI 1) hx hb dL_act_482 (by decide) ?_
  refine lv_iload_n hx hb dL_act_483 rfl (lv_at hl 1 rfl) ?_
  refine lv_iconst (v := nI 5) hx hb dL_act_484 (by decide) ?_
  refine lv_ishr hx hb dL_act_485 ?_
  refine lv_iconst (v := nI 4) hx hb dL_act_486 (by decide) ?_
  refine g_callS (As := [.int (x >>> ((nI 5) &&& 31)), .int (nI 4)]) (rest := [.int (nI 1)]) G.1 hG.1 ok_L_below gm_467 gm_466 (c_L_below l w f (x >>> ((nI 5) &&& 31)) 4  (by omega) (by omega)) ⟨rfl, rfl⟩ ⟨Nat.le_of_ble_eq_true rfl, Nat.le_of_ble_eq_true rfl⟩ rfl hl.1 rfl (Nat.le_of_ble_eq_true rfl) ⟨Nat.le_of_ble_eq_true rfl, Nat.le_of_ble_eq_true rfl⟩ dL_act_487 ?_
  obtain ⟨n0, hn0, en0⟩ : ∃ z9, z9 < 4 ∧ blN (x >>> ((nI 5) &&& 31)) 4 = z9 := ⟨_, bl_lt _ (by omega), rfl⟩
  refine W.eq (g2 := F0 M_ _ ls [.int (nI n0), .int (nI 1)]) (by first | (rw [en0]; done) | (rw [en0]; rfl)) ?_
  refine g_iaddn hx hb dL_act_490 ?_
  refine lv_istore (lv' := [(12, .int (nI (1 + n0))), (0, .ref (w.2.2.2 0)), (1, .int x), (2, .int (nI (nT f))), (3, .int (nI k)), (4, .int (nI d)), (5, .int (nI g)), (6, .int (nI (nC f))), (7, .int (nI (tsN f (nI 1))))]) hx hb dL_act_491 hl (by decide) rfl (fun ls hl => ?_)
  refine lv_aload_n hx hb dL_act_493 rfl (lv_at hl 1 rfl) ?_
  refine lv_bipush (v := nI 12) hx hb dL_act_494 (by decide) ?_
  refine g_callV (v := .int (nI dy)) (As := [.int (nI 12)]) (rest := []) G.1 hG.1 0 (by decide) rfl rfl ok_X2_many gm_378 gm_379 gm_477 (by have q9 := (c_X2_many l w f 12 hI (by omega)); rw [show gRd (.int (maF f 12)) = gRd (.int (nI dy)) from congrArg (fun z => gRd (.int z)) (show maF f 12 = nI dy from hdy)] at q9; exact q9) ⟨rfl, rfl⟩ ⟨Nat.le_of_ble_eq_true rfl, Nat.le_of_ble_eq_true rfl⟩ rfl hl.1 rfl (Nat.le_of_ble_eq_true rfl) ⟨Nat.le_of_ble_eq_true rfl, Nat.le_of_ble_eq_true rfl⟩ dL_act_496 ?_
  refine lv_iload hx hb dL_act_499 (lv_at hl 0 rfl) ?_
  refine g_iaddn hx hb dL_act_501 ?_
  refine lv_sipush (v := nI 199) hx hb dL_act_502 (by decide) ?_
  refine lv_icmp_le (tgt := 510) hx hb dL_act_505 (by decide) (fun c505 => ?_) (fun c505 => ?_)
  · skip
    have c505 : (dy + (1 + n0)) ≤ 199 := (g_le (by omega) (by omega)).mp c505
    refine lv_aload_n hx hb dL_act_510 rfl (lv_at hl 1 rfl) ?_
    refine lv_iload hx hb dL_act_511 (lv_at hl 0 rfl) ?_
    refine g_callV (As := [.int (nI (1 + n0))]) (rest := []) G.1 hG.1 0 (by decide) rfl rfl ok_X2_reopenedIn gm_398 gm_399 gm_489 (c_X2_reopenedIn l w f (1 + n0) hI (by omega) (by omega)) ⟨rfl, rfl⟩ ⟨Nat.le_of_ble_eq_true rfl, Nat.le_of_ble_eq_true rfl⟩ rfl hl.1 rfl (Nat.le_of_ble_eq_true rfl) ⟨Nat.le_of_ble_eq_true rfl, Nat.le_of_ble_eq_true rfl⟩ dL_act_513 ?_
    refine lv_istore (lv' := [(13, .int (riF f (1 + n0))), (12, .int (nI (1 + n0))), (0, .ref (w.2.2.2 0)), (1, .int x), (2, .int (nI (nT f))), (3, .int (nI k)), (4, .int (nI d)), (5, .int (nI g)), (6, .int (nI (nC f))), (7, .int (nI (tsN f (nI 1))))]) hx hb dL_act_516 hl (by decide) rfl (fun ls hl => ?_)
    refine lv_aload_n hx hb dL_act_518 rfl (lv_at hl 2 rfl) ?_
    refine lv_iload hx hb dL_act_519 (lv_at hl 1 rfl) ?_
    refine g_callW (As := [.int (nI (1 + n0))]) (rest := []) G.1 hG 0 (by decide) rfl rfl ok_X2_pass gm_431 gm_432 gm_490 (c_X2_pass l w f (1 + n0) hI (by omega) (by omega) (by rw [hdy, show nI dy + nI (1 + n0) = nI (dy + (1 + n0)) from (Int32.ofNat_add _ _).symm]; exact (g_le (by omega) (by omega)).mpr c505)) ⟨rfl, rfl⟩ ⟨Nat.le_of_ble_eq_true rfl, Nat.le_of_ble_eq_true rfl⟩ rfl hl.1 rfl (Nat.le_of_ble_eq_true rfl) ⟨Nat.le_of_ble_eq_true rfl, Nat.le_of_ble_eq_true rfl⟩ dL_act_521 (fun v f521 H locs hp hG => ?_)
    obtain ⟨rfl, rfl⟩ := hp
    obtain ⟨f1, td, ef, ed, er, J1, b1, b2⟩ := am_pass (n := 1 + n0) hJ c505
    rw [← ef] at hG
    have hI := J1.hI
    obtain ⟨⟨hT, hT24⟩, ⟨hC, hC12⟩, ⟨hD, hD6⟩, hLn⟩ := id hI
    refine W.eq (g2 := F0 M_ _ ls [.int (nI td)]) (by first | (rw [ed]; done) | (rw [ed]; rfl)) ?_
    rw [er] at hl
    refine lv_iload hx hb dL_act_524 (lv_at hl 0 rfl) ?_
    refine lv_icmp_ne (tgt := 547) hx hb dL_act_526 (by decide) (fun c526 => ?_) (fun c526 => ?_)
    · skip
      have c526 : ¬ (td = td) := fun q => c526 ((g_eq (by omega) (by omega)).mpr q)
      exact absurd rfl c526
    · skip
      have c526 : td = td := (g_eq (by omega) (by omega)).mp c526
      refine lv_aload_n hx hb dL_act_529 rfl (lv_at hl 2 rfl) ?_
      refine lv_bipush (v := nI 9) hx hb dL_act_530 (by decide) ?_
      refine g_callV (v := .int (nI (tsN f1 (nI 1)))) (As := [.int (nI 9)]) (rest := []) G.1 hG.1 0 (by decide) rfl rfl ok_X2_many gm_378 gm_379 gm_477 (c_X2_many l w f1 9 hI (by omega)) ⟨rfl, rfl⟩ ⟨Nat.le_of_ble_eq_true rfl, Nat.le_of_ble_eq_true rfl⟩ rfl hl.1 rfl (Nat.le_of_ble_eq_true rfl) ⟨Nat.le_of_ble_eq_true rfl, Nat.le_of_ble_eq_true rfl⟩ dL_act_532 ?_
      refine lv_iload hx hb dL_act_535 (lv_at hl 9 rfl) ?_
      refine lv_iload hx hb dL_act_537 (lv_at hl 0 rfl) ?_
      refine g_isubn hx hb (by omega) dL_act_539 ?_
      refine lv_icmp_ne (tgt := 547) hx hb dL_act_540 (by decide) (fun c540 => ?_) (fun c540 => ?_)
      · skip
        have c540 : ¬ ((tsN f1 (nI 1)) = ((tsN f (nI 1)) - td)) := fun q => c540 ((g_eq (ts_lt hI) (by omega)).mpr q)
        omega
      · skip
        have c540 : (tsN f1 (nI 1)) = ((tsN f (nI 1)) - td) := (g_eq (ts_lt hI) (by omega)).mp c540
        refine lv_iconst (v := nI 1) hx hb dL_act_543 (by decide) ?_
        refine lv_goto (tgt := 548) hx hb dL_act_544 (by decide) ?_
        exact a_zret G hG (⟨rfl, _, J1, fun _ => b2⟩) (Or.inr rfl) (by decide) (by decide) dL_act_548
  · skip
    have c505 : ¬ ((dy + (1 + n0)) ≤ 199) := fun q => c505 ((g_le (by omega) (by omega)).mpr q)
    refine lv_iconst (v := nI 1) hx hb dL_act_508 (by decide) ?_
    exact a_zret G hG (⟨rfl, _, hJ, fun _ => Nat.le_refl _⟩) (Or.inr rfl) (by decide) (by decide) dL_act_509
set_option maxRecDepth 100000 in
set_option maxHeartbeats 4000000 in
theorem a_549 {l : Launch} (hfl : l.stackTraces = false) {w : GP} {f : CS} {x : Int32} {dy k d g : Nat} (hJ : J f dy) (hk : k < nT f) (hd : d < 2) (hg : g < 2) (hz9 : tsN f (nI 1) < 2 ^ 31) (hz : 13 ≤ blN x 20 ∧ blN x 20 ≤ 15) {P_ : Program} {E_ : Env} {S_ : State} {M_ : MethodId} {B_ : List Frame} {T_ : Method} {C_ : Code} {ls : Array Slot} {H : Heap} {locs : List Loc} (G : Gx P_ C_ cL_act 16 S_ (aV w x) RL M_ T_ (some .boolean)) (hall : ∀ v ∈ gwx, v.before (aV w x) S_ = true) (hxt : C_.exceptionTable.toList = tableOf actH) (hX : GX w S_ S_.heap) (hN : GNc S_) (hG : GS w (gA w) S_ H locs f) (hl : lv_has ls 16 [(0, .ref (w.2.2.2 0)), (1, .int x), (2, .int (nI (nT f))), (3, .int (nI k)), (4, .int (nI d)), (5, .int (nI g)), (6, .int (nI (nC f))), (7, .int (nI (tsN f (nI 1))))]) : W P_ l E_ aR S_ M_ (aV w x) B_ T_ C_ H locs 0 0 (MQ B_ (gWr w (aPost f x)) (aV w x) S_ 1 6 (gA w)) (F0 M_ 549 ls []) := by
  obtain ⟨hx, hb, hml, hown, hts⟩ := id G.1
  have hI := hJ.hI
  obtain ⟨⟨hT, hT24⟩, ⟨hC, hC12⟩, ⟨hD, hD6⟩, hLn⟩ := id hI
  have hT6 := hJ.T6
  have hC3 := hJ.C3
  have hD2 := hJ.D2
  have hdy := hJ.day
  have hdl := hJ.d199
  have hz18 : tsN f (nI 1) ≤ nD f * 3 := ct_le _ _
  have hLt := hLn (d * 3 + g) (by omega)
  refine lv_aload_n hx hb dL_act_549 rfl (lv_at hl 0 rfl) ?_
  refine lv_iload hx hb dL_act_550 (lv_at hl 4 rfl) ?_
  refine lv_iload hx hb dL_act_552 (lv_at hl 5 rfl) ?_
  by_cases hq : ¬ (0 < nL f (d * 3 + g) ∧ ¬ f 12 (d * 3 + g) = nI 1 ∧ fbI f (d * 3 + g) = -1)
  · skip
    exact a_724s hown hts hxt hX hN hG 33 rfl (by decide +kernel) (by decide +kernel) (a_runX (As := [.int (nI d), .int (nI g)]) (rest := []) G.1 hall hG.1 (hX.at hG) 0 (by decide) rfl rfl ok_X2_approve gm_434 gm_435 gm_491 (x_X2_approve l hfl w f d g hI (by omega) (by omega) (hq)) ⟨rfl, rfl⟩ ⟨Nat.le_of_ble_eq_true rfl, Nat.le_of_ble_eq_true rfl⟩ rfl hl.1 rfl (Nat.le_of_ble_eq_true rfl) ⟨Nat.le_of_ble_eq_true rfl, Nat.le_of_ble_eq_true rfl⟩ dL_act_554) (fun q H1 hG1 => a_724 (f := f) (fc := f) hJ (Nat.le_refl _) (Nat.le_refl _) hz9 (by omega) G hG1 (lv_sub hl [0, 1, 7] rfl))
  · skip
    have hq1 := Decidable.of_not_not hq
    refine g_callW (As := [.int (nI d), .int (nI g)]) (rest := []) G.1 hG 0 (by decide) rfl rfl ok_X2_approve gm_434 gm_435 gm_491 (c_X2_approve l w f d g hI (by omega) (by omega) (hq1)) ⟨rfl, rfl⟩ ⟨Nat.le_of_ble_eq_true rfl, Nat.le_of_ble_eq_true rfl⟩ rfl hl.1 rfl (Nat.le_of_ble_eq_true rfl) ⟨Nat.le_of_ble_eq_true rfl, Nat.le_of_ble_eq_true rfl⟩ dL_act_554 (fun v f554 H locs hp hG => ?_)
    obtain ⟨rfl, rfl⟩ := hp
    obtain ⟨f1, ef, J1, b12, b3, b1⟩ := am_approve (t := d * 3 + g) hJ (by omega) hq1
    rw [← ef] at hG ⊢
    have hI := J1.hI
    obtain ⟨⟨hT, hT24⟩, ⟨hC, hC12⟩, ⟨hD, hD6⟩, hLn⟩ := id hI
    have hD2 := J1.D2
    have hLt1 := hLn (d * 3 + g) (by omega)
    refine lv_istore (lv' := [(14, .int (nI (csN f1 (d * 3 + g)))), (0, .ref (w.2.2.2 0)), (1, .int x), (2, .int (nI (nT f))), (3, .int (nI k)), (4, .int (nI d)), (5, .int (nI g)), (6, .int (nI (nC f))), (7, .int (nI (tsN f (nI 1))))]) hx hb dL_act_557 hl (by decide) rfl (fun ls hl => ?_)
    refine lv_aload_n hx hb dL_act_559 rfl (lv_at hl 1 rfl) ?_
    refine lv_iload hx hb dL_act_560 (lv_at hl 5 rfl) ?_
    refine lv_iload hx hb dL_act_562 (lv_at hl 6 rfl) ?_
    refine lv_iconst (v := nI 1) hx hb dL_act_564 (by decide) ?_
    refine g_callV (v := .int (nI 1)) (As := [.int (nI d), .int (nI g), .int (nI 1)]) (rest := []) G.1 hG.1 0 (by decide) rfl rfl ok_X2_ofText gm_369 gm_370 gm_465 (by have q9 := (c_X2_ofText l w f1 d g 1 hI (by omega) (by omega) (by omega)); rw [show gRd (.int (oxF f1 (d * 3 + g) 1)) = gRd (.int (nI 1)) from congrArg (fun z => gRd (.int z)) (show oxF f1 (d * 3 + g) 1 = nI 1 from b12)] at q9; exact q9) ⟨rfl, rfl⟩ ⟨Nat.le_of_ble_eq_true rfl, Nat.le_of_ble_eq_true rfl⟩ rfl hl.1 rfl (Nat.le_of_ble_eq_true rfl) ⟨Nat.le_of_ble_eq_true rfl, Nat.le_of_ble_eq_true rfl⟩ dL_act_565 ?_
    refine lv_iconst (v := nI 1) hx hb dL_act_568 (by decide) ?_
    refine lv_icmp_ne (tgt := 615) hx hb dL_act_569 (by decide) (fun c569 => ?_) (fun c569 => ?_)
    · skip
      have c569 : ¬ (1 = 1) := fun q => c569 ((g_eq (by omega) (by omega)).mpr q)
      omega
    · skip
      have c569 : 1 = 1 := (g_eq (by omega) (by omega)).mp c569
      refine lv_aload_n hx hb dL_act_572 rfl (lv_at hl 1 rfl) ?_
      refine lv_iload hx hb dL_act_573 (lv_at hl 5 rfl) ?_
      refine lv_iload hx hb dL_act_575 (lv_at hl 6 rfl) ?_
      refine lv_iconst (v := nI 3) hx hb dL_act_577 (by decide) ?_
      refine g_callV (v := .int (nI 0)) (As := [.int (nI d), .int (nI g), .int (nI 3)]) (rest := []) G.1 hG.1 0 (by decide) rfl rfl ok_X2_ofText gm_369 gm_370 gm_465 (by have q9 := (c_X2_ofText l w f1 d g 3 hI (by omega) (by omega) (by omega)); rw [show gRd (.int (oxF f1 (d * 3 + g) 3)) = gRd (.int (nI 0)) from congrArg (fun z => gRd (.int z)) (show oxF f1 (d * 3 + g) 3 = nI 0 from b3)] at q9; exact q9) ⟨rfl, rfl⟩ ⟨Nat.le_of_ble_eq_true rfl, Nat.le_of_ble_eq_true rfl⟩ rfl hl.1 rfl (Nat.le_of_ble_eq_true rfl) ⟨Nat.le_of_ble_eq_true rfl, Nat.le_of_ble_eq_true rfl⟩ dL_act_578 ?_
      refine lv_if_ne (tgt := 615) hx hb dL_act_581 (by decide) (fun c581 => ?_) (fun c581 => ?_)
      · skip
        have c581 : ¬ (nI 0 = nI 0) := c581
        have c581 : ¬ (0 = 0) := fun q => c581 ((g_eq (by omega) (by omega)).mpr q)
        omega
      · skip
        have c581 : nI 0 = nI 0 := c581
        have c581 : 0 = 0 := (g_eq (by omega) (by omega)).mp c581
        refine lv_iload hx hb dL_act_584 (lv_at hl 0 rfl) ?_
        refine lv_aload_n hx hb dL_act_586 rfl (lv_at hl 1 rfl) ?_
        refine lv_iload hx hb dL_act_587 (lv_at hl 5 rfl) ?_
        refine lv_iload hx hb dL_act_589 (lv_at hl 6 rfl) ?_
        refine lv_iconst (v := nI 5) hx hb dL_act_591 (by decide) ?_
        refine g_callV (v := .int (nI (csN f1 (d * 3 + g)))) (As := [.int (nI d), .int (nI g), .int (nI 5)]) (rest := [.int (nI (csN f1 (d * 3 + g)))]) G.1 hG.1 0 (by decide) rfl rfl ok_X2_ofText gm_369 gm_370 gm_465 (c_X2_ofText l w f1 d g 5 hI (by omega) (by omega) (by omega)) ⟨rfl, rfl⟩ ⟨Nat.le_of_ble_eq_true rfl, Nat.le_of_ble_eq_true rfl⟩ rfl hl.1 rfl (Nat.le_of_ble_eq_true rfl) ⟨Nat.le_of_ble_eq_true rfl, Nat.le_of_ble_eq_true rfl⟩ dL_act_592 ?_
        refine lv_icmp_ne (tgt := 615) hx hb dL_act_595 (by decide) (fun c595 => ?_) (fun c595 => ?_)
        · skip
          have c595 : ¬ ((csN f1 (d * 3 + g)) = (csN f1 (d * 3 + g))) := fun q => c595 ((g_eq (Nat.lt_of_le_of_lt (csN_le (by omega)) (by decide)) (Nat.lt_of_le_of_lt (csN_le (by omega)) (by decide))).mpr q)
          exact absurd rfl c595
        · skip
          have c595 : (csN f1 (d * 3 + g)) = (csN f1 (d * 3 + g)) := (g_eq (Nat.lt_of_le_of_lt (csN_le (by omega)) (by decide)) (Nat.lt_of_le_of_lt (csN_le (by omega)) (by decide))).mp c595
          refine lv_aload_n hx hb dL_act_598 rfl (lv_at hl 1 rfl) ?_
          refine lv_bipush (v := nI 9) hx hb dL_act_599 (by decide) ?_
          refine g_callV (v := .int (nI (tsN f1 (nI 1)))) (As := [.int (nI 9)]) (rest := []) G.1 hG.1 0 (by decide) rfl rfl ok_X2_many gm_378 gm_379 gm_477 (c_X2_many l w f1 9 hI (by omega)) ⟨rfl, rfl⟩ ⟨Nat.le_of_ble_eq_true rfl, Nat.le_of_ble_eq_true rfl⟩ rfl hl.1 rfl (Nat.le_of_ble_eq_true rfl) ⟨Nat.le_of_ble_eq_true rfl, Nat.le_of_ble_eq_true rfl⟩ dL_act_601 ?_
          refine lv_iload hx hb dL_act_604 (lv_at hl 8 rfl) ?_
          refine lv_iconst (v := nI 1) hx hb dL_act_606 (by decide) ?_
          refine g_iaddn hx hb dL_act_607 ?_
          refine lv_icmp_ne (tgt := 615) hx hb dL_act_608 (by decide) (fun c608 => ?_) (fun c608 => ?_)
          · skip
            have c608 : ¬ ((tsN f1 (nI 1)) = ((tsN f (nI 1)) + 1)) := fun q => c608 ((g_eq (ts_lt hI) (by omega)).mpr q)
            omega
          · skip
            have c608 : (tsN f1 (nI 1)) = ((tsN f (nI 1)) + 1) := (g_eq (ts_lt hI) (by omega)).mp c608
            refine lv_iconst (v := nI 1) hx hb dL_act_611 (by decide) ?_
            refine lv_goto (tgt := 616) hx hb dL_act_612 (by decide) ?_
            exact a_zret G hG (⟨rfl, _, J1, fun q => by omega⟩) (Or.inr rfl) (by decide) (by decide) dL_act_616
set_option maxRecDepth 100000 in
set_option maxHeartbeats 4000000 in
theorem a_617 {l : Launch} (hfl : l.stackTraces = false) {w : GP} {f : CS} {x : Int32} {dy k d g : Nat} (hJ : J f dy) (hk : k < nT f) (hd : d < 2) (hg : g < 2) (hz9 : tsN f (nI 1) < 2 ^ 31) (hz : blN x 20 = 16) {P_ : Program} {E_ : Env} {S_ : State} {M_ : MethodId} {B_ : List Frame} {T_ : Method} {C_ : Code} {ls : Array Slot} {H : Heap} {locs : List Loc} (G : Gx P_ C_ cL_act 16 S_ (aV w x) RL M_ T_ (some .boolean)) (hall : ∀ v ∈ gwx, v.before (aV w x) S_ = true) (hxt : C_.exceptionTable.toList = tableOf actH) (hX : GX w S_ S_.heap) (hN : GNc S_) (hG : GS w (gA w) S_ H locs f) (hl : lv_has ls 16 [(0, .ref (w.2.2.2 0)), (1, .int x), (2, .int (nI (nT f))), (3, .int (nI k)), (4, .int (nI d)), (5, .int (nI g)), (6, .int (nI (nC f))), (7, .int (nI (tsN f (nI 1))))]) : W P_ l E_ aR S_ M_ (aV w x) B_ T_ C_ H locs 0 0 (MQ B_ (gWr w (aPost f x)) (aV w x) S_ 1 6 (gA w)) (F0 M_ 617 ls []) := by
  obtain ⟨hx, hb, hml, hown, hts⟩ := id G.1
  have hI := hJ.hI
  obtain ⟨⟨hT, hT24⟩, ⟨hC, hC12⟩, ⟨hD, hD6⟩, hLn⟩ := id hI
  have hT6 := hJ.T6
  have hC3 := hJ.C3
  have hD2 := hJ.D2
  have hdy := hJ.day
  have hdl := hJ.d199
  have hLt := hLn (d * 3 + g) (by omega)
  refine lv_aload_n hx hb dL_act_617 rfl (lv_at hl 0 rfl) ?_
  refine lv_iload hx hb dL_act_618 (lv_at hl 4 rfl) ?_
  refine lv_iload hx hb dL_act_620 (lv_at hl 5 rfl) ?_
  refine lv_iconst (v := nI 0) hx hb dL_act_622 (by decide) ?_
  refine g_callV (v := .int (nI (nL f (d * 3 + g)))) (As := [.int (nI d), .int (nI g), .int (nI 0)]) (rest := []) G.1 hG.1 0 (by decide) rfl rfl ok_X2_ofText gm_369 gm_370 gm_465 (c_X2_ofText l w f d g 0 hI (by omega) (by omega) (by omega)) ⟨rfl, rfl⟩ ⟨Nat.le_of_ble_eq_true rfl, Nat.le_of_ble_eq_true rfl⟩ rfl hl.1 rfl (Nat.le_of_ble_eq_true rfl) ⟨Nat.le_of_ble_eq_true rfl, Nat.le_of_ble_eq_true rfl⟩ dL_act_623 ?_
  refine lv_istore (lv' := [(15, .int (nI (nL f (d * 3 + g)))), (0, .ref (w.2.2.2 0)), (1, .int x), (2, .int (nI (nT f))), (3, .int (nI k)), (4, .int (nI d)), (5, .int (nI g)), (6, .int (nI (nC f))), (7, .int (nI (tsN f (nI 1))))]) hx hb dL_act_626 hl (by decide) rfl (fun ls hl => ?_)
  refine lv_aload_n hx hb dL_act_628 rfl (lv_at hl 1 rfl) ?_
  refine lv_iload hx hb dL_act_629 (lv_at hl 5 rfl) ?_
  refine lv_iload hx hb dL_act_631 (lv_at hl 6 rfl) ?_
  by_cases hq : ¬ 1 ≤ nL f (d * 3 + g) ∨ f 12 (d * 3 + g) = nI 1
  · skip
    exact a_724s hown hts hxt hX hN hG 34 rfl (by decide +kernel) (by decide +kernel) (a_runX (As := [.int (nI d), .int (nI g)]) (rest := []) G.1 hall hG.1 (hX.at hG) 0 (by decide) rfl rfl ok_X2_cut gm_437 gm_438 gm_492 (x_X2_cut l hfl w f d g hI (by omega) (by omega) (hq)) ⟨rfl, rfl⟩ ⟨Nat.le_of_ble_eq_true rfl, Nat.le_of_ble_eq_true rfl⟩ rfl hl.1 rfl (Nat.le_of_ble_eq_true rfl) ⟨Nat.le_of_ble_eq_true rfl, Nat.le_of_ble_eq_true rfl⟩ dL_act_633) (fun q H1 hG1 => a_724 (f := f) (fc := f) hJ (Nat.le_refl _) (Nat.le_refl _) hz9 (by omega) G hG1 (lv_sub hl [1, 2, 8] rfl))
  · skip
    have hq1 : 1 ≤ nL f (d * 3 + g) := Nat.not_lt.mp (fun q => hq (Or.inl (by omega)))
    have hq2 : ¬ f 12 (d * 3 + g) = nI 1 := fun q => hq (Or.inr q)
    refine g_callW (As := [.int (nI d), .int (nI g)]) (rest := []) G.1 hG 0 (by decide) rfl rfl ok_X2_cut gm_437 gm_438 gm_492 (c_X2_cut l w f d g hI (by omega) (by omega) (by omega) (hq2)) ⟨rfl, rfl⟩ ⟨Nat.le_of_ble_eq_true rfl, Nat.le_of_ble_eq_true rfl⟩ rfl hl.1 rfl (Nat.le_of_ble_eq_true rfl) ⟨Nat.le_of_ble_eq_true rfl, Nat.le_of_ble_eq_true rfl⟩ dL_act_633 (fun v f633 H locs hp hG => ?_)
    obtain ⟨rfl, rfl⟩ := hp
    obtain ⟨f1, ef, J1, bL, b12⟩ := am_cut (t := d * 3 + g) hJ (by omega) hq1
    rw [← ef] at hG
    have hI := J1.hI
    obtain ⟨⟨hT, hT24⟩, ⟨hC, hC12⟩, ⟨hD, hD6⟩, hLn⟩ := id hI
    have hD2 := J1.D2
    have hLt1 := hLn (d * 3 + g) (by omega)
    refine lv_pop hx hb dL_act_636 rfl ?_
    refine lv_aload_n hx hb dL_act_637 rfl (lv_at hl 1 rfl) ?_
    refine lv_iload hx hb dL_act_638 (lv_at hl 5 rfl) ?_
    refine lv_iload hx hb dL_act_640 (lv_at hl 6 rfl) ?_
    refine lv_iconst (v := nI 0) hx hb dL_act_642 (by decide) ?_
    refine g_callV (v := .int (nI (nL f1 (d * 3 + g)))) (As := [.int (nI d), .int (nI g), .int (nI 0)]) (rest := []) G.1 hG.1 0 (by decide) rfl rfl ok_X2_ofText gm_369 gm_370 gm_465 (c_X2_ofText l w f1 d g 0 hI (by omega) (by omega) (by omega)) ⟨rfl, rfl⟩ ⟨Nat.le_of_ble_eq_true rfl, Nat.le_of_ble_eq_true rfl⟩ rfl hl.1 rfl (Nat.le_of_ble_eq_true rfl) ⟨Nat.le_of_ble_eq_true rfl, Nat.le_of_ble_eq_true rfl⟩ dL_act_643 ?_
    refine lv_iload hx hb dL_act_646 (lv_at hl 0 rfl) ?_
    refine lv_iconst (v := nI 1) hx hb dL_act_648 (by decide) ?_
    refine g_isubn hx hb (by omega) dL_act_649 ?_
    refine lv_icmp_ne (tgt := 669) hx hb dL_act_650 (by decide) (fun c650 => ?_) (fun c650 => ?_)
    · skip
      have c650 : ¬ ((nL f1 (d * 3 + g)) = ((nL f (d * 3 + g)) - 1)) := fun q => c650 ((g_eq (by omega) (by omega)).mpr q)
      omega
    · skip
      have c650 : (nL f1 (d * 3 + g)) = ((nL f (d * 3 + g)) - 1) := (g_eq (by omega) (by omega)).mp c650
      refine lv_aload_n hx hb dL_act_653 rfl (lv_at hl 1 rfl) ?_
      refine lv_iload hx hb dL_act_654 (lv_at hl 5 rfl) ?_
      refine lv_iload hx hb dL_act_656 (lv_at hl 6 rfl) ?_
      refine lv_iconst (v := nI 1) hx hb dL_act_658 (by decide) ?_
      refine g_callV (v := .int (nI 0)) (As := [.int (nI d), .int (nI g), .int (nI 1)]) (rest := []) G.1 hG.1 0 (by decide) rfl rfl ok_X2_ofText gm_369 gm_370 gm_465 (by have q9 := (c_X2_ofText l w f1 d g 1 hI (by omega) (by omega) (by omega)); rw [show gRd (.int (oxF f1 (d * 3 + g) 1)) = gRd (.int (nI 0)) from congrArg (fun z => gRd (.int z)) (show oxF f1 (d * 3 + g) 1 = nI 0 from b12)] at q9; exact q9) ⟨rfl, rfl⟩ ⟨Nat.le_of_ble_eq_true rfl, Nat.le_of_ble_eq_true rfl⟩ rfl hl.1 rfl (Nat.le_of_ble_eq_true rfl) ⟨Nat.le_of_ble_eq_true rfl, Nat.le_of_ble_eq_true rfl⟩ dL_act_659 ?_
      refine lv_if_ne (tgt := 669) hx hb dL_act_662 (by decide) (fun c662 => ?_) (fun c662 => ?_)
      · skip
        have c662 : ¬ (nI 0 = nI 0) := c662
        have c662 : ¬ (0 = 0) := fun q => c662 ((g_eq (by omega) (by omega)).mpr q)
        omega
      · skip
        have c662 : nI 0 = nI 0 := c662
        have c662 : 0 = 0 := (g_eq (by omega) (by omega)).mp c662
        refine lv_iconst (v := nI 1) hx hb dL_act_665 (by decide) ?_
        refine lv_goto (tgt := 670) hx hb dL_act_666 (by decide) ?_
        exact a_zret G hG (⟨rfl, _, J1, fun q => by omega⟩) (Or.inr rfl) (by decide) (by decide) dL_act_670
set_option maxRecDepth 100000 in
set_option maxHeartbeats 4000000 in
theorem a_671 {l : Launch} (hfl : l.stackTraces = false) {w : GP} {f : CS} {x : Int32} {dy k d g : Nat} (hJ : J f dy) (hk : k < nT f) (hd : d < 2) (hg : g < 2) (hz9 : tsN f (nI 1) < 2 ^ 31) (hz : 17 ≤ blN x 20) {P_ : Program} {E_ : Env} {S_ : State} {M_ : MethodId} {B_ : List Frame} {T_ : Method} {C_ : Code} {ls : Array Slot} {H : Heap} {locs : List Loc} (G : Gx P_ C_ cL_act 16 S_ (aV w x) RL M_ T_ (some .boolean)) (hall : ∀ v ∈ gwx, v.before (aV w x) S_ = true) (hxt : C_.exceptionTable.toList = tableOf actH) (hX : GX w S_ S_.heap) (hN : GNc S_) (hG : GS w (gA w) S_ H locs f) (hl : lv_has ls 16 [(0, .ref (w.2.2.2 0)), (1, .int x), (2, .int (nI (nT f))), (3, .int (nI k)), (4, .int (nI d)), (5, .int (nI g)), (6, .int (nI (nC f))), (7, .int (nI (tsN f (nI 1))))]) : W P_ l E_ aR S_ M_ (aV w x) B_ T_ C_ H locs 0 0 (MQ B_ (gWr w (aPost f x)) (aV w x) S_ 1 6 (gA w)) (F0 M_ 671 ls []) := by
  obtain ⟨hx, hb, hml, hown, hts⟩ := id G.1
  have hI := hJ.hI
  obtain ⟨⟨hT, hT24⟩, ⟨hC, hC12⟩, ⟨hD, hD6⟩, hLn⟩ := id hI
  have hT6 := hJ.T6
  have hC3 := hJ.C3
  have hD2 := hJ.D2
  have hdy := hJ.day
  have hdl := hJ.d199
  obtain ⟨st, hst, e4⟩ : ∃ st, st < 20 ∧ f 4 k = nI st := by obtain ⟨_, _, x2, _, _, _, hx2, _, _, _, e4, _⟩ := hJ.1.2.2.1.1 k hk; exact ⟨x2, hx2, e4⟩
  refine lv_aload_n hx hb dL_act_671 rfl (lv_at hl 0 rfl) ?_
  refine lv_iload_n hx hb dL_act_672 rfl (lv_at hl 1 rfl) ?_
  refine lv_iload hx hb dL_act_673 (lv_at hl 4 rfl) ?_
  refine lv_iload hx hb dL_act_675 (lv_at hl 5 rfl) ?_
  refine lv_iload_n hx hb dL_act_677 rfl (lv_at hl 3 rfl) ?_
  by_cases hq : f 12 (d * 3 + g) = nI 1
  · skip
    exact a_724s hown hts hxt hX hN hG 35 rfl (by decide +kernel) (by decide +kernel) (a_runXS (As := [.ref (w.2.2.2 0), .int x, .int (nI d), .int (nI g), .int (nI k)]) (rest := []) G.1 hall hG.1 (hX.at hG) ok_L_isWritten gm_494 gm_493 (x_L_isWritten l hfl w f x d g k hI (by omega) (by omega) (hk) (⟨st, hst, e4⟩) (hq)) ⟨rfl, rfl⟩ ⟨Nat.le_of_ble_eq_true rfl, Nat.le_of_ble_eq_true rfl⟩ rfl hl.1 rfl (Nat.le_of_ble_eq_true rfl) ⟨Nat.le_of_ble_eq_true rfl, Nat.le_of_ble_eq_true rfl⟩ dL_act_678) (fun q H1 hG1 => a_724 (f := f) (fc := f) hJ (Nat.le_refl _) (Nat.le_refl _) hz9 (by omega) G hG1 (lv_sub hl [0, 1, 7] rfl))
  · skip
    have h5 := hq
    refine a_callSW (As := [.ref (w.2.2.2 0), .int x, .int (nI d), .int (nI g), .int (nI k)]) (rest := []) G.1 hG ok_L_isWritten gm_494 gm_493 (c_L_isWritten l w f x d g k st hI (by omega) (by omega) hk e4 hst h5) ⟨rfl, rfl⟩ ⟨Nat.le_of_ble_eq_true rfl, Nat.le_of_ble_eq_true rfl⟩ rfl hl.1 rfl (Nat.le_of_ble_eq_true rfl) ⟨Nat.le_of_ble_eq_true rfl, Nat.le_of_ble_eq_true rfl⟩ dL_act_678 (fun v f9 H locs hp hG => ?_)
    obtain ⟨rfl, p, y, hp1, hp2, hy, rfl⟩ := hp
    exact a_zret G hG (⟨rfl, _, pu_J hJ (by omega) hp2 hp1 hy, fun q => by omega⟩) (Or.inr rfl) (by decide) (by decide) dL_act_681
