/-! act, from its entry. -/
set_option maxRecDepth 100000 in
set_option maxHeartbeats 4000000 in
theorem c_L_act (l : Launch) (hfl : l.stackTraces = false) (w : GP) (f : CS) (x : Int32) {dy : Nat} (hJ : J f dy) : Met l yL_act (ghs yL_act cL_act 16 (some .boolean) actH) aR (gPa w f [.ref (w.2.2.2 0), .int x]) (gWr w (aPost f x)) 1 6 (gA w) := by
  refine a_read (by decide) (Nat.le_of_ble_eq_true rfl) ?_
  intro P_ E_ S_ M_ B_ T_ C_ ls G hall hxt hX hN hV hl
  obtain ⟨hx, hb, hml, hown, hts⟩ := id G.1
  have hI := hJ.hI
  obtain ⟨⟨hT, hT24⟩, ⟨hC, hC12⟩, ⟨hD, hD6⟩, hLn⟩ := id hI
  have hT6 := hJ.T6
  have hC3 := hJ.C3
  have hD2 := hJ.D2
  have hdy := hJ.day
  have hdl := hJ.d199
  have hl : lv_has ls 16 [(0, .ref (w.2.2.2 0)), (1, .int x)] := hl
  have hG := hV.start
  refine lv_aload_n hx hb dL_act_0 rfl (lv_at hl 0 rfl) ?_
  refine lv_iconst (v := nI 2) hx hb dL_act_1 (by decide) ?_
  refine g_callV (v := .int (nI (nT f))) (As := [.int (nI 2)]) (rest := []) G.1 hG.1 0 (by decide) rfl rfl ok_X2_many gm_378 gm_379 gm_477 (c_X2_many l w f 2 hI (by omega)) ⟨rfl, rfl⟩ ⟨Nat.le_of_ble_eq_true rfl, Nat.le_of_ble_eq_true rfl⟩ rfl hl.1 rfl (Nat.le_of_ble_eq_true rfl) ⟨Nat.le_of_ble_eq_true rfl, Nat.le_of_ble_eq_true rfl⟩ dL_act_2 ?_
  refine lv_istore_n (lv' := [(2, .int (nI (nT f))), (0, .ref (w.2.2.2 0)), (1, .int x)]) hx hb dL_act_5 rfl hl (by decide) rfl (fun ls hl => ?_)
  refine lv_iload_n hx hb dL_act_6 rfl (lv_at hl 2 rfl) ?_
  refine lv_iconst (v := nI 4) hx hb dL_act_7 (by decide) ?_
  refine lv_ishr hx hb dL_act_8 ?_
  refine lv_iconst (v := nI 1) hx hb dL_act_9 (by decide) ?_
  refine lv_iload_n hx hb dL_act_10 rfl (lv_at hl 0 rfl) ?_
  refine va_mmax hx hb (hml.trans hl.1.symm) hown (hts _ gm_476) (hts _ gm_48) (hts _ gm_49) (hts _ gm_50) (Nat.le_of_ble_eq_true rfl) (Nat.le_of_ble_eq_true rfl) (Nat.zero_le _) (Nat.zero_le _) dL_act_11 ?_
  refine W.eq (g2 := F0 M_ _ ls [.int (nI (nT f)), .int (x >>> ((nI 4) &&& 31))]) (by rw [show (if nI 1 < nI (nT f) then nI (nT f) else nI 1) = nI (nT f) from if_pos ((g_lt (by omega) (by omega)).mpr (by omega))]) ?_
  refine g_callS (As := [.int (x >>> ((nI 4) &&& 31)), .int (nI (nT f))]) (rest := []) G.1 hG.1 ok_L_below gm_467 gm_466 (c_L_below l w f (x >>> ((nI 4) &&& 31)) (nT f)  (by omega) (by omega)) ⟨rfl, rfl⟩ ⟨Nat.le_of_ble_eq_true rfl, Nat.le_of_ble_eq_true rfl⟩ rfl hl.1 rfl (Nat.le_of_ble_eq_true rfl) ⟨Nat.le_of_ble_eq_true rfl, Nat.le_of_ble_eq_true rfl⟩ dL_act_14 ?_
  obtain ⟨k, hk, ek⟩ : ∃ z9, z9 < nT f ∧ blN (x >>> ((nI 4) &&& 31)) (nT f) = z9 := ⟨_, bl_lt _ (by omega), rfl⟩
  refine W.eq (g2 := F0 M_ _ ls [.int (nI k)]) (by first | (rw [ek]; done) | (rw [ek]; rfl)) ?_
  refine lv_istore_n (lv' := [(3, .int (nI k)), (2, .int (nI (nT f))), (0, .ref (w.2.2.2 0)), (1, .int x)]) hx hb dL_act_17 rfl hl (by decide) rfl (fun ls hl => ?_)
  refine lv_iload_n hx hb dL_act_18 rfl (lv_at hl 3 rfl) ?_
  refine lv_iconst (v := nI 3) hx hb dL_act_19 (by decide) ?_
  refine lv_ishr hx hb dL_act_20 ?_
  refine lv_iconst (v := nI 2) hx hb dL_act_21 (by decide) ?_
  refine g_callS (As := [.int (x >>> ((nI 3) &&& 31)), .int (nI 2)]) (rest := []) G.1 hG.1 ok_L_below gm_467 gm_466 (c_L_below l w f (x >>> ((nI 3) &&& 31)) 2  (by omega) (by omega)) ⟨rfl, rfl⟩ ⟨Nat.le_of_ble_eq_true rfl, Nat.le_of_ble_eq_true rfl⟩ rfl hl.1 rfl (Nat.le_of_ble_eq_true rfl) ⟨Nat.le_of_ble_eq_true rfl, Nat.le_of_ble_eq_true rfl⟩ dL_act_22 ?_
  obtain ⟨d, hd, ed⟩ : ∃ z9, z9 < 2 ∧ blN (x >>> ((nI 3) &&& 31)) 2 = z9 := ⟨_, bl_lt _ (by omega), rfl⟩
  refine W.eq (g2 := F0 M_ _ ls [.int (nI d)]) (by first | (rw [ed]; done) | (rw [ed]; rfl)) ?_
  refine lv_istore (lv' := [(4, .int (nI d)), (3, .int (nI k)), (2, .int (nI (nT f))), (0, .ref (w.2.2.2 0)), (1, .int x)]) hx hb dL_act_25 hl (by decide) rfl (fun ls hl => ?_)
  refine lv_iload_n hx hb dL_act_27 rfl (lv_at hl 4 rfl) ?_
  refine lv_bipush (v := nI 6) hx hb dL_act_28 (by decide) ?_
  refine lv_ishr hx hb dL_act_30 ?_
  refine lv_iconst (v := nI 2) hx hb dL_act_31 (by decide) ?_
  refine g_callS (As := [.int (x >>> ((nI 6) &&& 31)), .int (nI 2)]) (rest := []) G.1 hG.1 ok_L_below gm_467 gm_466 (c_L_below l w f (x >>> ((nI 6) &&& 31)) 2  (by omega) (by omega)) ⟨rfl, rfl⟩ ⟨Nat.le_of_ble_eq_true rfl, Nat.le_of_ble_eq_true rfl⟩ rfl hl.1 rfl (Nat.le_of_ble_eq_true rfl) ⟨Nat.le_of_ble_eq_true rfl, Nat.le_of_ble_eq_true rfl⟩ dL_act_32 ?_
  obtain ⟨g, hg, eg⟩ : ∃ z9, z9 < 2 ∧ blN (x >>> ((nI 6) &&& 31)) 2 = z9 := ⟨_, bl_lt _ (by omega), rfl⟩
  refine W.eq (g2 := F0 M_ _ ls [.int (nI g)]) (by first | (rw [eg]; done) | (rw [eg]; rfl)) ?_
  refine lv_istore (lv' := [(5, .int (nI g)), (4, .int (nI d)), (3, .int (nI k)), (2, .int (nI (nT f))), (0, .ref (w.2.2.2 0)), (1, .int x)]) hx hb dL_act_35 hl (by decide) rfl (fun ls hl => ?_)
  refine lv_aload_n hx hb dL_act_37 rfl (lv_at hl 4 rfl) ?_
  refine lv_iconst (v := nI 0) hx hb dL_act_38 (by decide) ?_
  refine g_callV (v := .int (nI (nC f))) (As := [.int (nI 0)]) (rest := []) G.1 hG.1 0 (by decide) rfl rfl ok_X2_many gm_378 gm_379 gm_477 (c_X2_many l w f 0 hI (by omega)) ⟨rfl, rfl⟩ ⟨Nat.le_of_ble_eq_true rfl, Nat.le_of_ble_eq_true rfl⟩ rfl hl.1 rfl (Nat.le_of_ble_eq_true rfl) ⟨Nat.le_of_ble_eq_true rfl, Nat.le_of_ble_eq_true rfl⟩ dL_act_39 ?_
  refine lv_istore (lv' := [(6, .int (nI (nC f))), (5, .int (nI g)), (4, .int (nI d)), (3, .int (nI k)), (2, .int (nI (nT f))), (0, .ref (w.2.2.2 0)), (1, .int x)]) hx hb dL_act_42 hl (by decide) rfl (fun ls hl => ?_)
  refine lv_aload_n hx hb dL_act_44 rfl (lv_at hl 5 rfl) ?_
  refine lv_bipush (v := nI 9) hx hb dL_act_45 (by decide) ?_
  refine g_callV (v := .int (nI (tsN f (nI 1)))) (As := [.int (nI 9)]) (rest := []) G.1 hG.1 0 (by decide) rfl rfl ok_X2_many gm_378 gm_379 gm_477 (c_X2_many l w f 9 hI (by omega)) ⟨rfl, rfl⟩ ⟨Nat.le_of_ble_eq_true rfl, Nat.le_of_ble_eq_true rfl⟩ rfl hl.1 rfl (Nat.le_of_ble_eq_true rfl) ⟨Nat.le_of_ble_eq_true rfl, Nat.le_of_ble_eq_true rfl⟩ dL_act_47 ?_
  refine lv_istore (lv' := [(7, .int (nI (tsN f (nI 1)))), (6, .int (nI (nC f))), (5, .int (nI g)), (4, .int (nI d)), (3, .int (nI k)), (2, .int (nI (nT f))), (0, .ref (w.2.2.2 0)), (1, .int x)]) hx hb dL_act_50 hl (by decide) rfl (fun ls hl => ?_)
  refine lv_iload_n hx hb dL_act_52 rfl (lv_at hl 7 rfl) ?_
  refine lv_bipush (v := nI 20) hx hb dL_act_53 (by decide) ?_
  refine g_callS (As := [.int x, .int (nI 20)]) (rest := []) G.1 hG.1 ok_L_below gm_467 gm_466 (c_L_below l w f x 20  (by omega) (by omega)) ⟨rfl, rfl⟩ ⟨Nat.le_of_ble_eq_true rfl, Nat.le_of_ble_eq_true rfl⟩ rfl hl.1 rfl (Nat.le_of_ble_eq_true rfl) ⟨Nat.le_of_ble_eq_true rfl, Nat.le_of_ble_eq_true rfl⟩ dL_act_55 ?_
  have hz20 := bl_lt x (n := 20) (by decide)
  have hz9 : tsN f (nI 1) < 2 ^ 31 := ts_lt hI
  have hcs : blN x 20 = 0 ∨ blN x 20 = 1 ∨ blN x 20 = 2 ∨ blN x 20 = 3 ∨ blN x 20 = 4 ∨ blN x 20 = 5 ∨ blN x 20 = 6 ∨ blN x 20 = 7 ∨ blN x 20 = 8 ∨ blN x 20 = 9 ∨ blN x 20 = 10 ∨ blN x 20 = 11 ∨ blN x 20 = 12 ∨ blN x 20 = 13 ∨ blN x 20 = 14 ∨ blN x 20 = 15 ∨ blN x 20 = 16 ∨ blN x 20 = 17 ∨ blN x 20 = 18 ∨ blN x 20 = 19 := by omega
  rcases hcs with hz | hz | hz | hz | hz | hz | hz | hz | hz | hz | hz | hz | hz | hz | hz | hz | hz | hz | hz | hz
  · skip
    refine W.eq (g2 := F0 M_ _ ls [.int (nI 0)]) (by rw [hz]) ?_
    refine lv_tableIn (off := 82) (tgt := 140) hx hb dL_act_58 (by decide) (by decide) (by decide) (by decide) ?_
    exact a_140 hfl hJ hk hd hg hz9 (by omega) G hall hxt hX hN hG (lv_sub hl [6, 7, 5, 4, 3, 2, 1, 0] rfl)
  · skip
    refine W.eq (g2 := F0 M_ _ ls [.int (nI 1)]) (by rw [hz]) ?_
    refine lv_tableIn (off := 123) (tgt := 181) hx hb dL_act_58 (by decide) (by decide) (by decide) (by decide) ?_
    exact a_181 hfl hJ hk hd hg hz9 (by omega) G hall hxt hX hN hG (lv_sub hl [6, 7, 5, 4, 3, 2, 1, 0] rfl)
  · skip
    refine W.eq (g2 := F0 M_ _ ls [.int (nI 2)]) (by rw [hz]) ?_
    refine lv_tableIn (off := 123) (tgt := 181) hx hb dL_act_58 (by decide) (by decide) (by decide) (by decide) ?_
    exact a_181 hfl hJ hk hd hg hz9 (by omega) G hall hxt hX hN hG (lv_sub hl [6, 7, 5, 4, 3, 2, 1, 0] rfl)
  · skip
    refine W.eq (g2 := F0 M_ _ ls [.int (nI 3)]) (by rw [hz]) ?_
    refine lv_tableIn (off := 123) (tgt := 181) hx hb dL_act_58 (by decide) (by decide) (by decide) (by decide) ?_
    exact a_181 hfl hJ hk hd hg hz9 (by omega) G hall hxt hX hN hG (lv_sub hl [6, 7, 5, 4, 3, 2, 1, 0] rfl)
  · skip
    refine W.eq (g2 := F0 M_ _ ls [.int (nI 4)]) (by rw [hz]) ?_
    refine lv_tableIn (off := 123) (tgt := 181) hx hb dL_act_58 (by decide) (by decide) (by decide) (by decide) ?_
    exact a_181 hfl hJ hk hd hg hz9 (by omega) G hall hxt hX hN hG (lv_sub hl [6, 7, 5, 4, 3, 2, 1, 0] rfl)
  · skip
    refine W.eq (g2 := F0 M_ _ ls [.int (nI 5)]) (by rw [hz]) ?_
    refine lv_tableIn (off := 163) (tgt := 221) hx hb dL_act_58 (by decide) (by decide) (by decide) (by decide) ?_
    exact a_221 hfl hJ hk hd hg hz9 (by omega) G hall hxt hX hN hG (lv_sub hl [6, 7, 5, 4, 3, 2, 1, 0] rfl)
  · skip
    refine W.eq (g2 := F0 M_ _ ls [.int (nI 6)]) (by rw [hz]) ?_
    refine lv_tableIn (off := 210) (tgt := 268) hx hb dL_act_58 (by decide) (by decide) (by decide) (by decide) ?_
    exact a_268 hfl hJ hk hd hg hz9 (by omega) G hall hxt hX hN hG (lv_sub hl [6, 7, 5, 4, 3, 2, 1, 0] rfl)
  · skip
    refine W.eq (g2 := F0 M_ _ ls [.int (nI 7)]) (by rw [hz]) ?_
    refine lv_tableIn (off := 288) (tgt := 346) hx hb dL_act_58 (by decide) (by decide) (by decide) (by decide) ?_
    exact a_346 hfl hJ hk hd hg hz9 (by omega) G hall hxt hX hN hG (lv_sub hl [6, 7, 5, 4, 3, 2, 1, 0] rfl)
  · skip
    refine W.eq (g2 := F0 M_ _ ls [.int (nI 8)]) (by rw [hz]) ?_
    refine lv_tableIn (off := 288) (tgt := 346) hx hb dL_act_58 (by decide) (by decide) (by decide) (by decide) ?_
    exact a_346 hfl hJ hk hd hg hz9 (by omega) G hall hxt hX hN hG (lv_sub hl [6, 7, 5, 4, 3, 2, 1, 0] rfl)
  · skip
    refine W.eq (g2 := F0 M_ _ ls [.int (nI 9)]) (by rw [hz]) ?_
    refine lv_tableIn (off := 312) (tgt := 370) hx hb dL_act_58 (by decide) (by decide) (by decide) (by decide) ?_
    exact a_370 hfl hJ hk hd hg hz9 (by omega) G hall hxt hX hN hG (lv_sub hl [6, 7, 5, 4, 3, 2, 1, 0] rfl)
  · skip
    refine W.eq (g2 := F0 M_ _ ls [.int (nI 10)]) (by rw [hz]) ?_
    refine lv_tableIn (off := 370) (tgt := 428) hx hb dL_act_58 (by decide) (by decide) (by decide) (by decide) ?_
    exact a_428 hfl hJ hk hd hg hz9 (by omega) G hall hxt hX hN hG (lv_sub hl [6, 7, 5, 4, 3, 2, 1, 0] rfl)
  · skip
    refine W.eq (g2 := F0 M_ _ ls [.int (nI 11)]) (by rw [hz]) ?_
    refine lv_tableIn (off := 424) (tgt := 482) hx hb dL_act_58 (by decide) (by decide) (by decide) (by decide) ?_
    exact a_482 hfl hJ hk hd hg hz9 (by omega) G hall hxt hX hN hG (lv_sub hl [6, 7, 5, 4, 3, 2, 1, 0] rfl)
  · skip
    refine W.eq (g2 := F0 M_ _ ls [.int (nI 12)]) (by rw [hz]) ?_
    refine lv_tableIn (off := 424) (tgt := 482) hx hb dL_act_58 (by decide) (by decide) (by decide) (by decide) ?_
    exact a_482 hfl hJ hk hd hg hz9 (by omega) G hall hxt hX hN hG (lv_sub hl [6, 7, 5, 4, 3, 2, 1, 0] rfl)
  · skip
    refine W.eq (g2 := F0 M_ _ ls [.int (nI 13)]) (by rw [hz]) ?_
    refine lv_tableIn (off := 491) (tgt := 549) hx hb dL_act_58 (by decide) (by decide) (by decide) (by decide) ?_
    exact a_549 hfl hJ hk hd hg hz9 (by omega) G hall hxt hX hN hG (lv_sub hl [6, 7, 5, 4, 3, 2, 1, 0] rfl)
  · skip
    refine W.eq (g2 := F0 M_ _ ls [.int (nI 14)]) (by rw [hz]) ?_
    refine lv_tableIn (off := 491) (tgt := 549) hx hb dL_act_58 (by decide) (by decide) (by decide) (by decide) ?_
    exact a_549 hfl hJ hk hd hg hz9 (by omega) G hall hxt hX hN hG (lv_sub hl [6, 7, 5, 4, 3, 2, 1, 0] rfl)
  · skip
    refine W.eq (g2 := F0 M_ _ ls [.int (nI 15)]) (by rw [hz]) ?_
    refine lv_tableIn (off := 491) (tgt := 549) hx hb dL_act_58 (by decide) (by decide) (by decide) (by decide) ?_
    exact a_549 hfl hJ hk hd hg hz9 (by omega) G hall hxt hX hN hG (lv_sub hl [6, 7, 5, 4, 3, 2, 1, 0] rfl)
  · skip
    refine W.eq (g2 := F0 M_ _ ls [.int (nI 16)]) (by rw [hz]) ?_
    refine lv_tableIn (off := 559) (tgt := 617) hx hb dL_act_58 (by decide) (by decide) (by decide) (by decide) ?_
    exact a_617 hfl hJ hk hd hg hz9 (by omega) G hall hxt hX hN hG (lv_sub hl [6, 7, 5, 4, 3, 2, 1, 0] rfl)
  · skip
    refine W.eq (g2 := F0 M_ _ ls [.int (nI 17)]) (by rw [hz]) ?_
    refine lv_tableOut (tgt := 671) hx hb dL_act_58 (by decide) (by decide) ?_
    exact a_671 hfl hJ hk hd hg hz9 (by omega) G hall hxt hX hN hG (lv_sub hl [6, 7, 5, 4, 3, 2, 1, 0] rfl)
  · skip
    refine W.eq (g2 := F0 M_ _ ls [.int (nI 18)]) (by rw [hz]) ?_
    refine lv_tableOut (tgt := 671) hx hb dL_act_58 (by decide) (by decide) ?_
    exact a_671 hfl hJ hk hd hg hz9 (by omega) G hall hxt hX hN hG (lv_sub hl [6, 7, 5, 4, 3, 2, 1, 0] rfl)
  · skip
    refine W.eq (g2 := F0 M_ _ ls [.int (nI 19)]) (by rw [hz]) ?_
    refine lv_tableOut (tgt := 671) hx hb dL_act_58 (by decide) (by decide) ?_
    exact a_671 hfl hJ hk hd hg hz9 (by omega) G hall hxt hX hN hG (lv_sub hl [6, 7, 5, 4, 3, 2, 1, 0] rfl)
