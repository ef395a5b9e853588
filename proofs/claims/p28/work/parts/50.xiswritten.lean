set_option maxRecDepth 100000 in
set_option maxHeartbeats 4000000 in
theorem x_L_isWritten (l : Launch) (hfl : l.stackTraces = false) (w : GP) (f : CS) (x : Int32) (d : Nat) (g : Nat) (k : Nat) (hI : gI f) (hd : d < nD f) (hg : g < 3) (hk : k < nT f) (hst9 : ∃ st, st < 20 ∧ f 4 k = nI st) (h5 : f 12 (d * 3 + g) = nI 1) : vx_Met l yL_isWritten (gxs yL_isWritten cL_isWritten 9 (some .boolean)) ({ frames := 7, cells := 1, slots := 6, locals := 131 }) (gPx w f [.ref (w.2.2.2 0), .int x, .int (nI d), .int (nI g), .int (nI k)]) noQ (gT eS) 1 6 (fun _ => False) := by
  refine x_read (by decide) (Nat.le_of_ble_eq_true rfl) ?_
  intro P_ E_ S_ M_ B_ T_ C_ ls G hall hxt hX hV hl
  obtain ⟨hx, hb, hml, hown, hts⟩ := id G.1
  obtain ⟨⟨hT, hT24⟩, ⟨hC, hC12⟩, ⟨hD, hD6⟩, hLn⟩ := id hI
  have hl : lv_has ls 9 [(0, .ref (w.2.2.2 0)), (1, .int x), (2, .int (nI d)), (3, .int (nI g)), (4, .int (nI k))] := hl
  obtain ⟨st, hs20, hst⟩ := hst9
  have hLt := hLn (d * 3 + g) (by omega)
  have b12 := bl_lt (x >>> (nI 5 &&& 31)) (n := 12) (by decide)
  have b24 := bl_lt (x >>> (nI 5 &&& 31)) (n := 24) (by decide)
  have b3 := bl_lt (x >>> (nI 7 &&& 31)) (n := 3) (by decide)
  refine lv_aload_n hx hb dL_isWritten_0 rfl (lv_at hl 0 rfl) ?_
  refine lv_iload_n hx hb dL_isWritten_1 rfl (lv_at hl 2 rfl) ?_
  refine lv_iload_n hx hb dL_isWritten_2 rfl (lv_at hl 3 rfl) ?_
  refine lv_iconst (v := nI 0) hx hb dL_isWritten_3 (by decide) ?_
  refine g_callV (v := .int (nI (nL f (d * 3 + g)))) (As := [.int (nI d), .int (nI g), .int (nI 0)]) (rest := []) G.1 hV 0 (by decide) rfl rfl ok_X2_ofText gm_369 gm_370 gm_465 (c_X2_ofText l w f d g 0 hI (by omega) (by omega) (by omega)) ⟨rfl, rfl⟩ ⟨Nat.le_of_ble_eq_true rfl, Nat.le_of_ble_eq_true rfl⟩ rfl hl.1 rfl (Nat.le_of_ble_eq_true rfl) ⟨Nat.zero_le _, Nat.zero_le _⟩ dL_isWritten_4 ?_
  refine lv_istore (lv' := [(5, .int (nI (nL f (d * 3 + g)))), (0, .ref (w.2.2.2 0)), (1, .int x), (2, .int (nI d)), (3, .int (nI g)), (4, .int (nI k))]) hx hb dL_isWritten_7 hl (by decide) rfl (fun ls hl => ?_)
  refine lv_iload hx hb dL_isWritten_9 (lv_at hl 0 rfl) ?_
  refine lv_bipush (v := nI 12) hx hb dL_isWritten_11 (by decide) ?_
  refine lv_icmp_ge (tgt := 21) hx hb dL_isWritten_13 (by decide) (fun c13 => ?_) (fun c13 => ?_)
  · skip
    have c13 : 12 ≤ (nL f (d * 3 + g)) := (g_le (by omega) (by omega)).mp c13
    refine lv_iload_n hx hb dL_isWritten_21 rfl (lv_at hl 2 rfl) ?_
    refine lv_iconst (v := nI 5) hx hb dL_isWritten_22 (by decide) ?_
    refine lv_ishr hx hb dL_isWritten_23 ?_
    refine lv_bipush (v := nI 12) hx hb dL_isWritten_24 (by decide) ?_
    refine g_callS (As := [.int (x >>> ((nI 5) &&& 31)), .int (nI 12)]) (rest := []) G.1 hV ok_L_below gm_467 gm_466 (c_L_below l w f (x >>> ((nI 5) &&& 31)) 12  (by omega) (by omega)) ⟨rfl, rfl⟩ ⟨Nat.le_of_ble_eq_true rfl, Nat.le_of_ble_eq_true rfl⟩ rfl hl.1 rfl (Nat.le_of_ble_eq_true rfl) ⟨Nat.zero_le _, Nat.zero_le _⟩ dL_isWritten_26 ?_
    refine lv_istore (lv' := [(6, .int (nI (blN (x >>> ((nI 5) &&& 31)) 12))), (5, .int (nI (nL f (d * 3 + g)))), (0, .ref (w.2.2.2 0)), (1, .int x), (2, .int (nI d)), (3, .int (nI g)), (4, .int (nI k))]) hx hb dL_isWritten_29 hl (by decide) rfl (fun ls hl => ?_)
    refine lv_aload_n hx hb dL_isWritten_31 rfl (lv_at hl 2 rfl) ?_
    refine lv_iload_n hx hb dL_isWritten_32 rfl (lv_at hl 4 rfl) ?_
    refine lv_iload_n hx hb dL_isWritten_33 rfl (lv_at hl 5 rfl) ?_
    refine lv_iload hx hb dL_isWritten_34 (lv_at hl 0 rfl) ?_
    refine lv_iload hx hb dL_isWritten_36 (lv_at hl 6 rfl) ?_
    refine g_callV (As := [.int (nI d), .int (nI g), .int (nI (blN (x >>> ((nI 5) &&& 31)) 12)), .int (nI k)]) (rest := []) G.1 hV 0 (by decide) rfl rfl ok_X2_formFor gm_401 gm_402 gm_470 (c_X2_formFor l w f d g (blN (x >>> ((nI 5) &&& 31)) 12) k hI (by omega) (by omega) (by split <;> omega) (by omega)) ⟨rfl, rfl⟩ ⟨Nat.le_of_ble_eq_true rfl, Nat.le_of_ble_eq_true rfl⟩ rfl hl.1 rfl (Nat.le_of_ble_eq_true rfl) ⟨Nat.zero_le _, Nat.zero_le _⟩ dL_isWritten_38 ?_
    refine lv_istore (lv' := [(7, .int (ffF f (d * 3 + g) (blN (x >>> ((nI 5) &&& 31)) 12) k)), (6, .int (nI (blN (x >>> ((nI 5) &&& 31)) 12))), (5, .int (nI (nL f (d * 3 + g)))), (0, .ref (w.2.2.2 0)), (1, .int x), (2, .int (nI d)), (3, .int (nI g)), (4, .int (nI k))]) hx hb dL_isWritten_41 hl (by decide) rfl (fun ls hl => ?_)
    rcases ff_cases (f := f) (t := d * 3 + g) (p := blN (x >>> ((nI 5) &&& 31)) 12) (k := k) hst with e | ⟨eu, e⟩
    · skip
      rw [e] at hl
      refine lv_iload hx hb dL_isWritten_43 (lv_at hl 0 rfl) ?_
      refine lv_if_lt (tgt := 59) hx hb dL_isWritten_45 (by decide) (fun c45 => ?_) (fun c45 => ?_)
      · skip
        refine lv_iload_n hx hb dL_isWritten_59 rfl (lv_at hl 4 rfl) ?_
        refine lv_iconst (v := nI 5) hx hb dL_isWritten_60 (by decide) ?_
        refine lv_ishr hx hb dL_isWritten_61 ?_
        refine lv_bipush (v := nI 24) hx hb dL_isWritten_62 (by decide) ?_
        refine g_callS (As := [.int (x >>> ((nI 5) &&& 31)), .int (nI 24)]) (rest := []) G.1 hV ok_L_below gm_467 gm_466 (c_L_below l w f (x >>> ((nI 5) &&& 31)) 24  (by omega) (by omega)) ⟨rfl, rfl⟩ ⟨Nat.le_of_ble_eq_true rfl, Nat.le_of_ble_eq_true rfl⟩ rfl hl.1 rfl (Nat.le_of_ble_eq_true rfl) ⟨Nat.zero_le _, Nat.zero_le _⟩ dL_isWritten_64 ?_
        refine lv_goto (tgt := 72) hx hb dL_isWritten_67 (by decide) ?_
        refine lv_istore (lv' := [(8, .int (nI (blN (x >>> ((nI 5) &&& 31)) 24))), (7, .int (-1)), (6, .int (nI (blN (x >>> ((nI 5) &&& 31)) 12))), (5, .int (nI (nL f (d * 3 + g)))), (0, .ref (w.2.2.2 0)), (1, .int x), (2, .int (nI d)), (3, .int (nI g)), (4, .int (nI k))]) hx hb dL_isWritten_72 hl (by decide) rfl (fun ls hl => ?_)
        refine lv_aload_n hx hb dL_isWritten_74 rfl (lv_at hl 4 rfl) ?_
        refine lv_iload_n hx hb dL_isWritten_75 rfl (lv_at hl 6 rfl) ?_
        refine lv_iload_n hx hb dL_isWritten_76 rfl (lv_at hl 7 rfl) ?_
        refine lv_iload hx hb dL_isWritten_77 (lv_at hl 2 rfl) ?_
        refine lv_iload hx hb dL_isWritten_79 (lv_at hl 0 rfl) ?_
        exact g_callX (As := [.int (nI d), .int (nI g), .int (nI (blN (x >>> ((nI 5) &&& 31)) 12)), .int (nI (blN (x >>> ((nI 5) &&& 31)) 24))]) (rest := []) G.1 hall hV hX hxt G.2.2 0 (by decide) rfl rfl ok_X2_write gm_404 gm_405 gm_471 (x_X2_write l hfl w f d g (blN (x >>> ((nI 5) &&& 31)) 12) (blN (x >>> ((nI 5) &&& 31)) 24) hI (by omega) (by omega) (by split <;> omega) (by omega) (h5)) ⟨rfl, rfl⟩ ⟨Nat.le_of_ble_eq_true rfl, Nat.le_of_ble_eq_true rfl⟩ rfl hl.1 rfl (Nat.le_of_ble_eq_true rfl) ⟨Nat.le_of_ble_eq_true rfl, Nat.le_of_ble_eq_true rfl⟩ dL_isWritten_81
      · skip
        exact absurd (show (-1 : Int32) < 0 by decide) c45
    · skip
      rw [e] at hl
      refine lv_iload hx hb dL_isWritten_43 (lv_at hl 0 rfl) ?_
      refine lv_if_lt (tgt := 59) hx hb dL_isWritten_45 (by decide) (fun c45 => ?_) (fun c45 => ?_)
      · skip
        have c45 : nI (st * 4) < nI 0 := c45
        have c45 : (st * 4) < 0 := (g_lt (by omega) (by omega)).mp c45
        omega
      · skip
        have c45 : ¬ (nI (st * 4) < nI 0) := c45
        have c45 : ¬ ((st * 4) < 0) := fun q => c45 ((g_lt (by omega) (by omega)).mpr q)
        refine lv_iload_n hx hb dL_isWritten_48 rfl (lv_at hl 4 rfl) ?_
        refine lv_bipush (v := nI 7) hx hb dL_isWritten_49 (by decide) ?_
        refine lv_ishr hx hb dL_isWritten_51 ?_
        refine lv_iconst (v := nI 3) hx hb dL_isWritten_52 (by decide) ?_
        refine g_callS (As := [.int (x >>> ((nI 7) &&& 31)), .int (nI 3)]) (rest := []) G.1 hV ok_L_below gm_467 gm_466 (c_L_below l w f (x >>> ((nI 7) &&& 31)) 3  (by omega) (by omega)) ⟨rfl, rfl⟩ ⟨Nat.le_of_ble_eq_true rfl, Nat.le_of_ble_eq_true rfl⟩ rfl hl.1 rfl (Nat.le_of_ble_eq_true rfl) ⟨Nat.zero_le _, Nat.zero_le _⟩ dL_isWritten_53 ?_
        refine lv_if_ne (tgt := 70) hx hb dL_isWritten_56 (by decide) (fun c56 => ?_) (fun c56 => ?_)
        · skip
          have c56 : ¬ (nI (blN (x >>> ((nI 7) &&& 31)) 3) = nI 0) := c56
          have c56 : ¬ ((blN (x >>> ((nI 7) &&& 31)) 3) = 0) := fun q => c56 ((g_eq (Nat.lt_trans (bl_lt _ (by omega)) (by omega)) (by omega)).mpr q)
          refine lv_iload hx hb dL_isWritten_70 (lv_at hl 0 rfl) ?_
          refine lv_istore (lv' := [(8, .int (nI (st * 4))), (7, .int (nI (st * 4))), (6, .int (nI (blN (x >>> ((nI 5) &&& 31)) 12))), (5, .int (nI (nL f (d * 3 + g)))), (0, .ref (w.2.2.2 0)), (1, .int x), (2, .int (nI d)), (3, .int (nI g)), (4, .int (nI k))]) hx hb dL_isWritten_72 hl (by decide) rfl (fun ls hl => ?_)
          refine lv_aload_n hx hb dL_isWritten_74 rfl (lv_at hl 4 rfl) ?_
          refine lv_iload_n hx hb dL_isWritten_75 rfl (lv_at hl 6 rfl) ?_
          refine lv_iload_n hx hb dL_isWritten_76 rfl (lv_at hl 7 rfl) ?_
          refine lv_iload hx hb dL_isWritten_77 (lv_at hl 2 rfl) ?_
          refine lv_iload hx hb dL_isWritten_79 (lv_at hl 0 rfl) ?_
          exact g_callX (As := [.int (nI d), .int (nI g), .int (nI (blN (x >>> ((nI 5) &&& 31)) 12)), .int (nI (st * 4))]) (rest := []) G.1 hall hV hX hxt G.2.2 0 (by decide) rfl rfl ok_X2_write gm_404 gm_405 gm_471 (x_X2_write l hfl w f d g (blN (x >>> ((nI 5) &&& 31)) 12) (st * 4) hI (by omega) (by omega) (by split <;> omega) (by omega) (h5)) ⟨rfl, rfl⟩ ⟨Nat.le_of_ble_eq_true rfl, Nat.le_of_ble_eq_true rfl⟩ rfl hl.1 rfl (Nat.le_of_ble_eq_true rfl) ⟨Nat.le_of_ble_eq_true rfl, Nat.le_of_ble_eq_true rfl⟩ dL_isWritten_81
        · skip
          have c56 : nI (blN (x >>> ((nI 7) &&& 31)) 3) = nI 0 := c56
          have c56 : (blN (x >>> ((nI 7) &&& 31)) 3) = 0 := (g_eq (Nat.lt_trans (bl_lt _ (by omega)) (by omega)) (by omega)).mp c56
          refine lv_iload_n hx hb dL_isWritten_59 rfl (lv_at hl 4 rfl) ?_
          refine lv_iconst (v := nI 5) hx hb dL_isWritten_60 (by decide) ?_
          refine lv_ishr hx hb dL_isWritten_61 ?_
          refine lv_bipush (v := nI 24) hx hb dL_isWritten_62 (by decide) ?_
          refine g_callS (As := [.int (x >>> ((nI 5) &&& 31)), .int (nI 24)]) (rest := []) G.1 hV ok_L_below gm_467 gm_466 (c_L_below l w f (x >>> ((nI 5) &&& 31)) 24  (by omega) (by omega)) ⟨rfl, rfl⟩ ⟨Nat.le_of_ble_eq_true rfl, Nat.le_of_ble_eq_true rfl⟩ rfl hl.1 rfl (Nat.le_of_ble_eq_true rfl) ⟨Nat.zero_le _, Nat.zero_le _⟩ dL_isWritten_64 ?_
          refine lv_goto (tgt := 72) hx hb dL_isWritten_67 (by decide) ?_
          refine lv_istore (lv' := [(8, .int (nI (blN (x >>> ((nI 5) &&& 31)) 24))), (7, .int (nI (st * 4))), (6, .int (nI (blN (x >>> ((nI 5) &&& 31)) 12))), (5, .int (nI (nL f (d * 3 + g)))), (0, .ref (w.2.2.2 0)), (1, .int x), (2, .int (nI d)), (3, .int (nI g)), (4, .int (nI k))]) hx hb dL_isWritten_72 hl (by decide) rfl (fun ls hl => ?_)
          refine lv_aload_n hx hb dL_isWritten_74 rfl (lv_at hl 4 rfl) ?_
          refine lv_iload_n hx hb dL_isWritten_75 rfl (lv_at hl 6 rfl) ?_
          refine lv_iload_n hx hb dL_isWritten_76 rfl (lv_at hl 7 rfl) ?_
          refine lv_iload hx hb dL_isWritten_77 (lv_at hl 2 rfl) ?_
          refine lv_iload hx hb dL_isWritten_79 (lv_at hl 0 rfl) ?_
          exact g_callX (As := [.int (nI d), .int (nI g), .int (nI (blN (x >>> ((nI 5) &&& 31)) 12)), .int (nI (blN (x >>> ((nI 5) &&& 31)) 24))]) (rest := []) G.1 hall hV hX hxt G.2.2 0 (by decide) rfl rfl ok_X2_write gm_404 gm_405 gm_471 (x_X2_write l hfl w f d g (blN (x >>> ((nI 5) &&& 31)) 12) (blN (x >>> ((nI 5) &&& 31)) 24) hI (by omega) (by omega) (by split <;> omega) (by omega) (h5)) ⟨rfl, rfl⟩ ⟨Nat.le_of_ble_eq_true rfl, Nat.le_of_ble_eq_true rfl⟩ rfl hl.1 rfl (Nat.le_of_ble_eq_true rfl) ⟨Nat.le_of_ble_eq_true rfl, Nat.le_of_ble_eq_true rfl⟩ dL_isWritten_81
  · skip
    have c13 : ¬ (12 ≤ (nL f (d * 3 + g))) := fun q => c13 ((g_le (by omega) (by omega)).mpr q)
    refine lv_iload hx hb dL_isWritten_16 (lv_at hl 0 rfl) ?_
    refine lv_goto (tgt := 29) hx hb dL_isWritten_18 (by decide) ?_
    refine lv_istore (lv' := [(6, .int (nI (nL f (d * 3 + g)))), (5, .int (nI (nL f (d * 3 + g)))), (0, .ref (w.2.2.2 0)), (1, .int x), (2, .int (nI d)), (3, .int (nI g)), (4, .int (nI k))]) hx hb dL_isWritten_29 hl (by decide) rfl (fun ls hl => ?_)
    refine lv_aload_n hx hb dL_isWritten_31 rfl (lv_at hl 2 rfl) ?_
    refine lv_iload_n hx hb dL_isWritten_32 rfl (lv_at hl 4 rfl) ?_
    refine lv_iload_n hx hb dL_isWritten_33 rfl (lv_at hl 5 rfl) ?_
    refine lv_iload hx hb dL_isWritten_34 (lv_at hl 0 rfl) ?_
    refine lv_iload hx hb dL_isWritten_36 (lv_at hl 6 rfl) ?_
    refine g_callV (As := [.int (nI d), .int (nI g), .int (nI (nL f (d * 3 + g))), .int (nI k)]) (rest := []) G.1 hV 0 (by decide) rfl rfl ok_X2_formFor gm_401 gm_402 gm_470 (c_X2_formFor l w f d g (nL f (d * 3 + g)) k hI (by omega) (by omega) (by split <;> omega) (by omega)) ⟨rfl, rfl⟩ ⟨Nat.le_of_ble_eq_true rfl, Nat.le_of_ble_eq_true rfl⟩ rfl hl.1 rfl (Nat.le_of_ble_eq_true rfl) ⟨Nat.zero_le _, Nat.zero_le _⟩ dL_isWritten_38 ?_
    refine lv_istore (lv' := [(7, .int (ffF f (d * 3 + g) (nL f (d * 3 + g)) k)), (6, .int (nI (nL f (d * 3 + g)))), (5, .int (nI (nL f (d * 3 + g)))), (0, .ref (w.2.2.2 0)), (1, .int x), (2, .int (nI d)), (3, .int (nI g)), (4, .int (nI k))]) hx hb dL_isWritten_41 hl (by decide) rfl (fun ls hl => ?_)
    rcases ff_cases (f := f) (t := d * 3 + g) (p := nL f (d * 3 + g)) (k := k) hst with e | ⟨eu, e⟩
    · skip
      rw [e] at hl
      refine lv_iload hx hb dL_isWritten_43 (lv_at hl 0 rfl) ?_
      refine lv_if_lt (tgt := 59) hx hb dL_isWritten_45 (by decide) (fun c45 => ?_) (fun c45 => ?_)
      · skip
        refine lv_iload_n hx hb dL_isWritten_59 rfl (lv_at hl 4 rfl) ?_
        refine lv_iconst (v := nI 5) hx hb dL_isWritten_60 (by decide) ?_
        refine lv_ishr hx hb dL_isWritten_61 ?_
        refine lv_bipush (v := nI 24) hx hb dL_isWritten_62 (by decide) ?_
        refine g_callS (As := [.int (x >>> ((nI 5) &&& 31)), .int (nI 24)]) (rest := []) G.1 hV ok_L_below gm_467 gm_466 (c_L_below l w f (x >>> ((nI 5) &&& 31)) 24  (by omega) (by omega)) ⟨rfl, rfl⟩ ⟨Nat.le_of_ble_eq_true rfl, Nat.le_of_ble_eq_true rfl⟩ rfl hl.1 rfl (Nat.le_of_ble_eq_true rfl) ⟨Nat.zero_le _, Nat.zero_le _⟩ dL_isWritten_64 ?_
        refine lv_goto (tgt := 72) hx hb dL_isWritten_67 (by decide) ?_
        refine lv_istore (lv' := [(8, .int (nI (blN (x >>> ((nI 5) &&& 31)) 24))), (7, .int (-1)), (6, .int (nI (nL f (d * 3 + g)))), (5, .int (nI (nL f (d * 3 + g)))), (0, .ref (w.2.2.2 0)), (1, .int x), (2, .int (nI d)), (3, .int (nI g)), (4, .int (nI k))]) hx hb dL_isWritten_72 hl (by decide) rfl (fun ls hl => ?_)
        refine lv_aload_n hx hb dL_isWritten_74 rfl (lv_at hl 4 rfl) ?_
        refine lv_iload_n hx hb dL_isWritten_75 rfl (lv_at hl 6 rfl) ?_
        refine lv_iload_n hx hb dL_isWritten_76 rfl (lv_at hl 7 rfl) ?_
        refine lv_iload hx hb dL_isWritten_77 (lv_at hl 2 rfl) ?_
        refine lv_iload hx hb dL_isWritten_79 (lv_at hl 0 rfl) ?_
        exact g_callX (As := [.int (nI d), .int (nI g), .int (nI (nL f (d * 3 + g))), .int (nI (blN (x >>> ((nI 5) &&& 31)) 24))]) (rest := []) G.1 hall hV hX hxt G.2.2 0 (by decide) rfl rfl ok_X2_write gm_404 gm_405 gm_471 (x_X2_write l hfl w f d g (nL f (d * 3 + g)) (blN (x >>> ((nI 5) &&& 31)) 24) hI (by omega) (by omega) (by split <;> omega) (by omega) (h5)) ⟨rfl, rfl⟩ ⟨Nat.le_of_ble_eq_true rfl, Nat.le_of_ble_eq_true rfl⟩ rfl hl.1 rfl (Nat.le_of_ble_eq_true rfl) ⟨Nat.le_of_ble_eq_true rfl, Nat.le_of_ble_eq_true rfl⟩ dL_isWritten_81
      · skip
        exact absurd (show (-1 : Int32) < 0 by decide) c45
    · skip
      rw [e] at hl
      refine lv_iload hx hb dL_isWritten_43 (lv_at hl 0 rfl) ?_
      refine lv_if_lt (tgt := 59) hx hb dL_isWritten_45 (by decide) (fun c45 => ?_) (fun c45 => ?_)
      · skip
        have c45 : nI (st * 4) < nI 0 := c45
        have c45 : (st * 4) < 0 := (g_lt (by omega) (by omega)).mp c45
        omega
      · skip
        have c45 : ¬ (nI (st * 4) < nI 0) := c45
        have c45 : ¬ ((st * 4) < 0) := fun q => c45 ((g_lt (by omega) (by omega)).mpr q)
        refine lv_iload_n hx hb dL_isWritten_48 rfl (lv_at hl 4 rfl) ?_
        refine lv_bipush (v := nI 7) hx hb dL_isWritten_49 (by decide) ?_
        refine lv_ishr hx hb dL_isWritten_51 ?_
        refine lv_iconst (v := nI 3) hx hb dL_isWritten_52 (by decide) ?_
        refine g_callS (As := [.int (x >>> ((nI 7) &&& 31)), .int (nI 3)]) (rest := []) G.1 hV ok_L_below gm_467 gm_466 (c_L_below l w f (x >>> ((nI 7) &&& 31)) 3  (by omega) (by omega)) ⟨rfl, rfl⟩ ⟨Nat.le_of_ble_eq_true rfl, Nat.le_of_ble_eq_true rfl⟩ rfl hl.1 rfl (Nat.le_of_ble_eq_true rfl) ⟨Nat.zero_le _, Nat.zero_le _⟩ dL_isWritten_53 ?_
        refine lv_if_ne (tgt := 70) hx hb dL_isWritten_56 (by decide) (fun c56 => ?_) (fun c56 => ?_)
        · skip
          have c56 : ¬ (nI (blN (x >>> ((nI 7) &&& 31)) 3) = nI 0) := c56
          have c56 : ¬ ((blN (x >>> ((nI 7) &&& 31)) 3) = 0) := fun q => c56 ((g_eq (Nat.lt_trans (bl_lt _ (by omega)) (by omega)) (by omega)).mpr q)
          refine lv_iload hx hb dL_isWritten_70 (lv_at hl 0 rfl) ?_
          refine lv_istore (lv' := [(8, .int (nI (st * 4))), (7, .int (nI (st * 4))), (6, .int (nI (nL f (d * 3 + g)))), (5, .int (nI (nL f (d * 3 + g)))), (0, .ref (w.2.2.2 0)), (1, .int x), (2, .int (nI d)), (3, .int (nI g)), (4, .int (nI k))]) hx hb dL_isWritten_72 hl (by decide) rfl (fun ls hl => ?_)
          refine lv_aload_n hx hb dL_isWritten_74 rfl (lv_at hl 4 rfl) ?_
          refine lv_iload_n hx hb dL_isWritten_75 rfl (lv_at hl 6 rfl) ?_
          refine lv_iload_n hx hb dL_isWritten_76 rfl (lv_at hl 7 rfl) ?_
          refine lv_iload hx hb dL_isWritten_77 (lv_at hl 2 rfl) ?_
          refine lv_iload hx hb dL_isWritten_79 (lv_at hl 0 rfl) ?_
          exact g_callX (As := [.int (nI d), .int (nI g), .int (nI (nL f (d * 3 + g))), .int (nI (st * 4))]) (rest := []) G.1 hall hV hX hxt G.2.2 0 (by decide) rfl rfl ok_X2_write gm_404 gm_405 gm_471 (x_X2_write l hfl w f d g (nL f (d * 3 + g)) (st * 4) hI (by omega) (by omega) (by split <;> omega) (by omega) (h5)) ⟨rfl, rfl⟩ ⟨Nat.le_of_ble_eq_true rfl, Nat.le_of_ble_eq_true rfl⟩ rfl hl.1 rfl (Nat.le_of_ble_eq_true rfl) ⟨Nat.le_of_ble_eq_true rfl, Nat.le_of_ble_eq_true rfl⟩ dL_isWritten_81
        · skip
          have c56 : nI (blN (x >>> ((nI 7) &&& 31)) 3) = nI 0 := c56
          have c56 : (blN (x >>> ((nI 7) &&& 31)) 3) = 0 := (g_eq (Nat.lt_trans (bl_lt _ (by omega)) (by omega)) (by omega)).mp c56
          refine lv_iload_n hx hb dL_isWritten_59 rfl (lv_at hl 4 rfl) ?_
          refine lv_iconst (v := nI 5) hx hb dL_isWritten_60 (by decide) ?_
          refine lv_ishr hx hb dL_isWritten_61 ?_
          refine lv_bipush (v := nI 24) hx hb dL_isWritten_62 (by decide) ?_
          refine g_callS (As := [.int (x >>> ((nI 5) &&& 31)), .int (nI 24)]) (rest := []) G.1 hV ok_L_below gm_467 gm_466 (c_L_below l w f (x >>> ((nI 5) &&& 31)) 24  (by omega) (by omega)) ⟨rfl, rfl⟩ ⟨Nat.le_of_ble_eq_true rfl, Nat.le_of_ble_eq_true rfl⟩ rfl hl.1 rfl (Nat.le_of_ble_eq_true rfl) ⟨Nat.zero_le _, Nat.zero_le _⟩ dL_isWritten_64 ?_
          refine lv_goto (tgt := 72) hx hb dL_isWritten_67 (by decide) ?_
          refine lv_istore (lv' := [(8, .int (nI (blN (x >>> ((nI 5) &&& 31)) 24))), (7, .int (nI (st * 4))), (6, .int (nI (nL f (d * 3 + g)))), (5, .int (nI (nL f (d * 3 + g)))), (0, .ref (w.2.2.2 0)), (1, .int x), (2, .int (nI d)), (3, .int (nI g)), (4, .int (nI k))]) hx hb dL_isWritten_72 hl (by decide) rfl (fun ls hl => ?_)
          refine lv_aload_n hx hb dL_isWritten_74 rfl (lv_at hl 4 rfl) ?_
          refine lv_iload_n hx hb dL_isWritten_75 rfl (lv_at hl 6 rfl) ?_
          refine lv_iload_n hx hb dL_isWritten_76 rfl (lv_at hl 7 rfl) ?_
          refine lv_iload hx hb dL_isWritten_77 (lv_at hl 2 rfl) ?_
          refine lv_iload hx hb dL_isWritten_79 (lv_at hl 0 rfl) ?_
          exact g_callX (As := [.int (nI d), .int (nI g), .int (nI (nL f (d * 3 + g))), .int (nI (blN (x >>> ((nI 5) &&& 31)) 24))]) (rest := []) G.1 hall hV hX hxt G.2.2 0 (by decide) rfl rfl ok_X2_write gm_404 gm_405 gm_471 (x_X2_write l hfl w f d g (nL f (d * 3 + g)) (blN (x >>> ((nI 5) &&& 31)) 24) hI (by omega) (by omega) (by split <;> omega) (by omega) (h5)) ⟨rfl, rfl⟩ ⟨Nat.le_of_ble_eq_true rfl, Nat.le_of_ble_eq_true rfl⟩ rfl hl.1 rfl (Nat.le_of_ble_eq_true rfl) ⟨Nat.le_of_ble_eq_true rfl, Nat.le_of_ble_eq_true rfl⟩ dL_isWritten_81
