/-! The law's helpers, on the empty house. -/
theorem f0_I : gI f0 := by unfold gI; decide +kernel
theorem f0_ma : ∀ q, q < 13 → maF f0 q = nI 0 := by decide +kernel
theorem f0_nD : nD f0 = 0 := by decide +kernel
theorem f0_ri (k : Nat) : riF f0 k = nI 0 := by
  unfold riF roN
  rw [f0_nD]
  rfl
theorem f0_pan : ∀ k, nD (paF f0 k) = 0
  | 0 => f0_nD
  | k + 1 => by
    have h : nD (pa1 (paF f0 k)) = 0 := by
      rw [← f0_pan k]
      unfold nD pa1
      rw [gset_ne (by omega)]
    show nD (rpF (pa1 (paF f0 k)) _ (nD (pa1 (paF f0 k)))) = 0
    rw [h, rpF_0, h]
theorem f0_pa : ∀ k, paN f0 k = 0
  | 0 => rfl
  | k + 1 => by
    have h : nD (pa1 (paF f0 k)) = 0 := by
      rw [← f0_pan k]
      unfold nD pa1
      rw [gset_ne (by omega)]
    show paN f0 k + roN (pa1 (paF f0 k)) _ = 0
    rw [f0_pa k]
    unfold roN
    rw [h]
    rfl
theorem f0_d {n : Nat} (h : n ≤ 40) : f0 0 3 + nI n ≤ nI 199 := by
  show (0 : Int32) + nI n ≤ nI 199
  rw [Int32.zero_add]
  exact (g_le (by omega) (by omega)).mpr (by omega)
theorem f0_dig : dig f0 = mdg 14 := by decide +kernel
theorem f0_mc : mcF f0 = FP.dconst0 := if_pos (by decide +kernel)
theorem f0_sc : scN f0 ≤ 600 ∧ twN f0 ≤ 6 := by decide +kernel
set_option maxRecDepth 100000 in
set_option maxHeartbeats 4000000 in
theorem c_L_concept_x (l : Launch) (hfl : l.stackTraces = false) (w : GP) (o : Nat) (x : Int32) (h0 : ¬ (0 ≤ x ∧ x < nI 4)) : Met l yL_concept (ghs yL_concept cL_concept 4 (some .int) [(0, 9, 12, 13), (0, 9, 15, 15)]) ({ frames := 8, cells := 1, slots := 6, locals := 124 }) (gPx w f0 [.ref (w.2.2.2 0), .int x, .ref o]) (gRn (.int (nI 1))) 1 6 (fun _ => False) := by
  refine w_read (by decide) (Nat.le_of_ble_eq_true rfl) ?_
  intro P_ E_ S_ M_ B_ T_ C_ ls G hall hxt hB9 hl
  obtain ⟨hx, hb, hml, hown, hts⟩ := id G.1
  have hl : lv_has ls 4 [(0, .ref (w.2.2.2 0)), (1, .int x), (2, .ref o)] := hl
  refine lv_aload_n hx hb dL_concept_0 rfl (lv_at hl 2 rfl) ?_
  refine lv_iconst (v := nI 0) hx hb dL_concept_1 (by decide) ?_
  refine lv_aload_n hx hb dL_concept_2 rfl (lv_at hl 0 rfl) ?_
  refine lv_iload_n hx hb dL_concept_3 rfl (lv_at hl 1 rfl) ?_
  obtain ⟨hV, hX⟩ := hB9
  refine a_thr (a_runX (rest := [.int (nI 0), .ref o]) G.1 hall hV hX 0 (by decide) (show gE w f0 0 = .inr (2, _) from rfl) rfl ok_X2_concept gm_569 gm_570 gm_568 (x_X2_concept l hfl w f0 x f0_I h0) ⟨rfl, rfl⟩ ⟨Nat.le_of_ble_eq_true rfl, Nat.le_of_ble_eq_true rfl⟩ rfl hl.1 rfl (Nat.le_of_ble_eq_true rfl) ⟨Nat.le_of_ble_eq_true rfl, Nat.le_of_ble_eq_true rfl⟩ dL_concept_4) (fun q H1 ce hz hk hce hcv hcl => ?_)
  refine w_catch (hh := [(0, 9, 12, 13), (0, 9, 15, 15)]) (a0 := 0) (b0 := 9) (hp := 12) (ct := 13) (tl := [⟨0, 9, 15, 15⟩]) hown hts hxt rfl (by decide) (by decide) gm_566 hX.2.2.1.1 hce hcv hcl ?_
  refine lv_astore_n (lv' := [(3, .ref q), (0, .ref (w.2.2.2 0)), (1, .int x), (2, .ref o)]) hx hb dL_concept_12 rfl hl (by decide) rfl (fun ls hl => ?_)
  refine lv_iconst (v := nI 1) hx hb dL_concept_13 (by decide) ?_
  exact W.widen (by decide) (by decide) (W.iret G.1.1 G.1.2.1 G.2.1 (fun t ht hW => ⟨rfl, by rw [ht]; exact hz, fun z h1 => by rw [ht]; exact hk z h1⟩) (fun z hz9 => absurd hz9 List.not_mem_nil) dL_concept_14 G.2.2)
theorem ok_X2_term : gOK yX2_term cX2_term 4 (some .int) 3 := ⟨gm_576, gm_18, by decide +kernel⟩
set_option maxRecDepth 100000 in
set_option maxHeartbeats 4000000 in
theorem c_L_term_x (l : Launch) (hfl : l.stackTraces = false) (w : GP) (o : Nat) (x : Int32) (y : Int32) (z : Int32) : Met l yL_term (ghs yL_term cL_term 6 (some .int) [(0, 12, 15, 21), (0, 12, 19, 13), (0, 12, 23, 15)]) ({ frames := 8, cells := 1, slots := 6, locals := 126 }) (gPx w f0 [.ref (w.2.2.2 0), .int x, .int y, .int z, .ref o]) (gRn (.int (nI 1))) 1 6 (fun _ => False) := by
  refine w_read (by decide) (Nat.le_of_ble_eq_true rfl) ?_
  intro P_ E_ S_ M_ B_ T_ C_ ls G hall hxt hB9 hl
  obtain ⟨hx, hb, hml, hown, hts⟩ := id G.1
  have hl : lv_has ls 6 [(0, .ref (w.2.2.2 0)), (1, .int x), (2, .int y), (3, .int z), (4, .ref o)] := hl
  refine lv_aload hx hb dL_term_0 (lv_at hl 4 rfl) ?_
  refine lv_iconst (v := nI 0) hx hb dL_term_2 (by decide) ?_
  refine lv_aload_n hx hb dL_term_3 rfl (lv_at hl 0 rfl) ?_
  refine lv_iload_n hx hb dL_term_4 rfl (lv_at hl 1 rfl) ?_
  refine lv_iload_n hx hb dL_term_5 rfl (lv_at hl 2 rfl) ?_
  refine lv_iload_n hx hb dL_term_6 rfl (lv_at hl 3 rfl) ?_
  obtain ⟨hV, hX⟩ := hB9
  refine a_thr (a_runX (rest := [.int (nI 0), .ref o]) G.1 hall hV hX 0 (by decide) (show gE w f0 0 = .inr (2, _) from rfl) rfl ok_X2_term gm_574 gm_575 gm_573 (x_X2_term l hfl w f0 x y z f0_I rfl) ⟨rfl, rfl⟩ ⟨Nat.le_of_ble_eq_true rfl, Nat.le_of_ble_eq_true rfl⟩ rfl hl.1 rfl (Nat.le_of_ble_eq_true rfl) ⟨Nat.le_of_ble_eq_true rfl, Nat.le_of_ble_eq_true rfl⟩ dL_term_7) (fun q H1 ce hz hk hce hcv hcl => ?_)
  refine w_catch (hh := [(0, 12, 15, 21), (0, 12, 19, 13), (0, 12, 23, 15)]) (a0 := 0) (b0 := 12) (hp := 15) (ct := 21) (tl := [⟨0, 12, 19, 13⟩, ⟨0, 12, 23, 15⟩]) hown hts hxt rfl (by decide) (by decide) gm_572 hX.2.2.1.2.2.1 hce hcv hcl ?_
  refine lv_astore (lv' := [(5, .ref q), (0, .ref (w.2.2.2 0)), (1, .int x), (2, .int y), (3, .int z), (4, .ref o)]) hx hb dL_term_15 hl (by decide) rfl (fun ls hl => ?_)
  refine lv_iconst (v := nI 1) hx hb dL_term_17 (by decide) ?_
  exact W.widen (by decide) (by decide) (W.iret G.1.1 G.1.2.1 G.2.1 (fun t ht hW => ⟨rfl, by rw [ht]; exact hz, fun z h1 => by rw [ht]; exact hk z h1⟩) (fun z hz9 => absurd hz9 List.not_mem_nil) dL_term_18 G.2.2)
theorem ok_X2_vote : gOK yX2_vote cX2_vote 5 (some .int) 3 := ⟨gm_580, gm_18, by decide +kernel⟩
set_option maxRecDepth 100000 in
set_option maxHeartbeats 4000000 in
theorem c_L_vote_x (l : Launch) (hfl : l.stackTraces = false) (w : GP) (o : Nat) (x : Int32) (y : Int32) (b : Prop) [Decidable b] : Met l yL_vote (ghs yL_vote cL_vote 6 (some .int) [(0, 12, 15, 21), (0, 12, 19, 15)]) ({ frames := 8, cells := 1, slots := 6, locals := 127 }) (gPx w f0 [.ref (w.2.2.2 0), .int x, .int y, .int (if b then 1 else 0), .ref o]) (gRn (.int (nI 1))) 1 6 (fun _ => False) := by
  refine w_read (by decide) (Nat.le_of_ble_eq_true rfl) ?_
  intro P_ E_ S_ M_ B_ T_ C_ ls G hall hxt hB9 hl
  obtain ⟨hx, hb, hml, hown, hts⟩ := id G.1
  have hl : lv_has ls 6 [(0, .ref (w.2.2.2 0)), (1, .int x), (2, .int y), (3, .int (if b then 1 else 0)), (4, .ref o)] := hl
  refine lv_aload hx hb dL_vote_0 (lv_at hl 4 rfl) ?_
  refine lv_iconst (v := nI 0) hx hb dL_vote_2 (by decide) ?_
  refine lv_aload_n hx hb dL_vote_3 rfl (lv_at hl 0 rfl) ?_
  refine lv_iload_n hx hb dL_vote_4 rfl (lv_at hl 1 rfl) ?_
  refine lv_iload_n hx hb dL_vote_5 rfl (lv_at hl 2 rfl) ?_
  refine lv_iload_n hx hb dL_vote_6 rfl (lv_at hl 3 rfl) ?_
  obtain ⟨hV, hX⟩ := hB9
  refine a_thr (a_runX (rest := [.int (nI 0), .ref o]) G.1 hall hV hX 0 (by decide) (show gE w f0 0 = .inr (2, _) from rfl) rfl ok_X2_vote gm_578 gm_579 gm_577 (x_X2_vote l hfl w f0 x y b f0_I rfl) ⟨rfl, rfl⟩ ⟨Nat.le_of_ble_eq_true rfl, Nat.le_of_ble_eq_true rfl⟩ rfl hl.1 rfl (Nat.le_of_ble_eq_true rfl) ⟨Nat.le_of_ble_eq_true rfl, Nat.le_of_ble_eq_true rfl⟩ dL_vote_7) (fun q H1 ce hz hk hce hcv hcl => ?_)
  refine w_catch (hh := [(0, 12, 15, 21), (0, 12, 19, 15)]) (a0 := 0) (b0 := 12) (hp := 15) (ct := 21) (tl := [⟨0, 12, 19, 15⟩]) hown hts hxt rfl (by decide) (by decide) gm_572 hX.2.2.1.2.2.1 hce hcv hcl ?_
  refine lv_astore (lv' := [(5, .ref q), (0, .ref (w.2.2.2 0)), (1, .int x), (2, .int y), (3, .int (if b then 1 else 0)), (4, .ref o)]) hx hb dL_vote_15 hl (by decide) rfl (fun ls hl => ?_)
  refine lv_iconst (v := nI 1) hx hb dL_vote_17 (by decide) ?_
  exact W.widen (by decide) (by decide) (W.iret G.1.1 G.1.2.1 G.2.1 (fun t ht hW => ⟨rfl, by rw [ht]; exact hz, fun z h1 => by rw [ht]; exact hk z h1⟩) (fun z hz9 => absurd hz9 List.not_mem_nil) dL_vote_18 G.2.2)
theorem ok_X2_prefer : gOK yX2_prefer cX2_prefer 2 (some .int) 1 := ⟨gm_584, gm_18, by decide +kernel⟩
set_option maxRecDepth 100000 in
set_option maxHeartbeats 4000000 in
theorem c_L_prefer_x (l : Launch) (hfl : l.stackTraces = false) (w : GP) (o : Nat) (x : Int32) : Met l yL_prefer (ghs yL_prefer cL_prefer 4 (some .int) [(0, 9, 12, 21), (0, 9, 15, 15)]) ({ frames := 8, cells := 1, slots := 6, locals := 124 }) (gPx w f0 [.ref (w.2.2.2 0), .int x, .ref o]) (gRn (.int (nI 1))) 1 6 (fun _ => False) := by
  refine w_read (by decide) (Nat.le_of_ble_eq_true rfl) ?_
  intro P_ E_ S_ M_ B_ T_ C_ ls G hall hxt hB9 hl
  obtain ⟨hx, hb, hml, hown, hts⟩ := id G.1
  have hl : lv_has ls 4 [(0, .ref (w.2.2.2 0)), (1, .int x), (2, .ref o)] := hl
  refine lv_aload_n hx hb dL_prefer_0 rfl (lv_at hl 2 rfl) ?_
  refine lv_iconst (v := nI 0) hx hb dL_prefer_1 (by decide) ?_
  refine lv_aload_n hx hb dL_prefer_2 rfl (lv_at hl 0 rfl) ?_
  refine lv_iload_n hx hb dL_prefer_3 rfl (lv_at hl 1 rfl) ?_
  obtain ⟨hV, hX⟩ := hB9
  refine a_thr (a_runX (rest := [.int (nI 0), .ref o]) G.1 hall hV hX 0 (by decide) (show gE w f0 0 = .inr (2, _) from rfl) rfl ok_X2_prefer gm_582 gm_583 gm_581 (x_X2_prefer l hfl w f0 x f0_I rfl) ⟨rfl, rfl⟩ ⟨Nat.le_of_ble_eq_true rfl, Nat.le_of_ble_eq_true rfl⟩ rfl hl.1 rfl (Nat.le_of_ble_eq_true rfl) ⟨Nat.le_of_ble_eq_true rfl, Nat.le_of_ble_eq_true rfl⟩ dL_prefer_4) (fun q H1 ce hz hk hce hcv hcl => ?_)
  refine w_catch (hh := [(0, 9, 12, 21), (0, 9, 15, 15)]) (a0 := 0) (b0 := 9) (hp := 12) (ct := 21) (tl := [⟨0, 9, 15, 15⟩]) hown hts hxt rfl (by decide) (by decide) gm_572 hX.2.2.1.2.2.1 hce hcv hcl ?_
  refine lv_astore_n (lv' := [(3, .ref q), (0, .ref (w.2.2.2 0)), (1, .int x), (2, .ref o)]) hx hb dL_prefer_12 rfl hl (by decide) rfl (fun ls hl => ?_)
  refine lv_iconst (v := nI 1) hx hb dL_prefer_13 (by decide) ?_
  exact W.widen (by decide) (by decide) (W.iret G.1.1 G.1.2.1 G.2.1 (fun t ht hW => ⟨rfl, by rw [ht]; exact hz, fun z h1 => by rw [ht]; exact hk z h1⟩) (fun z hz9 => absurd hz9 List.not_mem_nil) dL_prefer_14 G.2.2)
theorem ok_X2_ban : gOK yX2_ban cX2_ban 3 (some .int) 2 := ⟨gm_588, gm_18, by decide +kernel⟩
set_option maxRecDepth 100000 in
set_option maxHeartbeats 4000000 in
theorem c_L_ban_x (l : Launch) (hfl : l.stackTraces = false) (w : GP) (o : Nat) (x : Int32) (y : Int32) : Met l yL_ban (ghs yL_ban cL_ban 5 (some .int) [(0, 10, 13, 21), (0, 10, 17, 13), (0, 10, 21, 15)]) ({ frames := 8, cells := 1, slots := 6, locals := 125 }) (gPx w f0 [.ref (w.2.2.2 0), .int x, .int y, .ref o]) (gRn (.int (nI 1))) 1 6 (fun _ => False) := by
  refine w_read (by decide) (Nat.le_of_ble_eq_true rfl) ?_
  intro P_ E_ S_ M_ B_ T_ C_ ls G hall hxt hB9 hl
  obtain ⟨hx, hb, hml, hown, hts⟩ := id G.1
  have hl : lv_has ls 5 [(0, .ref (w.2.2.2 0)), (1, .int x), (2, .int y), (3, .ref o)] := hl
  refine lv_aload_n hx hb dL_ban_0 rfl (lv_at hl 3 rfl) ?_
  refine lv_iconst (v := nI 0) hx hb dL_ban_1 (by decide) ?_
  refine lv_aload_n hx hb dL_ban_2 rfl (lv_at hl 0 rfl) ?_
  refine lv_iload_n hx hb dL_ban_3 rfl (lv_at hl 1 rfl) ?_
  refine lv_iload_n hx hb dL_ban_4 rfl (lv_at hl 2 rfl) ?_
  obtain ⟨hV, hX⟩ := hB9
  refine a_thr (a_runX (rest := [.int (nI 0), .ref o]) G.1 hall hV hX 0 (by decide) (show gE w f0 0 = .inr (2, _) from rfl) rfl ok_X2_ban gm_586 gm_587 gm_585 (x_X2_ban l hfl w f0 x y f0_I rfl) ⟨rfl, rfl⟩ ⟨Nat.le_of_ble_eq_true rfl, Nat.le_of_ble_eq_true rfl⟩ rfl hl.1 rfl (Nat.le_of_ble_eq_true rfl) ⟨Nat.le_of_ble_eq_true rfl, Nat.le_of_ble_eq_true rfl⟩ dL_ban_5) (fun q H1 ce hz hk hce hcv hcl => ?_)
  refine w_catch (hh := [(0, 10, 13, 21), (0, 10, 17, 13), (0, 10, 21, 15)]) (a0 := 0) (b0 := 10) (hp := 13) (ct := 21) (tl := [⟨0, 10, 17, 13⟩, ⟨0, 10, 21, 15⟩]) hown hts hxt rfl (by decide) (by decide) gm_572 hX.2.2.1.2.2.1 hce hcv hcl ?_
  refine lv_astore (lv' := [(4, .ref q), (0, .ref (w.2.2.2 0)), (1, .int x), (2, .int y), (3, .ref o)]) hx hb dL_ban_13 hl (by decide) rfl (fun ls hl => ?_)
  refine lv_iconst (v := nI 1) hx hb dL_ban_15 (by decide) ?_
  exact W.widen (by decide) (by decide) (W.iret G.1.1 G.1.2.1 G.2.1 (fun t ht hW => ⟨rfl, by rw [ht]; exact hz, fun z h1 => by rw [ht]; exact hk z h1⟩) (fun z hz9 => absurd hz9 List.not_mem_nil) dL_ban_16 G.2.2)
theorem ok_X2_allow : gOK yX2_allow cX2_allow 2 (some .int) 1 := ⟨gm_592, gm_18, by decide +kernel⟩
set_option maxRecDepth 100000 in
set_option maxHeartbeats 4000000 in
theorem c_L_allow_x (l : Launch) (hfl : l.stackTraces = false) (w : GP) (o : Nat) (x : Int32) : Met l yL_allow (ghs yL_allow cL_allow 4 (some .int) [(0, 9, 12, 21), (0, 9, 15, 15)]) ({ frames := 8, cells := 1, slots := 6, locals := 124 }) (gPx w f0 [.ref (w.2.2.2 0), .int x, .ref o]) (gRn (.int (nI 1))) 1 6 (fun _ => False) := by
  refine w_read (by decide) (Nat.le_of_ble_eq_true rfl) ?_
  intro P_ E_ S_ M_ B_ T_ C_ ls G hall hxt hB9 hl
  obtain ⟨hx, hb, hml, hown, hts⟩ := id G.1
  have hl : lv_has ls 4 [(0, .ref (w.2.2.2 0)), (1, .int x), (2, .ref o)] := hl
  refine lv_aload_n hx hb dL_allow_0 rfl (lv_at hl 2 rfl) ?_
  refine lv_iconst (v := nI 0) hx hb dL_allow_1 (by decide) ?_
  refine lv_aload_n hx hb dL_allow_2 rfl (lv_at hl 0 rfl) ?_
  refine lv_iload_n hx hb dL_allow_3 rfl (lv_at hl 1 rfl) ?_
  obtain ⟨hV, hX⟩ := hB9
  refine a_thr (a_runX (rest := [.int (nI 0), .ref o]) G.1 hall hV hX 0 (by decide) (show gE w f0 0 = .inr (2, _) from rfl) rfl ok_X2_allow gm_590 gm_591 gm_589 (x_X2_allow l hfl w f0 x f0_I rfl) ⟨rfl, rfl⟩ ⟨Nat.le_of_ble_eq_true rfl, Nat.le_of_ble_eq_true rfl⟩ rfl hl.1 rfl (Nat.le_of_ble_eq_true rfl) ⟨Nat.le_of_ble_eq_true rfl, Nat.le_of_ble_eq_true rfl⟩ dL_allow_4) (fun q H1 ce hz hk hce hcv hcl => ?_)
  refine w_catch (hh := [(0, 9, 12, 21), (0, 9, 15, 15)]) (a0 := 0) (b0 := 9) (hp := 12) (ct := 21) (tl := [⟨0, 9, 15, 15⟩]) hown hts hxt rfl (by decide) (by decide) gm_572 hX.2.2.1.2.2.1 hce hcv hcl ?_
  refine lv_astore_n (lv' := [(3, .ref q), (0, .ref (w.2.2.2 0)), (1, .int x), (2, .ref o)]) hx hb dL_allow_12 rfl hl (by decide) rfl (fun ls hl => ?_)
  refine lv_iconst (v := nI 1) hx hb dL_allow_13 (by decide) ?_
  exact W.widen (by decide) (by decide) (W.iret G.1.1 G.1.2.1 G.2.1 (fun t ht hW => ⟨rfl, by rw [ht]; exact hz, fun z h1 => by rw [ht]; exact hk z h1⟩) (fun z hz9 => absurd hz9 List.not_mem_nil) dL_allow_14 G.2.2)
set_option maxRecDepth 100000 in
set_option maxHeartbeats 4000000 in
theorem c_L_ofTerm_x (l : Launch) (hfl : l.stackTraces = false) (w : GP) (o : Nat) (x : Int32) (y : Int32) : Met l yL_ofTerm (ghs yL_ofTerm cL_ofTerm 5 (some .int) [(0, 10, 13, 21), (0, 10, 17, 13)]) ({ frames := 8, cells := 1, slots := 6, locals := 125 }) (gPx w f0 [.ref (w.2.2.2 0), .int x, .int y, .ref o]) (gRn (.int (nI 1))) 1 6 (fun _ => False) := by
  refine w_read (by decide) (Nat.le_of_ble_eq_true rfl) ?_
  intro P_ E_ S_ M_ B_ T_ C_ ls G hall hxt hB9 hl
  obtain ⟨hx, hb, hml, hown, hts⟩ := id G.1
  have hl : lv_has ls 5 [(0, .ref (w.2.2.2 0)), (1, .int x), (2, .int y), (3, .ref o)] := hl
  refine lv_aload_n hx hb dL_ofTerm_0 rfl (lv_at hl 3 rfl) ?_
  refine lv_iconst (v := nI 0) hx hb dL_ofTerm_1 (by decide) ?_
  refine lv_aload_n hx hb dL_ofTerm_2 rfl (lv_at hl 0 rfl) ?_
  refine lv_iload_n hx hb dL_ofTerm_3 rfl (lv_at hl 1 rfl) ?_
  refine lv_iload_n hx hb dL_ofTerm_4 rfl (lv_at hl 2 rfl) ?_
  obtain ⟨hV, hX⟩ := hB9
  refine a_thr (a_runX (rest := [.int (nI 0), .ref o]) G.1 hall hV hX 0 (by decide) (show gE w f0 0 = .inr (2, _) from rfl) rfl ok_X2_ofTerm gm_357 gm_358 gm_593 (x_X2_ofTerm l hfl w f0 x y f0_I rfl) ⟨rfl, rfl⟩ ⟨Nat.le_of_ble_eq_true rfl, Nat.le_of_ble_eq_true rfl⟩ rfl hl.1 rfl (Nat.le_of_ble_eq_true rfl) ⟨Nat.le_of_ble_eq_true rfl, Nat.le_of_ble_eq_true rfl⟩ dL_ofTerm_5) (fun q H1 ce hz hk hce hcv hcl => ?_)
  refine w_catch (hh := [(0, 10, 13, 21), (0, 10, 17, 13)]) (a0 := 0) (b0 := 10) (hp := 13) (ct := 21) (tl := [⟨0, 10, 17, 13⟩]) hown hts hxt rfl (by decide) (by decide) gm_572 hX.2.2.1.2.2.1 hce hcv hcl ?_
  refine lv_astore (lv' := [(4, .ref q), (0, .ref (w.2.2.2 0)), (1, .int x), (2, .int y), (3, .ref o)]) hx hb dL_ofTerm_13 hl (by decide) rfl (fun ls hl => ?_)
  refine lv_iconst (v := nI 1) hx hb dL_ofTerm_15 (by decide) ?_
  exact W.widen (by decide) (by decide) (W.iret G.1.1 G.1.2.1 G.2.1 (fun t ht hW => ⟨rfl, by rw [ht]; exact hz, fun z h1 => by rw [ht]; exact hk z h1⟩) (fun z hz9 => absurd hz9 List.not_mem_nil) dL_ofTerm_16 G.2.2)
set_option maxRecDepth 100000 in
set_option maxHeartbeats 4000000 in
theorem c_L_ofConcept_x (l : Launch) (hfl : l.stackTraces = false) (w : GP) (o : Nat) (x : Int32) (y : Int32) : Met l yL_ofConcept (ghs yL_ofConcept cL_ofConcept 5 (some .int) [(0, 10, 13, 21), (0, 10, 17, 13)]) ({ frames := 8, cells := 1, slots := 6, locals := 126 }) (gPx w f0 [.ref (w.2.2.2 0), .int x, .int y, .ref o]) (gRn (.int (nI 1))) 1 6 (fun _ => False) := by
  refine w_read (by decide) (Nat.le_of_ble_eq_true rfl) ?_
  intro P_ E_ S_ M_ B_ T_ C_ ls G hall hxt hB9 hl
  obtain ⟨hx, hb, hml, hown, hts⟩ := id G.1
  have hl : lv_has ls 5 [(0, .ref (w.2.2.2 0)), (1, .int x), (2, .int y), (3, .ref o)] := hl
  refine lv_aload_n hx hb dL_ofConcept_0 rfl (lv_at hl 3 rfl) ?_
  refine lv_iconst (v := nI 0) hx hb dL_ofConcept_1 (by decide) ?_
  refine lv_aload_n hx hb dL_ofConcept_2 rfl (lv_at hl 0 rfl) ?_
  refine lv_iload_n hx hb dL_ofConcept_3 rfl (lv_at hl 1 rfl) ?_
  refine lv_iload_n hx hb dL_ofConcept_4 rfl (lv_at hl 2 rfl) ?_
  obtain ⟨hV, hX⟩ := hB9
  refine a_thr (a_runX (rest := [.int (nI 0), .ref o]) G.1 hall hV hX 0 (by decide) (show gE w f0 0 = .inr (2, _) from rfl) rfl ok_X2_ofConcept gm_365 gm_366 gm_594 (x_X2_ofConcept l hfl w f0 x y f0_I rfl) ⟨rfl, rfl⟩ ⟨Nat.le_of_ble_eq_true rfl, Nat.le_of_ble_eq_true rfl⟩ rfl hl.1 rfl (Nat.le_of_ble_eq_true rfl) ⟨Nat.le_of_ble_eq_true rfl, Nat.le_of_ble_eq_true rfl⟩ dL_ofConcept_5) (fun q H1 ce hz hk hce hcv hcl => ?_)
  refine w_catch (hh := [(0, 10, 13, 21), (0, 10, 17, 13)]) (a0 := 0) (b0 := 10) (hp := 13) (ct := 21) (tl := [⟨0, 10, 17, 13⟩]) hown hts hxt rfl (by decide) (by decide) gm_572 hX.2.2.1.2.2.1 hce hcv hcl ?_
  refine lv_astore (lv' := [(4, .ref q), (0, .ref (w.2.2.2 0)), (1, .int x), (2, .int y), (3, .ref o)]) hx hb dL_ofConcept_13 hl (by decide) rfl (fun ls hl => ?_)
  refine lv_iconst (v := nI 1) hx hb dL_ofConcept_15 (by decide) ?_
  exact W.widen (by decide) (by decide) (W.iret G.1.1 G.1.2.1 G.2.1 (fun t ht hW => ⟨rfl, by rw [ht]; exact hz, fun z h1 => by rw [ht]; exact hk z h1⟩) (fun z hz9 => absurd hz9 List.not_mem_nil) dL_ofConcept_16 G.2.2)
theorem ok_X2_split : gOK yX2_split cX2_split 6 (some .int) 3 := ⟨gm_598, gm_18, by decide +kernel⟩
set_option maxRecDepth 100000 in
set_option maxHeartbeats 4000000 in
theorem c_L_split_x (l : Launch) (hfl : l.stackTraces = false) (w : GP) (o : Nat) (x : Int32) (y : Int32) (z : Int32) : Met l yL_split (ghs yL_split cL_split 6 (some .int) [(0, 12, 15, 21), (0, 12, 19, 13), (0, 12, 23, 15)]) ({ frames := 8, cells := 1, slots := 6, locals := 128 }) (gPx w f0 [.ref (w.2.2.2 0), .int x, .int y, .int z, .ref o]) (gRn (.int (nI 1))) 1 6 (fun _ => False) := by
  refine w_read (by decide) (Nat.le_of_ble_eq_true rfl) ?_
  intro P_ E_ S_ M_ B_ T_ C_ ls G hall hxt hB9 hl
  obtain ⟨hx, hb, hml, hown, hts⟩ := id G.1
  have hl : lv_has ls 6 [(0, .ref (w.2.2.2 0)), (1, .int x), (2, .int y), (3, .int z), (4, .ref o)] := hl
  refine lv_aload hx hb dL_split_0 (lv_at hl 4 rfl) ?_
  refine lv_iconst (v := nI 0) hx hb dL_split_2 (by decide) ?_
  refine lv_aload_n hx hb dL_split_3 rfl (lv_at hl 0 rfl) ?_
  refine lv_iload_n hx hb dL_split_4 rfl (lv_at hl 1 rfl) ?_
  refine lv_iload_n hx hb dL_split_5 rfl (lv_at hl 2 rfl) ?_
  refine lv_iload_n hx hb dL_split_6 rfl (lv_at hl 3 rfl) ?_
  obtain ⟨hV, hX⟩ := hB9
  refine a_thr (a_runX (rest := [.int (nI 0), .ref o]) G.1 hall hV hX 0 (by decide) (show gE w f0 0 = .inr (2, _) from rfl) rfl ok_X2_split gm_596 gm_597 gm_595 (x_X2_split l hfl w f0 x y z f0_I rfl) ⟨rfl, rfl⟩ ⟨Nat.le_of_ble_eq_true rfl, Nat.le_of_ble_eq_true rfl⟩ rfl hl.1 rfl (Nat.le_of_ble_eq_true rfl) ⟨Nat.le_of_ble_eq_true rfl, Nat.le_of_ble_eq_true rfl⟩ dL_split_7) (fun q H1 ce hz hk hce hcv hcl => ?_)
  refine w_catch (hh := [(0, 12, 15, 21), (0, 12, 19, 13), (0, 12, 23, 15)]) (a0 := 0) (b0 := 12) (hp := 15) (ct := 21) (tl := [⟨0, 12, 19, 13⟩, ⟨0, 12, 23, 15⟩]) hown hts hxt rfl (by decide) (by decide) gm_572 hX.2.2.1.2.2.1 hce hcv hcl ?_
  refine lv_astore (lv' := [(5, .ref q), (0, .ref (w.2.2.2 0)), (1, .int x), (2, .int y), (3, .int z), (4, .ref o)]) hx hb dL_split_15 hl (by decide) rfl (fun ls hl => ?_)
  refine lv_iconst (v := nI 1) hx hb dL_split_17 (by decide) ?_
  exact W.widen (by decide) (by decide) (W.iret G.1.1 G.1.2.1 G.2.1 (fun t ht hW => ⟨rfl, by rw [ht]; exact hz, fun z h1 => by rw [ht]; exact hk z h1⟩) (fun z hz9 => absurd hz9 List.not_mem_nil) dL_split_18 G.2.2)
theorem ok_X2_join : gOK yX2_join cX2_join 4 (some .int) 2 := ⟨gm_602, gm_18, by decide +kernel⟩
set_option maxRecDepth 100000 in
set_option maxHeartbeats 4000000 in
theorem c_L_join_x (l : Launch) (hfl : l.stackTraces = false) (w : GP) (o : Nat) (x : Int32) (y : Int32) : Met l yL_join (ghs yL_join cL_join 5 (some .int) [(0, 10, 13, 21), (0, 10, 17, 13), (0, 10, 21, 15)]) ({ frames := 9, cells := 1, slots := 6, locals := 148 }) (gPx w f0 [.ref (w.2.2.2 0), .int x, .int y, .ref o]) (gRn (.int (nI 1))) 1 6 (fun _ => False) := by
  refine w_read (by decide) (Nat.le_of_ble_eq_true rfl) ?_
  intro P_ E_ S_ M_ B_ T_ C_ ls G hall hxt hB9 hl
  obtain ⟨hx, hb, hml, hown, hts⟩ := id G.1
  have hl : lv_has ls 5 [(0, .ref (w.2.2.2 0)), (1, .int x), (2, .int y), (3, .ref o)] := hl
  refine lv_aload_n hx hb dL_join_0 rfl (lv_at hl 3 rfl) ?_
  refine lv_iconst (v := nI 0) hx hb dL_join_1 (by decide) ?_
  refine lv_aload_n hx hb dL_join_2 rfl (lv_at hl 0 rfl) ?_
  refine lv_iload_n hx hb dL_join_3 rfl (lv_at hl 1 rfl) ?_
  refine lv_iload_n hx hb dL_join_4 rfl (lv_at hl 2 rfl) ?_
  obtain ⟨hV, hX⟩ := hB9
  refine a_thr (a_runX (rest := [.int (nI 0), .ref o]) G.1 hall hV hX 0 (by decide) (show gE w f0 0 = .inr (2, _) from rfl) rfl ok_X2_join gm_600 gm_601 gm_599 (x_X2_join l hfl w f0 x y f0_I rfl) ⟨rfl, rfl⟩ ⟨Nat.le_of_ble_eq_true rfl, Nat.le_of_ble_eq_true rfl⟩ rfl hl.1 rfl (Nat.le_of_ble_eq_true rfl) ⟨Nat.le_of_ble_eq_true rfl, Nat.le_of_ble_eq_true rfl⟩ dL_join_5) (fun q H1 ce hz hk hce hcv hcl => ?_)
  refine w_catch (hh := [(0, 10, 13, 21), (0, 10, 17, 13), (0, 10, 21, 15)]) (a0 := 0) (b0 := 10) (hp := 13) (ct := 21) (tl := [⟨0, 10, 17, 13⟩, ⟨0, 10, 21, 15⟩]) hown hts hxt rfl (by decide) (by decide) gm_572 hX.2.2.1.2.2.1 hce hcv hcl ?_
  refine lv_astore (lv' := [(4, .ref q), (0, .ref (w.2.2.2 0)), (1, .int x), (2, .int y), (3, .ref o)]) hx hb dL_join_13 hl (by decide) rfl (fun ls hl => ?_)
  refine lv_iconst (v := nI 1) hx hb dL_join_15 (by decide) ?_
  exact W.widen (by decide) (by decide) (W.iret G.1.1 G.1.2.1 G.2.1 (fun t ht hW => ⟨rfl, by rw [ht]; exact hz, fun z h1 => by rw [ht]; exact hk z h1⟩) (fun z hz9 => absurd hz9 List.not_mem_nil) dL_join_16 G.2.2)
theorem ok_X2_write : gOK yX2_write cX2_write 6 (some .int) 4 := ⟨gm_610, gm_18, by decide +kernel⟩
set_option maxRecDepth 100000 in
set_option maxHeartbeats 4000000 in
theorem c_L_write_x (l : Launch) (hfl : l.stackTraces = false) (w : GP) (o : Nat) (x : Int32) (y : Int32) (z : Int32) (v : Int32) : Met l yL_write (ghs yL_write cL_write 7 (some .int) [(0, 14, 17, 21), (0, 14, 21, 13), (0, 14, 25, 15)]) ({ frames := 9, cells := 1, slots := 6, locals := 150 }) (gPx w f0 [.ref (w.2.2.2 0), .int x, .int y, .int z, .int v, .ref o]) (gRn (.int (nI 1))) 1 6 (fun _ => False) := by
  refine w_read (by decide) (Nat.le_of_ble_eq_true rfl) ?_
  intro P_ E_ S_ M_ B_ T_ C_ ls G hall hxt hB9 hl
  obtain ⟨hx, hb, hml, hown, hts⟩ := id G.1
  have hl : lv_has ls 7 [(0, .ref (w.2.2.2 0)), (1, .int x), (2, .int y), (3, .int z), (4, .int v), (5, .ref o)] := hl
  refine lv_aload hx hb dL_write_0 (lv_at hl 5 rfl) ?_
  refine lv_iconst (v := nI 0) hx hb dL_write_2 (by decide) ?_
  refine lv_aload_n hx hb dL_write_3 rfl (lv_at hl 0 rfl) ?_
  refine lv_iload_n hx hb dL_write_4 rfl (lv_at hl 1 rfl) ?_
  refine lv_iload_n hx hb dL_write_5 rfl (lv_at hl 2 rfl) ?_
  refine lv_iload_n hx hb dL_write_6 rfl (lv_at hl 3 rfl) ?_
  refine lv_iload hx hb dL_write_7 (lv_at hl 4 rfl) ?_
  obtain ⟨hV, hX⟩ := hB9
  refine a_thr (a_runX (rest := [.int (nI 0), .ref o]) G.1 hall hV hX 0 (by decide) (show gE w f0 0 = .inr (2, _) from rfl) rfl ok_X2_write gm_608 gm_609 gm_607 (x_X2_write l hfl w f0 x y z v f0_I rfl) ⟨rfl, rfl⟩ ⟨Nat.le_of_ble_eq_true rfl, Nat.le_of_ble_eq_true rfl⟩ rfl hl.1 rfl (Nat.le_of_ble_eq_true rfl) ⟨Nat.le_of_ble_eq_true rfl, Nat.le_of_ble_eq_true rfl⟩ dL_write_9) (fun q H1 ce hz hk hce hcv hcl => ?_)
  refine w_catch (hh := [(0, 14, 17, 21), (0, 14, 21, 13), (0, 14, 25, 15)]) (a0 := 0) (b0 := 14) (hp := 17) (ct := 21) (tl := [⟨0, 14, 21, 13⟩, ⟨0, 14, 25, 15⟩]) hown hts hxt rfl (by decide) (by decide) gm_572 hX.2.2.1.2.2.1 hce hcv hcl ?_
  refine lv_astore (lv' := [(6, .ref q), (0, .ref (w.2.2.2 0)), (1, .int x), (2, .int y), (3, .int z), (4, .int v), (5, .ref o)]) hx hb dL_write_17 hl (by decide) rfl (fun ls hl => ?_)
  refine lv_iconst (v := nI 1) hx hb dL_write_19 (by decide) ?_
  exact W.widen (by decide) (by decide) (W.iret G.1.1 G.1.2.1 G.2.1 (fun t ht hW => ⟨rfl, by rw [ht]; exact hz, fun z h1 => by rw [ht]; exact hk z h1⟩) (fun z hz9 => absurd hz9 List.not_mem_nil) dL_write_20 G.2.2)
theorem ok_X2_cut : gOK yX2_cut cX2_cut 4 (some .int) 2 := ⟨gm_614, gm_18, by decide +kernel⟩
set_option maxRecDepth 100000 in
set_option maxHeartbeats 4000000 in
theorem c_L_cut_x (l : Launch) (hfl : l.stackTraces = false) (w : GP) (o : Nat) (x : Int32) (y : Int32) : Met l yL_cut (ghs yL_cut cL_cut 5 (some .int) [(0, 10, 13, 21), (0, 10, 17, 15)]) ({ frames := 9, cells := 1, slots := 6, locals := 148 }) (gPx w f0 [.ref (w.2.2.2 0), .int x, .int y, .ref o]) (gRn (.int (nI 1))) 1 6 (fun _ => False) := by
  refine w_read (by decide) (Nat.le_of_ble_eq_true rfl) ?_
  intro P_ E_ S_ M_ B_ T_ C_ ls G hall hxt hB9 hl
  obtain ⟨hx, hb, hml, hown, hts⟩ := id G.1
  have hl : lv_has ls 5 [(0, .ref (w.2.2.2 0)), (1, .int x), (2, .int y), (3, .ref o)] := hl
  refine lv_aload_n hx hb dL_cut_0 rfl (lv_at hl 3 rfl) ?_
  refine lv_iconst (v := nI 0) hx hb dL_cut_1 (by decide) ?_
  refine lv_aload_n hx hb dL_cut_2 rfl (lv_at hl 0 rfl) ?_
  refine lv_iload_n hx hb dL_cut_3 rfl (lv_at hl 1 rfl) ?_
  refine lv_iload_n hx hb dL_cut_4 rfl (lv_at hl 2 rfl) ?_
  obtain ⟨hV, hX⟩ := hB9
  refine a_thr (a_runX (rest := [.int (nI 0), .ref o]) G.1 hall hV hX 0 (by decide) (show gE w f0 0 = .inr (2, _) from rfl) rfl ok_X2_cut gm_612 gm_613 gm_611 (x_X2_cut l hfl w f0 x y f0_I rfl) ⟨rfl, rfl⟩ ⟨Nat.le_of_ble_eq_true rfl, Nat.le_of_ble_eq_true rfl⟩ rfl hl.1 rfl (Nat.le_of_ble_eq_true rfl) ⟨Nat.le_of_ble_eq_true rfl, Nat.le_of_ble_eq_true rfl⟩ dL_cut_5) (fun q H1 ce hz hk hce hcv hcl => ?_)
  refine w_catch (hh := [(0, 10, 13, 21), (0, 10, 17, 15)]) (a0 := 0) (b0 := 10) (hp := 13) (ct := 21) (tl := [⟨0, 10, 17, 15⟩]) hown hts hxt rfl (by decide) (by decide) gm_572 hX.2.2.1.2.2.1 hce hcv hcl ?_
  refine lv_astore (lv' := [(4, .ref q), (0, .ref (w.2.2.2 0)), (1, .int x), (2, .int y), (3, .ref o)]) hx hb dL_cut_13 hl (by decide) rfl (fun ls hl => ?_)
  refine lv_iconst (v := nI 1) hx hb dL_cut_15 (by decide) ?_
  exact W.widen (by decide) (by decide) (W.iret G.1.1 G.1.2.1 G.2.1 (fun t ht hW => ⟨rfl, by rw [ht]; exact hz, fun z h1 => by rw [ht]; exact hk z h1⟩) (fun z hz9 => absurd hz9 List.not_mem_nil) dL_cut_16 G.2.2)
theorem ok_X2_approve : gOK yX2_approve cX2_approve 4 (some .int) 2 := ⟨gm_618, gm_18, by decide +kernel⟩
set_option maxRecDepth 100000 in
set_option maxHeartbeats 4000000 in
theorem c_L_approve_x (l : Launch) (hfl : l.stackTraces = false) (w : GP) (o : Nat) (x : Int32) (y : Int32) : Met l yL_approve (ghs yL_approve cL_approve 5 (some .int) [(0, 10, 13, 21), (0, 10, 17, 15)]) ({ frames := 9, cells := 1, slots := 6, locals := 148 }) (gPx w f0 [.ref (w.2.2.2 0), .int x, .int y, .ref o]) (gRn (.int (nI 1))) 1 6 (fun _ => False) := by
  refine w_read (by decide) (Nat.le_of_ble_eq_true rfl) ?_
  intro P_ E_ S_ M_ B_ T_ C_ ls G hall hxt hB9 hl
  obtain ⟨hx, hb, hml, hown, hts⟩ := id G.1
  have hl : lv_has ls 5 [(0, .ref (w.2.2.2 0)), (1, .int x), (2, .int y), (3, .ref o)] := hl
  refine lv_aload_n hx hb dL_approve_0 rfl (lv_at hl 3 rfl) ?_
  refine lv_iconst (v := nI 0) hx hb dL_approve_1 (by decide) ?_
  refine lv_aload_n hx hb dL_approve_2 rfl (lv_at hl 0 rfl) ?_
  refine lv_iload_n hx hb dL_approve_3 rfl (lv_at hl 1 rfl) ?_
  refine lv_iload_n hx hb dL_approve_4 rfl (lv_at hl 2 rfl) ?_
  obtain ⟨hV, hX⟩ := hB9
  refine a_thr (a_runX (rest := [.int (nI 0), .ref o]) G.1 hall hV hX 0 (by decide) (show gE w f0 0 = .inr (2, _) from rfl) rfl ok_X2_approve gm_616 gm_617 gm_615 (x_X2_approve l hfl w f0 x y f0_I rfl) ⟨rfl, rfl⟩ ⟨Nat.le_of_ble_eq_true rfl, Nat.le_of_ble_eq_true rfl⟩ rfl hl.1 rfl (Nat.le_of_ble_eq_true rfl) ⟨Nat.le_of_ble_eq_true rfl, Nat.le_of_ble_eq_true rfl⟩ dL_approve_5) (fun q H1 ce hz hk hce hcv hcl => ?_)
  refine w_catch (hh := [(0, 10, 13, 21), (0, 10, 17, 15)]) (a0 := 0) (b0 := 10) (hp := 13) (ct := 21) (tl := [⟨0, 10, 17, 15⟩]) hown hts hxt rfl (by decide) (by decide) gm_572 hX.2.2.1.2.2.1 hce hcv hcl ?_
  refine lv_astore (lv' := [(4, .ref q), (0, .ref (w.2.2.2 0)), (1, .int x), (2, .int y), (3, .ref o)]) hx hb dL_approve_13 hl (by decide) rfl (fun ls hl => ?_)
  refine lv_iconst (v := nI 1) hx hb dL_approve_15 (by decide) ?_
  exact W.widen (by decide) (by decide) (W.iret G.1.1 G.1.2.1 G.2.1 (fun t ht hW => ⟨rfl, by rw [ht]; exact hz, fun z h1 => by rw [ht]; exact hk z h1⟩) (fun z hz9 => absurd hz9 List.not_mem_nil) dL_approve_16 G.2.2)
set_option maxRecDepth 100000 in
set_option maxHeartbeats 4000000 in
theorem c_L_use_x (l : Launch) (hfl : l.stackTraces = false) (w : GP) (o : Nat) (x : Int32) (y : Int32) (z : Int32) : Met l yL_use (ghs yL_use cL_use 6 (some .int) [(0, 12, 15, 21)]) ({ frames := 9, cells := 1, slots := 6, locals := 149 }) (gPx w f0 [.ref (w.2.2.2 0), .int x, .int y, .int z, .ref o]) (gRn (.int (nI 1))) 1 6 (fun _ => False) := by
  refine w_read (by decide) (Nat.le_of_ble_eq_true rfl) ?_
  intro P_ E_ S_ M_ B_ T_ C_ ls G hall hxt hB9 hl
  obtain ⟨hx, hb, hml, hown, hts⟩ := id G.1
  have hl : lv_has ls 6 [(0, .ref (w.2.2.2 0)), (1, .int x), (2, .int y), (3, .int z), (4, .ref o)] := hl
  refine lv_aload hx hb dL_use_0 (lv_at hl 4 rfl) ?_
  refine lv_iconst (v := nI 0) hx hb dL_use_2 (by decide) ?_
  refine lv_aload_n hx hb dL_use_3 rfl (lv_at hl 0 rfl) ?_
  refine lv_iload_n hx hb dL_use_4 rfl (lv_at hl 1 rfl) ?_
  refine lv_iload_n hx hb dL_use_5 rfl (lv_at hl 2 rfl) ?_
  refine lv_iload_n hx hb dL_use_6 rfl (lv_at hl 3 rfl) ?_
  obtain ⟨hV, hX⟩ := hB9
  refine a_thr (a_runX (rest := [.int (nI 0), .ref o]) G.1 hall hV hX 0 (by decide) (show gE w f0 0 = .inr (2, _) from rfl) rfl ok_X2_use gm_373 gm_374 gm_619 (x_X2_use l hfl w f0 x y z f0_I rfl) ⟨rfl, rfl⟩ ⟨Nat.le_of_ble_eq_true rfl, Nat.le_of_ble_eq_true rfl⟩ rfl hl.1 rfl (Nat.le_of_ble_eq_true rfl) ⟨Nat.le_of_ble_eq_true rfl, Nat.le_of_ble_eq_true rfl⟩ dL_use_7) (fun q H1 ce hz hk hce hcv hcl => ?_)
  refine w_catch (hh := [(0, 12, 15, 21)]) (a0 := 0) (b0 := 12) (hp := 15) (ct := 21) (tl := []) hown hts hxt rfl (by decide) (by decide) gm_572 hX.2.2.1.2.2.1 hce hcv hcl ?_
  refine lv_astore (lv' := [(5, .ref q), (0, .ref (w.2.2.2 0)), (1, .int x), (2, .int y), (3, .int z), (4, .ref o)]) hx hb dL_use_15 hl (by decide) rfl (fun ls hl => ?_)
  refine lv_iconst (v := nI 1) hx hb dL_use_17 (by decide) ?_
  exact W.widen (by decide) (by decide) (W.iret G.1.1 G.1.2.1 G.2.1 (fun t ht hW => ⟨rfl, by rw [ht]; exact hz, fun z h1 => by rw [ht]; exact hk z h1⟩) (fun z hz9 => absurd hz9 List.not_mem_nil) dL_use_18 G.2.2)
set_option maxRecDepth 100000 in
set_option maxHeartbeats 4000000 in
theorem c_L_ofText_x (l : Launch) (hfl : l.stackTraces = false) (w : GP) (o : Nat) (x : Int32) (y : Int32) (z : Int32) : Met l yL_ofText (ghs yL_ofText cL_ofText 6 (some .int) [(0, 12, 15, 21), (0, 12, 19, 13)]) ({ frames := 9, cells := 1, slots := 6, locals := 149 }) (gPx w f0 [.ref (w.2.2.2 0), .int x, .int y, .int z, .ref o]) (gRn (.int (nI 1))) 1 6 (fun _ => False) := by
  refine w_read (by decide) (Nat.le_of_ble_eq_true rfl) ?_
  intro P_ E_ S_ M_ B_ T_ C_ ls G hall hxt hB9 hl
  obtain ⟨hx, hb, hml, hown, hts⟩ := id G.1
  have hl : lv_has ls 6 [(0, .ref (w.2.2.2 0)), (1, .int x), (2, .int y), (3, .int z), (4, .ref o)] := hl
  refine lv_aload hx hb dL_ofText_0 (lv_at hl 4 rfl) ?_
  refine lv_iconst (v := nI 0) hx hb dL_ofText_2 (by decide) ?_
  refine lv_aload_n hx hb dL_ofText_3 rfl (lv_at hl 0 rfl) ?_
  refine lv_iload_n hx hb dL_ofText_4 rfl (lv_at hl 1 rfl) ?_
  refine lv_iload_n hx hb dL_ofText_5 rfl (lv_at hl 2 rfl) ?_
  refine lv_iload_n hx hb dL_ofText_6 rfl (lv_at hl 3 rfl) ?_
  obtain ⟨hV, hX⟩ := hB9
  refine a_thr (a_runX (rest := [.int (nI 0), .ref o]) G.1 hall hV hX 0 (by decide) (show gE w f0 0 = .inr (2, _) from rfl) rfl ok_X2_ofText gm_369 gm_370 gm_620 (x_X2_ofText l hfl w f0 x y z f0_I rfl) ⟨rfl, rfl⟩ ⟨Nat.le_of_ble_eq_true rfl, Nat.le_of_ble_eq_true rfl⟩ rfl hl.1 rfl (Nat.le_of_ble_eq_true rfl) ⟨Nat.le_of_ble_eq_true rfl, Nat.le_of_ble_eq_true rfl⟩ dL_ofText_7) (fun q H1 ce hz hk hce hcv hcl => ?_)
  refine w_catch (hh := [(0, 12, 15, 21), (0, 12, 19, 13)]) (a0 := 0) (b0 := 12) (hp := 15) (ct := 21) (tl := [⟨0, 12, 19, 13⟩]) hown hts hxt rfl (by decide) (by decide) gm_572 hX.2.2.1.2.2.1 hce hcv hcl ?_
  refine lv_astore (lv' := [(5, .ref q), (0, .ref (w.2.2.2 0)), (1, .int x), (2, .int y), (3, .int z), (4, .ref o)]) hx hb dL_ofText_15 hl (by decide) rfl (fun ls hl => ?_)
  refine lv_iconst (v := nI 1) hx hb dL_ofText_17 (by decide) ?_
  exact W.widen (by decide) (by decide) (W.iret G.1.1 G.1.2.1 G.2.1 (fun t ht hW => ⟨rfl, by rw [ht]; exact hz, fun z h1 => by rw [ht]; exact hk z h1⟩) (fun z hz9 => absurd hz9 List.not_mem_nil) dL_ofText_18 G.2.2)
set_option maxRecDepth 100000 in
set_option maxHeartbeats 4000000 in
theorem c_L_agreement_x (l : Launch) (hfl : l.stackTraces = false) (w : GP) (o : Nat) (x : Int32) : Met l yL_agreement (ghs yL_agreement cL_agreement 4 (some .int) [(0, 9, 12, 21)]) ({ frames := 8, cells := 1, slots := 6, locals := 124 }) (gPx w f0 [.ref (w.2.2.2 0), .int x, .ref o]) (gRn (.int (nI 1))) 1 6 (fun _ => False) := by
  refine w_read (by decide) (Nat.le_of_ble_eq_true rfl) ?_
  intro P_ E_ S_ M_ B_ T_ C_ ls G hall hxt hB9 hl
  obtain ⟨hx, hb, hml, hown, hts⟩ := id G.1
  have hl : lv_has ls 4 [(0, .ref (w.2.2.2 0)), (1, .int x), (2, .ref o)] := hl
  refine lv_aload_n hx hb dL_agreement_0 rfl (lv_at hl 2 rfl) ?_
  refine lv_iconst (v := nI 0) hx hb dL_agreement_1 (by decide) ?_
  refine lv_aload_n hx hb dL_agreement_2 rfl (lv_at hl 0 rfl) ?_
  refine lv_iload_n hx hb dL_agreement_3 rfl (lv_at hl 1 rfl) ?_
  obtain ⟨hV, hX⟩ := hB9
  refine a_thr (a_runX (rest := [.int (nI 0), .ref o]) G.1 hall hV hX 0 (by decide) (show gE w f0 0 = .inr (2, _) from rfl) rfl ok_X2_agreement gm_394 gm_395 gm_621 (x_X2_agreement l hfl w f0 x f0_I rfl) ⟨rfl, rfl⟩ ⟨Nat.le_of_ble_eq_true rfl, Nat.le_of_ble_eq_true rfl⟩ rfl hl.1 rfl (Nat.le_of_ble_eq_true rfl) ⟨Nat.le_of_ble_eq_true rfl, Nat.le_of_ble_eq_true rfl⟩ dL_agreement_4) (fun q H1 ce hz hk hce hcv hcl => ?_)
  refine w_catch (hh := [(0, 9, 12, 21)]) (a0 := 0) (b0 := 9) (hp := 12) (ct := 21) (tl := []) hown hts hxt rfl (by decide) (by decide) gm_572 hX.2.2.1.2.2.1 hce hcv hcl ?_
  refine lv_astore_n (lv' := [(3, .ref q), (0, .ref (w.2.2.2 0)), (1, .int x), (2, .ref o)]) hx hb dL_agreement_12 rfl hl (by decide) rfl (fun ls hl => ?_)
  refine lv_iconst (v := nI 1) hx hb dL_agreement_13 (by decide) ?_
  exact W.widen (by decide) (by decide) (W.iret G.1.1 G.1.2.1 G.2.1 (fun t ht hW => ⟨rfl, by rw [ht]; exact hz, fun z h1 => by rw [ht]; exact hk z h1⟩) (fun z hz9 => absurd hz9 List.not_mem_nil) dL_agreement_14 G.2.2)
set_option maxRecDepth 100000 in
set_option maxHeartbeats 4000000 in
theorem c_L_pass_x (l : Launch) (hfl : l.stackTraces = false) (w : GP) (o : Nat) (x : Int32) (h0 : ¬ (nI 1 ≤ x ∧ x ≤ nI 40)) : Met l yL_pass (ghs yL_pass cL_pass 4 (some .int) [(0, 9, 12, 13), (0, 9, 15, 15)]) ({ frames := 8, cells := 1, slots := 6, locals := 126 }) (gPx w f0 [.ref (w.2.2.2 0), .int x, .ref o]) (gRn (.int (nI 1))) 1 6 (fun _ => False) := by
  refine w_read (by decide) (Nat.le_of_ble_eq_true rfl) ?_
  intro P_ E_ S_ M_ B_ T_ C_ ls G hall hxt hB9 hl
  obtain ⟨hx, hb, hml, hown, hts⟩ := id G.1
  have hl : lv_has ls 4 [(0, .ref (w.2.2.2 0)), (1, .int x), (2, .ref o)] := hl
  refine lv_aload_n hx hb dL_pass_0 rfl (lv_at hl 2 rfl) ?_
  refine lv_iconst (v := nI 0) hx hb dL_pass_1 (by decide) ?_
  refine lv_aload_n hx hb dL_pass_2 rfl (lv_at hl 0 rfl) ?_
  refine lv_iload_n hx hb dL_pass_3 rfl (lv_at hl 1 rfl) ?_
  obtain ⟨hV, hX⟩ := hB9
  refine a_thr (a_runX (rest := [.int (nI 0), .ref o]) G.1 hall hV hX 0 (by decide) (show gE w f0 0 = .inr (2, _) from rfl) rfl ok_X2_pass gm_623 gm_624 gm_622 (x_X2_pass l hfl w f0 x f0_I h0) ⟨rfl, rfl⟩ ⟨Nat.le_of_ble_eq_true rfl, Nat.le_of_ble_eq_true rfl⟩ rfl hl.1 rfl (Nat.le_of_ble_eq_true rfl) ⟨Nat.le_of_ble_eq_true rfl, Nat.le_of_ble_eq_true rfl⟩ dL_pass_4) (fun q H1 ce hz hk hce hcv hcl => ?_)
  refine w_catch (hh := [(0, 9, 12, 13), (0, 9, 15, 15)]) (a0 := 0) (b0 := 9) (hp := 12) (ct := 13) (tl := [⟨0, 9, 15, 15⟩]) hown hts hxt rfl (by decide) (by decide) gm_566 hX.2.2.1.1 hce hcv hcl ?_
  refine lv_astore_n (lv' := [(3, .ref q), (0, .ref (w.2.2.2 0)), (1, .int x), (2, .ref o)]) hx hb dL_pass_12 rfl hl (by decide) rfl (fun ls hl => ?_)
  refine lv_iconst (v := nI 1) hx hb dL_pass_13 (by decide) ?_
  exact W.widen (by decide) (by decide) (W.iret G.1.1 G.1.2.1 G.2.1 (fun t ht hW => ⟨rfl, by rw [ht]; exact hz, fun z h1 => by rw [ht]; exact hk z h1⟩) (fun z hz9 => absurd hz9 List.not_mem_nil) dL_pass_14 G.2.2)
set_option maxRecDepth 100000 in
set_option maxHeartbeats 4000000 in
theorem c_L_many_x (l : Launch) (hfl : l.stackTraces = false) (w : GP) (o : Nat) (x : Int32) (h0 : ¬ (0 ≤ x ∧ x ≤ nI 12)) : Met l yL_many (ghs yL_many cL_many 4 (some .int) [(0, 9, 12, 13)]) ({ frames := 8, cells := 1, slots := 6, locals := 125 }) (gPx w f0 [.ref (w.2.2.2 0), .int x, .ref o]) (gRn (.int (nI 1))) 1 6 (fun _ => False) := by
  refine w_read (by decide) (Nat.le_of_ble_eq_true rfl) ?_
  intro P_ E_ S_ M_ B_ T_ C_ ls G hall hxt hB9 hl
  obtain ⟨hx, hb, hml, hown, hts⟩ := id G.1
  have hl : lv_has ls 4 [(0, .ref (w.2.2.2 0)), (1, .int x), (2, .ref o)] := hl
  refine lv_aload_n hx hb dL_many_0 rfl (lv_at hl 2 rfl) ?_
  refine lv_iconst (v := nI 0) hx hb dL_many_1 (by decide) ?_
  refine lv_aload_n hx hb dL_many_2 rfl (lv_at hl 0 rfl) ?_
  refine lv_iload_n hx hb dL_many_3 rfl (lv_at hl 1 rfl) ?_
  obtain ⟨hV, hX⟩ := hB9
  refine a_thr (a_runX (rest := [.int (nI 0), .ref o]) G.1 hall hV hX 0 (by decide) (show gE w f0 0 = .inr (2, _) from rfl) rfl ok_X2_many gm_378 gm_379 gm_626 (x_X2_many l hfl w f0 x f0_I h0) ⟨rfl, rfl⟩ ⟨Nat.le_of_ble_eq_true rfl, Nat.le_of_ble_eq_true rfl⟩ rfl hl.1 rfl (Nat.le_of_ble_eq_true rfl) ⟨Nat.le_of_ble_eq_true rfl, Nat.le_of_ble_eq_true rfl⟩ dL_many_4) (fun q H1 ce hz hk hce hcv hcl => ?_)
  refine w_catch (hh := [(0, 9, 12, 13)]) (a0 := 0) (b0 := 9) (hp := 12) (ct := 13) (tl := []) hown hts hxt rfl (by decide) (by decide) gm_566 hX.2.2.1.1 hce hcv hcl ?_
  refine lv_astore_n (lv' := [(3, .ref q), (0, .ref (w.2.2.2 0)), (1, .int x), (2, .ref o)]) hx hb dL_many_12 rfl hl (by decide) rfl (fun ls hl => ?_)
  refine lv_iconst (v := nI 1) hx hb dL_many_13 (by decide) ?_
  exact W.widen (by decide) (by decide) (W.iret G.1.1 G.1.2.1 G.2.1 (fun t ht hW => ⟨rfl, by rw [ht]; exact hz, fun z h1 => by rw [ht]; exact hk z h1⟩) (fun z hz9 => absurd hz9 List.not_mem_nil) dL_many_14 G.2.2)
set_option maxRecDepth 100000 in
set_option maxHeartbeats 4000000 in
theorem c_L_reopenedBy_x (l : Launch) (hfl : l.stackTraces = false) (w : GP) (o : Nat) (x : Int32) : Met l yL_reopenedBy (ghs yL_reopenedBy cL_reopenedBy 4 (some .int) [(0, 9, 12, 21)]) ({ frames := 8, cells := 1, slots := 6, locals := 124 }) (gPx w f0 [.ref (w.2.2.2 0), .int x, .ref o]) (gRn (.int (nI 1))) 1 6 (fun _ => False) := by
  refine w_read (by decide) (Nat.le_of_ble_eq_true rfl) ?_
  intro P_ E_ S_ M_ B_ T_ C_ ls G hall hxt hB9 hl
  obtain ⟨hx, hb, hml, hown, hts⟩ := id G.1
  have hl : lv_has ls 4 [(0, .ref (w.2.2.2 0)), (1, .int x), (2, .ref o)] := hl
  refine lv_aload_n hx hb dL_reopenedBy_0 rfl (lv_at hl 2 rfl) ?_
  refine lv_iconst (v := nI 0) hx hb dL_reopenedBy_1 (by decide) ?_
  refine lv_aload_n hx hb dL_reopenedBy_2 rfl (lv_at hl 0 rfl) ?_
  refine lv_iload_n hx hb dL_reopenedBy_3 rfl (lv_at hl 1 rfl) ?_
  obtain ⟨hV, hX⟩ := hB9
  refine a_thr (a_runX (rest := [.int (nI 0), .ref o]) G.1 hall hV hX 0 (by decide) (show gE w f0 0 = .inr (2, _) from rfl) rfl ok_X2_reopenedBy gm_361 gm_362 gm_627 (x_X2_reopenedBy l hfl w f0 x f0_I rfl) ⟨rfl, rfl⟩ ⟨Nat.le_of_ble_eq_true rfl, Nat.le_of_ble_eq_true rfl⟩ rfl hl.1 rfl (Nat.le_of_ble_eq_true rfl) ⟨Nat.le_of_ble_eq_true rfl, Nat.le_of_ble_eq_true rfl⟩ dL_reopenedBy_4) (fun q H1 ce hz hk hce hcv hcl => ?_)
  refine w_catch (hh := [(0, 9, 12, 21)]) (a0 := 0) (b0 := 9) (hp := 12) (ct := 21) (tl := []) hown hts hxt rfl (by decide) (by decide) gm_572 hX.2.2.1.2.2.1 hce hcv hcl ?_
  refine lv_astore_n (lv' := [(3, .ref q), (0, .ref (w.2.2.2 0)), (1, .int x), (2, .ref o)]) hx hb dL_reopenedBy_12 rfl hl (by decide) rfl (fun ls hl => ?_)
  refine lv_iconst (v := nI 1) hx hb dL_reopenedBy_13 (by decide) ?_
  exact W.widen (by decide) (by decide) (W.iret G.1.1 G.1.2.1 G.2.1 (fun t ht hW => ⟨rfl, by rw [ht]; exact hz, fun z h1 => by rw [ht]; exact hk z h1⟩) (fun z hz9 => absurd hz9 List.not_mem_nil) dL_reopenedBy_14 G.2.2)
set_option maxRecDepth 100000 in
set_option maxHeartbeats 4000000 in
theorem c_L_reopenedIn_x (l : Launch) (hfl : l.stackTraces = false) (w : GP) (o : Nat) (x : Int32) (h0 : ¬ (nI 1 ≤ x ∧ x ≤ nI 40)) : Met l yL_reopenedIn (ghs yL_reopenedIn cL_reopenedIn 4 (some .int) [(0, 9, 12, 13)]) ({ frames := 8, cells := 1, slots := 6, locals := 124 }) (gPx w f0 [.ref (w.2.2.2 0), .int x, .ref o]) (gRn (.int (nI 1))) 1 6 (fun _ => False) := by
  refine w_read (by decide) (Nat.le_of_ble_eq_true rfl) ?_
  intro P_ E_ S_ M_ B_ T_ C_ ls G hall hxt hB9 hl
  obtain ⟨hx, hb, hml, hown, hts⟩ := id G.1
  have hl : lv_has ls 4 [(0, .ref (w.2.2.2 0)), (1, .int x), (2, .ref o)] := hl
  refine lv_aload_n hx hb dL_reopenedIn_0 rfl (lv_at hl 2 rfl) ?_
  refine lv_iconst (v := nI 0) hx hb dL_reopenedIn_1 (by decide) ?_
  refine lv_aload_n hx hb dL_reopenedIn_2 rfl (lv_at hl 0 rfl) ?_
  refine lv_iload_n hx hb dL_reopenedIn_3 rfl (lv_at hl 1 rfl) ?_
  obtain ⟨hV, hX⟩ := hB9
  refine a_thr (a_runX (rest := [.int (nI 0), .ref o]) G.1 hall hV hX 0 (by decide) (show gE w f0 0 = .inr (2, _) from rfl) rfl ok_X2_reopenedIn gm_398 gm_399 gm_628 (x_X2_reopenedIn l hfl w f0 x f0_I h0) ⟨rfl, rfl⟩ ⟨Nat.le_of_ble_eq_true rfl, Nat.le_of_ble_eq_true rfl⟩ rfl hl.1 rfl (Nat.le_of_ble_eq_true rfl) ⟨Nat.le_of_ble_eq_true rfl, Nat.le_of_ble_eq_true rfl⟩ dL_reopenedIn_4) (fun q H1 ce hz hk hce hcv hcl => ?_)
  refine w_catch (hh := [(0, 9, 12, 13)]) (a0 := 0) (b0 := 9) (hp := 12) (ct := 13) (tl := []) hown hts hxt rfl (by decide) (by decide) gm_566 hX.2.2.1.1 hce hcv hcl ?_
  refine lv_astore_n (lv' := [(3, .ref q), (0, .ref (w.2.2.2 0)), (1, .int x), (2, .ref o)]) hx hb dL_reopenedIn_12 rfl hl (by decide) rfl (fun ls hl => ?_)
  refine lv_iconst (v := nI 1) hx hb dL_reopenedIn_13 (by decide) ?_
  exact W.widen (by decide) (by decide) (W.iret G.1.1 G.1.2.1 G.2.1 (fun t ht hW => ⟨rfl, by rw [ht]; exact hz, fun z h1 => by rw [ht]; exact hk z h1⟩) (fun z hz9 => absurd hz9 List.not_mem_nil) dL_reopenedIn_14 G.2.2)
set_option maxRecDepth 100000 in
set_option maxHeartbeats 4000000 in
theorem c_L_changedBy_x (l : Launch) (hfl : l.stackTraces = false) (w : GP) (o : Nat) (x : Int32) (y : Int32) : Met l yL_changedBy (ghs yL_changedBy cL_changedBy 5 (some .int) [(0, 10, 13, 21), (0, 10, 17, 13)]) ({ frames := 9, cells := 1, slots := 6, locals := 147 }) (gPx w f0 [.ref (w.2.2.2 0), .int x, .int y, .ref o]) (gRn (.int (nI 1))) 1 6 (fun _ => False) := by
  refine w_read (by decide) (Nat.le_of_ble_eq_true rfl) ?_
  intro P_ E_ S_ M_ B_ T_ C_ ls G hall hxt hB9 hl
  obtain ⟨hx, hb, hml, hown, hts⟩ := id G.1
  have hl : lv_has ls 5 [(0, .ref (w.2.2.2 0)), (1, .int x), (2, .int y), (3, .ref o)] := hl
  refine lv_aload_n hx hb dL_changedBy_0 rfl (lv_at hl 3 rfl) ?_
  refine lv_iconst (v := nI 0) hx hb dL_changedBy_1 (by decide) ?_
  refine lv_aload_n hx hb dL_changedBy_2 rfl (lv_at hl 0 rfl) ?_
  refine lv_iload_n hx hb dL_changedBy_3 rfl (lv_at hl 1 rfl) ?_
  refine lv_iload_n hx hb dL_changedBy_4 rfl (lv_at hl 2 rfl) ?_
  obtain ⟨hV, hX⟩ := hB9
  refine a_thr (a_runX (rest := [.int (nI 0), .ref o]) G.1 hall hV hX 0 (by decide) (show gE w f0 0 = .inr (2, _) from rfl) rfl ok_X2_changedBy gm_630 gm_631 gm_629 (x_X2_changedBy l hfl w f0 x y f0_I rfl) ⟨rfl, rfl⟩ ⟨Nat.le_of_ble_eq_true rfl, Nat.le_of_ble_eq_true rfl⟩ rfl hl.1 rfl (Nat.le_of_ble_eq_true rfl) ⟨Nat.le_of_ble_eq_true rfl, Nat.le_of_ble_eq_true rfl⟩ dL_changedBy_5) (fun q H1 ce hz hk hce hcv hcl => ?_)
  refine w_catch (hh := [(0, 10, 13, 21), (0, 10, 17, 13)]) (a0 := 0) (b0 := 10) (hp := 13) (ct := 21) (tl := [⟨0, 10, 17, 13⟩]) hown hts hxt rfl (by decide) (by decide) gm_572 hX.2.2.1.2.2.1 hce hcv hcl ?_
  refine lv_astore (lv' := [(4, .ref q), (0, .ref (w.2.2.2 0)), (1, .int x), (2, .int y), (3, .ref o)]) hx hb dL_changedBy_13 hl (by decide) rfl (fun ls hl => ?_)
  refine lv_iconst (v := nI 1) hx hb dL_changedBy_15 (by decide) ?_
  exact W.widen (by decide) (by decide) (W.iret G.1.1 G.1.2.1 G.2.1 (fun t ht hW => ⟨rfl, by rw [ht]; exact hz, fun z h1 => by rw [ht]; exact hk z h1⟩) (fun z hz9 => absurd hz9 List.not_mem_nil) dL_changedBy_16 G.2.2)
set_option maxRecDepth 100000 in
set_option maxHeartbeats 4000000 in
theorem c_L_formFor_x (l : Launch) (hfl : l.stackTraces = false) (w : GP) (o : Nat) (x : Int32) (y : Int32) (z : Int32) (v : Int32) : Met l yL_formFor (ghs yL_formFor cL_formFor 7 (some .int) [(0, 14, 17, 21)]) ({ frames := 9, cells := 1, slots := 6, locals := 151 }) (gPx w f0 [.ref (w.2.2.2 0), .int x, .int y, .int z, .int v, .ref o]) (gRn (.int (nI 1))) 1 6 (fun _ => False) := by
  refine w_read (by decide) (Nat.le_of_ble_eq_true rfl) ?_
  intro P_ E_ S_ M_ B_ T_ C_ ls G hall hxt hB9 hl
  obtain ⟨hx, hb, hml, hown, hts⟩ := id G.1
  have hl : lv_has ls 7 [(0, .ref (w.2.2.2 0)), (1, .int x), (2, .int y), (3, .int z), (4, .int v), (5, .ref o)] := hl
  refine lv_aload hx hb dL_formFor_0 (lv_at hl 5 rfl) ?_
  refine lv_iconst (v := nI 0) hx hb dL_formFor_2 (by decide) ?_
  refine lv_aload_n hx hb dL_formFor_3 rfl (lv_at hl 0 rfl) ?_
  refine lv_iload_n hx hb dL_formFor_4 rfl (lv_at hl 1 rfl) ?_
  refine lv_iload_n hx hb dL_formFor_5 rfl (lv_at hl 2 rfl) ?_
  refine lv_iload_n hx hb dL_formFor_6 rfl (lv_at hl 3 rfl) ?_
  refine lv_iload hx hb dL_formFor_7 (lv_at hl 4 rfl) ?_
  obtain ⟨hV, hX⟩ := hB9
  refine a_thr (a_runX (rest := [.int (nI 0), .ref o]) G.1 hall hV hX 0 (by decide) (show gE w f0 0 = .inr (2, _) from rfl) rfl ok_X2_formFor gm_634 gm_635 gm_633 (x_X2_formFor l hfl w f0 x y z v f0_I rfl) ⟨rfl, rfl⟩ ⟨Nat.le_of_ble_eq_true rfl, Nat.le_of_ble_eq_true rfl⟩ rfl hl.1 rfl (Nat.le_of_ble_eq_true rfl) ⟨Nat.le_of_ble_eq_true rfl, Nat.le_of_ble_eq_true rfl⟩ dL_formFor_9) (fun q H1 ce hz hk hce hcv hcl => ?_)
  refine w_catch (hh := [(0, 14, 17, 21)]) (a0 := 0) (b0 := 14) (hp := 17) (ct := 21) (tl := []) hown hts hxt rfl (by decide) (by decide) gm_572 hX.2.2.1.2.2.1 hce hcv hcl ?_
  refine lv_astore (lv' := [(6, .ref q), (0, .ref (w.2.2.2 0)), (1, .int x), (2, .int y), (3, .int z), (4, .int v), (5, .ref o)]) hx hb dL_formFor_17 hl (by decide) rfl (fun ls hl => ?_)
  refine lv_iconst (v := nI 1) hx hb dL_formFor_19 (by decide) ?_
  exact W.widen (by decide) (by decide) (W.iret G.1.1 G.1.2.1 G.2.1 (fun t ht hW => ⟨rfl, by rw [ht]; exact hz, fun z h1 => by rw [ht]; exact hk z h1⟩) (fun z hz9 => absurd hz9 List.not_mem_nil) dL_formFor_20 G.2.2)
