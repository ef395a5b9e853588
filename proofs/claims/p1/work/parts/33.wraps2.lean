/-! The law's helpers that answer. -/
set_option maxRecDepth 100000 in
set_option maxHeartbeats 4000000 in
theorem c_L_concept (l : Launch) (w : GP) (D : va_G) (o : Nat) (cL : ClassId) (hgo : ¬ gA w o) (n : Nat) (h1 : n < 4) : Met l yL_concept (ghs yL_concept cL_concept 4 (some .int) [(0, 9, 12, 13), (0, 9, 15, 15)]) ({ frames := 2, cells := 0, slots := 0, locals := 43 }) (gPo D w o cL [.ref (w.2.2.2 0), .int (nI n), .ref o]) (mLo D w o cL (nI 0).toInt64) 0 0 (fun z => gA w z ∨ z = o) := by
  refine w_read (by decide) (Nat.le_of_ble_eq_true rfl) ?_
  intro P_ E_ S_ M_ B_ T_ C_ ls G hall hxt hB9 hl
  obtain ⟨hx, hb, hml, hown, hts⟩ := id G.1
  have hl : lv_has ls 4 [(0, .ref (w.2.2.2 0)), (1, .int (nI n)), (2, .ref o)] := hl
  refine lv_aload_n hx hb dL_concept_0 rfl (lv_at hl 2 rfl) ?_
  refine lv_iconst (v := nI 0) hx hb dL_concept_1 (by decide) ?_
  refine lv_aload_n hx hb dL_concept_2 rfl (lv_at hl 0 rfl) ?_
  refine lv_iload_n hx hb dL_concept_3 rfl (lv_at hl 1 rfl) ?_
  obtain ⟨hV, hK, hP⟩ := hB9
  have hG : GS w (gA w) S_ S_.heap [] f0 := ⟨hV, va_S.rf, fun _ h => h⟩
  refine g_callW (As := [.int (nI n)]) (rest := [.int (nI 0), .ref o]) G.1 hG 0 (by decide) (show gE w f0 0 = .inr (2, _) from rfl) rfl ok_X2_concept gm_569 gm_570 gm_568 (c_X2_concept l w f0 n f0_I h1 (by decide)) ⟨rfl, rfl⟩ ⟨Nat.le_of_ble_eq_true rfl, Nat.le_of_ble_eq_true rfl⟩ rfl hl.1 rfl (Nat.le_of_ble_eq_true rfl) ⟨Nat.le_of_ble_eq_true rfl, Nat.le_of_ble_eq_true rfl⟩ dL_concept_4 (fun v f1 H locs hv hG1 => ?_)
  obtain ⟨rfl, -⟩ := hv
  have hPo : va_P D gcl (oE cL o (fun _ => 0)) H := hP.kept (fun k x hx9 => by
    have hk9 : k < 1 := (List.getElem?_eq_some_iff.mp hx9).1
    rw [show k = 0 by omega] at hx9
    cases hx9
    exact hG1.2.1.2.1 o ((hP 0 _ rfl).lt) hgo)
  have hS : va_S (fun z => gA w z ∨ z = o) S_.heap H locs := ⟨hG1.2.1.1, fun z h1 h2 => hG1.2.1.2.1 z h1 (fun h3 => h2 (Or.inl h3)), fun z h => Or.inl (hG1.2.1.2.2 z h)⟩
  refine W.eq (g2 := F0 M_ 7 ls [.int (nI 0), .int (nI 0), .ref o]) (by rw [show nC f0 = 0 from rfl]; rfl) ?_
  refine lv_i2l hx hb dL_concept_7 rfl ?_
  refine va_last (x := (nI 0).toInt64) hx hb hK hPo (m1_D.weaken (B := fun z => gA w z ∨ z = o) (fun _ _ _ z => Or.inr z)) hS 0 0 rfl rfl (nI_in (by omega) (by omega)) dL_concept_8 (fun H locs hP hD hS => ?_)
  refine lv_goto (tgt := 18) hx hb dL_concept_9 (by decide) ?_
  refine lv_iconst (v := nI 0) hx hb dL_concept_18 (by decide) ?_
  exact W.iret G.1.1 G.1.2.1 G.2.1 (fun t ht hW => ⟨rfl, ⟨_, rfl, by rw [ht]; exact hP⟩, hS.F ht⟩) hS.2.2 dL_concept_19 G.2.2
set_option maxRecDepth 100000 in
set_option maxHeartbeats 4000000 in
theorem c_L_document (l : Launch) (w : GP) (D : va_G) (o : Nat) (cL : ClassId) (hgo : ¬ gA w o)  : Met l yL_document (ghs yL_document cL_document 3 (some .int) [(0, 8, 11, 15)]) ({ frames := 2, cells := 0, slots := 0, locals := 41 }) (gPo D w o cL [.ref (w.2.2.2 0), .ref o]) (mLo D w o cL (nI 0).toInt64) 0 0 (fun z => gA w z ∨ z = o) := by
  refine w_read (by decide) (Nat.le_of_ble_eq_true rfl) ?_
  intro P_ E_ S_ M_ B_ T_ C_ ls G hall hxt hB9 hl
  obtain ⟨hx, hb, hml, hown, hts⟩ := id G.1
  have hl : lv_has ls 3 [(0, .ref (w.2.2.2 0)), (1, .ref o)] := hl
  refine lv_aload_n hx hb dL_document_0 rfl (lv_at hl 1 rfl) ?_
  refine lv_iconst (v := nI 0) hx hb dL_document_1 (by decide) ?_
  refine lv_aload_n hx hb dL_document_2 rfl (lv_at hl 0 rfl) ?_
  obtain ⟨hV, hK, hP⟩ := hB9
  have hG : GS w (gA w) S_ S_.heap [] f0 := ⟨hV, va_S.rf, fun _ h => h⟩
  refine g_callW (As := []) (rest := [.int (nI 0), .ref o]) G.1 hG 0 (by decide) (show gE w f0 0 = .inr (2, _) from rfl) rfl ok_X2_document gm_604 gm_605 gm_603 (c_X2_document l w f0 f0_I (by decide)) ⟨rfl, rfl⟩ ⟨Nat.le_of_ble_eq_true rfl, Nat.le_of_ble_eq_true rfl⟩ rfl hl.1 rfl (Nat.le_of_ble_eq_true rfl) ⟨Nat.le_of_ble_eq_true rfl, Nat.le_of_ble_eq_true rfl⟩ dL_document_3 (fun v f1 H locs hv hG1 => ?_)
  obtain ⟨rfl, -⟩ := hv
  have hPo : va_P D gcl (oE cL o (fun _ => 0)) H := hP.kept (fun k x hx9 => by
    have hk9 : k < 1 := (List.getElem?_eq_some_iff.mp hx9).1
    rw [show k = 0 by omega] at hx9
    cases hx9
    exact hG1.2.1.2.1 o ((hP 0 _ rfl).lt) hgo)
  have hS : va_S (fun z => gA w z ∨ z = o) S_.heap H locs := ⟨hG1.2.1.1, fun z h1 h2 => hG1.2.1.2.1 z h1 (fun h3 => h2 (Or.inl h3)), fun z h => Or.inl (hG1.2.1.2.2 z h)⟩
  refine W.eq (g2 := F0 M_ 6 ls [.int (nI 0), .int (nI 0), .ref o]) (by rw [show nD f0 = 0 from rfl]; rfl) ?_
  refine lv_i2l hx hb dL_document_6 rfl ?_
  refine va_last (x := (nI 0).toInt64) hx hb hK hPo (m1_D.weaken (B := fun z => gA w z ∨ z = o) (fun _ _ _ z => Or.inr z)) hS 0 0 rfl rfl (nI_in (by omega) (by omega)) dL_document_7 (fun H locs hP hD hS => ?_)
  refine lv_goto (tgt := 14) hx hb dL_document_8 (by decide) ?_
  refine lv_iconst (v := nI 0) hx hb dL_document_14 (by decide) ?_
  exact W.iret G.1.1 G.1.2.1 G.2.1 (fun t ht hW => ⟨rfl, ⟨_, rfl, by rw [ht]; exact hP⟩, hS.F ht⟩) hS.2.2 dL_document_15 G.2.2
set_option maxRecDepth 100000 in
set_option maxHeartbeats 4000000 in
theorem c_L_pass (l : Launch) (w : GP) (D : va_G) (o : Nat) (cL : ClassId) (hgo : ¬ gA w o) (n : Nat) (h1 : 1 ≤ n) (h2 : n ≤ 40) : Met l yL_pass (ghs yL_pass cL_pass 4 (some .int) [(0, 9, 12, 13), (0, 9, 15, 15)]) ({ frames := 6, cells := 0, slots := 0, locals := 140 }) (gPo D w o cL [.ref (w.2.2.2 0), .int (nI n), .ref o]) (mLo D w o cL (nI 0).toInt64) 0 0 (fun z => gA w z ∨ z = o) := by
  refine w_read (by decide) (Nat.le_of_ble_eq_true rfl) ?_
  intro P_ E_ S_ M_ B_ T_ C_ ls G hall hxt hB9 hl
  obtain ⟨hx, hb, hml, hown, hts⟩ := id G.1
  have hl : lv_has ls 4 [(0, .ref (w.2.2.2 0)), (1, .int (nI n)), (2, .ref o)] := hl
  refine lv_aload_n hx hb dL_pass_0 rfl (lv_at hl 2 rfl) ?_
  refine lv_iconst (v := nI 0) hx hb dL_pass_1 (by decide) ?_
  refine lv_aload_n hx hb dL_pass_2 rfl (lv_at hl 0 rfl) ?_
  refine lv_iload_n hx hb dL_pass_3 rfl (lv_at hl 1 rfl) ?_
  obtain ⟨hV, hK, hP⟩ := hB9
  have hG : GS w (gA w) S_ S_.heap [] f0 := ⟨hV, va_S.rf, fun _ h => h⟩
  refine g_callW (As := [.int (nI n)]) (rest := [.int (nI 0), .ref o]) G.1 hG 0 (by decide) (show gE w f0 0 = .inr (2, _) from rfl) rfl ok_X2_pass gm_623 gm_624 gm_622 (c_X2_pass l w f0 n f0_I h1 h2 (f0_d h2)) ⟨rfl, rfl⟩ ⟨Nat.le_of_ble_eq_true rfl, Nat.le_of_ble_eq_true rfl⟩ rfl hl.1 rfl (Nat.le_of_ble_eq_true rfl) ⟨Nat.le_of_ble_eq_true rfl, Nat.le_of_ble_eq_true rfl⟩ dL_pass_4 (fun v f1 H locs hv hG1 => ?_)
  obtain ⟨rfl, -⟩ := hv
  have hPo : va_P D gcl (oE cL o (fun _ => 0)) H := hP.kept (fun k x hx9 => by
    have hk9 : k < 1 := (List.getElem?_eq_some_iff.mp hx9).1
    rw [show k = 0 by omega] at hx9
    cases hx9
    exact hG1.2.1.2.1 o ((hP 0 _ rfl).lt) hgo)
  have hS : va_S (fun z => gA w z ∨ z = o) S_.heap H locs := ⟨hG1.2.1.1, fun z h1 h2 => hG1.2.1.2.1 z h1 (fun h3 => h2 (Or.inl h3)), fun z h => Or.inl (hG1.2.1.2.2 z h)⟩
  refine W.eq (g2 := F0 M_ 7 ls [.int (nI 0), .int (nI 0), .ref o]) (by rw [f0_pa]; rfl) ?_
  refine lv_i2l hx hb dL_pass_7 rfl ?_
  refine va_last (x := (nI 0).toInt64) hx hb hK hPo (m1_D.weaken (B := fun z => gA w z ∨ z = o) (fun _ _ _ z => Or.inr z)) hS 0 0 rfl rfl (nI_in (by omega) (by omega)) dL_pass_8 (fun H locs hP hD hS => ?_)
  refine lv_goto (tgt := 18) hx hb dL_pass_9 (by decide) ?_
  refine lv_iconst (v := nI 0) hx hb dL_pass_18 (by decide) ?_
  exact W.iret G.1.1 G.1.2.1 G.2.1 (fun t ht hW => ⟨rfl, ⟨_, rfl, by rw [ht]; exact hP⟩, hS.F ht⟩) hS.2.2 dL_pass_19 G.2.2
set_option maxRecDepth 100000 in
set_option maxHeartbeats 4000000 in
theorem c_L_many (l : Launch) (w : GP) (D : va_G) (o : Nat) (cL : ClassId) (hgo : ¬ gA w o) (n : Nat) (h1 : n < 13) : Met l yL_many (ghs yL_many cL_many 4 (some .int) [(0, 9, 12, 13)]) ({ frames := 4, cells := 0, slots := 0, locals := 90 }) (gPo D w o cL [.ref (w.2.2.2 0), .int (nI n), .ref o]) (mLo D w o cL (nI 0).toInt64) 0 0 (fun z => gA w z ∨ z = o) := by
  refine w_read (by decide) (Nat.le_of_ble_eq_true rfl) ?_
  intro P_ E_ S_ M_ B_ T_ C_ ls G hall hxt hB9 hl
  obtain ⟨hx, hb, hml, hown, hts⟩ := id G.1
  have hl : lv_has ls 4 [(0, .ref (w.2.2.2 0)), (1, .int (nI n)), (2, .ref o)] := hl
  refine lv_aload_n hx hb dL_many_0 rfl (lv_at hl 2 rfl) ?_
  refine lv_iconst (v := nI 0) hx hb dL_many_1 (by decide) ?_
  refine lv_aload_n hx hb dL_many_2 rfl (lv_at hl 0 rfl) ?_
  refine lv_iload_n hx hb dL_many_3 rfl (lv_at hl 1 rfl) ?_
  obtain ⟨hV, hK, hP⟩ := hB9
  refine g_callV (As := [.int (nI n)]) (rest := [.int (nI 0), .ref o]) G.1 hV 0 (by decide) (show gE w f0 0 = .inr (2, _) from rfl) rfl ok_X2_many gm_378 gm_379 gm_626 (c_X2_many l w f0 n f0_I h1) ⟨rfl, rfl⟩ ⟨Nat.le_of_ble_eq_true rfl, Nat.le_of_ble_eq_true rfl⟩ rfl hl.1 rfl (Nat.le_of_ble_eq_true rfl) ⟨Nat.le_of_ble_eq_true rfl, Nat.le_of_ble_eq_true rfl⟩ dL_many_4 ?_
  have hPo := hP
  have hS : va_S (fun z => gA w z ∨ z = o) S_.heap S_.heap [] := va_S.rf
  refine W.eq (g2 := F0 M_ 7 ls [.int (nI 0), .int (nI 0), .ref o]) (by rw [f0_ma n h1]) ?_
  refine lv_i2l hx hb dL_many_7 rfl ?_
  refine va_last (x := (nI 0).toInt64) hx hb hK hPo (m1_D.weaken (B := fun z => gA w z ∨ z = o) (fun _ _ _ z => Or.inr z)) hS 0 0 rfl rfl (nI_in (by omega) (by omega)) dL_many_8 (fun H locs hP hD hS => ?_)
  refine lv_goto (tgt := 15) hx hb dL_many_9 (by decide) ?_
  refine lv_iconst (v := nI 0) hx hb dL_many_15 (by decide) ?_
  exact W.iret G.1.1 G.1.2.1 G.2.1 (fun t ht hW => ⟨rfl, ⟨_, rfl, by rw [ht]; exact hP⟩, hS.F ht⟩) hS.2.2 dL_many_16 G.2.2
set_option maxRecDepth 100000 in
set_option maxHeartbeats 4000000 in
theorem c_L_reopenedIn (l : Launch) (w : GP) (D : va_G) (o : Nat) (cL : ClassId) (hgo : ¬ gA w o) (n : Nat) (h1 : 1 ≤ n) (h2 : n ≤ 40) : Met l yL_reopenedIn (ghs yL_reopenedIn cL_reopenedIn 4 (some .int) [(0, 9, 12, 13)]) ({ frames := 5, cells := 0, slots := 0, locals := 114 }) (gPo D w o cL [.ref (w.2.2.2 0), .int (nI n), .ref o]) (mLo D w o cL (nI 0).toInt64) 0 0 (fun z => gA w z ∨ z = o) := by
  refine w_read (by decide) (Nat.le_of_ble_eq_true rfl) ?_
  intro P_ E_ S_ M_ B_ T_ C_ ls G hall hxt hB9 hl
  obtain ⟨hx, hb, hml, hown, hts⟩ := id G.1
  have hl : lv_has ls 4 [(0, .ref (w.2.2.2 0)), (1, .int (nI n)), (2, .ref o)] := hl
  refine lv_aload_n hx hb dL_reopenedIn_0 rfl (lv_at hl 2 rfl) ?_
  refine lv_iconst (v := nI 0) hx hb dL_reopenedIn_1 (by decide) ?_
  refine lv_aload_n hx hb dL_reopenedIn_2 rfl (lv_at hl 0 rfl) ?_
  refine lv_iload_n hx hb dL_reopenedIn_3 rfl (lv_at hl 1 rfl) ?_
  obtain ⟨hV, hK, hP⟩ := hB9
  refine g_callV (As := [.int (nI n)]) (rest := [.int (nI 0), .ref o]) G.1 hV 0 (by decide) (show gE w f0 0 = .inr (2, _) from rfl) rfl ok_X2_reopenedIn gm_398 gm_399 gm_628 (c_X2_reopenedIn l w f0 n f0_I h1 h2) ⟨rfl, rfl⟩ ⟨Nat.le_of_ble_eq_true rfl, Nat.le_of_ble_eq_true rfl⟩ rfl hl.1 rfl (Nat.le_of_ble_eq_true rfl) ⟨Nat.le_of_ble_eq_true rfl, Nat.le_of_ble_eq_true rfl⟩ dL_reopenedIn_4 ?_
  have hPo := hP
  have hS : va_S (fun z => gA w z ∨ z = o) S_.heap S_.heap [] := va_S.rf
  refine W.eq (g2 := F0 M_ 7 ls [.int (nI 0), .int (nI 0), .ref o]) (by rw [f0_ri]) ?_
  refine lv_i2l hx hb dL_reopenedIn_7 rfl ?_
  refine va_last (x := (nI 0).toInt64) hx hb hK hPo (m1_D.weaken (B := fun z => gA w z ∨ z = o) (fun _ _ _ z => Or.inr z)) hS 0 0 rfl rfl (nI_in (by omega) (by omega)) dL_reopenedIn_8 (fun H locs hP hD hS => ?_)
  refine lv_goto (tgt := 15) hx hb dL_reopenedIn_9 (by decide) ?_
  refine lv_iconst (v := nI 0) hx hb dL_reopenedIn_15 (by decide) ?_
  exact W.iret G.1.1 G.1.2.1 G.2.1 (fun t ht hW => ⟨rfl, ⟨_, rfl, by rw [ht]; exact hP⟩, hS.F ht⟩) hS.2.2 dL_reopenedIn_16 G.2.2
