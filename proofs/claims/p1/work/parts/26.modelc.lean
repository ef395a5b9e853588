/-! The reference on the empty house: its calls. -/
theorem ok_X5_term : gOK yX5_term cX5_term 8 (some .int) 3 := ⟨gm_666, gm_434, by decide +kernel⟩
set_option maxRecDepth 100000 in
set_option maxHeartbeats 4000000 in
theorem c_X5_term (l : Launch) (u : MP) (th : Int32) (dy : Int32) (sm : Int64) (x : Int32) (y : Int32) (z : Int32)  : Met l yX5_term (gws yX5_term cX5_term 8 (some .int)) ({ frames := 2, cells := 0, slots := 0, locals := 43 }) (mPc u th dy sm [.ref (u.2.1 0), .int x, .int y, .int z]) (mWr u (some (.int (nI 0))) (nI 1) dy sm) 0 0 (mA u) := by
  refine b_read (by decide) (Nat.le_of_ble_eq_true rfl) ?_
  intro P_ E_ S_ M_ B_ T_ C_ ls G hnm hV hl
  obtain ⟨hx, hb, hml, hown, hts⟩ := id G.1
  have hl : lv_has ls 8 [(0, .ref (u.2.1 0)), (1, .int x), (2, .int y), (3, .int z)] := hl
  have hM := MV.start hV
  refine lv_aload_n hx hb dX5_term_0 rfl (lv_at hl 0 rfl) ?_
  refine lv_iconst (v := nI 0) hx hb dX5_term_1 (by decide) ?_
  refine m_putT hx hb hts hown hM gm_427 dX5_term_2 (fun H locs hM => ?_)
  refine lv_aload_n hx hb dX5_term_5 rfl (lv_at hl 0 rfl) ?_
  refine lv_iload_n hx hb dX5_term_6 rfl (lv_at hl 1 rfl) ?_
  refine m_call (As := [.int x]) (rest := []) G.1 hM rfl ok_X5_isConcept gm_511 gm_512 gm_510 (c_X5_isConcept l u (nI 0) dy sm x ) ⟨rfl, rfl⟩ ⟨Nat.le_of_ble_eq_true rfl, Nat.le_of_ble_eq_true rfl⟩ rfl hl.1 rfl (Nat.le_of_ble_eq_true rfl) ⟨Nat.le_of_ble_eq_true rfl, Nat.le_of_ble_eq_true rfl⟩ dX5_term_7 (fun H locs hM => ?_)
  refine lv_if_eq (tgt := 20) hx hb dX5_term_10 (by decide) (fun c10 => ?_) (fun c10 => ?_)
  · skip
    have c10 : nI 0 = nI 0 := c10
    have c10 : 0 = 0 := (g_eq (by omega) (by omega)).mp c10
    refine lv_aload_n hx hb dX5_term_20 rfl (lv_at hl 0 rfl) ?_
    refine lv_iconst (v := nI 1) hx hb dX5_term_21 (by decide) ?_
    refine m_call (As := [.int (nI 1)]) (rest := []) G.1 hM rfl ok_X5_refuse gm_487 gm_488 gm_486 (c_X5_refuse l u (nI 0) dy sm 1 ) ⟨rfl, rfl⟩ ⟨Nat.le_of_ble_eq_true rfl, Nat.le_of_ble_eq_true rfl⟩ rfl hl.1 rfl (Nat.le_of_ble_eq_true rfl) ⟨Nat.le_of_ble_eq_true rfl, Nat.le_of_ble_eq_true rfl⟩ dX5_term_22 (fun H locs hM => ?_)
    exact m_iret G hM (rfl) (by decide) (by decide) dX5_term_25
  · skip
    have c10 : ¬ (nI 0 = nI 0) := c10
    have c10 : ¬ (0 = 0) := fun q => c10 ((g_eq (by omega) (by omega)).mpr q)
    omega
theorem ok_X5_prefer : gOK yX5_prefer cX5_prefer 4 (some .int) 1 := ⟨gm_680, gm_434, by decide +kernel⟩
set_option maxRecDepth 100000 in
set_option maxHeartbeats 4000000 in
theorem c_X5_prefer (l : Launch) (u : MP) (th : Int32) (dy : Int32) (sm : Int64) (x : Int32)  : Met l yX5_prefer (gws yX5_prefer cX5_prefer 4 (some .int)) ({ frames := 2, cells := 0, slots := 0, locals := 43 }) (mPc u th dy sm [.ref (u.2.1 0), .int x]) (mWr u (some (.int (nI 0))) (nI 1) dy sm) 0 0 (mA u) := by
  refine b_read (by decide) (Nat.le_of_ble_eq_true rfl) ?_
  intro P_ E_ S_ M_ B_ T_ C_ ls G hnm hV hl
  obtain ⟨hx, hb, hml, hown, hts⟩ := id G.1
  have hl : lv_has ls 4 [(0, .ref (u.2.1 0)), (1, .int x)] := hl
  have hM := MV.start hV
  refine lv_aload_n hx hb dX5_prefer_0 rfl (lv_at hl 0 rfl) ?_
  refine lv_iconst (v := nI 0) hx hb dX5_prefer_1 (by decide) ?_
  refine m_putT hx hb hts hown hM gm_427 dX5_prefer_2 (fun H locs hM => ?_)
  refine lv_aload_n hx hb dX5_prefer_5 rfl (lv_at hl 0 rfl) ?_
  refine lv_iload_n hx hb dX5_prefer_6 rfl (lv_at hl 1 rfl) ?_
  refine m_call (As := [.int x]) (rest := []) G.1 hM rfl ok_X5_isTerm gm_524 gm_525 gm_523 (c_X5_isTerm l u (nI 0) dy sm x ) ⟨rfl, rfl⟩ ⟨Nat.le_of_ble_eq_true rfl, Nat.le_of_ble_eq_true rfl⟩ rfl hl.1 rfl (Nat.le_of_ble_eq_true rfl) ⟨Nat.le_of_ble_eq_true rfl, Nat.le_of_ble_eq_true rfl⟩ dX5_prefer_7 (fun H locs hM => ?_)
  refine lv_if_ne (tgt := 19) hx hb dX5_prefer_10 (by decide) (fun c10 => ?_) (fun c10 => ?_)
  · skip
    have c10 : ¬ (nI 0 = nI 0) := c10
    have c10 : ¬ (0 = 0) := fun q => c10 ((g_eq (by omega) (by omega)).mpr q)
    omega
  · skip
    have c10 : nI 0 = nI 0 := c10
    have c10 : 0 = 0 := (g_eq (by omega) (by omega)).mp c10
    refine lv_aload_n hx hb dX5_prefer_13 rfl (lv_at hl 0 rfl) ?_
    refine lv_iconst (v := nI 1) hx hb dX5_prefer_14 (by decide) ?_
    refine m_call (As := [.int (nI 1)]) (rest := []) G.1 hM rfl ok_X5_refuse gm_487 gm_488 gm_486 (c_X5_refuse l u (nI 0) dy sm 1 ) ⟨rfl, rfl⟩ ⟨Nat.le_of_ble_eq_true rfl, Nat.le_of_ble_eq_true rfl⟩ rfl hl.1 rfl (Nat.le_of_ble_eq_true rfl) ⟨Nat.le_of_ble_eq_true rfl, Nat.le_of_ble_eq_true rfl⟩ dX5_prefer_15 (fun H locs hM => ?_)
    exact m_iret G hM (rfl) (by decide) (by decide) dX5_prefer_18
theorem ok_X5_ban : gOK yX5_ban cX5_ban 4 (some .int) 2 := ⟨gm_687, gm_434, by decide +kernel⟩
set_option maxRecDepth 100000 in
set_option maxHeartbeats 4000000 in
theorem c_X5_ban (l : Launch) (u : MP) (th : Int32) (dy : Int32) (sm : Int64) (x : Int32) (y : Int32)  : Met l yX5_ban (gws yX5_ban cX5_ban 4 (some .int)) ({ frames := 2, cells := 0, slots := 0, locals := 43 }) (mPc u th dy sm [.ref (u.2.1 0), .int x, .int y]) (mWr u (some (.int (nI 0))) (nI 1) dy sm) 0 0 (mA u) := by
  refine b_read (by decide) (Nat.le_of_ble_eq_true rfl) ?_
  intro P_ E_ S_ M_ B_ T_ C_ ls G hnm hV hl
  obtain ⟨hx, hb, hml, hown, hts⟩ := id G.1
  have hl : lv_has ls 4 [(0, .ref (u.2.1 0)), (1, .int x), (2, .int y)] := hl
  have hM := MV.start hV
  refine lv_aload_n hx hb dX5_ban_0 rfl (lv_at hl 0 rfl) ?_
  refine lv_iconst (v := nI 0) hx hb dX5_ban_1 (by decide) ?_
  refine m_putT hx hb hts hown hM gm_427 dX5_ban_2 (fun H locs hM => ?_)
  refine lv_aload_n hx hb dX5_ban_5 rfl (lv_at hl 0 rfl) ?_
  refine lv_iload_n hx hb dX5_ban_6 rfl (lv_at hl 1 rfl) ?_
  refine m_call (As := [.int x]) (rest := []) G.1 hM rfl ok_X5_isTerm gm_524 gm_525 gm_523 (c_X5_isTerm l u (nI 0) dy sm x ) ⟨rfl, rfl⟩ ⟨Nat.le_of_ble_eq_true rfl, Nat.le_of_ble_eq_true rfl⟩ rfl hl.1 rfl (Nat.le_of_ble_eq_true rfl) ⟨Nat.le_of_ble_eq_true rfl, Nat.le_of_ble_eq_true rfl⟩ dX5_ban_7 (fun H locs hM => ?_)
  refine lv_if_ne (tgt := 19) hx hb dX5_ban_10 (by decide) (fun c10 => ?_) (fun c10 => ?_)
  · skip
    have c10 : ¬ (nI 0 = nI 0) := c10
    have c10 : ¬ (0 = 0) := fun q => c10 ((g_eq (by omega) (by omega)).mpr q)
    omega
  · skip
    have c10 : nI 0 = nI 0 := c10
    have c10 : 0 = 0 := (g_eq (by omega) (by omega)).mp c10
    refine lv_aload_n hx hb dX5_ban_13 rfl (lv_at hl 0 rfl) ?_
    refine lv_iconst (v := nI 1) hx hb dX5_ban_14 (by decide) ?_
    refine m_call (As := [.int (nI 1)]) (rest := []) G.1 hM rfl ok_X5_refuse gm_487 gm_488 gm_486 (c_X5_refuse l u (nI 0) dy sm 1 ) ⟨rfl, rfl⟩ ⟨Nat.le_of_ble_eq_true rfl, Nat.le_of_ble_eq_true rfl⟩ rfl hl.1 rfl (Nat.le_of_ble_eq_true rfl) ⟨Nat.le_of_ble_eq_true rfl, Nat.le_of_ble_eq_true rfl⟩ dX5_ban_15 (fun H locs hM => ?_)
    exact m_iret G hM (rfl) (by decide) (by decide) dX5_ban_18
theorem ok_X5_allow : gOK yX5_allow cX5_allow 4 (some .int) 1 := ⟨gm_694, gm_434, by decide +kernel⟩
set_option maxRecDepth 100000 in
set_option maxHeartbeats 4000000 in
theorem c_X5_allow (l : Launch) (u : MP) (th : Int32) (dy : Int32) (sm : Int64) (x : Int32)  : Met l yX5_allow (gws yX5_allow cX5_allow 4 (some .int)) ({ frames := 2, cells := 0, slots := 0, locals := 43 }) (mPc u th dy sm [.ref (u.2.1 0), .int x]) (mWr u (some (.int (nI 0))) (nI 1) dy sm) 0 0 (mA u) := by
  refine b_read (by decide) (Nat.le_of_ble_eq_true rfl) ?_
  intro P_ E_ S_ M_ B_ T_ C_ ls G hnm hV hl
  obtain ⟨hx, hb, hml, hown, hts⟩ := id G.1
  have hl : lv_has ls 4 [(0, .ref (u.2.1 0)), (1, .int x)] := hl
  have hM := MV.start hV
  refine lv_aload_n hx hb dX5_allow_0 rfl (lv_at hl 0 rfl) ?_
  refine lv_iconst (v := nI 0) hx hb dX5_allow_1 (by decide) ?_
  refine m_putT hx hb hts hown hM gm_427 dX5_allow_2 (fun H locs hM => ?_)
  refine lv_aload_n hx hb dX5_allow_5 rfl (lv_at hl 0 rfl) ?_
  refine lv_iload_n hx hb dX5_allow_6 rfl (lv_at hl 1 rfl) ?_
  refine m_call (As := [.int x]) (rest := []) G.1 hM rfl ok_X5_isTerm gm_524 gm_525 gm_523 (c_X5_isTerm l u (nI 0) dy sm x ) ⟨rfl, rfl⟩ ⟨Nat.le_of_ble_eq_true rfl, Nat.le_of_ble_eq_true rfl⟩ rfl hl.1 rfl (Nat.le_of_ble_eq_true rfl) ⟨Nat.le_of_ble_eq_true rfl, Nat.le_of_ble_eq_true rfl⟩ dX5_allow_7 (fun H locs hM => ?_)
  refine lv_if_ne (tgt := 19) hx hb dX5_allow_10 (by decide) (fun c10 => ?_) (fun c10 => ?_)
  · skip
    have c10 : ¬ (nI 0 = nI 0) := c10
    have c10 : ¬ (0 = 0) := fun q => c10 ((g_eq (by omega) (by omega)).mpr q)
    omega
  · skip
    have c10 : nI 0 = nI 0 := c10
    have c10 : 0 = 0 := (g_eq (by omega) (by omega)).mp c10
    refine lv_aload_n hx hb dX5_allow_13 rfl (lv_at hl 0 rfl) ?_
    refine lv_iconst (v := nI 1) hx hb dX5_allow_14 (by decide) ?_
    refine m_call (As := [.int (nI 1)]) (rest := []) G.1 hM rfl ok_X5_refuse gm_487 gm_488 gm_486 (c_X5_refuse l u (nI 0) dy sm 1 ) ⟨rfl, rfl⟩ ⟨Nat.le_of_ble_eq_true rfl, Nat.le_of_ble_eq_true rfl⟩ rfl hl.1 rfl (Nat.le_of_ble_eq_true rfl) ⟨Nat.le_of_ble_eq_true rfl, Nat.le_of_ble_eq_true rfl⟩ dX5_allow_15 (fun H locs hM => ?_)
    exact m_iret G hM (rfl) (by decide) (by decide) dX5_allow_18
theorem ok_X5_ofTerm : gOK yX5_ofTerm cX5_ofTerm 3 (some .int) 2 := ⟨gm_701, gm_434, by decide +kernel⟩
set_option maxRecDepth 100000 in
set_option maxHeartbeats 4000000 in
theorem c_X5_ofTerm (l : Launch) (u : MP) (th : Int32) (dy : Int32) (sm : Int64) (x : Int32) (y : Int32)  : Met l yX5_ofTerm (gws yX5_ofTerm cX5_ofTerm 3 (some .int)) ({ frames := 2, cells := 0, slots := 0, locals := 43 }) (mPc u th dy sm [.ref (u.2.1 0), .int x, .int y]) (mWr u (some (.int (nI 0))) (nI 1) dy sm) 0 0 (mA u) := by
  refine b_read (by decide) (Nat.le_of_ble_eq_true rfl) ?_
  intro P_ E_ S_ M_ B_ T_ C_ ls G hnm hV hl
  obtain ⟨hx, hb, hml, hown, hts⟩ := id G.1
  have hl : lv_has ls 3 [(0, .ref (u.2.1 0)), (1, .int x), (2, .int y)] := hl
  have hM := MV.start hV
  refine lv_aload_n hx hb dX5_ofTerm_0 rfl (lv_at hl 0 rfl) ?_
  refine lv_iconst (v := nI 0) hx hb dX5_ofTerm_1 (by decide) ?_
  refine m_putT hx hb hts hown hM gm_427 dX5_ofTerm_2 (fun H locs hM => ?_)
  refine lv_aload_n hx hb dX5_ofTerm_5 rfl (lv_at hl 0 rfl) ?_
  refine lv_iload_n hx hb dX5_ofTerm_6 rfl (lv_at hl 1 rfl) ?_
  refine m_call (As := [.int x]) (rest := []) G.1 hM rfl ok_X5_isTerm gm_524 gm_525 gm_523 (c_X5_isTerm l u (nI 0) dy sm x ) ⟨rfl, rfl⟩ ⟨Nat.le_of_ble_eq_true rfl, Nat.le_of_ble_eq_true rfl⟩ rfl hl.1 rfl (Nat.le_of_ble_eq_true rfl) ⟨Nat.le_of_ble_eq_true rfl, Nat.le_of_ble_eq_true rfl⟩ dX5_ofTerm_7 (fun H locs hM => ?_)
  refine lv_if_ne (tgt := 19) hx hb dX5_ofTerm_10 (by decide) (fun c10 => ?_) (fun c10 => ?_)
  · skip
    have c10 : ¬ (nI 0 = nI 0) := c10
    have c10 : ¬ (0 = 0) := fun q => c10 ((g_eq (by omega) (by omega)).mpr q)
    omega
  · skip
    have c10 : nI 0 = nI 0 := c10
    have c10 : 0 = 0 := (g_eq (by omega) (by omega)).mp c10
    refine lv_aload_n hx hb dX5_ofTerm_13 rfl (lv_at hl 0 rfl) ?_
    refine lv_iconst (v := nI 1) hx hb dX5_ofTerm_14 (by decide) ?_
    refine m_call (As := [.int (nI 1)]) (rest := []) G.1 hM rfl ok_X5_refuse gm_487 gm_488 gm_486 (c_X5_refuse l u (nI 0) dy sm 1 ) ⟨rfl, rfl⟩ ⟨Nat.le_of_ble_eq_true rfl, Nat.le_of_ble_eq_true rfl⟩ rfl hl.1 rfl (Nat.le_of_ble_eq_true rfl) ⟨Nat.le_of_ble_eq_true rfl, Nat.le_of_ble_eq_true rfl⟩ dX5_ofTerm_15 (fun H locs hM => ?_)
    exact m_iret G hM (rfl) (by decide) (by decide) dX5_ofTerm_18
theorem ok_X5_ofConcept : gOK yX5_ofConcept cX5_ofConcept 3 (some .int) 2 := ⟨gm_708, gm_434, by decide +kernel⟩
set_option maxRecDepth 100000 in
set_option maxHeartbeats 4000000 in
theorem c_X5_ofConcept (l : Launch) (u : MP) (th : Int32) (dy : Int32) (sm : Int64) (x : Int32) (y : Int32)  : Met l yX5_ofConcept (gws yX5_ofConcept cX5_ofConcept 3 (some .int)) ({ frames := 2, cells := 0, slots := 0, locals := 43 }) (mPc u th dy sm [.ref (u.2.1 0), .int x, .int y]) (mWr u (some (.int (nI 0))) (nI 1) dy sm) 0 0 (mA u) := by
  refine b_read (by decide) (Nat.le_of_ble_eq_true rfl) ?_
  intro P_ E_ S_ M_ B_ T_ C_ ls G hnm hV hl
  obtain ⟨hx, hb, hml, hown, hts⟩ := id G.1
  have hl : lv_has ls 3 [(0, .ref (u.2.1 0)), (1, .int x), (2, .int y)] := hl
  have hM := MV.start hV
  refine lv_aload_n hx hb dX5_ofConcept_0 rfl (lv_at hl 0 rfl) ?_
  refine lv_iconst (v := nI 0) hx hb dX5_ofConcept_1 (by decide) ?_
  refine m_putT hx hb hts hown hM gm_427 dX5_ofConcept_2 (fun H locs hM => ?_)
  refine lv_aload_n hx hb dX5_ofConcept_5 rfl (lv_at hl 0 rfl) ?_
  refine lv_iload_n hx hb dX5_ofConcept_6 rfl (lv_at hl 1 rfl) ?_
  refine m_call (As := [.int x]) (rest := []) G.1 hM rfl ok_X5_isConcept gm_511 gm_512 gm_510 (c_X5_isConcept l u (nI 0) dy sm x ) ⟨rfl, rfl⟩ ⟨Nat.le_of_ble_eq_true rfl, Nat.le_of_ble_eq_true rfl⟩ rfl hl.1 rfl (Nat.le_of_ble_eq_true rfl) ⟨Nat.le_of_ble_eq_true rfl, Nat.le_of_ble_eq_true rfl⟩ dX5_ofConcept_7 (fun H locs hM => ?_)
  refine lv_if_ne (tgt := 19) hx hb dX5_ofConcept_10 (by decide) (fun c10 => ?_) (fun c10 => ?_)
  · skip
    have c10 : ¬ (nI 0 = nI 0) := c10
    have c10 : ¬ (0 = 0) := fun q => c10 ((g_eq (by omega) (by omega)).mpr q)
    omega
  · skip
    have c10 : nI 0 = nI 0 := c10
    have c10 : 0 = 0 := (g_eq (by omega) (by omega)).mp c10
    refine lv_aload_n hx hb dX5_ofConcept_13 rfl (lv_at hl 0 rfl) ?_
    refine lv_iconst (v := nI 1) hx hb dX5_ofConcept_14 (by decide) ?_
    refine m_call (As := [.int (nI 1)]) (rest := []) G.1 hM rfl ok_X5_refuse gm_487 gm_488 gm_486 (c_X5_refuse l u (nI 0) dy sm 1 ) ⟨rfl, rfl⟩ ⟨Nat.le_of_ble_eq_true rfl, Nat.le_of_ble_eq_true rfl⟩ rfl hl.1 rfl (Nat.le_of_ble_eq_true rfl) ⟨Nat.le_of_ble_eq_true rfl, Nat.le_of_ble_eq_true rfl⟩ dX5_ofConcept_15 (fun H locs hM => ?_)
    exact m_iret G hM (rfl) (by decide) (by decide) dX5_ofConcept_18
theorem ok_X5_split : gOK yX5_split cX5_split 7 (some .int) 3 := ⟨gm_715, gm_434, by decide +kernel⟩
set_option maxRecDepth 100000 in
set_option maxHeartbeats 4000000 in
theorem c_X5_split (l : Launch) (u : MP) (th : Int32) (dy : Int32) (sm : Int64) (x : Int32) (y : Int32) (z : Int32)  : Met l yX5_split (gws yX5_split cX5_split 7 (some .int)) ({ frames := 2, cells := 0, slots := 0, locals := 43 }) (mPc u th dy sm [.ref (u.2.1 0), .int x, .int y, .int z]) (mWr u (some (.int (nI 0))) (nI 1) dy sm) 0 0 (mA u) := by
  refine b_read (by decide) (Nat.le_of_ble_eq_true rfl) ?_
  intro P_ E_ S_ M_ B_ T_ C_ ls G hnm hV hl
  obtain ⟨hx, hb, hml, hown, hts⟩ := id G.1
  have hl : lv_has ls 7 [(0, .ref (u.2.1 0)), (1, .int x), (2, .int y), (3, .int z)] := hl
  have hM := MV.start hV
  refine lv_aload_n hx hb dX5_split_0 rfl (lv_at hl 0 rfl) ?_
  refine lv_iconst (v := nI 0) hx hb dX5_split_1 (by decide) ?_
  refine m_putT hx hb hts hown hM gm_427 dX5_split_2 (fun H locs hM => ?_)
  refine lv_aload_n hx hb dX5_split_5 rfl (lv_at hl 0 rfl) ?_
  refine lv_iload_n hx hb dX5_split_6 rfl (lv_at hl 1 rfl) ?_
  refine m_call (As := [.int x]) (rest := []) G.1 hM rfl ok_X5_isConcept gm_511 gm_512 gm_510 (c_X5_isConcept l u (nI 0) dy sm x ) ⟨rfl, rfl⟩ ⟨Nat.le_of_ble_eq_true rfl, Nat.le_of_ble_eq_true rfl⟩ rfl hl.1 rfl (Nat.le_of_ble_eq_true rfl) ⟨Nat.le_of_ble_eq_true rfl, Nat.le_of_ble_eq_true rfl⟩ dX5_split_7 (fun H locs hM => ?_)
  refine lv_if_ne (tgt := 19) hx hb dX5_split_10 (by decide) (fun c10 => ?_) (fun c10 => ?_)
  · skip
    have c10 : ¬ (nI 0 = nI 0) := c10
    have c10 : ¬ (0 = 0) := fun q => c10 ((g_eq (by omega) (by omega)).mpr q)
    omega
  · skip
    have c10 : nI 0 = nI 0 := c10
    have c10 : 0 = 0 := (g_eq (by omega) (by omega)).mp c10
    refine lv_aload_n hx hb dX5_split_13 rfl (lv_at hl 0 rfl) ?_
    refine lv_iconst (v := nI 1) hx hb dX5_split_14 (by decide) ?_
    refine m_call (As := [.int (nI 1)]) (rest := []) G.1 hM rfl ok_X5_refuse gm_487 gm_488 gm_486 (c_X5_refuse l u (nI 0) dy sm 1 ) ⟨rfl, rfl⟩ ⟨Nat.le_of_ble_eq_true rfl, Nat.le_of_ble_eq_true rfl⟩ rfl hl.1 rfl (Nat.le_of_ble_eq_true rfl) ⟨Nat.le_of_ble_eq_true rfl, Nat.le_of_ble_eq_true rfl⟩ dX5_split_15 (fun H locs hM => ?_)
    exact m_iret G hM (rfl) (by decide) (by decide) dX5_split_18
theorem ok_X5_join : gOK yX5_join cX5_join 3 (some .int) 2 := ⟨gm_722, gm_434, by decide +kernel⟩
set_option maxRecDepth 100000 in
set_option maxHeartbeats 4000000 in
theorem c_X5_join (l : Launch) (u : MP) (th : Int32) (dy : Int32) (sm : Int64) (x : Int32) (y : Int32)  : Met l yX5_join (gws yX5_join cX5_join 3 (some .int)) ({ frames := 2, cells := 0, slots := 0, locals := 43 }) (mPc u th dy sm [.ref (u.2.1 0), .int x, .int y]) (mWr u (some (.int (nI 0))) (nI 1) dy sm) 0 0 (mA u) := by
  refine b_read (by decide) (Nat.le_of_ble_eq_true rfl) ?_
  intro P_ E_ S_ M_ B_ T_ C_ ls G hnm hV hl
  obtain ⟨hx, hb, hml, hown, hts⟩ := id G.1
  have hl : lv_has ls 3 [(0, .ref (u.2.1 0)), (1, .int x), (2, .int y)] := hl
  have hM := MV.start hV
  refine lv_aload_n hx hb dX5_join_0 rfl (lv_at hl 0 rfl) ?_
  refine lv_iconst (v := nI 0) hx hb dX5_join_1 (by decide) ?_
  refine m_putT hx hb hts hown hM gm_427 dX5_join_2 (fun H locs hM => ?_)
  refine lv_aload_n hx hb dX5_join_5 rfl (lv_at hl 0 rfl) ?_
  refine lv_iload_n hx hb dX5_join_6 rfl (lv_at hl 1 rfl) ?_
  refine m_call (As := [.int x]) (rest := []) G.1 hM rfl ok_X5_isConcept gm_511 gm_512 gm_510 (c_X5_isConcept l u (nI 0) dy sm x ) ⟨rfl, rfl⟩ ⟨Nat.le_of_ble_eq_true rfl, Nat.le_of_ble_eq_true rfl⟩ rfl hl.1 rfl (Nat.le_of_ble_eq_true rfl) ⟨Nat.le_of_ble_eq_true rfl, Nat.le_of_ble_eq_true rfl⟩ dX5_join_7 (fun H locs hM => ?_)
  refine lv_if_eq (tgt := 21) hx hb dX5_join_10 (by decide) (fun c10 => ?_) (fun c10 => ?_)
  · skip
    have c10 : nI 0 = nI 0 := c10
    have c10 : 0 = 0 := (g_eq (by omega) (by omega)).mp c10
    refine lv_aload_n hx hb dX5_join_21 rfl (lv_at hl 0 rfl) ?_
    refine lv_iconst (v := nI 1) hx hb dX5_join_22 (by decide) ?_
    refine m_call (As := [.int (nI 1)]) (rest := []) G.1 hM rfl ok_X5_refuse gm_487 gm_488 gm_486 (c_X5_refuse l u (nI 0) dy sm 1 ) ⟨rfl, rfl⟩ ⟨Nat.le_of_ble_eq_true rfl, Nat.le_of_ble_eq_true rfl⟩ rfl hl.1 rfl (Nat.le_of_ble_eq_true rfl) ⟨Nat.le_of_ble_eq_true rfl, Nat.le_of_ble_eq_true rfl⟩ dX5_join_23 (fun H locs hM => ?_)
    exact m_iret G hM (rfl) (by decide) (by decide) dX5_join_26
  · skip
    have c10 : ¬ (nI 0 = nI 0) := c10
    have c10 : ¬ (0 = 0) := fun q => c10 ((g_eq (by omega) (by omega)).mpr q)
    omega
theorem ok_X5_write : gOK yX5_write cX5_write 6 (some .int) 4 := ⟨gm_736, gm_434, by decide +kernel⟩
set_option maxRecDepth 100000 in
set_option maxHeartbeats 4000000 in
theorem c_X5_write (l : Launch) (u : MP) (th : Int32) (dy : Int32) (sm : Int64) (x : Int32) (y : Int32) (z : Int32) (v : Int32)  : Met l yX5_write (gws yX5_write cX5_write 6 (some .int)) ({ frames := 3, cells := 0, slots := 0, locals := 67 }) (mPc u th dy sm [.ref (u.2.1 0), .int x, .int y, .int z, .int v]) (mWr u (some (.int (nI 0))) (nI 1) dy sm) 0 0 (mA u) := by
  refine b_read (by decide) (Nat.le_of_ble_eq_true rfl) ?_
  intro P_ E_ S_ M_ B_ T_ C_ ls G hnm hV hl
  obtain ⟨hx, hb, hml, hown, hts⟩ := id G.1
  have hl : lv_has ls 6 [(0, .ref (u.2.1 0)), (1, .int x), (2, .int y), (3, .int z), (4, .int v)] := hl
  have hM := MV.start hV
  refine lv_aload_n hx hb dX5_write_0 rfl (lv_at hl 0 rfl) ?_
  refine lv_iconst (v := nI 0) hx hb dX5_write_1 (by decide) ?_
  refine m_putT hx hb hts hown hM gm_427 dX5_write_2 (fun H locs hM => ?_)
  refine lv_aload_n hx hb dX5_write_5 rfl (lv_at hl 0 rfl) ?_
  refine lv_iload_n hx hb dX5_write_6 rfl (lv_at hl 1 rfl) ?_
  refine lv_iload_n hx hb dX5_write_7 rfl (lv_at hl 2 rfl) ?_
  refine lv_iload_n hx hb dX5_write_8 rfl (lv_at hl 3 rfl) ?_
  refine m_call (As := [.int x, .int y, .int z]) (rest := []) G.1 hM rfl ok_X5_isPlace gm_543 gm_544 gm_542 (c_X5_isPlace l u (nI 0) dy sm x y z ) ⟨rfl, rfl⟩ ⟨Nat.le_of_ble_eq_true rfl, Nat.le_of_ble_eq_true rfl⟩ rfl hl.1 rfl (Nat.le_of_ble_eq_true rfl) ⟨Nat.le_of_ble_eq_true rfl, Nat.le_of_ble_eq_true rfl⟩ dX5_write_9 (fun H locs hM => ?_)
  refine lv_if_ne (tgt := 21) hx hb dX5_write_12 (by decide) (fun c12 => ?_) (fun c12 => ?_)
  · skip
    have c12 : ¬ (nI 0 = nI 0) := c12
    have c12 : ¬ (0 = 0) := fun q => c12 ((g_eq (by omega) (by omega)).mpr q)
    omega
  · skip
    have c12 : nI 0 = nI 0 := c12
    have c12 : 0 = 0 := (g_eq (by omega) (by omega)).mp c12
    refine lv_aload_n hx hb dX5_write_15 rfl (lv_at hl 0 rfl) ?_
    refine lv_iconst (v := nI 1) hx hb dX5_write_16 (by decide) ?_
    refine m_call (As := [.int (nI 1)]) (rest := []) G.1 hM rfl ok_X5_refuse gm_487 gm_488 gm_486 (c_X5_refuse l u (nI 0) dy sm 1 ) ⟨rfl, rfl⟩ ⟨Nat.le_of_ble_eq_true rfl, Nat.le_of_ble_eq_true rfl⟩ rfl hl.1 rfl (Nat.le_of_ble_eq_true rfl) ⟨Nat.le_of_ble_eq_true rfl, Nat.le_of_ble_eq_true rfl⟩ dX5_write_17 (fun H locs hM => ?_)
    exact m_iret G hM (rfl) (by decide) (by decide) dX5_write_20
theorem ok_X5_cut : gOK yX5_cut cX5_cut 5 (some .int) 2 := ⟨gm_743, gm_434, by decide +kernel⟩
set_option maxRecDepth 100000 in
set_option maxHeartbeats 4000000 in
theorem c_X5_cut (l : Launch) (u : MP) (th : Int32) (dy : Int32) (sm : Int64) (x : Int32) (y : Int32)  : Met l yX5_cut (gws yX5_cut cX5_cut 5 (some .int)) ({ frames := 2, cells := 0, slots := 0, locals := 44 }) (mPc u th dy sm [.ref (u.2.1 0), .int x, .int y]) (mWr u (some (.int (nI 0))) (nI 1) dy sm) 0 0 (mA u) := by
  refine b_read (by decide) (Nat.le_of_ble_eq_true rfl) ?_
  intro P_ E_ S_ M_ B_ T_ C_ ls G hnm hV hl
  obtain ⟨hx, hb, hml, hown, hts⟩ := id G.1
  have hl : lv_has ls 5 [(0, .ref (u.2.1 0)), (1, .int x), (2, .int y)] := hl
  have hM := MV.start hV
  refine lv_aload_n hx hb dX5_cut_0 rfl (lv_at hl 0 rfl) ?_
  refine lv_iconst (v := nI 0) hx hb dX5_cut_1 (by decide) ?_
  refine m_putT hx hb hts hown hM gm_427 dX5_cut_2 (fun H locs hM => ?_)
  refine lv_aload_n hx hb dX5_cut_5 rfl (lv_at hl 0 rfl) ?_
  refine lv_iload_n hx hb dX5_cut_6 rfl (lv_at hl 1 rfl) ?_
  refine lv_iload_n hx hb dX5_cut_7 rfl (lv_at hl 2 rfl) ?_
  refine m_call (As := [.int x, .int y]) (rest := []) G.1 hM rfl ok_X5_isText gm_539 gm_540 gm_538 (c_X5_isText l u (nI 0) dy sm x y ) ⟨rfl, rfl⟩ ⟨Nat.le_of_ble_eq_true rfl, Nat.le_of_ble_eq_true rfl⟩ rfl hl.1 rfl (Nat.le_of_ble_eq_true rfl) ⟨Nat.le_of_ble_eq_true rfl, Nat.le_of_ble_eq_true rfl⟩ dX5_cut_8 (fun H locs hM => ?_)
  refine lv_if_ne (tgt := 20) hx hb dX5_cut_11 (by decide) (fun c11 => ?_) (fun c11 => ?_)
  · skip
    have c11 : ¬ (nI 0 = nI 0) := c11
    have c11 : ¬ (0 = 0) := fun q => c11 ((g_eq (by omega) (by omega)).mpr q)
    omega
  · skip
    have c11 : nI 0 = nI 0 := c11
    have c11 : 0 = 0 := (g_eq (by omega) (by omega)).mp c11
    refine lv_aload_n hx hb dX5_cut_14 rfl (lv_at hl 0 rfl) ?_
    refine lv_iconst (v := nI 1) hx hb dX5_cut_15 (by decide) ?_
    refine m_call (As := [.int (nI 1)]) (rest := []) G.1 hM rfl ok_X5_refuse gm_487 gm_488 gm_486 (c_X5_refuse l u (nI 0) dy sm 1 ) ⟨rfl, rfl⟩ ⟨Nat.le_of_ble_eq_true rfl, Nat.le_of_ble_eq_true rfl⟩ rfl hl.1 rfl (Nat.le_of_ble_eq_true rfl) ⟨Nat.le_of_ble_eq_true rfl, Nat.le_of_ble_eq_true rfl⟩ dX5_cut_16 (fun H locs hM => ?_)
    exact m_iret G hM (rfl) (by decide) (by decide) dX5_cut_19
theorem ok_X5_approve : gOK yX5_approve cX5_approve 4 (some .int) 2 := ⟨gm_750, gm_434, by decide +kernel⟩
set_option maxRecDepth 100000 in
set_option maxHeartbeats 4000000 in
theorem c_X5_approve (l : Launch) (u : MP) (th : Int32) (dy : Int32) (sm : Int64) (x : Int32) (y : Int32)  : Met l yX5_approve (gws yX5_approve cX5_approve 4 (some .int)) ({ frames := 2, cells := 0, slots := 0, locals := 44 }) (mPc u th dy sm [.ref (u.2.1 0), .int x, .int y]) (mWr u (some (.int (nI 0))) (nI 1) dy sm) 0 0 (mA u) := by
  refine b_read (by decide) (Nat.le_of_ble_eq_true rfl) ?_
  intro P_ E_ S_ M_ B_ T_ C_ ls G hnm hV hl
  obtain ⟨hx, hb, hml, hown, hts⟩ := id G.1
  have hl : lv_has ls 4 [(0, .ref (u.2.1 0)), (1, .int x), (2, .int y)] := hl
  have hM := MV.start hV
  refine lv_aload_n hx hb dX5_approve_0 rfl (lv_at hl 0 rfl) ?_
  refine lv_iconst (v := nI 0) hx hb dX5_approve_1 (by decide) ?_
  refine m_putT hx hb hts hown hM gm_427 dX5_approve_2 (fun H locs hM => ?_)
  refine lv_aload_n hx hb dX5_approve_5 rfl (lv_at hl 0 rfl) ?_
  refine lv_iload_n hx hb dX5_approve_6 rfl (lv_at hl 1 rfl) ?_
  refine lv_iload_n hx hb dX5_approve_7 rfl (lv_at hl 2 rfl) ?_
  refine m_call (As := [.int x, .int y]) (rest := []) G.1 hM rfl ok_X5_isText gm_539 gm_540 gm_538 (c_X5_isText l u (nI 0) dy sm x y ) ⟨rfl, rfl⟩ ⟨Nat.le_of_ble_eq_true rfl, Nat.le_of_ble_eq_true rfl⟩ rfl hl.1 rfl (Nat.le_of_ble_eq_true rfl) ⟨Nat.le_of_ble_eq_true rfl, Nat.le_of_ble_eq_true rfl⟩ dX5_approve_8 (fun H locs hM => ?_)
  refine lv_if_ne (tgt := 20) hx hb dX5_approve_11 (by decide) (fun c11 => ?_) (fun c11 => ?_)
  · skip
    have c11 : ¬ (nI 0 = nI 0) := c11
    have c11 : ¬ (0 = 0) := fun q => c11 ((g_eq (by omega) (by omega)).mpr q)
    omega
  · skip
    have c11 : nI 0 = nI 0 := c11
    have c11 : 0 = 0 := (g_eq (by omega) (by omega)).mp c11
    refine lv_aload_n hx hb dX5_approve_14 rfl (lv_at hl 0 rfl) ?_
    refine lv_iconst (v := nI 1) hx hb dX5_approve_15 (by decide) ?_
    refine m_call (As := [.int (nI 1)]) (rest := []) G.1 hM rfl ok_X5_refuse gm_487 gm_488 gm_486 (c_X5_refuse l u (nI 0) dy sm 1 ) ⟨rfl, rfl⟩ ⟨Nat.le_of_ble_eq_true rfl, Nat.le_of_ble_eq_true rfl⟩ rfl hl.1 rfl (Nat.le_of_ble_eq_true rfl) ⟨Nat.le_of_ble_eq_true rfl, Nat.le_of_ble_eq_true rfl⟩ dX5_approve_16 (fun H locs hM => ?_)
    exact m_iret G hM (rfl) (by decide) (by decide) dX5_approve_19
theorem ok_X5_use : gOK yX5_use cX5_use 4 (some .int) 3 := ⟨gm_757, gm_434, by decide +kernel⟩
set_option maxRecDepth 100000 in
set_option maxHeartbeats 4000000 in
theorem c_X5_use (l : Launch) (u : MP) (th : Int32) (dy : Int32) (sm : Int64) (x : Int32) (y : Int32) (z : Int32)  : Met l yX5_use (gws yX5_use cX5_use 4 (some .int)) ({ frames := 3, cells := 0, slots := 0, locals := 67 }) (mPc u th dy sm [.ref (u.2.1 0), .int x, .int y, .int z]) (mWr u (some (.int (nI 0))) (nI 1) dy sm) 0 0 (mA u) := by
  refine b_read (by decide) (Nat.le_of_ble_eq_true rfl) ?_
  intro P_ E_ S_ M_ B_ T_ C_ ls G hnm hV hl
  obtain ⟨hx, hb, hml, hown, hts⟩ := id G.1
  have hl : lv_has ls 4 [(0, .ref (u.2.1 0)), (1, .int x), (2, .int y), (3, .int z)] := hl
  have hM := MV.start hV
  refine lv_aload_n hx hb dX5_use_0 rfl (lv_at hl 0 rfl) ?_
  refine lv_iconst (v := nI 0) hx hb dX5_use_1 (by decide) ?_
  refine m_putT hx hb hts hown hM gm_427 dX5_use_2 (fun H locs hM => ?_)
  refine lv_aload_n hx hb dX5_use_5 rfl (lv_at hl 0 rfl) ?_
  refine lv_iload_n hx hb dX5_use_6 rfl (lv_at hl 1 rfl) ?_
  refine lv_iload_n hx hb dX5_use_7 rfl (lv_at hl 2 rfl) ?_
  refine lv_iload_n hx hb dX5_use_8 rfl (lv_at hl 3 rfl) ?_
  refine m_call (As := [.int x, .int y, .int z]) (rest := []) G.1 hM rfl ok_X5_hasForm gm_547 gm_548 gm_546 (c_X5_hasForm l u (nI 0) dy sm x y z ) ⟨rfl, rfl⟩ ⟨Nat.le_of_ble_eq_true rfl, Nat.le_of_ble_eq_true rfl⟩ rfl hl.1 rfl (Nat.le_of_ble_eq_true rfl) ⟨Nat.le_of_ble_eq_true rfl, Nat.le_of_ble_eq_true rfl⟩ dX5_use_9 (fun H locs hM => ?_)
  refine lv_if_eq (tgt := 40) hx hb dX5_use_12 (by decide) (fun c12 => ?_) (fun c12 => ?_)
  · skip
    have c12 : nI 0 = nI 0 := c12
    have c12 : 0 = 0 := (g_eq (by omega) (by omega)).mp c12
    refine lv_aload_n hx hb dX5_use_40 rfl (lv_at hl 0 rfl) ?_
    refine lv_iconst (v := nI 1) hx hb dX5_use_41 (by decide) ?_
    refine m_call (As := [.int (nI 1)]) (rest := []) G.1 hM rfl ok_X5_refuse gm_487 gm_488 gm_486 (c_X5_refuse l u (nI 0) dy sm 1 ) ⟨rfl, rfl⟩ ⟨Nat.le_of_ble_eq_true rfl, Nat.le_of_ble_eq_true rfl⟩ rfl hl.1 rfl (Nat.le_of_ble_eq_true rfl) ⟨Nat.le_of_ble_eq_true rfl, Nat.le_of_ble_eq_true rfl⟩ dX5_use_42 (fun H locs hM => ?_)
    exact m_iret G hM (rfl) (by decide) (by decide) dX5_use_45
  · skip
    have c12 : ¬ (nI 0 = nI 0) := c12
    have c12 : ¬ (0 = 0) := fun q => c12 ((g_eq (by omega) (by omega)).mpr q)
    omega
theorem ok_X5_ofText : gOK yX5_ofText cX5_ofText 4 (some .int) 3 := ⟨gm_764, gm_434, by decide +kernel⟩
set_option maxRecDepth 100000 in
set_option maxHeartbeats 4000000 in
theorem c_X5_ofText (l : Launch) (u : MP) (th : Int32) (dy : Int32) (sm : Int64) (x : Int32) (y : Int32) (z : Int32)  : Met l yX5_ofText (gws yX5_ofText cX5_ofText 4 (some .int)) ({ frames := 2, cells := 0, slots := 0, locals := 44 }) (mPc u th dy sm [.ref (u.2.1 0), .int x, .int y, .int z]) (mWr u (some (.int (nI 0))) (nI 1) dy sm) 0 0 (mA u) := by
  refine b_read (by decide) (Nat.le_of_ble_eq_true rfl) ?_
  intro P_ E_ S_ M_ B_ T_ C_ ls G hnm hV hl
  obtain ⟨hx, hb, hml, hown, hts⟩ := id G.1
  have hl : lv_has ls 4 [(0, .ref (u.2.1 0)), (1, .int x), (2, .int y), (3, .int z)] := hl
  have hM := MV.start hV
  refine lv_aload_n hx hb dX5_ofText_0 rfl (lv_at hl 0 rfl) ?_
  refine lv_iconst (v := nI 0) hx hb dX5_ofText_1 (by decide) ?_
  refine m_putT hx hb hts hown hM gm_427 dX5_ofText_2 (fun H locs hM => ?_)
  refine lv_aload_n hx hb dX5_ofText_5 rfl (lv_at hl 0 rfl) ?_
  refine lv_iload_n hx hb dX5_ofText_6 rfl (lv_at hl 1 rfl) ?_
  refine lv_iload_n hx hb dX5_ofText_7 rfl (lv_at hl 2 rfl) ?_
  refine m_call (As := [.int x, .int y]) (rest := []) G.1 hM rfl ok_X5_isText gm_539 gm_540 gm_538 (c_X5_isText l u (nI 0) dy sm x y ) ⟨rfl, rfl⟩ ⟨Nat.le_of_ble_eq_true rfl, Nat.le_of_ble_eq_true rfl⟩ rfl hl.1 rfl (Nat.le_of_ble_eq_true rfl) ⟨Nat.le_of_ble_eq_true rfl, Nat.le_of_ble_eq_true rfl⟩ dX5_ofText_8 (fun H locs hM => ?_)
  refine lv_if_ne (tgt := 20) hx hb dX5_ofText_11 (by decide) (fun c11 => ?_) (fun c11 => ?_)
  · skip
    have c11 : ¬ (nI 0 = nI 0) := c11
    have c11 : ¬ (0 = 0) := fun q => c11 ((g_eq (by omega) (by omega)).mpr q)
    omega
  · skip
    have c11 : nI 0 = nI 0 := c11
    have c11 : 0 = 0 := (g_eq (by omega) (by omega)).mp c11
    refine lv_aload_n hx hb dX5_ofText_14 rfl (lv_at hl 0 rfl) ?_
    refine lv_iconst (v := nI 1) hx hb dX5_ofText_15 (by decide) ?_
    refine m_call (As := [.int (nI 1)]) (rest := []) G.1 hM rfl ok_X5_refuse gm_487 gm_488 gm_486 (c_X5_refuse l u (nI 0) dy sm 1 ) ⟨rfl, rfl⟩ ⟨Nat.le_of_ble_eq_true rfl, Nat.le_of_ble_eq_true rfl⟩ rfl hl.1 rfl (Nat.le_of_ble_eq_true rfl) ⟨Nat.le_of_ble_eq_true rfl, Nat.le_of_ble_eq_true rfl⟩ dX5_ofText_16 (fun H locs hM => ?_)
    exact m_iret G hM (rfl) (by decide) (by decide) dX5_ofText_19
theorem ok_X5_agreement : gOK yX5_agreement cX5_agreement 2 (some .int) 1 := ⟨gm_771, gm_434, by decide +kernel⟩
set_option maxRecDepth 100000 in
set_option maxHeartbeats 4000000 in
theorem c_X5_agreement (l : Launch) (u : MP) (th : Int32) (dy : Int32) (sm : Int64) (x : Int32)  : Met l yX5_agreement (gws yX5_agreement cX5_agreement 2 (some .int)) ({ frames := 1, cells := 0, slots := 0, locals := 22 }) (mPc u th dy sm [.ref (u.2.1 0), .int x]) (mWr u (some (.int (nI 0))) (nI 1) dy sm) 0 0 (mA u) := by
  refine b_read (by decide) (Nat.le_of_ble_eq_true rfl) ?_
  intro P_ E_ S_ M_ B_ T_ C_ ls G hnm hV hl
  obtain ⟨hx, hb, hml, hown, hts⟩ := id G.1
  have hl : lv_has ls 2 [(0, .ref (u.2.1 0)), (1, .int x)] := hl
  have hM := MV.start hV
  refine lv_aload_n hx hb dX5_agreement_0 rfl (lv_at hl 0 rfl) ?_
  refine lv_iconst (v := nI 0) hx hb dX5_agreement_1 (by decide) ?_
  refine m_putT hx hb hts hown hM gm_427 dX5_agreement_2 (fun H locs hM => ?_)
  refine lv_iload_n hx hb dX5_agreement_5 rfl (lv_at hl 1 rfl) ?_
  refine lv_iconst (v := nI 0) hx hb dX5_agreement_6 (by decide) ?_
  refine lv_aload_n hx hb dX5_agreement_7 rfl (lv_at hl 0 rfl) ?_
  refine m_get hx hb hts hown hM 3 (by decide) (v := .ref (u.2.1 3)) gm_425 rfl dX5_agreement_8 ?_
  refine m_size (j := 3) (rest := [.int (nI 0), .int x]) G.1 hM (by decide) gm_430 hl.1 (Nat.le_of_ble_eq_true rfl) ⟨Nat.le_of_ble_eq_true rfl, Nat.le_of_ble_eq_true rfl⟩ ⟨Nat.le_of_ble_eq_true rfl, Nat.le_of_ble_eq_true rfl⟩ dX5_agreement_11 ?_
  refine lv_iconst (v := nI 1) hx hb dX5_agreement_14 (by decide) ?_
  refine lv_isub hx hb dX5_agreement_15 ?_
  refine W.eq (g2 := F0 M_ _ ls [.int (-1), .int (nI 0), .int x]) (by rw [show (nI 0) - (nI 1) = -1 from by decide]) ?_
  refine b_callS (As := [.int x, .int (nI 0), .int (-1)]) (rest := []) G.1 ok_X5_is gm_449 gm_448 (c_X5_is l x (nI 0) (-1)) ⟨rfl, rfl⟩ ⟨Nat.le_of_ble_eq_true rfl, Nat.le_of_ble_eq_true rfl⟩ rfl hl.1 rfl (Nat.le_of_ble_eq_true rfl) ⟨Nat.le_of_ble_eq_true rfl, Nat.le_of_ble_eq_true rfl⟩ dX5_agreement_16 ?_
  refine lv_if_eq (tgt := 40) hx hb dX5_agreement_19 (by decide) (fun c19 => ?_) (fun c19 => ?_)
  · skip
    have c19 : ¬ ((nI 0) ≤ x ∧ x ≤ (-1)) := g_if0.mp c19
    refine lv_aload_n hx hb dX5_agreement_40 rfl (lv_at hl 0 rfl) ?_
    refine lv_iconst (v := nI 1) hx hb dX5_agreement_41 (by decide) ?_
    refine m_call (As := [.int (nI 1)]) (rest := []) G.1 hM rfl ok_X5_refuse gm_487 gm_488 gm_486 (c_X5_refuse l u (nI 0) dy sm 1 ) ⟨rfl, rfl⟩ ⟨Nat.le_of_ble_eq_true rfl, Nat.le_of_ble_eq_true rfl⟩ rfl hl.1 rfl (Nat.le_of_ble_eq_true rfl) ⟨Nat.le_of_ble_eq_true rfl, Nat.le_of_ble_eq_true rfl⟩ dX5_agreement_42 (fun H locs hM => ?_)
    exact m_iret G hM (rfl) (by decide) (by decide) dX5_agreement_45
  · skip
    have c19 : (nI 0) ≤ x ∧ x ≤ (-1) := g_if1.mp c19
    exact absurd c19 neg_is
theorem ok_X5_reopenedBy : gOK yX5_reopenedBy cX5_reopenedBy 2 (some .int) 1 := ⟨gm_800, gm_434, by decide +kernel⟩
set_option maxRecDepth 100000 in
set_option maxHeartbeats 4000000 in
theorem c_X5_reopenedBy (l : Launch) (u : MP) (th : Int32) (dy : Int32) (sm : Int64) (x : Int32)  : Met l yX5_reopenedBy (gws yX5_reopenedBy cX5_reopenedBy 2 (some .int)) ({ frames := 2, cells := 0, slots := 0, locals := 43 }) (mPc u th dy sm [.ref (u.2.1 0), .int x]) (mWr u (some (.int (nI 0))) (nI 1) dy sm) 0 0 (mA u) := by
  refine b_read (by decide) (Nat.le_of_ble_eq_true rfl) ?_
  intro P_ E_ S_ M_ B_ T_ C_ ls G hnm hV hl
  obtain ⟨hx, hb, hml, hown, hts⟩ := id G.1
  have hl : lv_has ls 2 [(0, .ref (u.2.1 0)), (1, .int x)] := hl
  have hM := MV.start hV
  refine lv_aload_n hx hb dX5_reopenedBy_0 rfl (lv_at hl 0 rfl) ?_
  refine lv_iconst (v := nI 0) hx hb dX5_reopenedBy_1 (by decide) ?_
  refine m_putT hx hb hts hown hM gm_427 dX5_reopenedBy_2 (fun H locs hM => ?_)
  refine lv_aload_n hx hb dX5_reopenedBy_5 rfl (lv_at hl 0 rfl) ?_
  refine lv_iload_n hx hb dX5_reopenedBy_6 rfl (lv_at hl 1 rfl) ?_
  refine m_call (As := [.int x]) (rest := []) G.1 hM rfl ok_X5_isTerm gm_524 gm_525 gm_523 (c_X5_isTerm l u (nI 0) dy sm x ) ⟨rfl, rfl⟩ ⟨Nat.le_of_ble_eq_true rfl, Nat.le_of_ble_eq_true rfl⟩ rfl hl.1 rfl (Nat.le_of_ble_eq_true rfl) ⟨Nat.le_of_ble_eq_true rfl, Nat.le_of_ble_eq_true rfl⟩ dX5_reopenedBy_7 (fun H locs hM => ?_)
  refine lv_if_eq (tgt := 31) hx hb dX5_reopenedBy_10 (by decide) (fun c10 => ?_) (fun c10 => ?_)
  · skip
    have c10 : nI 0 = nI 0 := c10
    have c10 : 0 = 0 := (g_eq (by omega) (by omega)).mp c10
    refine lv_aload_n hx hb dX5_reopenedBy_31 rfl (lv_at hl 0 rfl) ?_
    refine lv_iconst (v := nI 1) hx hb dX5_reopenedBy_32 (by decide) ?_
    refine m_call (As := [.int (nI 1)]) (rest := []) G.1 hM rfl ok_X5_refuse gm_487 gm_488 gm_486 (c_X5_refuse l u (nI 0) dy sm 1 ) ⟨rfl, rfl⟩ ⟨Nat.le_of_ble_eq_true rfl, Nat.le_of_ble_eq_true rfl⟩ rfl hl.1 rfl (Nat.le_of_ble_eq_true rfl) ⟨Nat.le_of_ble_eq_true rfl, Nat.le_of_ble_eq_true rfl⟩ dX5_reopenedBy_33 (fun H locs hM => ?_)
    exact m_iret G hM (rfl) (by decide) (by decide) dX5_reopenedBy_36
  · skip
    have c10 : ¬ (nI 0 = nI 0) := c10
    have c10 : ¬ (0 = 0) := fun q => c10 ((g_eq (by omega) (by omega)).mpr q)
    omega
theorem ok_X5_changedBy : gOK yX5_changedBy cX5_changedBy 9 (some .int) 2 := ⟨gm_814, gm_434, by decide +kernel⟩
set_option maxRecDepth 100000 in
set_option maxHeartbeats 4000000 in
theorem c_X5_changedBy (l : Launch) (u : MP) (th : Int32) (dy : Int32) (sm : Int64) (x : Int32) (y : Int32)  : Met l yX5_changedBy (gws yX5_changedBy cX5_changedBy 9 (some .int)) ({ frames := 2, cells := 0, slots := 0, locals := 43 }) (mPc u th dy sm [.ref (u.2.1 0), .int x, .int y]) (mWr u (some (.int (nI 0))) (nI 1) dy sm) 0 0 (mA u) := by
  refine b_read (by decide) (Nat.le_of_ble_eq_true rfl) ?_
  intro P_ E_ S_ M_ B_ T_ C_ ls G hnm hV hl
  obtain ⟨hx, hb, hml, hown, hts⟩ := id G.1
  have hl : lv_has ls 9 [(0, .ref (u.2.1 0)), (1, .int x), (2, .int y)] := hl
  have hM := MV.start hV
  refine lv_aload_n hx hb dX5_changedBy_0 rfl (lv_at hl 0 rfl) ?_
  refine lv_iconst (v := nI 0) hx hb dX5_changedBy_1 (by decide) ?_
  refine m_putT hx hb hts hown hM gm_427 dX5_changedBy_2 (fun H locs hM => ?_)
  refine lv_aload_n hx hb dX5_changedBy_5 rfl (lv_at hl 0 rfl) ?_
  refine lv_iload_n hx hb dX5_changedBy_6 rfl (lv_at hl 1 rfl) ?_
  refine m_call (As := [.int x]) (rest := []) G.1 hM rfl ok_X5_isConcept gm_511 gm_512 gm_510 (c_X5_isConcept l u (nI 0) dy sm x ) ⟨rfl, rfl⟩ ⟨Nat.le_of_ble_eq_true rfl, Nat.le_of_ble_eq_true rfl⟩ rfl hl.1 rfl (Nat.le_of_ble_eq_true rfl) ⟨Nat.le_of_ble_eq_true rfl, Nat.le_of_ble_eq_true rfl⟩ dX5_changedBy_7 (fun H locs hM => ?_)
  refine lv_if_eq (tgt := 21) hx hb dX5_changedBy_10 (by decide) (fun c10 => ?_) (fun c10 => ?_)
  · skip
    have c10 : nI 0 = nI 0 := c10
    have c10 : 0 = 0 := (g_eq (by omega) (by omega)).mp c10
    refine lv_aload_n hx hb dX5_changedBy_21 rfl (lv_at hl 0 rfl) ?_
    refine lv_iconst (v := nI 1) hx hb dX5_changedBy_22 (by decide) ?_
    refine m_call (As := [.int (nI 1)]) (rest := []) G.1 hM rfl ok_X5_refuse gm_487 gm_488 gm_486 (c_X5_refuse l u (nI 0) dy sm 1 ) ⟨rfl, rfl⟩ ⟨Nat.le_of_ble_eq_true rfl, Nat.le_of_ble_eq_true rfl⟩ rfl hl.1 rfl (Nat.le_of_ble_eq_true rfl) ⟨Nat.le_of_ble_eq_true rfl, Nat.le_of_ble_eq_true rfl⟩ dX5_changedBy_23 (fun H locs hM => ?_)
    exact m_iret G hM (rfl) (by decide) (by decide) dX5_changedBy_26
  · skip
    have c10 : ¬ (nI 0 = nI 0) := c10
    have c10 : ¬ (0 = 0) := fun q => c10 ((g_eq (by omega) (by omega)).mpr q)
    omega
theorem ok_X5_formFor : gOK yX5_formFor cX5_formFor 7 (some .int) 4 := ⟨gm_821, gm_434, by decide +kernel⟩
set_option maxRecDepth 100000 in
set_option maxHeartbeats 4000000 in
theorem c_X5_formFor (l : Launch) (u : MP) (th : Int32) (dy : Int32) (sm : Int64) (x : Int32) (y : Int32) (z : Int32) (v : Int32)  : Met l yX5_formFor (gws yX5_formFor cX5_formFor 7 (some .int)) ({ frames := 3, cells := 0, slots := 0, locals := 67 }) (mPc u th dy sm [.ref (u.2.1 0), .int x, .int y, .int z, .int v]) (mWr u (some (.int (nI 0))) (nI 1) dy sm) 0 0 (mA u) := by
  refine b_read (by decide) (Nat.le_of_ble_eq_true rfl) ?_
  intro P_ E_ S_ M_ B_ T_ C_ ls G hnm hV hl
  obtain ⟨hx, hb, hml, hown, hts⟩ := id G.1
  have hl : lv_has ls 7 [(0, .ref (u.2.1 0)), (1, .int x), (2, .int y), (3, .int z), (4, .int v)] := hl
  have hM := MV.start hV
  refine lv_aload_n hx hb dX5_formFor_0 rfl (lv_at hl 0 rfl) ?_
  refine lv_iconst (v := nI 0) hx hb dX5_formFor_1 (by decide) ?_
  refine m_putT hx hb hts hown hM gm_427 dX5_formFor_2 (fun H locs hM => ?_)
  refine lv_aload_n hx hb dX5_formFor_5 rfl (lv_at hl 0 rfl) ?_
  refine lv_iload_n hx hb dX5_formFor_6 rfl (lv_at hl 1 rfl) ?_
  refine lv_iload_n hx hb dX5_formFor_7 rfl (lv_at hl 2 rfl) ?_
  refine lv_iload_n hx hb dX5_formFor_8 rfl (lv_at hl 3 rfl) ?_
  refine m_call (As := [.int x, .int y, .int z]) (rest := []) G.1 hM rfl ok_X5_isPlace gm_543 gm_544 gm_542 (c_X5_isPlace l u (nI 0) dy sm x y z ) ⟨rfl, rfl⟩ ⟨Nat.le_of_ble_eq_true rfl, Nat.le_of_ble_eq_true rfl⟩ rfl hl.1 rfl (Nat.le_of_ble_eq_true rfl) ⟨Nat.le_of_ble_eq_true rfl, Nat.le_of_ble_eq_true rfl⟩ dX5_formFor_9 (fun H locs hM => ?_)
  refine lv_if_eq (tgt := 24) hx hb dX5_formFor_12 (by decide) (fun c12 => ?_) (fun c12 => ?_)
  · skip
    have c12 : nI 0 = nI 0 := c12
    have c12 : 0 = 0 := (g_eq (by omega) (by omega)).mp c12
    refine lv_aload_n hx hb dX5_formFor_24 rfl (lv_at hl 0 rfl) ?_
    refine lv_iconst (v := nI 1) hx hb dX5_formFor_25 (by decide) ?_
    refine m_call (As := [.int (nI 1)]) (rest := []) G.1 hM rfl ok_X5_refuse gm_487 gm_488 gm_486 (c_X5_refuse l u (nI 0) dy sm 1 ) ⟨rfl, rfl⟩ ⟨Nat.le_of_ble_eq_true rfl, Nat.le_of_ble_eq_true rfl⟩ rfl hl.1 rfl (Nat.le_of_ble_eq_true rfl) ⟨Nat.le_of_ble_eq_true rfl, Nat.le_of_ble_eq_true rfl⟩ dX5_formFor_26 (fun H locs hM => ?_)
    exact m_iret G hM (rfl) (by decide) (by decide) dX5_formFor_29
  · skip
    have c12 : ¬ (nI 0 = nI 0) := c12
    have c12 : ¬ (0 = 0) := fun q => c12 ((g_eq (by omega) (by omega)).mpr q)
    omega
theorem ok_X5_vote : gOK yX5_vote cX5_vote 5 (some .int) 3 := ⟨gm_673, gm_434, by decide +kernel⟩
set_option maxRecDepth 100000 in
set_option maxHeartbeats 4000000 in
theorem c_X5_vote (l : Launch) (u : MP) (th : Int32) (dy : Int32) (sm : Int64) (x : Int32) (y : Int32) (b : Prop) [Decidable b]  : Met l yX5_vote (gws yX5_vote cX5_vote 5 (some .int)) ({ frames := 2, cells := 0, slots := 0, locals := 43 }) (mPc u th dy sm [.ref (u.2.1 0), .int x, .int y, .int (if b then 1 else 0)]) (mWr u (some (.int (nI 0))) (nI 1) dy sm) 0 0 (mA u) := by
  refine b_read (by decide) (Nat.le_of_ble_eq_true rfl) ?_
  intro P_ E_ S_ M_ B_ T_ C_ ls G hnm hV hl
  obtain ⟨hx, hb, hml, hown, hts⟩ := id G.1
  have hl : lv_has ls 5 [(0, .ref (u.2.1 0)), (1, .int x), (2, .int y), (3, .int (if b then 1 else 0))] := hl
  have hM := MV.start hV
  refine lv_aload_n hx hb dX5_vote_0 rfl (lv_at hl 0 rfl) ?_
  refine lv_iconst (v := nI 0) hx hb dX5_vote_1 (by decide) ?_
  refine m_putT hx hb hts hown hM gm_427 dX5_vote_2 (fun H locs hM => ?_)
  refine lv_aload_n hx hb dX5_vote_5 rfl (lv_at hl 0 rfl) ?_
  refine lv_iload_n hx hb dX5_vote_6 rfl (lv_at hl 1 rfl) ?_
  refine m_call (As := [.int x]) (rest := []) G.1 hM rfl ok_X5_isTerm gm_524 gm_525 gm_523 (c_X5_isTerm l u (nI 0) dy sm x ) ⟨rfl, rfl⟩ ⟨Nat.le_of_ble_eq_true rfl, Nat.le_of_ble_eq_true rfl⟩ rfl hl.1 rfl (Nat.le_of_ble_eq_true rfl) ⟨Nat.le_of_ble_eq_true rfl, Nat.le_of_ble_eq_true rfl⟩ dX5_vote_7 (fun H locs hM => ?_)
  refine lv_if_eq (tgt := 22) hx hb dX5_vote_10 (by decide) (fun c10 => ?_) (fun c10 => ?_)
  · skip
    have c10 : nI 0 = nI 0 := c10
    have c10 : 0 = 0 := (g_eq (by omega) (by omega)).mp c10
    refine lv_aload_n hx hb dX5_vote_22 rfl (lv_at hl 0 rfl) ?_
    refine lv_iconst (v := nI 1) hx hb dX5_vote_23 (by decide) ?_
    refine m_call (As := [.int (nI 1)]) (rest := []) G.1 hM rfl ok_X5_refuse gm_487 gm_488 gm_486 (c_X5_refuse l u (nI 0) dy sm 1 ) ⟨rfl, rfl⟩ ⟨Nat.le_of_ble_eq_true rfl, Nat.le_of_ble_eq_true rfl⟩ rfl hl.1 rfl (Nat.le_of_ble_eq_true rfl) ⟨Nat.le_of_ble_eq_true rfl, Nat.le_of_ble_eq_true rfl⟩ dX5_vote_24 (fun H locs hM => ?_)
    exact m_iret G hM (rfl) (by decide) (by decide) dX5_vote_27
  · skip
    have c10 : ¬ (nI 0 = nI 0) := c10
    have c10 : ¬ (0 = 0) := fun q => c10 ((g_eq (by omega) (by omega)).mpr q)
    omega
set_option maxRecDepth 100000 in
set_option maxHeartbeats 4000000 in
theorem c_X5_many_x (l : Launch) (u : MP) (th : Int32) (dy : Int32) (sm : Int64) (x : Int32) (h0 : ¬ (nI 0 ≤ x ∧ x ≤ nI 12)) : Met l yX5_many (gws yX5_many cX5_many 2 (some .int)) ({ frames := 1, cells := 0, slots := 0, locals := 22 }) (mPc u th dy sm [.ref (u.2.1 0), .int x]) (mWr u (some (.int (nI 0))) (nI 1) dy sm) 0 0 (mA u) := by
  refine b_read (by decide) (Nat.le_of_ble_eq_true rfl) ?_
  intro P_ E_ S_ M_ B_ T_ C_ ls G hnm hV hl
  obtain ⟨hx, hb, hml, hown, hts⟩ := id G.1
  have hl : lv_has ls 2 [(0, .ref (u.2.1 0)), (1, .int x)] := hl
  have hM := MV.start hV
  refine lv_aload_n hx hb dX5_many_0 rfl (lv_at hl 0 rfl) ?_
  refine lv_iconst (v := nI 0) hx hb dX5_many_1 (by decide) ?_
  refine m_putT hx hb hts hown hM gm_427 dX5_many_2 (fun H locs hM => ?_)
  refine lv_iload_n hx hb dX5_many_5 rfl (lv_at hl 1 rfl) ?_
  refine lv_iconst (v := nI 0) hx hb dX5_many_6 (by decide) ?_
  refine lv_bipush (v := nI 12) hx hb dX5_many_7 (by decide) ?_
  refine b_callS (As := [.int x, .int (nI 0), .int (nI 12)]) (rest := []) G.1 ok_X5_is gm_449 gm_448 (c_X5_is l x (nI 0) (nI 12)) ⟨rfl, rfl⟩ ⟨Nat.le_of_ble_eq_true rfl, Nat.le_of_ble_eq_true rfl⟩ rfl hl.1 rfl (Nat.le_of_ble_eq_true rfl) ⟨Nat.le_of_ble_eq_true rfl, Nat.le_of_ble_eq_true rfl⟩ dX5_many_9 ?_
  refine lv_if_eq (tgt := 23) hx hb dX5_many_12 (by decide) (fun c12 => ?_) (fun c12 => ?_)
  · skip
    have c12 : ¬ ((nI 0) ≤ x ∧ x ≤ (nI 12)) := g_if0.mp c12
    refine lv_aload_n hx hb dX5_many_23 rfl (lv_at hl 0 rfl) ?_
    refine lv_iconst (v := nI 1) hx hb dX5_many_24 (by decide) ?_
    refine m_call (As := [.int (nI 1)]) (rest := []) G.1 hM rfl ok_X5_refuse gm_487 gm_488 gm_486 (c_X5_refuse l u (nI 0) dy sm 1 ) ⟨rfl, rfl⟩ ⟨Nat.le_of_ble_eq_true rfl, Nat.le_of_ble_eq_true rfl⟩ rfl hl.1 rfl (Nat.le_of_ble_eq_true rfl) ⟨Nat.le_of_ble_eq_true rfl, Nat.le_of_ble_eq_true rfl⟩ dX5_many_25 (fun H locs hM => ?_)
    exact m_iret G hM (rfl) (by decide) (by decide) dX5_many_28
  · skip
    have c12 : (nI 0) ≤ x ∧ x ≤ (nI 12) := g_if1.mp c12
    exact absurd c12 h0
set_option maxRecDepth 100000 in
set_option maxHeartbeats 4000000 in
theorem c_X5_reopenedIn_x (l : Launch) (u : MP) (th : Int32) (dy : Int32) (sm : Int64) (x : Int32) (h0 : ¬ (nI 1 ≤ x ∧ x ≤ nI 40)) : Met l yX5_reopenedIn (gws yX5_reopenedIn cX5_reopenedIn 2 (some .int)) ({ frames := 1, cells := 0, slots := 0, locals := 22 }) (mPc u th dy sm [.ref (u.2.1 0), .int x]) (mWr u (some (.int (nI 0))) (nI 1) dy sm) 0 0 (mA u) := by
  refine b_read (by decide) (Nat.le_of_ble_eq_true rfl) ?_
  intro P_ E_ S_ M_ B_ T_ C_ ls G hnm hV hl
  obtain ⟨hx, hb, hml, hown, hts⟩ := id G.1
  have hl : lv_has ls 2 [(0, .ref (u.2.1 0)), (1, .int x)] := hl
  have hM := MV.start hV
  refine lv_aload_n hx hb dX5_reopenedIn_0 rfl (lv_at hl 0 rfl) ?_
  refine lv_iconst (v := nI 0) hx hb dX5_reopenedIn_1 (by decide) ?_
  refine m_putT hx hb hts hown hM gm_427 dX5_reopenedIn_2 (fun H locs hM => ?_)
  refine lv_iload_n hx hb dX5_reopenedIn_5 rfl (lv_at hl 1 rfl) ?_
  refine lv_iconst (v := nI 1) hx hb dX5_reopenedIn_6 (by decide) ?_
  refine lv_bipush (v := nI 40) hx hb dX5_reopenedIn_7 (by decide) ?_
  refine b_callS (As := [.int x, .int (nI 1), .int (nI 40)]) (rest := []) G.1 ok_X5_is gm_449 gm_448 (c_X5_is l x (nI 1) (nI 40)) ⟨rfl, rfl⟩ ⟨Nat.le_of_ble_eq_true rfl, Nat.le_of_ble_eq_true rfl⟩ rfl hl.1 rfl (Nat.le_of_ble_eq_true rfl) ⟨Nat.le_of_ble_eq_true rfl, Nat.le_of_ble_eq_true rfl⟩ dX5_reopenedIn_9 ?_
  refine lv_if_eq (tgt := 32) hx hb dX5_reopenedIn_12 (by decide) (fun c12 => ?_) (fun c12 => ?_)
  · skip
    have c12 : ¬ ((nI 1) ≤ x ∧ x ≤ (nI 40)) := g_if0.mp c12
    refine lv_aload_n hx hb dX5_reopenedIn_32 rfl (lv_at hl 0 rfl) ?_
    refine lv_iconst (v := nI 1) hx hb dX5_reopenedIn_33 (by decide) ?_
    refine m_call (As := [.int (nI 1)]) (rest := []) G.1 hM rfl ok_X5_refuse gm_487 gm_488 gm_486 (c_X5_refuse l u (nI 0) dy sm 1 ) ⟨rfl, rfl⟩ ⟨Nat.le_of_ble_eq_true rfl, Nat.le_of_ble_eq_true rfl⟩ rfl hl.1 rfl (Nat.le_of_ble_eq_true rfl) ⟨Nat.le_of_ble_eq_true rfl, Nat.le_of_ble_eq_true rfl⟩ dX5_reopenedIn_34 (fun H locs hM => ?_)
    exact m_iret G hM (rfl) (by decide) (by decide) dX5_reopenedIn_37
  · skip
    have c12 : (nI 1) ≤ x ∧ x ≤ (nI 40) := g_if1.mp c12
    exact absurd c12 h0
theorem ok_X5_pass : gOK yX5_pass cX5_pass 4 (some .int) 1 := ⟨gm_778, gm_434, by decide +kernel⟩
set_option maxRecDepth 100000 in
set_option maxHeartbeats 4000000 in
theorem c_X5_pass_x (l : Launch) (u : MP) (th : Int32) (dy : Int32) (sm : Int64) (x : Int32) (h0 : ¬ (nI 1 ≤ x ∧ x ≤ nI 40)) : Met l yX5_pass (gws yX5_pass cX5_pass 4 (some .int)) ({ frames := 1, cells := 0, slots := 0, locals := 22 }) (mPc u th dy sm [.ref (u.2.1 0), .int x]) (mWr u (some (.int (nI 0))) (nI 1) dy sm) 0 0 (mA u) := by
  refine b_read (by decide) (Nat.le_of_ble_eq_true rfl) ?_
  intro P_ E_ S_ M_ B_ T_ C_ ls G hnm hV hl
  obtain ⟨hx, hb, hml, hown, hts⟩ := id G.1
  have hl : lv_has ls 4 [(0, .ref (u.2.1 0)), (1, .int x)] := hl
  have hM := MV.start hV
  refine lv_aload_n hx hb dX5_pass_0 rfl (lv_at hl 0 rfl) ?_
  refine lv_iconst (v := nI 0) hx hb dX5_pass_1 (by decide) ?_
  refine m_putT hx hb hts hown hM gm_427 dX5_pass_2 (fun H locs hM => ?_)
  refine lv_iload_n hx hb dX5_pass_5 rfl (lv_at hl 1 rfl) ?_
  refine lv_iconst (v := nI 1) hx hb dX5_pass_6 (by decide) ?_
  refine lv_bipush (v := nI 40) hx hb dX5_pass_7 (by decide) ?_
  refine b_callS (As := [.int x, .int (nI 1), .int (nI 40)]) (rest := []) G.1 ok_X5_is gm_449 gm_448 (c_X5_is l x (nI 1) (nI 40)) ⟨rfl, rfl⟩ ⟨Nat.le_of_ble_eq_true rfl, Nat.le_of_ble_eq_true rfl⟩ rfl hl.1 rfl (Nat.le_of_ble_eq_true rfl) ⟨Nat.le_of_ble_eq_true rfl, Nat.le_of_ble_eq_true rfl⟩ dX5_pass_9 ?_
  refine lv_if_ne (tgt := 21) hx hb dX5_pass_12 (by decide) (fun c12 => ?_) (fun c12 => ?_)
  · skip
    have c12 : (nI 1) ≤ x ∧ x ≤ (nI 40) := g_if1.mp c12
    exact absurd c12 h0
  · skip
    have c12 : ¬ ((nI 1) ≤ x ∧ x ≤ (nI 40)) := g_if0.mp c12
    refine lv_aload_n hx hb dX5_pass_15 rfl (lv_at hl 0 rfl) ?_
    refine lv_iconst (v := nI 1) hx hb dX5_pass_16 (by decide) ?_
    refine m_call (As := [.int (nI 1)]) (rest := []) G.1 hM rfl ok_X5_refuse gm_487 gm_488 gm_486 (c_X5_refuse l u (nI 0) dy sm 1 ) ⟨rfl, rfl⟩ ⟨Nat.le_of_ble_eq_true rfl, Nat.le_of_ble_eq_true rfl⟩ rfl hl.1 rfl (Nat.le_of_ble_eq_true rfl) ⟨Nat.le_of_ble_eq_true rfl, Nat.le_of_ble_eq_true rfl⟩ dX5_pass_17 (fun H locs hM => ?_)
    exact m_iret G hM (rfl) (by decide) (by decide) dX5_pass_20
theorem ok_X5_concept : gOK yX5_concept cX5_concept 2 (some .int) 1 := ⟨gm_655, gm_434, by decide +kernel⟩
set_option maxRecDepth 100000 in
set_option maxHeartbeats 4000000 in
theorem c_X5_concept_x (l : Launch) (u : MP) (th : Int32) (dy : Int32) (sm : Int64) (x : Int32) (h0 : ¬ (nI 0 ≤ x ∧ x ≤ nI 3)) : Met l yX5_concept (gws yX5_concept cX5_concept 2 (some .int)) ({ frames := 1, cells := 0, slots := 0, locals := 22 }) (mPc u th dy sm [.ref (u.2.1 0), .int x]) (mWr u (some (.int (nI 0))) (nI 1) dy sm) 0 0 (mA u) := by
  refine b_read (by decide) (Nat.le_of_ble_eq_true rfl) ?_
  intro P_ E_ S_ M_ B_ T_ C_ ls G hnm hV hl
  obtain ⟨hx, hb, hml, hown, hts⟩ := id G.1
  have hl : lv_has ls 2 [(0, .ref (u.2.1 0)), (1, .int x)] := hl
  have hM := MV.start hV
  refine lv_aload_n hx hb dX5_concept_0 rfl (lv_at hl 0 rfl) ?_
  refine lv_iconst (v := nI 0) hx hb dX5_concept_1 (by decide) ?_
  refine m_putT hx hb hts hown hM gm_427 dX5_concept_2 (fun H locs hM => ?_)
  refine lv_iload_n hx hb dX5_concept_5 rfl (lv_at hl 1 rfl) ?_
  refine lv_iconst (v := nI 0) hx hb dX5_concept_6 (by decide) ?_
  refine lv_iconst (v := nI 3) hx hb dX5_concept_7 (by decide) ?_
  refine b_callS (As := [.int x, .int (nI 0), .int (nI 3)]) (rest := []) G.1 ok_X5_is gm_449 gm_448 (c_X5_is l x (nI 0) (nI 3)) ⟨rfl, rfl⟩ ⟨Nat.le_of_ble_eq_true rfl, Nat.le_of_ble_eq_true rfl⟩ rfl hl.1 rfl (Nat.le_of_ble_eq_true rfl) ⟨Nat.le_of_ble_eq_true rfl, Nat.le_of_ble_eq_true rfl⟩ dX5_concept_8 ?_
  refine lv_if_ne (tgt := 20) hx hb dX5_concept_11 (by decide) (fun c11 => ?_) (fun c11 => ?_)
  · skip
    have c11 : (nI 0) ≤ x ∧ x ≤ (nI 3) := g_if1.mp c11
    exact absurd c11 h0
  · skip
    have c11 : ¬ ((nI 0) ≤ x ∧ x ≤ (nI 3)) := g_if0.mp c11
    refine lv_aload_n hx hb dX5_concept_14 rfl (lv_at hl 0 rfl) ?_
    refine lv_iconst (v := nI 1) hx hb dX5_concept_15 (by decide) ?_
    refine m_call (As := [.int (nI 1)]) (rest := []) G.1 hM rfl ok_X5_refuse gm_487 gm_488 gm_486 (c_X5_refuse l u (nI 0) dy sm 1 ) ⟨rfl, rfl⟩ ⟨Nat.le_of_ble_eq_true rfl, Nat.le_of_ble_eq_true rfl⟩ rfl hl.1 rfl (Nat.le_of_ble_eq_true rfl) ⟨Nat.le_of_ble_eq_true rfl, Nat.le_of_ble_eq_true rfl⟩ dX5_concept_16 (fun H locs hM => ?_)
    exact m_iret G hM (rfl) (by decide) (by decide) dX5_concept_19
set_option maxRecDepth 100000 in
set_option maxHeartbeats 4000000 in
theorem c_X5_pass (l : Launch) (u : MP) (th : Int32) (sm : Int64) (n : Nat) (h1 : 1 ≤ n) (h2 : n ≤ 40) : Met l yX5_pass (gws yX5_pass cX5_pass 4 (some .int)) ({ frames := 3, cells := 0, slots := 0, locals := 74 }) (mPc u th (nI 0) sm [.ref (u.2.1 0), .int (nI n)]) (mWr u (some (.int (nI 0))) (nI 0) (nI n) sm) 0 0 (mA u) := by
  refine b_read (by decide) (Nat.le_of_ble_eq_true rfl) ?_
  intro P_ E_ S_ M_ B_ T_ C_ ls G hnm hV hl
  obtain ⟨hx, hb, hml, hown, hts⟩ := id G.1
  have hl : lv_has ls 4 [(0, .ref (u.2.1 0)), (1, .int (nI n))] := hl
  have hM := MV.start hV
  refine lv_aload_n hx hb dX5_pass_0 rfl (lv_at hl 0 rfl) ?_
  refine lv_iconst (v := nI 0) hx hb dX5_pass_1 (by decide) ?_
  refine m_putT hx hb hts hown hM gm_427 dX5_pass_2 (fun H locs hM => ?_)
  refine lv_iload_n hx hb dX5_pass_5 rfl (lv_at hl 1 rfl) ?_
  refine lv_iconst (v := nI 1) hx hb dX5_pass_6 (by decide) ?_
  refine lv_bipush (v := nI 40) hx hb dX5_pass_7 (by decide) ?_
  refine b_callS (As := [.int (nI n), .int (nI 1), .int (nI 40)]) (rest := []) G.1 ok_X5_is gm_449 gm_448 (c_X5_is l (nI n) (nI 1) (nI 40)) ⟨rfl, rfl⟩ ⟨Nat.le_of_ble_eq_true rfl, Nat.le_of_ble_eq_true rfl⟩ rfl hl.1 rfl (Nat.le_of_ble_eq_true rfl) ⟨Nat.le_of_ble_eq_true rfl, Nat.le_of_ble_eq_true rfl⟩ dX5_pass_9 ?_
  refine lv_if_ne (tgt := 21) hx hb dX5_pass_12 (by decide) (fun c12 => ?_) (fun c12 => ?_)
  · skip
    have c12 : (nI 1) ≤ (nI n) ∧ (nI n) ≤ (nI 40) := g_if1.mp c12
    refine lv_aload_n hx hb dX5_pass_21 rfl (lv_at hl 0 rfl) ?_
    refine m_get hx hb hts hown hM 4 (by decide) (v := .int (nI 0)) gm_439 rfl dX5_pass_22 ?_
    refine lv_iload_n hx hb dX5_pass_25 rfl (lv_at hl 1 rfl) ?_
    refine g_iaddn hx hb dX5_pass_26 ?_
    refine lv_sipush (v := nI 199) hx hb dX5_pass_27 (by decide) ?_
    refine lv_icmp_le (tgt := 39) hx hb dX5_pass_30 (by decide) (fun c30 => ?_) (fun c30 => ?_)
    · skip
      have c30 : (0 + n) ≤ 199 := (g_le (by omega) (by omega)).mp c30
      refine lv_iconst (v := nI 0) hx hb dX5_pass_39 (by decide) ?_
      refine lv_istore_n (lv' := [(2, .int (nI 0)), (0, .ref (u.2.1 0)), (1, .int (nI n))]) hx hb dX5_pass_40 rfl hl (by decide) rfl (fun ls hl => ?_)
      refine lv_iconst (v := nI 0) hx hb dX5_pass_41 (by decide) ?_
      refine lv_istore_n (lv' := [(3, .int (nI 0)), (2, .int (nI 0)), (0, .ref (u.2.1 0)), (1, .int (nI n))]) hx hb dX5_pass_42 rfl hl (by decide) rfl (fun ls hl => ?_)
      refine g_for (P := fun k => ∀ (H : Heap) (locs : List Loc) (ls : Array Slot), MS u S_ H locs (nI 0) (nI k) sm → lv_has ls 4 [(3, .int (nI k)), (2, .int (nI 0)), (0, .ref (u.2.1 0)), (1, .int (nI n))] → W P_ l E_ _ S_ M_ _ B_ T_ C_ H locs 0 0 _ (F0 M_ 43 ls [])) n ?_ ?_ 0 (Nat.zero_le _) _ _ ls hM (lv_sub hl [0, 1, 2, 3] rfl)
      · intro k hk ih H locs ls hM hl
        refine lv_iload_n hx hb dX5_pass_43 rfl (lv_at hl 0 rfl) ?_
        refine lv_iload_n hx hb dX5_pass_44 rfl (lv_at hl 3 rfl) ?_
        refine lv_icmp_ge (tgt := 71) hx hb dX5_pass_45 (by decide) (fun c45 => ?_) (fun c45 => ?_)
        · skip
          have c45 : n ≤ k := (g_le (by omega) (by omega)).mp c45
          omega
        · skip
          have c45 : ¬ (n ≤ k) := fun q => c45 ((g_le (by omega) (by omega)).mpr q)
          refine lv_aload_n hx hb dX5_pass_48 rfl (lv_at hl 2 rfl) ?_
          refine lv_dup hx hb dX5_pass_49 rfl ?_
          refine m_get hx hb hts hown hM 4 (by decide) (v := .int (nI k)) gm_439 rfl dX5_pass_50 ?_
          refine lv_iconst (v := nI 1) hx hb dX5_pass_53 (by decide) ?_
          refine g_iaddn hx hb dX5_pass_54 ?_
          refine m_putD hx hb hts hown hM gm_439 dX5_pass_55 (fun H locs hM => ?_)
          refine lv_iload_n hx hb dX5_pass_58 rfl (lv_at hl 1 rfl) ?_
          refine lv_aload_n hx hb dX5_pass_59 rfl (lv_at hl 2 rfl) ?_
          refine m_call (As := []) (rest := [.int (nI 0)]) G.1 hM rfl ok_X5_settle gm_529 gm_530 gm_528 (c_X5_settle l u (nI 0) (nI (k + 1)) sm ) ⟨rfl, rfl⟩ ⟨Nat.le_of_ble_eq_true rfl, Nat.le_of_ble_eq_true rfl⟩ rfl hl.1 rfl (Nat.le_of_ble_eq_true rfl) ⟨Nat.le_of_ble_eq_true rfl, Nat.le_of_ble_eq_true rfl⟩ dX5_pass_60 (fun H locs hM => ?_)
          refine g_iaddn hx hb dX5_pass_63 ?_
          refine W.eq (g2 := F0 M_ _ ls [.int (nI 0)]) rfl ?_
          refine lv_istore_n (lv' := [(2, .int (nI 0)), (3, .int (nI k)), (0, .ref (u.2.1 0)), (1, .int (nI n))]) hx hb dX5_pass_64 rfl hl (by decide) rfl (fun ls hl => ?_)
          refine lv_iinc (v := nI (k + 1)) (lv' := [(3, .int (nI (k + 1))), (2, .int (nI 0)), (0, .ref (u.2.1 0)), (1, .int (nI n))]) hx hb dX5_pass_65 hl (k := 1) rfl (g_inc k 1) (by decide) rfl (fun ls hl => ?_)
          refine lv_goto (tgt := 43) hx hb dX5_pass_68 (by decide) ?_
          exact ih H locs ls hM (lv_sub hl [0, 1, 2, 3] rfl)
      · intro H locs ls hM hl
        refine lv_iload_n hx hb dX5_pass_43 rfl (lv_at hl 0 rfl) ?_
        refine lv_iload_n hx hb dX5_pass_44 rfl (lv_at hl 3 rfl) ?_
        refine lv_icmp_ge (tgt := 71) hx hb dX5_pass_45 (by decide) (fun c45 => ?_) (fun c45 => ?_)
        · skip
          have c45 : n ≤ n := (g_le (by omega) (by omega)).mp c45
          refine lv_iload_n hx hb dX5_pass_71 rfl (lv_at hl 1 rfl) ?_
          exact m_iret G hM (rfl) (by decide) (by decide) dX5_pass_72
        · skip
          have c45 : ¬ (n ≤ n) := fun q => c45 ((g_le (by omega) (by omega)).mpr q)
          omega
    · skip
      have c30 : ¬ ((0 + n) ≤ 199) := fun q => c30 ((g_le (by omega) (by omega)).mpr q)
      omega
  · skip
    have c12 : ¬ ((nI 1) ≤ (nI n) ∧ (nI n) ≤ (nI 40)) := g_if0.mp c12
    exact absurd (is_in (by omega) (by omega) (by omega)) c12
theorem ok_X5_digest : gOK yX5_digest cX5_digest 8 (some .long) 0 := ⟨gm_829, gm_434, by decide +kernel⟩
set_option maxRecDepth 100000 in
set_option maxHeartbeats 4000000 in
theorem c_X5_digest (l : Launch) (u : MP) (th : Int32) (sm : Int64)   : Met l yX5_digest (gws yX5_digest cX5_digest 8 (some .long)) ({ frames := 5, cells := 16, slots := 64, locals := 106 }) (mPc u th (nI 0) sm [.ref (u.2.1 0)]) (mWr u (some (.long (mdg 14))) (nI 0) (nI 0) (mdg 14)) 16 64 (mA u) := by
  refine b_read (by decide) (Nat.le_of_ble_eq_true rfl) ?_
  intro P_ E_ S_ M_ B_ T_ C_ ls G hnm hV hl
  obtain ⟨hx, hb, hml, hown, hts⟩ := id G.1
  have hl : lv_has ls 8 [(0, .ref (u.2.1 0))] := hl
  have hM := MV.start hV
  refine lv_aload_n hx hb dX5_digest_0 rfl (lv_at hl 0 rfl) ?_
  refine lv_iconst (v := nI 0) hx hb dX5_digest_1 (by decide) ?_
  refine m_putT hx hb hts hown hM gm_427 dX5_digest_2 (fun H locs hM => ?_)
  refine lv_aload_n hx hb dX5_digest_5 rfl (lv_at hl 0 rfl) ?_
  refine lv_ldc2 hx hb hown (hts _ gm_561) dX5_digest_6 ?_
  refine m_putS hx hb hts hown hM gm_559 dX5_digest_9 (fun H locs hM => ?_)
  have hM : MS u S_ H locs (nI 0) (nI 0) (mdg 0) := hM
  refine lv_iconst (v := nI 0) hx hb dX5_digest_12 (by decide) ?_
  refine lv_istore_n (lv' := [(1, .int (nI 0)), (0, .ref (u.2.1 0))]) hx hb dX5_digest_13 rfl hl (by decide) rfl (fun ls hl => ?_)
  refine lv_iload_n hx hb dX5_digest_14 rfl (lv_at hl 0 rfl) ?_
  refine lv_bipush (v := nI 13) hx hb dX5_digest_15 (by decide) ?_
  refine lv_icmp_ge (tgt := 35) hx hb dX5_digest_17 (by decide) (fun c17 => ?_) (fun c17 => ?_)
  · skip
    have c17 : 13 ≤ 0 := (g_le (by omega) (by omega)).mp c17
    omega
  · skip
    have c17 : ¬ (13 ≤ 0) := fun q => c17 ((g_le (by omega) (by omega)).mpr q)
    refine lv_aload_n hx hb dX5_digest_20 rfl (lv_at hl 1 rfl) ?_
    refine lv_aload_n hx hb dX5_digest_21 rfl (lv_at hl 1 rfl) ?_
    refine lv_iload_n hx hb dX5_digest_22 rfl (lv_at hl 0 rfl) ?_
    refine m_call (As := [.int (nI 0)]) (rest := [.ref (u.2.1 0)]) G.1 hM rfl ok_X5_manyNow gm_555 gm_556 gm_554 (c_X5_manyNow l u (nI 0) (mdg 0) 0 (by omega)) ⟨rfl, rfl⟩ ⟨Nat.le_of_ble_eq_true rfl, Nat.le_of_ble_eq_true rfl⟩ rfl hl.1 rfl (Nat.le_of_ble_eq_true rfl) ⟨Nat.le_of_ble_eq_true rfl, Nat.le_of_ble_eq_true rfl⟩ dX5_digest_23 (fun H locs hM => ?_)
    refine m_call (As := [.int (nI 0)]) (rest := []) G.1 hM rfl ok_X5_add gm_563 gm_564 gm_562 (c_X5_add l u (nI 0) (nI 0) (mdg 0) (nI 0) ) ⟨rfl, rfl⟩ ⟨Nat.le_of_ble_eq_true rfl, Nat.le_of_ble_eq_true rfl⟩ rfl hl.1 rfl (Nat.le_of_ble_eq_true rfl) ⟨Nat.le_of_ble_eq_true rfl, Nat.le_of_ble_eq_true rfl⟩ dX5_digest_26 (fun H locs hM => ?_)
    have hM : MS u S_ H locs (nI 0) (nI 0) (mdg 1) := hM
    refine lv_iinc (v := nI 1) (lv' := [(1, .int (nI 1)), (0, .ref (u.2.1 0))]) hx hb dX5_digest_29 hl (k := 0) rfl (g_inc 0 1) (by decide) rfl (fun ls hl => ?_)
    refine lv_goto (tgt := 14) hx hb dX5_digest_32 (by decide) ?_
    refine lv_iload_n hx hb dX5_digest_14 rfl (lv_at hl 0 rfl) ?_
    refine lv_bipush (v := nI 13) hx hb dX5_digest_15 (by decide) ?_
    refine lv_icmp_ge (tgt := 35) hx hb dX5_digest_17 (by decide) (fun c17 => ?_) (fun c17 => ?_)
    · skip
      have c17 : 13 ≤ 1 := (g_le (by omega) (by omega)).mp c17
      omega
    · skip
      have c17 : ¬ (13 ≤ 1) := fun q => c17 ((g_le (by omega) (by omega)).mpr q)
      refine lv_aload_n hx hb dX5_digest_20 rfl (lv_at hl 1 rfl) ?_
      refine lv_aload_n hx hb dX5_digest_21 rfl (lv_at hl 1 rfl) ?_
      refine lv_iload_n hx hb dX5_digest_22 rfl (lv_at hl 0 rfl) ?_
      refine m_call (As := [.int (nI 1)]) (rest := [.ref (u.2.1 0)]) G.1 hM rfl ok_X5_manyNow gm_555 gm_556 gm_554 (c_X5_manyNow l u (nI 0) (mdg 1) 1 (by omega)) ⟨rfl, rfl⟩ ⟨Nat.le_of_ble_eq_true rfl, Nat.le_of_ble_eq_true rfl⟩ rfl hl.1 rfl (Nat.le_of_ble_eq_true rfl) ⟨Nat.le_of_ble_eq_true rfl, Nat.le_of_ble_eq_true rfl⟩ dX5_digest_23 (fun H locs hM => ?_)
      refine m_call (As := [.int (nI 0)]) (rest := []) G.1 hM rfl ok_X5_add gm_563 gm_564 gm_562 (c_X5_add l u (nI 0) (nI 0) (mdg 1) (nI 0) ) ⟨rfl, rfl⟩ ⟨Nat.le_of_ble_eq_true rfl, Nat.le_of_ble_eq_true rfl⟩ rfl hl.1 rfl (Nat.le_of_ble_eq_true rfl) ⟨Nat.le_of_ble_eq_true rfl, Nat.le_of_ble_eq_true rfl⟩ dX5_digest_26 (fun H locs hM => ?_)
      have hM : MS u S_ H locs (nI 0) (nI 0) (mdg 2) := hM
      refine lv_iinc (v := nI 2) (lv' := [(1, .int (nI 2)), (0, .ref (u.2.1 0))]) hx hb dX5_digest_29 hl (k := 0) rfl (g_inc 1 1) (by decide) rfl (fun ls hl => ?_)
      refine lv_goto (tgt := 14) hx hb dX5_digest_32 (by decide) ?_
      refine lv_iload_n hx hb dX5_digest_14 rfl (lv_at hl 0 rfl) ?_
      refine lv_bipush (v := nI 13) hx hb dX5_digest_15 (by decide) ?_
      refine lv_icmp_ge (tgt := 35) hx hb dX5_digest_17 (by decide) (fun c17 => ?_) (fun c17 => ?_)
      · skip
        have c17 : 13 ≤ 2 := (g_le (by omega) (by omega)).mp c17
        omega
      · skip
        have c17 : ¬ (13 ≤ 2) := fun q => c17 ((g_le (by omega) (by omega)).mpr q)
        refine lv_aload_n hx hb dX5_digest_20 rfl (lv_at hl 1 rfl) ?_
        refine lv_aload_n hx hb dX5_digest_21 rfl (lv_at hl 1 rfl) ?_
        refine lv_iload_n hx hb dX5_digest_22 rfl (lv_at hl 0 rfl) ?_
        refine m_call (As := [.int (nI 2)]) (rest := [.ref (u.2.1 0)]) G.1 hM rfl ok_X5_manyNow gm_555 gm_556 gm_554 (c_X5_manyNow l u (nI 0) (mdg 2) 2 (by omega)) ⟨rfl, rfl⟩ ⟨Nat.le_of_ble_eq_true rfl, Nat.le_of_ble_eq_true rfl⟩ rfl hl.1 rfl (Nat.le_of_ble_eq_true rfl) ⟨Nat.le_of_ble_eq_true rfl, Nat.le_of_ble_eq_true rfl⟩ dX5_digest_23 (fun H locs hM => ?_)
        refine m_call (As := [.int (nI 0)]) (rest := []) G.1 hM rfl ok_X5_add gm_563 gm_564 gm_562 (c_X5_add l u (nI 0) (nI 0) (mdg 2) (nI 0) ) ⟨rfl, rfl⟩ ⟨Nat.le_of_ble_eq_true rfl, Nat.le_of_ble_eq_true rfl⟩ rfl hl.1 rfl (Nat.le_of_ble_eq_true rfl) ⟨Nat.le_of_ble_eq_true rfl, Nat.le_of_ble_eq_true rfl⟩ dX5_digest_26 (fun H locs hM => ?_)
        have hM : MS u S_ H locs (nI 0) (nI 0) (mdg 3) := hM
        refine lv_iinc (v := nI 3) (lv' := [(1, .int (nI 3)), (0, .ref (u.2.1 0))]) hx hb dX5_digest_29 hl (k := 0) rfl (g_inc 2 1) (by decide) rfl (fun ls hl => ?_)
        refine lv_goto (tgt := 14) hx hb dX5_digest_32 (by decide) ?_
        refine lv_iload_n hx hb dX5_digest_14 rfl (lv_at hl 0 rfl) ?_
        refine lv_bipush (v := nI 13) hx hb dX5_digest_15 (by decide) ?_
        refine lv_icmp_ge (tgt := 35) hx hb dX5_digest_17 (by decide) (fun c17 => ?_) (fun c17 => ?_)
        · skip
          have c17 : 13 ≤ 3 := (g_le (by omega) (by omega)).mp c17
          omega
        · skip
          have c17 : ¬ (13 ≤ 3) := fun q => c17 ((g_le (by omega) (by omega)).mpr q)
          refine lv_aload_n hx hb dX5_digest_20 rfl (lv_at hl 1 rfl) ?_
          refine lv_aload_n hx hb dX5_digest_21 rfl (lv_at hl 1 rfl) ?_
          refine lv_iload_n hx hb dX5_digest_22 rfl (lv_at hl 0 rfl) ?_
          refine m_call (As := [.int (nI 3)]) (rest := [.ref (u.2.1 0)]) G.1 hM rfl ok_X5_manyNow gm_555 gm_556 gm_554 (c_X5_manyNow l u (nI 0) (mdg 3) 3 (by omega)) ⟨rfl, rfl⟩ ⟨Nat.le_of_ble_eq_true rfl, Nat.le_of_ble_eq_true rfl⟩ rfl hl.1 rfl (Nat.le_of_ble_eq_true rfl) ⟨Nat.le_of_ble_eq_true rfl, Nat.le_of_ble_eq_true rfl⟩ dX5_digest_23 (fun H locs hM => ?_)
          refine m_call (As := [.int (nI 0)]) (rest := []) G.1 hM rfl ok_X5_add gm_563 gm_564 gm_562 (c_X5_add l u (nI 0) (nI 0) (mdg 3) (nI 0) ) ⟨rfl, rfl⟩ ⟨Nat.le_of_ble_eq_true rfl, Nat.le_of_ble_eq_true rfl⟩ rfl hl.1 rfl (Nat.le_of_ble_eq_true rfl) ⟨Nat.le_of_ble_eq_true rfl, Nat.le_of_ble_eq_true rfl⟩ dX5_digest_26 (fun H locs hM => ?_)
          have hM : MS u S_ H locs (nI 0) (nI 0) (mdg 4) := hM
          refine lv_iinc (v := nI 4) (lv' := [(1, .int (nI 4)), (0, .ref (u.2.1 0))]) hx hb dX5_digest_29 hl (k := 0) rfl (g_inc 3 1) (by decide) rfl (fun ls hl => ?_)
          refine lv_goto (tgt := 14) hx hb dX5_digest_32 (by decide) ?_
          refine lv_iload_n hx hb dX5_digest_14 rfl (lv_at hl 0 rfl) ?_
          refine lv_bipush (v := nI 13) hx hb dX5_digest_15 (by decide) ?_
          refine lv_icmp_ge (tgt := 35) hx hb dX5_digest_17 (by decide) (fun c17 => ?_) (fun c17 => ?_)
          · skip
            have c17 : 13 ≤ 4 := (g_le (by omega) (by omega)).mp c17
            omega
          · skip
            have c17 : ¬ (13 ≤ 4) := fun q => c17 ((g_le (by omega) (by omega)).mpr q)
            refine lv_aload_n hx hb dX5_digest_20 rfl (lv_at hl 1 rfl) ?_
            refine lv_aload_n hx hb dX5_digest_21 rfl (lv_at hl 1 rfl) ?_
            refine lv_iload_n hx hb dX5_digest_22 rfl (lv_at hl 0 rfl) ?_
            refine m_call (As := [.int (nI 4)]) (rest := [.ref (u.2.1 0)]) G.1 hM rfl ok_X5_manyNow gm_555 gm_556 gm_554 (c_X5_manyNow l u (nI 0) (mdg 4) 4 (by omega)) ⟨rfl, rfl⟩ ⟨Nat.le_of_ble_eq_true rfl, Nat.le_of_ble_eq_true rfl⟩ rfl hl.1 rfl (Nat.le_of_ble_eq_true rfl) ⟨Nat.le_of_ble_eq_true rfl, Nat.le_of_ble_eq_true rfl⟩ dX5_digest_23 (fun H locs hM => ?_)
            refine m_call (As := [.int (nI 0)]) (rest := []) G.1 hM rfl ok_X5_add gm_563 gm_564 gm_562 (c_X5_add l u (nI 0) (nI 0) (mdg 4) (nI 0) ) ⟨rfl, rfl⟩ ⟨Nat.le_of_ble_eq_true rfl, Nat.le_of_ble_eq_true rfl⟩ rfl hl.1 rfl (Nat.le_of_ble_eq_true rfl) ⟨Nat.le_of_ble_eq_true rfl, Nat.le_of_ble_eq_true rfl⟩ dX5_digest_26 (fun H locs hM => ?_)
            have hM : MS u S_ H locs (nI 0) (nI 0) (mdg 5) := hM
            refine lv_iinc (v := nI 5) (lv' := [(1, .int (nI 5)), (0, .ref (u.2.1 0))]) hx hb dX5_digest_29 hl (k := 0) rfl (g_inc 4 1) (by decide) rfl (fun ls hl => ?_)
            refine lv_goto (tgt := 14) hx hb dX5_digest_32 (by decide) ?_
            refine lv_iload_n hx hb dX5_digest_14 rfl (lv_at hl 0 rfl) ?_
            refine lv_bipush (v := nI 13) hx hb dX5_digest_15 (by decide) ?_
            refine lv_icmp_ge (tgt := 35) hx hb dX5_digest_17 (by decide) (fun c17 => ?_) (fun c17 => ?_)
            · skip
              have c17 : 13 ≤ 5 := (g_le (by omega) (by omega)).mp c17
              omega
            · skip
              have c17 : ¬ (13 ≤ 5) := fun q => c17 ((g_le (by omega) (by omega)).mpr q)
              refine lv_aload_n hx hb dX5_digest_20 rfl (lv_at hl 1 rfl) ?_
              refine lv_aload_n hx hb dX5_digest_21 rfl (lv_at hl 1 rfl) ?_
              refine lv_iload_n hx hb dX5_digest_22 rfl (lv_at hl 0 rfl) ?_
              refine m_call (As := [.int (nI 5)]) (rest := [.ref (u.2.1 0)]) G.1 hM rfl ok_X5_manyNow gm_555 gm_556 gm_554 (c_X5_manyNow l u (nI 0) (mdg 5) 5 (by omega)) ⟨rfl, rfl⟩ ⟨Nat.le_of_ble_eq_true rfl, Nat.le_of_ble_eq_true rfl⟩ rfl hl.1 rfl (Nat.le_of_ble_eq_true rfl) ⟨Nat.le_of_ble_eq_true rfl, Nat.le_of_ble_eq_true rfl⟩ dX5_digest_23 (fun H locs hM => ?_)
              refine m_call (As := [.int (nI 0)]) (rest := []) G.1 hM rfl ok_X5_add gm_563 gm_564 gm_562 (c_X5_add l u (nI 0) (nI 0) (mdg 5) (nI 0) ) ⟨rfl, rfl⟩ ⟨Nat.le_of_ble_eq_true rfl, Nat.le_of_ble_eq_true rfl⟩ rfl hl.1 rfl (Nat.le_of_ble_eq_true rfl) ⟨Nat.le_of_ble_eq_true rfl, Nat.le_of_ble_eq_true rfl⟩ dX5_digest_26 (fun H locs hM => ?_)
              have hM : MS u S_ H locs (nI 0) (nI 0) (mdg 6) := hM
              refine lv_iinc (v := nI 6) (lv' := [(1, .int (nI 6)), (0, .ref (u.2.1 0))]) hx hb dX5_digest_29 hl (k := 0) rfl (g_inc 5 1) (by decide) rfl (fun ls hl => ?_)
              refine lv_goto (tgt := 14) hx hb dX5_digest_32 (by decide) ?_
              refine lv_iload_n hx hb dX5_digest_14 rfl (lv_at hl 0 rfl) ?_
              refine lv_bipush (v := nI 13) hx hb dX5_digest_15 (by decide) ?_
              refine lv_icmp_ge (tgt := 35) hx hb dX5_digest_17 (by decide) (fun c17 => ?_) (fun c17 => ?_)
              · skip
                have c17 : 13 ≤ 6 := (g_le (by omega) (by omega)).mp c17
                omega
              · skip
                have c17 : ¬ (13 ≤ 6) := fun q => c17 ((g_le (by omega) (by omega)).mpr q)
                refine lv_aload_n hx hb dX5_digest_20 rfl (lv_at hl 1 rfl) ?_
                refine lv_aload_n hx hb dX5_digest_21 rfl (lv_at hl 1 rfl) ?_
                refine lv_iload_n hx hb dX5_digest_22 rfl (lv_at hl 0 rfl) ?_
                refine m_call (As := [.int (nI 6)]) (rest := [.ref (u.2.1 0)]) G.1 hM rfl ok_X5_manyNow gm_555 gm_556 gm_554 (c_X5_manyNow l u (nI 0) (mdg 6) 6 (by omega)) ⟨rfl, rfl⟩ ⟨Nat.le_of_ble_eq_true rfl, Nat.le_of_ble_eq_true rfl⟩ rfl hl.1 rfl (Nat.le_of_ble_eq_true rfl) ⟨Nat.le_of_ble_eq_true rfl, Nat.le_of_ble_eq_true rfl⟩ dX5_digest_23 (fun H locs hM => ?_)
                refine m_call (As := [.int (nI 0)]) (rest := []) G.1 hM rfl ok_X5_add gm_563 gm_564 gm_562 (c_X5_add l u (nI 0) (nI 0) (mdg 6) (nI 0) ) ⟨rfl, rfl⟩ ⟨Nat.le_of_ble_eq_true rfl, Nat.le_of_ble_eq_true rfl⟩ rfl hl.1 rfl (Nat.le_of_ble_eq_true rfl) ⟨Nat.le_of_ble_eq_true rfl, Nat.le_of_ble_eq_true rfl⟩ dX5_digest_26 (fun H locs hM => ?_)
                have hM : MS u S_ H locs (nI 0) (nI 0) (mdg 7) := hM
                refine lv_iinc (v := nI 7) (lv' := [(1, .int (nI 7)), (0, .ref (u.2.1 0))]) hx hb dX5_digest_29 hl (k := 0) rfl (g_inc 6 1) (by decide) rfl (fun ls hl => ?_)
                refine lv_goto (tgt := 14) hx hb dX5_digest_32 (by decide) ?_
                refine lv_iload_n hx hb dX5_digest_14 rfl (lv_at hl 0 rfl) ?_
                refine lv_bipush (v := nI 13) hx hb dX5_digest_15 (by decide) ?_
                refine lv_icmp_ge (tgt := 35) hx hb dX5_digest_17 (by decide) (fun c17 => ?_) (fun c17 => ?_)
                · skip
                  have c17 : 13 ≤ 7 := (g_le (by omega) (by omega)).mp c17
                  omega
                · skip
                  have c17 : ¬ (13 ≤ 7) := fun q => c17 ((g_le (by omega) (by omega)).mpr q)
                  refine lv_aload_n hx hb dX5_digest_20 rfl (lv_at hl 1 rfl) ?_
                  refine lv_aload_n hx hb dX5_digest_21 rfl (lv_at hl 1 rfl) ?_
                  refine lv_iload_n hx hb dX5_digest_22 rfl (lv_at hl 0 rfl) ?_
                  refine m_call (As := [.int (nI 7)]) (rest := [.ref (u.2.1 0)]) G.1 hM rfl ok_X5_manyNow gm_555 gm_556 gm_554 (c_X5_manyNow l u (nI 0) (mdg 7) 7 (by omega)) ⟨rfl, rfl⟩ ⟨Nat.le_of_ble_eq_true rfl, Nat.le_of_ble_eq_true rfl⟩ rfl hl.1 rfl (Nat.le_of_ble_eq_true rfl) ⟨Nat.le_of_ble_eq_true rfl, Nat.le_of_ble_eq_true rfl⟩ dX5_digest_23 (fun H locs hM => ?_)
                  refine m_call (As := [.int (nI 0)]) (rest := []) G.1 hM rfl ok_X5_add gm_563 gm_564 gm_562 (c_X5_add l u (nI 0) (nI 0) (mdg 7) (nI 0) ) ⟨rfl, rfl⟩ ⟨Nat.le_of_ble_eq_true rfl, Nat.le_of_ble_eq_true rfl⟩ rfl hl.1 rfl (Nat.le_of_ble_eq_true rfl) ⟨Nat.le_of_ble_eq_true rfl, Nat.le_of_ble_eq_true rfl⟩ dX5_digest_26 (fun H locs hM => ?_)
                  have hM : MS u S_ H locs (nI 0) (nI 0) (mdg 8) := hM
                  refine lv_iinc (v := nI 8) (lv' := [(1, .int (nI 8)), (0, .ref (u.2.1 0))]) hx hb dX5_digest_29 hl (k := 0) rfl (g_inc 7 1) (by decide) rfl (fun ls hl => ?_)
                  refine lv_goto (tgt := 14) hx hb dX5_digest_32 (by decide) ?_
                  refine lv_iload_n hx hb dX5_digest_14 rfl (lv_at hl 0 rfl) ?_
                  refine lv_bipush (v := nI 13) hx hb dX5_digest_15 (by decide) ?_
                  refine lv_icmp_ge (tgt := 35) hx hb dX5_digest_17 (by decide) (fun c17 => ?_) (fun c17 => ?_)
                  · skip
                    have c17 : 13 ≤ 8 := (g_le (by omega) (by omega)).mp c17
                    omega
                  · skip
                    have c17 : ¬ (13 ≤ 8) := fun q => c17 ((g_le (by omega) (by omega)).mpr q)
                    refine lv_aload_n hx hb dX5_digest_20 rfl (lv_at hl 1 rfl) ?_
                    refine lv_aload_n hx hb dX5_digest_21 rfl (lv_at hl 1 rfl) ?_
                    refine lv_iload_n hx hb dX5_digest_22 rfl (lv_at hl 0 rfl) ?_
                    refine m_call (As := [.int (nI 8)]) (rest := [.ref (u.2.1 0)]) G.1 hM rfl ok_X5_manyNow gm_555 gm_556 gm_554 (c_X5_manyNow l u (nI 0) (mdg 8) 8 (by omega)) ⟨rfl, rfl⟩ ⟨Nat.le_of_ble_eq_true rfl, Nat.le_of_ble_eq_true rfl⟩ rfl hl.1 rfl (Nat.le_of_ble_eq_true rfl) ⟨Nat.le_of_ble_eq_true rfl, Nat.le_of_ble_eq_true rfl⟩ dX5_digest_23 (fun H locs hM => ?_)
                    refine m_call (As := [.int (nI 0)]) (rest := []) G.1 hM rfl ok_X5_add gm_563 gm_564 gm_562 (c_X5_add l u (nI 0) (nI 0) (mdg 8) (nI 0) ) ⟨rfl, rfl⟩ ⟨Nat.le_of_ble_eq_true rfl, Nat.le_of_ble_eq_true rfl⟩ rfl hl.1 rfl (Nat.le_of_ble_eq_true rfl) ⟨Nat.le_of_ble_eq_true rfl, Nat.le_of_ble_eq_true rfl⟩ dX5_digest_26 (fun H locs hM => ?_)
                    have hM : MS u S_ H locs (nI 0) (nI 0) (mdg 9) := hM
                    refine lv_iinc (v := nI 9) (lv' := [(1, .int (nI 9)), (0, .ref (u.2.1 0))]) hx hb dX5_digest_29 hl (k := 0) rfl (g_inc 8 1) (by decide) rfl (fun ls hl => ?_)
                    refine lv_goto (tgt := 14) hx hb dX5_digest_32 (by decide) ?_
                    refine lv_iload_n hx hb dX5_digest_14 rfl (lv_at hl 0 rfl) ?_
                    refine lv_bipush (v := nI 13) hx hb dX5_digest_15 (by decide) ?_
                    refine lv_icmp_ge (tgt := 35) hx hb dX5_digest_17 (by decide) (fun c17 => ?_) (fun c17 => ?_)
                    · skip
                      have c17 : 13 ≤ 9 := (g_le (by omega) (by omega)).mp c17
                      omega
                    · skip
                      have c17 : ¬ (13 ≤ 9) := fun q => c17 ((g_le (by omega) (by omega)).mpr q)
                      refine lv_aload_n hx hb dX5_digest_20 rfl (lv_at hl 1 rfl) ?_
                      refine lv_aload_n hx hb dX5_digest_21 rfl (lv_at hl 1 rfl) ?_
                      refine lv_iload_n hx hb dX5_digest_22 rfl (lv_at hl 0 rfl) ?_
                      refine m_call (As := [.int (nI 9)]) (rest := [.ref (u.2.1 0)]) G.1 hM rfl ok_X5_manyNow gm_555 gm_556 gm_554 (c_X5_manyNow l u (nI 0) (mdg 9) 9 (by omega)) ⟨rfl, rfl⟩ ⟨Nat.le_of_ble_eq_true rfl, Nat.le_of_ble_eq_true rfl⟩ rfl hl.1 rfl (Nat.le_of_ble_eq_true rfl) ⟨Nat.le_of_ble_eq_true rfl, Nat.le_of_ble_eq_true rfl⟩ dX5_digest_23 (fun H locs hM => ?_)
                      refine m_call (As := [.int (nI 0)]) (rest := []) G.1 hM rfl ok_X5_add gm_563 gm_564 gm_562 (c_X5_add l u (nI 0) (nI 0) (mdg 9) (nI 0) ) ⟨rfl, rfl⟩ ⟨Nat.le_of_ble_eq_true rfl, Nat.le_of_ble_eq_true rfl⟩ rfl hl.1 rfl (Nat.le_of_ble_eq_true rfl) ⟨Nat.le_of_ble_eq_true rfl, Nat.le_of_ble_eq_true rfl⟩ dX5_digest_26 (fun H locs hM => ?_)
                      have hM : MS u S_ H locs (nI 0) (nI 0) (mdg 10) := hM
                      refine lv_iinc (v := nI 10) (lv' := [(1, .int (nI 10)), (0, .ref (u.2.1 0))]) hx hb dX5_digest_29 hl (k := 0) rfl (g_inc 9 1) (by decide) rfl (fun ls hl => ?_)
                      refine lv_goto (tgt := 14) hx hb dX5_digest_32 (by decide) ?_
                      refine lv_iload_n hx hb dX5_digest_14 rfl (lv_at hl 0 rfl) ?_
                      refine lv_bipush (v := nI 13) hx hb dX5_digest_15 (by decide) ?_
                      refine lv_icmp_ge (tgt := 35) hx hb dX5_digest_17 (by decide) (fun c17 => ?_) (fun c17 => ?_)
                      · skip
                        have c17 : 13 ≤ 10 := (g_le (by omega) (by omega)).mp c17
                        omega
                      · skip
                        have c17 : ¬ (13 ≤ 10) := fun q => c17 ((g_le (by omega) (by omega)).mpr q)
                        refine lv_aload_n hx hb dX5_digest_20 rfl (lv_at hl 1 rfl) ?_
                        refine lv_aload_n hx hb dX5_digest_21 rfl (lv_at hl 1 rfl) ?_
                        refine lv_iload_n hx hb dX5_digest_22 rfl (lv_at hl 0 rfl) ?_
                        refine m_call (As := [.int (nI 10)]) (rest := [.ref (u.2.1 0)]) G.1 hM rfl ok_X5_manyNow gm_555 gm_556 gm_554 (c_X5_manyNow l u (nI 0) (mdg 10) 10 (by omega)) ⟨rfl, rfl⟩ ⟨Nat.le_of_ble_eq_true rfl, Nat.le_of_ble_eq_true rfl⟩ rfl hl.1 rfl (Nat.le_of_ble_eq_true rfl) ⟨Nat.le_of_ble_eq_true rfl, Nat.le_of_ble_eq_true rfl⟩ dX5_digest_23 (fun H locs hM => ?_)
                        refine m_call (As := [.int (nI 0)]) (rest := []) G.1 hM rfl ok_X5_add gm_563 gm_564 gm_562 (c_X5_add l u (nI 0) (nI 0) (mdg 10) (nI 0) ) ⟨rfl, rfl⟩ ⟨Nat.le_of_ble_eq_true rfl, Nat.le_of_ble_eq_true rfl⟩ rfl hl.1 rfl (Nat.le_of_ble_eq_true rfl) ⟨Nat.le_of_ble_eq_true rfl, Nat.le_of_ble_eq_true rfl⟩ dX5_digest_26 (fun H locs hM => ?_)
                        have hM : MS u S_ H locs (nI 0) (nI 0) (mdg 11) := hM
                        refine lv_iinc (v := nI 11) (lv' := [(1, .int (nI 11)), (0, .ref (u.2.1 0))]) hx hb dX5_digest_29 hl (k := 0) rfl (g_inc 10 1) (by decide) rfl (fun ls hl => ?_)
                        refine lv_goto (tgt := 14) hx hb dX5_digest_32 (by decide) ?_
                        refine lv_iload_n hx hb dX5_digest_14 rfl (lv_at hl 0 rfl) ?_
                        refine lv_bipush (v := nI 13) hx hb dX5_digest_15 (by decide) ?_
                        refine lv_icmp_ge (tgt := 35) hx hb dX5_digest_17 (by decide) (fun c17 => ?_) (fun c17 => ?_)
                        · skip
                          have c17 : 13 ≤ 11 := (g_le (by omega) (by omega)).mp c17
                          omega
                        · skip
                          have c17 : ¬ (13 ≤ 11) := fun q => c17 ((g_le (by omega) (by omega)).mpr q)
                          refine lv_aload_n hx hb dX5_digest_20 rfl (lv_at hl 1 rfl) ?_
                          refine lv_aload_n hx hb dX5_digest_21 rfl (lv_at hl 1 rfl) ?_
                          refine lv_iload_n hx hb dX5_digest_22 rfl (lv_at hl 0 rfl) ?_
                          refine m_call (As := [.int (nI 11)]) (rest := [.ref (u.2.1 0)]) G.1 hM rfl ok_X5_manyNow gm_555 gm_556 gm_554 (c_X5_manyNow l u (nI 0) (mdg 11) 11 (by omega)) ⟨rfl, rfl⟩ ⟨Nat.le_of_ble_eq_true rfl, Nat.le_of_ble_eq_true rfl⟩ rfl hl.1 rfl (Nat.le_of_ble_eq_true rfl) ⟨Nat.le_of_ble_eq_true rfl, Nat.le_of_ble_eq_true rfl⟩ dX5_digest_23 (fun H locs hM => ?_)
                          refine m_call (As := [.int (nI 0)]) (rest := []) G.1 hM rfl ok_X5_add gm_563 gm_564 gm_562 (c_X5_add l u (nI 0) (nI 0) (mdg 11) (nI 0) ) ⟨rfl, rfl⟩ ⟨Nat.le_of_ble_eq_true rfl, Nat.le_of_ble_eq_true rfl⟩ rfl hl.1 rfl (Nat.le_of_ble_eq_true rfl) ⟨Nat.le_of_ble_eq_true rfl, Nat.le_of_ble_eq_true rfl⟩ dX5_digest_26 (fun H locs hM => ?_)
                          have hM : MS u S_ H locs (nI 0) (nI 0) (mdg 12) := hM
                          refine lv_iinc (v := nI 12) (lv' := [(1, .int (nI 12)), (0, .ref (u.2.1 0))]) hx hb dX5_digest_29 hl (k := 0) rfl (g_inc 11 1) (by decide) rfl (fun ls hl => ?_)
                          refine lv_goto (tgt := 14) hx hb dX5_digest_32 (by decide) ?_
                          refine lv_iload_n hx hb dX5_digest_14 rfl (lv_at hl 0 rfl) ?_
                          refine lv_bipush (v := nI 13) hx hb dX5_digest_15 (by decide) ?_
                          refine lv_icmp_ge (tgt := 35) hx hb dX5_digest_17 (by decide) (fun c17 => ?_) (fun c17 => ?_)
                          · skip
                            have c17 : 13 ≤ 12 := (g_le (by omega) (by omega)).mp c17
                            omega
                          · skip
                            have c17 : ¬ (13 ≤ 12) := fun q => c17 ((g_le (by omega) (by omega)).mpr q)
                            refine lv_aload_n hx hb dX5_digest_20 rfl (lv_at hl 1 rfl) ?_
                            refine lv_aload_n hx hb dX5_digest_21 rfl (lv_at hl 1 rfl) ?_
                            refine lv_iload_n hx hb dX5_digest_22 rfl (lv_at hl 0 rfl) ?_
                            refine m_call (As := [.int (nI 12)]) (rest := [.ref (u.2.1 0)]) G.1 hM rfl ok_X5_manyNow gm_555 gm_556 gm_554 (c_X5_manyNow l u (nI 0) (mdg 12) 12 (by omega)) ⟨rfl, rfl⟩ ⟨Nat.le_of_ble_eq_true rfl, Nat.le_of_ble_eq_true rfl⟩ rfl hl.1 rfl (Nat.le_of_ble_eq_true rfl) ⟨Nat.le_of_ble_eq_true rfl, Nat.le_of_ble_eq_true rfl⟩ dX5_digest_23 (fun H locs hM => ?_)
                            refine m_call (As := [.int (nI 0)]) (rest := []) G.1 hM rfl ok_X5_add gm_563 gm_564 gm_562 (c_X5_add l u (nI 0) (nI 0) (mdg 12) (nI 0) ) ⟨rfl, rfl⟩ ⟨Nat.le_of_ble_eq_true rfl, Nat.le_of_ble_eq_true rfl⟩ rfl hl.1 rfl (Nat.le_of_ble_eq_true rfl) ⟨Nat.le_of_ble_eq_true rfl, Nat.le_of_ble_eq_true rfl⟩ dX5_digest_26 (fun H locs hM => ?_)
                            have hM : MS u S_ H locs (nI 0) (nI 0) (mdg 13) := hM
                            refine lv_iinc (v := nI 13) (lv' := [(1, .int (nI 13)), (0, .ref (u.2.1 0))]) hx hb dX5_digest_29 hl (k := 0) rfl (g_inc 12 1) (by decide) rfl (fun ls hl => ?_)
                            refine lv_goto (tgt := 14) hx hb dX5_digest_32 (by decide) ?_
                            refine lv_iload_n hx hb dX5_digest_14 rfl (lv_at hl 0 rfl) ?_
                            refine lv_bipush (v := nI 13) hx hb dX5_digest_15 (by decide) ?_
                            refine lv_icmp_ge (tgt := 35) hx hb dX5_digest_17 (by decide) (fun c17 => ?_) (fun c17 => ?_)
                            · skip
                              have c17 : 13 ≤ 13 := (g_le (by omega) (by omega)).mp c17
                              refine lv_aload_n hx hb dX5_digest_35 rfl (lv_at hl 1 rfl) ?_
                              refine m_get hx hb hts hown hM 2 (by decide) (v := .ref (u.2.1 2)) gm_424 rfl dX5_digest_36 ?_
                              refine m_iter (j := 2) (rest := []) G.1 hM (by decide) gm_514 hl.1 (Nat.le_of_ble_eq_true rfl) ⟨Nat.le_of_ble_eq_true rfl, Nat.le_of_ble_eq_true rfl⟩ ⟨Nat.le_of_ble_eq_true rfl, Nat.le_of_ble_eq_true rfl⟩ dX5_digest_39 (fun it H hM hIt => ?_)
                              refine lv_astore_n (lv' := [(1, .ref it), (0, .ref (u.2.1 0))]) hx hb dX5_digest_42 rfl hl (by decide) rfl (fun ls hl => ?_)
                              refine lv_aload_n hx hb dX5_digest_43 rfl (lv_at hl 0 rfl) ?_
                              refine m_hasNext (j := 2) (rest := []) G.1 hM (by decide) hIt gm_518 hl.1 (Nat.le_of_ble_eq_true rfl) ⟨Nat.le_of_ble_eq_true rfl, Nat.le_of_ble_eq_true rfl⟩ ⟨Nat.le_of_ble_eq_true rfl, Nat.le_of_ble_eq_true rfl⟩ dX5_digest_44 ?_
                              refine lv_if_eq (tgt := 98) hx hb dX5_digest_49 (by decide) (fun c49 => ?_) (fun c49 => ?_)
                              · skip
                                have c49 : nI 0 = nI 0 := c49
                                have c49 : 0 = 0 := (g_eq (by omega) (by omega)).mp c49
                                refine lv_iconst (v := nI 0) hx hb dX5_digest_98 (by decide) ?_
                                refine lv_istore_n (lv' := [(1, .int (nI 0)), (0, .ref (u.2.1 0))]) hx hb dX5_digest_99 rfl hl (by decide) rfl (fun ls hl => ?_)
                                refine lv_iload_n hx hb dX5_digest_100 rfl (lv_at hl 0 rfl) ?_
                                refine lv_aload_n hx hb dX5_digest_101 rfl (lv_at hl 1 rfl) ?_
                                refine m_get hx hb hts hown hM 1 (by decide) (v := .ref (u.2.1 1)) gm_423 rfl dX5_digest_102 ?_
                                refine m_size (j := 1) (rest := [.int (nI 0)]) G.1 hM (by decide) gm_430 hl.1 (Nat.le_of_ble_eq_true rfl) ⟨Nat.le_of_ble_eq_true rfl, Nat.le_of_ble_eq_true rfl⟩ ⟨Nat.le_of_ble_eq_true rfl, Nat.le_of_ble_eq_true rfl⟩ dX5_digest_105 ?_
                                refine lv_icmp_ge (tgt := 141) hx hb dX5_digest_108 (by decide) (fun c108 => ?_) (fun c108 => ?_)
                                · skip
                                  have c108 : 0 ≤ 0 := (g_le (by omega) (by omega)).mp c108
                                  refine lv_aload_n hx hb dX5_digest_141 rfl (lv_at hl 1 rfl) ?_
                                  refine m_get hx hb hts hown hM 3 (by decide) (v := .ref (u.2.1 3)) gm_425 rfl dX5_digest_142 ?_
                                  refine m_iter (j := 3) (rest := []) G.1 hM (by decide) gm_514 hl.1 (Nat.le_of_ble_eq_true rfl) ⟨Nat.le_of_ble_eq_true rfl, Nat.le_of_ble_eq_true rfl⟩ ⟨Nat.le_of_ble_eq_true rfl, Nat.le_of_ble_eq_true rfl⟩ dX5_digest_145 (fun it H hM hIt => ?_)
                                  refine lv_astore_n (lv' := [(1, .ref it), (0, .ref (u.2.1 0))]) hx hb dX5_digest_148 rfl hl (by decide) rfl (fun ls hl => ?_)
                                  refine lv_aload_n hx hb dX5_digest_149 rfl (lv_at hl 0 rfl) ?_
                                  refine m_hasNext (j := 3) (rest := []) G.1 hM (by decide) hIt gm_518 hl.1 (Nat.le_of_ble_eq_true rfl) ⟨Nat.le_of_ble_eq_true rfl, Nat.le_of_ble_eq_true rfl⟩ ⟨Nat.le_of_ble_eq_true rfl, Nat.le_of_ble_eq_true rfl⟩ dX5_digest_150 ?_
                                  refine lv_if_eq (tgt := 261) hx hb dX5_digest_155 (by decide) (fun c155 => ?_) (fun c155 => ?_)
                                  · skip
                                    have c155 : nI 0 = nI 0 := c155
                                    have c155 : 0 = 0 := (g_eq (by omega) (by omega)).mp c155
                                    refine lv_aload_n hx hb dX5_digest_261 rfl (lv_at hl 1 rfl) ?_
                                    refine m_get hx hb hts hown hM 3 (by decide) (v := .ref (u.2.1 3)) gm_425 rfl dX5_digest_262 ?_
                                    refine m_iter (j := 3) (rest := []) G.1 hM (by decide) gm_514 hl.1 (Nat.le_of_ble_eq_true rfl) ⟨Nat.le_of_ble_eq_true rfl, Nat.le_of_ble_eq_true rfl⟩ ⟨Nat.le_of_ble_eq_true rfl, Nat.le_of_ble_eq_true rfl⟩ dX5_digest_265 (fun it H hM hIt => ?_)
                                    refine lv_astore_n (lv' := [(1, .ref it), (0, .ref (u.2.1 0))]) hx hb dX5_digest_268 rfl hl (by decide) rfl (fun ls hl => ?_)
                                    refine lv_aload_n hx hb dX5_digest_269 rfl (lv_at hl 0 rfl) ?_
                                    refine m_hasNext (j := 3) (rest := []) G.1 hM (by decide) hIt gm_518 hl.1 (Nat.le_of_ble_eq_true rfl) ⟨Nat.le_of_ble_eq_true rfl, Nat.le_of_ble_eq_true rfl⟩ ⟨Nat.le_of_ble_eq_true rfl, Nat.le_of_ble_eq_true rfl⟩ dX5_digest_270 ?_
                                    refine lv_if_eq (tgt := 300) hx hb dX5_digest_275 (by decide) (fun c275 => ?_) (fun c275 => ?_)
                                    · skip
                                      have c275 : nI 0 = nI 0 := c275
                                      have c275 : 0 = 0 := (g_eq (by omega) (by omega)).mp c275
                                      refine lv_aload_n hx hb dX5_digest_300 rfl (lv_at hl 1 rfl) ?_
                                      refine lv_aload_n hx hb dX5_digest_301 rfl (lv_at hl 1 rfl) ?_
                                      refine lv_aload_n hx hb dX5_digest_302 rfl (lv_at hl 1 rfl) ?_
                                      refine lv_aload_n hx hb dX5_digest_303 rfl (lv_at hl 1 rfl) ?_
                                      refine m_get hx hb hts hown hM 4 (by decide) (v := .int (nI 0)) gm_439 rfl dX5_digest_304 ?_
                                      refine lv_bipush (v := nI 10) hx hb dX5_digest_307 (by decide) ?_
                                      refine g_iaddn hx hb dX5_digest_309 ?_
                                      refine W.eq (g2 := F0 M_ _ ls [.int (nI 10), .ref (u.2.1 0), .ref (u.2.1 0), .ref (u.2.1 0)]) rfl ?_
                                      refine m_call (As := [.int (nI 10)]) (rest := [.ref (u.2.1 0), .ref (u.2.1 0)]) G.1 hM rfl ok_X5_due gm_441 gm_442 gm_440 (c_X5_due l u (nI 0) (nI 0) (mdg 13) (nI 10) ) ⟨rfl, rfl⟩ ⟨Nat.le_of_ble_eq_true rfl, Nat.le_of_ble_eq_true rfl⟩ rfl hl.1 rfl (Nat.le_of_ble_eq_true rfl) ⟨Nat.le_of_ble_eq_true rfl, Nat.le_of_ble_eq_true rfl⟩ dX5_digest_310 (fun H locs hM => ?_)
                                      refine m_call (As := [.int (nI 0)]) (rest := [.ref (u.2.1 0)]) G.1 hM rfl ok_X5_approved gm_445 gm_446 gm_444 (c_X5_approved l u (nI 0) (nI 0) (mdg 13) (nI 0) ) ⟨rfl, rfl⟩ ⟨Nat.le_of_ble_eq_true rfl, Nat.le_of_ble_eq_true rfl⟩ rfl hl.1 rfl (Nat.le_of_ble_eq_true rfl) ⟨Nat.le_of_ble_eq_true rfl, Nat.le_of_ble_eq_true rfl⟩ dX5_digest_313 (fun H locs hM => ?_)
                                      refine m_call (As := [.int (nI 0)]) (rest := []) G.1 hM rfl ok_X5_add gm_563 gm_564 gm_562 (c_X5_add l u (nI 0) (nI 0) (mdg 13) (nI 0) ) ⟨rfl, rfl⟩ ⟨Nat.le_of_ble_eq_true rfl, Nat.le_of_ble_eq_true rfl⟩ rfl hl.1 rfl (Nat.le_of_ble_eq_true rfl) ⟨Nat.le_of_ble_eq_true rfl, Nat.le_of_ble_eq_true rfl⟩ dX5_digest_316 (fun H locs hM => ?_)
                                      refine lv_aload_n hx hb dX5_digest_319 rfl (lv_at hl 1 rfl) ?_
                                      refine m_get hx hb hts hown hM 5 (by decide) (v := .long ((mdg 13) * 31 + (nI 0).toInt64)) gm_559 rfl dX5_digest_320 ?_
                                      exact m_lret G hM rfl (by decide) (by decide) dX5_digest_323
                                    · skip
                                      have c275 : ¬ (nI 0 = nI 0) := c275
                                      have c275 : ¬ (0 = 0) := fun q => c275 ((g_eq (by omega) (by omega)).mpr q)
                                      omega
                                  · skip
                                    have c155 : ¬ (nI 0 = nI 0) := c155
                                    have c155 : ¬ (0 = 0) := fun q => c155 ((g_eq (by omega) (by omega)).mpr q)
                                    omega
                                · skip
                                  have c108 : ¬ (0 ≤ 0) := fun q => c108 ((g_le (by omega) (by omega)).mpr q)
                                  omega
                              · skip
                                have c49 : ¬ (nI 0 = nI 0) := c49
                                have c49 : ¬ (0 = 0) := fun q => c49 ((g_eq (by omega) (by omega)).mpr q)
                                omega
                            · skip
                              have c17 : ¬ (13 ≤ 13) := fun q => c17 ((g_le (by omega) (by omega)).mpr q)
                              omega
