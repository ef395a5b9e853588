/-! The reference on the empty house: what it reads. -/
theorem ok_X5_is : gOK yX5_is cX5_is 3 (some .boolean) 3 := ⟨gm_450, gm_434, by decide +kernel⟩
theorem c_X5_is (l : Launch) (x a b : Int32) : Met l yX5_is (gws yX5_is cX5_is 3 (some .boolean)) ({ frames := 0, cells := 0, slots := 0, locals := 0 }) (va_Pc [.int x, .int a, .int b] (fun _ => True)) (gRd (.int (if a ≤ x ∧ x ≤ b then 1 else 0))) 0 0 (fun _ => False) := by
  refine b_read (by decide) (Nat.le_of_ble_eq_true rfl) ?_
  intro P_ E_ S_ M_ B_ T_ C_ ls G hnm hV hl
  obtain ⟨hx, hb, hml, hown, hts⟩ := id G.1
  have hl : lv_has ls 3 [(0, .int x), (1, .int a), (2, .int b)] := hl
  refine lv_iload_n hx hb dX5_is_0 rfl (lv_at hl 0 rfl) ?_
  refine lv_iload_n hx hb dX5_is_1 rfl (lv_at hl 1 rfl) ?_
  refine lv_icmp_lt (tgt := 14) hx hb dX5_is_2 (by decide) (fun c2 => ?_) (fun c2 => ?_)
  · refine lv_iconst (v := nI 0) hx hb dX5_is_14 (by decide) ?_
    exact g_zret G (gz0 (fun q => absurd q.1 (Int32.not_le.mpr c2))) (Or.inl rfl) dX5_is_15
  · refine lv_iload_n hx hb dX5_is_5 rfl (lv_at hl 0 rfl) ?_
    refine lv_iload_n hx hb dX5_is_6 rfl (lv_at hl 2 rfl) ?_
    refine lv_icmp_gt (tgt := 14) hx hb dX5_is_7 (by decide) (fun c7 => ?_) (fun c7 => ?_)
    · refine lv_iconst (v := nI 0) hx hb dX5_is_14 (by decide) ?_
      exact g_zret G (gz0 (fun q => absurd q.2 (Int32.not_le.mpr c7))) (Or.inl rfl) dX5_is_15
    · refine lv_iconst (v := nI 1) hx hb dX5_is_10 (by decide) ?_
      refine lv_goto (tgt := 15) hx hb dX5_is_11 (by decide) ?_
      exact g_zret G (gz1 ⟨Int32.not_lt.mp c2, Int32.not_lt.mp c7⟩) (Or.inr rfl) dX5_is_15
theorem ok_X5_thrown : gOK yX5_thrown cX5_thrown 1 (some .int) 0 := ⟨gm_659, gm_434, by decide +kernel⟩
set_option maxRecDepth 100000 in
set_option maxHeartbeats 4000000 in
theorem c_X5_thrown (l : Launch) (u : MP) (th : Int32) (dy : Int32) (sm : Int64)   : Met l yX5_thrown (gws yX5_thrown cX5_thrown 1 (some .int)) ({ frames := 0, cells := 0, slots := 0, locals := 0 }) (mPc u th dy sm [.ref (u.2.1 0)]) (mWr u (some (.int th)) th dy sm) 0 0 (mA u) := by
  refine b_read (by decide) (Nat.le_of_ble_eq_true rfl) ?_
  intro P_ E_ S_ M_ B_ T_ C_ ls G hnm hV hl
  obtain ⟨hx, hb, hml, hown, hts⟩ := id G.1
  have hl : lv_has ls 1 [(0, .ref (u.2.1 0))] := hl
  have hM := MV.start hV
  refine lv_aload_n hx hb dX5_thrown_0 rfl (lv_at hl 0 rfl) ?_
  refine m_get hx hb hts hown hM 0 (by decide) (v := .int th) gm_427 rfl dX5_thrown_1 ?_
  exact m_iret G hM (rfl) (by decide) (by decide) dX5_thrown_4
theorem ok_X5_refuse : gOK yX5_refuse cX5_refuse 2 (some .int) 1 := ⟨gm_489, gm_434, by decide +kernel⟩
set_option maxRecDepth 100000 in
set_option maxHeartbeats 4000000 in
theorem c_X5_refuse (l : Launch) (u : MP) (th : Int32) (dy : Int32) (sm : Int64) (n : Nat)  : Met l yX5_refuse (gws yX5_refuse cX5_refuse 2 (some .int)) ({ frames := 0, cells := 0, slots := 0, locals := 0 }) (mPc u th dy sm [.ref (u.2.1 0), .int (nI n)]) (mWr u (some (.int (nI 0))) (nI n) dy sm) 0 0 (mA u) := by
  refine b_read (by decide) (Nat.le_of_ble_eq_true rfl) ?_
  intro P_ E_ S_ M_ B_ T_ C_ ls G hnm hV hl
  obtain ⟨hx, hb, hml, hown, hts⟩ := id G.1
  have hl : lv_has ls 2 [(0, .ref (u.2.1 0)), (1, .int (nI n))] := hl
  have hM := MV.start hV
  refine lv_aload_n hx hb dX5_refuse_0 rfl (lv_at hl 0 rfl) ?_
  refine lv_iload_n hx hb dX5_refuse_1 rfl (lv_at hl 1 rfl) ?_
  refine m_putT hx hb hts hown hM gm_427 dX5_refuse_2 (fun H locs hM => ?_)
  refine lv_iconst (v := nI 0) hx hb dX5_refuse_5 (by decide) ?_
  exact m_iret G hM (rfl) (by decide) (by decide) dX5_refuse_6
theorem ok_X5_isConcept : gOK yX5_isConcept cX5_isConcept 2 (some .boolean) 1 := ⟨gm_513, gm_434, by decide +kernel⟩
set_option maxRecDepth 100000 in
set_option maxHeartbeats 4000000 in
theorem c_X5_isConcept (l : Launch) (u : MP) (th : Int32) (dy : Int32) (sm : Int64) (x : Int32)  : Met l yX5_isConcept (gws yX5_isConcept cX5_isConcept 2 (some .boolean)) ({ frames := 1, cells := 0, slots := 0, locals := 22 }) (mPc u th dy sm [.ref (u.2.1 0), .int x]) (mWr u (some (.int (nI 0))) th dy sm) 0 0 (mA u) := by
  refine b_read (by decide) (Nat.le_of_ble_eq_true rfl) ?_
  intro P_ E_ S_ M_ B_ T_ C_ ls G hnm hV hl
  obtain ⟨hx, hb, hml, hown, hts⟩ := id G.1
  have hl : lv_has ls 2 [(0, .ref (u.2.1 0)), (1, .int x)] := hl
  have hM := MV.start hV
  refine lv_iload_n hx hb dX5_isConcept_0 rfl (lv_at hl 1 rfl) ?_
  refine lv_iconst (v := nI 0) hx hb dX5_isConcept_1 (by decide) ?_
  refine lv_aload_n hx hb dX5_isConcept_2 rfl (lv_at hl 0 rfl) ?_
  refine m_get hx hb hts hown hM 1 (by decide) (v := .ref (u.2.1 1)) gm_423 rfl dX5_isConcept_3 ?_
  refine m_size (j := 1) (rest := [.int (nI 0), .int x]) G.1 hM (by decide) gm_430 hl.1 (Nat.le_of_ble_eq_true rfl) ⟨Nat.le_of_ble_eq_true rfl, Nat.le_of_ble_eq_true rfl⟩ ⟨Nat.le_of_ble_eq_true rfl, Nat.le_of_ble_eq_true rfl⟩ dX5_isConcept_6 ?_
  refine lv_iconst (v := nI 1) hx hb dX5_isConcept_9 (by decide) ?_
  refine lv_isub hx hb dX5_isConcept_10 ?_
  refine W.eq (g2 := F0 M_ _ ls [.int (-1), .int (nI 0), .int x]) (by rw [show (nI 0) - (nI 1) = -1 from by decide]) ?_
  refine b_callS (As := [.int x, .int (nI 0), .int (-1)]) (rest := []) G.1 ok_X5_is gm_449 gm_448 (c_X5_is l x (nI 0) (-1)) ⟨rfl, rfl⟩ ⟨Nat.le_of_ble_eq_true rfl, Nat.le_of_ble_eq_true rfl⟩ rfl hl.1 rfl (Nat.le_of_ble_eq_true rfl) ⟨Nat.le_of_ble_eq_true rfl, Nat.le_of_ble_eq_true rfl⟩ dX5_isConcept_11 ?_
  exact m_zret G hM (congrArg (fun z => some (Value.int z)) (if_neg (fun q => neg_is q))) (g_nn) (by decide) (by decide) dX5_isConcept_14
theorem ok_X5_isTerm : gOK yX5_isTerm cX5_isTerm 2 (some .boolean) 1 := ⟨gm_526, gm_434, by decide +kernel⟩
set_option maxRecDepth 100000 in
set_option maxHeartbeats 4000000 in
theorem c_X5_isTerm (l : Launch) (u : MP) (th : Int32) (dy : Int32) (sm : Int64) (x : Int32)  : Met l yX5_isTerm (gws yX5_isTerm cX5_isTerm 2 (some .boolean)) ({ frames := 1, cells := 0, slots := 0, locals := 22 }) (mPc u th dy sm [.ref (u.2.1 0), .int x]) (mWr u (some (.int (nI 0))) th dy sm) 0 0 (mA u) := by
  refine b_read (by decide) (Nat.le_of_ble_eq_true rfl) ?_
  intro P_ E_ S_ M_ B_ T_ C_ ls G hnm hV hl
  obtain ⟨hx, hb, hml, hown, hts⟩ := id G.1
  have hl : lv_has ls 2 [(0, .ref (u.2.1 0)), (1, .int x)] := hl
  have hM := MV.start hV
  refine lv_iload_n hx hb dX5_isTerm_0 rfl (lv_at hl 1 rfl) ?_
  refine lv_iconst (v := nI 0) hx hb dX5_isTerm_1 (by decide) ?_
  refine lv_aload_n hx hb dX5_isTerm_2 rfl (lv_at hl 0 rfl) ?_
  refine m_get hx hb hts hown hM 2 (by decide) (v := .ref (u.2.1 2)) gm_424 rfl dX5_isTerm_3 ?_
  refine m_size (j := 2) (rest := [.int (nI 0), .int x]) G.1 hM (by decide) gm_430 hl.1 (Nat.le_of_ble_eq_true rfl) ⟨Nat.le_of_ble_eq_true rfl, Nat.le_of_ble_eq_true rfl⟩ ⟨Nat.le_of_ble_eq_true rfl, Nat.le_of_ble_eq_true rfl⟩ dX5_isTerm_6 ?_
  refine lv_iconst (v := nI 1) hx hb dX5_isTerm_9 (by decide) ?_
  refine lv_isub hx hb dX5_isTerm_10 ?_
  refine W.eq (g2 := F0 M_ _ ls [.int (-1), .int (nI 0), .int x]) (by rw [show (nI 0) - (nI 1) = -1 from by decide]) ?_
  refine b_callS (As := [.int x, .int (nI 0), .int (-1)]) (rest := []) G.1 ok_X5_is gm_449 gm_448 (c_X5_is l x (nI 0) (-1)) ⟨rfl, rfl⟩ ⟨Nat.le_of_ble_eq_true rfl, Nat.le_of_ble_eq_true rfl⟩ rfl hl.1 rfl (Nat.le_of_ble_eq_true rfl) ⟨Nat.le_of_ble_eq_true rfl, Nat.le_of_ble_eq_true rfl⟩ dX5_isTerm_11 ?_
  exact m_zret G hM (congrArg (fun z => some (Value.int z)) (if_neg (fun q => neg_is q))) (g_nn) (by decide) (by decide) dX5_isTerm_14
theorem ok_X5_isText : gOK yX5_isText cX5_isText 3 (some .boolean) 2 := ⟨gm_541, gm_434, by decide +kernel⟩
set_option maxRecDepth 100000 in
set_option maxHeartbeats 4000000 in
theorem c_X5_isText (l : Launch) (u : MP) (th : Int32) (dy : Int32) (sm : Int64) (x : Int32) (y : Int32)  : Met l yX5_isText (gws yX5_isText cX5_isText 3 (some .boolean)) ({ frames := 1, cells := 0, slots := 0, locals := 22 }) (mPc u th dy sm [.ref (u.2.1 0), .int x, .int y]) (mWr u (some (.int (nI 0))) th dy sm) 0 0 (mA u) := by
  refine b_read (by decide) (Nat.le_of_ble_eq_true rfl) ?_
  intro P_ E_ S_ M_ B_ T_ C_ ls G hnm hV hl
  obtain ⟨hx, hb, hml, hown, hts⟩ := id G.1
  have hl : lv_has ls 3 [(0, .ref (u.2.1 0)), (1, .int x), (2, .int y)] := hl
  have hM := MV.start hV
  refine lv_iload_n hx hb dX5_isText_0 rfl (lv_at hl 1 rfl) ?_
  refine lv_iconst (v := nI 0) hx hb dX5_isText_1 (by decide) ?_
  refine lv_aload_n hx hb dX5_isText_2 rfl (lv_at hl 0 rfl) ?_
  refine m_get hx hb hts hown hM 3 (by decide) (v := .ref (u.2.1 3)) gm_425 rfl dX5_isText_3 ?_
  refine m_size (j := 3) (rest := [.int (nI 0), .int x]) G.1 hM (by decide) gm_430 hl.1 (Nat.le_of_ble_eq_true rfl) ⟨Nat.le_of_ble_eq_true rfl, Nat.le_of_ble_eq_true rfl⟩ ⟨Nat.le_of_ble_eq_true rfl, Nat.le_of_ble_eq_true rfl⟩ dX5_isText_6 ?_
  refine lv_iconst (v := nI 1) hx hb dX5_isText_9 (by decide) ?_
  refine lv_isub hx hb dX5_isText_10 ?_
  refine W.eq (g2 := F0 M_ _ ls [.int (-1), .int (nI 0), .int x]) (by rw [show (nI 0) - (nI 1) = -1 from by decide]) ?_
  refine b_callS (As := [.int x, .int (nI 0), .int (-1)]) (rest := []) G.1 ok_X5_is gm_449 gm_448 (c_X5_is l x (nI 0) (-1)) ⟨rfl, rfl⟩ ⟨Nat.le_of_ble_eq_true rfl, Nat.le_of_ble_eq_true rfl⟩ rfl hl.1 rfl (Nat.le_of_ble_eq_true rfl) ⟨Nat.le_of_ble_eq_true rfl, Nat.le_of_ble_eq_true rfl⟩ dX5_isText_11 ?_
  refine lv_if_eq (tgt := 28) hx hb dX5_isText_14 (by decide) (fun c14 => ?_) (fun c14 => ?_)
  · skip
    have c14 : ¬ ((nI 0) ≤ x ∧ x ≤ (-1)) := g_if0.mp c14
    refine lv_iconst (v := nI 0) hx hb dX5_isText_28 (by decide) ?_
    exact m_zret G hM (rfl) (by decide) (by decide) (by decide) dX5_isText_29
  · skip
    have c14 : (nI 0) ≤ x ∧ x ≤ (-1) := g_if1.mp c14
    exact absurd c14 neg_is
theorem ok_X5_isPlace : gOK yX5_isPlace cX5_isPlace 4 (some .boolean) 3 := ⟨gm_545, gm_434, by decide +kernel⟩
set_option maxRecDepth 100000 in
set_option maxHeartbeats 4000000 in
theorem c_X5_isPlace (l : Launch) (u : MP) (th : Int32) (dy : Int32) (sm : Int64) (x : Int32) (y : Int32) (z : Int32)  : Met l yX5_isPlace (gws yX5_isPlace cX5_isPlace 4 (some .boolean)) ({ frames := 2, cells := 0, slots := 0, locals := 44 }) (mPc u th dy sm [.ref (u.2.1 0), .int x, .int y, .int z]) (mWr u (some (.int (nI 0))) th dy sm) 0 0 (mA u) := by
  refine b_read (by decide) (Nat.le_of_ble_eq_true rfl) ?_
  intro P_ E_ S_ M_ B_ T_ C_ ls G hnm hV hl
  obtain ⟨hx, hb, hml, hown, hts⟩ := id G.1
  have hl : lv_has ls 4 [(0, .ref (u.2.1 0)), (1, .int x), (2, .int y), (3, .int z)] := hl
  have hM := MV.start hV
  refine lv_aload_n hx hb dX5_isPlace_0 rfl (lv_at hl 0 rfl) ?_
  refine lv_iload_n hx hb dX5_isPlace_1 rfl (lv_at hl 1 rfl) ?_
  refine lv_iload_n hx hb dX5_isPlace_2 rfl (lv_at hl 2 rfl) ?_
  refine m_call (As := [.int x, .int y]) (rest := []) G.1 hM rfl ok_X5_isText gm_539 gm_540 gm_538 (c_X5_isText l u th dy sm x y ) ⟨rfl, rfl⟩ ⟨Nat.le_of_ble_eq_true rfl, Nat.le_of_ble_eq_true rfl⟩ rfl hl.1 rfl (Nat.le_of_ble_eq_true rfl) ⟨Nat.le_of_ble_eq_true rfl, Nat.le_of_ble_eq_true rfl⟩ dX5_isPlace_3 (fun H locs hM => ?_)
  refine lv_if_eq (tgt := 45) hx hb dX5_isPlace_6 (by decide) (fun c6 => ?_) (fun c6 => ?_)
  · skip
    have c6 : nI 0 = nI 0 := c6
    have c6 : 0 = 0 := (g_eq (by omega) (by omega)).mp c6
    refine lv_iconst (v := nI 0) hx hb dX5_isPlace_45 (by decide) ?_
    exact m_zret G hM (rfl) (by decide) (by decide) (by decide) dX5_isPlace_46
  · skip
    have c6 : ¬ (nI 0 = nI 0) := c6
    have c6 : ¬ (0 = 0) := fun q => c6 ((g_eq (by omega) (by omega)).mpr q)
    omega
theorem ok_X5_hasForm : gOK yX5_hasForm cX5_hasForm 4 (some .boolean) 3 := ⟨gm_549, gm_434, by decide +kernel⟩
set_option maxRecDepth 100000 in
set_option maxHeartbeats 4000000 in
theorem c_X5_hasForm (l : Launch) (u : MP) (th : Int32) (dy : Int32) (sm : Int64) (x : Int32) (y : Int32) (z : Int32)  : Met l yX5_hasForm (gws yX5_hasForm cX5_hasForm 4 (some .boolean)) ({ frames := 2, cells := 0, slots := 0, locals := 44 }) (mPc u th dy sm [.ref (u.2.1 0), .int x, .int y, .int z]) (mWr u (some (.int (nI 0))) th dy sm) 0 0 (mA u) := by
  refine b_read (by decide) (Nat.le_of_ble_eq_true rfl) ?_
  intro P_ E_ S_ M_ B_ T_ C_ ls G hnm hV hl
  obtain ⟨hx, hb, hml, hown, hts⟩ := id G.1
  have hl : lv_has ls 4 [(0, .ref (u.2.1 0)), (1, .int x), (2, .int y), (3, .int z)] := hl
  have hM := MV.start hV
  refine lv_aload_n hx hb dX5_hasForm_0 rfl (lv_at hl 0 rfl) ?_
  refine lv_iload_n hx hb dX5_hasForm_1 rfl (lv_at hl 1 rfl) ?_
  refine lv_iload_n hx hb dX5_hasForm_2 rfl (lv_at hl 2 rfl) ?_
  refine m_call (As := [.int x, .int y]) (rest := []) G.1 hM rfl ok_X5_isText gm_539 gm_540 gm_538 (c_X5_isText l u th dy sm x y ) ⟨rfl, rfl⟩ ⟨Nat.le_of_ble_eq_true rfl, Nat.le_of_ble_eq_true rfl⟩ rfl hl.1 rfl (Nat.le_of_ble_eq_true rfl) ⟨Nat.le_of_ble_eq_true rfl, Nat.le_of_ble_eq_true rfl⟩ dX5_hasForm_3 (fun H locs hM => ?_)
  refine lv_if_eq (tgt := 42) hx hb dX5_hasForm_6 (by decide) (fun c6 => ?_) (fun c6 => ?_)
  · skip
    have c6 : nI 0 = nI 0 := c6
    have c6 : 0 = 0 := (g_eq (by omega) (by omega)).mp c6
    refine lv_iconst (v := nI 0) hx hb dX5_hasForm_42 (by decide) ?_
    exact m_zret G hM (rfl) (by decide) (by decide) (by decide) dX5_hasForm_43
  · skip
    have c6 : ¬ (nI 0 = nI 0) := c6
    have c6 : ¬ (0 = 0) := fun q => c6 ((g_eq (by omega) (by omega)).mpr q)
    omega
theorem ok_X5_due : gOK yX5_due cX5_due 6 (some .int) 1 := ⟨gm_443, gm_434, by decide +kernel⟩
set_option maxRecDepth 100000 in
set_option maxHeartbeats 4000000 in
theorem c_X5_due (l : Launch) (u : MP) (th : Int32) (dy : Int32) (sm : Int64) (x : Int32)  : Met l yX5_due (gws yX5_due cX5_due 6 (some .int)) ({ frames := 1, cells := 0, slots := 0, locals := 20 }) (mPc u th dy sm [.ref (u.2.1 0), .int x]) (mWr u (some (.int (nI 0))) th dy sm) 0 0 (mA u) := by
  refine b_read (by decide) (Nat.le_of_ble_eq_true rfl) ?_
  intro P_ E_ S_ M_ B_ T_ C_ ls G hnm hV hl
  obtain ⟨hx, hb, hml, hown, hts⟩ := id G.1
  have hl : lv_has ls 6 [(0, .ref (u.2.1 0)), (1, .int x)] := hl
  have hM := MV.start hV
  refine lv_iconst (v := nI 0) hx hb dX5_due_0 (by decide) ?_
  refine lv_istore_n (lv' := [(2, .int (nI 0)), (0, .ref (u.2.1 0)), (1, .int x)]) hx hb dX5_due_1 rfl hl (by decide) rfl (fun ls hl => ?_)
  refine lv_iconst (v := nI 0) hx hb dX5_due_2 (by decide) ?_
  refine lv_istore_n (lv' := [(3, .int (nI 0)), (2, .int (nI 0)), (0, .ref (u.2.1 0)), (1, .int x)]) hx hb dX5_due_3 rfl hl (by decide) rfl (fun ls hl => ?_)
  refine lv_iload_n hx hb dX5_due_4 rfl (lv_at hl 0 rfl) ?_
  refine lv_aload_n hx hb dX5_due_5 rfl (lv_at hl 2 rfl) ?_
  refine m_get hx hb hts hown hM 3 (by decide) (v := .ref (u.2.1 3)) gm_425 rfl dX5_due_6 ?_
  refine m_size (j := 3) (rest := [.int (nI 0)]) G.1 hM (by decide) gm_430 hl.1 (Nat.le_of_ble_eq_true rfl) ⟨Nat.le_of_ble_eq_true rfl, Nat.le_of_ble_eq_true rfl⟩ ⟨Nat.le_of_ble_eq_true rfl, Nat.le_of_ble_eq_true rfl⟩ dX5_due_9 ?_
  refine lv_icmp_ge (tgt := 79) hx hb dX5_due_12 (by decide) (fun c12 => ?_) (fun c12 => ?_)
  · skip
    have c12 : 0 ≤ 0 := (g_le (by omega) (by omega)).mp c12
    refine lv_iload_n hx hb dX5_due_79 rfl (lv_at hl 1 rfl) ?_
    exact m_iret G hM (rfl) (by decide) (by decide) dX5_due_80
  · skip
    have c12 : ¬ (0 ≤ 0) := fun q => c12 ((g_le (by omega) (by omega)).mpr q)
    omega
theorem ok_X5_approved : gOK yX5_approved cX5_approved 8 (some .int) 1 := ⟨gm_447, gm_434, by decide +kernel⟩
set_option maxRecDepth 100000 in
set_option maxHeartbeats 4000000 in
theorem c_X5_approved (l : Launch) (u : MP) (th : Int32) (dy : Int32) (sm : Int64) (x : Int32)  : Met l yX5_approved (gws yX5_approved cX5_approved 8 (some .int)) ({ frames := 1, cells := 0, slots := 0, locals := 20 }) (mPc u th dy sm [.ref (u.2.1 0), .int x]) (mWr u (some (.int (nI 0))) th dy sm) 0 0 (mA u) := by
  refine b_read (by decide) (Nat.le_of_ble_eq_true rfl) ?_
  intro P_ E_ S_ M_ B_ T_ C_ ls G hnm hV hl
  obtain ⟨hx, hb, hml, hown, hts⟩ := id G.1
  have hl : lv_has ls 8 [(0, .ref (u.2.1 0)), (1, .int x)] := hl
  have hM := MV.start hV
  refine lv_iconst (v := nI 0) hx hb dX5_approved_0 (by decide) ?_
  refine lv_istore_n (lv' := [(2, .int (nI 0)), (0, .ref (u.2.1 0)), (1, .int x)]) hx hb dX5_approved_1 rfl hl (by decide) rfl (fun ls hl => ?_)
  refine lv_iconst (v := nI 0) hx hb dX5_approved_2 (by decide) ?_
  refine lv_istore_n (lv' := [(3, .int (nI 0)), (2, .int (nI 0)), (0, .ref (u.2.1 0)), (1, .int x)]) hx hb dX5_approved_3 rfl hl (by decide) rfl (fun ls hl => ?_)
  refine lv_iload_n hx hb dX5_approved_4 rfl (lv_at hl 0 rfl) ?_
  refine lv_aload_n hx hb dX5_approved_5 rfl (lv_at hl 2 rfl) ?_
  refine m_get hx hb hts hown hM 3 (by decide) (v := .ref (u.2.1 3)) gm_425 rfl dX5_approved_6 ?_
  refine m_size (j := 3) (rest := [.int (nI 0)]) G.1 hM (by decide) gm_430 hl.1 (Nat.le_of_ble_eq_true rfl) ⟨Nat.le_of_ble_eq_true rfl, Nat.le_of_ble_eq_true rfl⟩ ⟨Nat.le_of_ble_eq_true rfl, Nat.le_of_ble_eq_true rfl⟩ dX5_approved_9 ?_
  refine lv_icmp_ge (tgt := 87) hx hb dX5_approved_12 (by decide) (fun c12 => ?_) (fun c12 => ?_)
  · skip
    have c12 : 0 ≤ 0 := (g_le (by omega) (by omega)).mp c12
    refine lv_iload_n hx hb dX5_approved_87 rfl (lv_at hl 1 rfl) ?_
    exact m_iret G hM (rfl) (by decide) (by decide) dX5_approved_88
  · skip
    have c12 : ¬ (0 ≤ 0) := fun q => c12 ((g_le (by omega) (by omega)).mpr q)
    omega
theorem ok_X5_settle : gOK yX5_settle cX5_settle 8 (some .int) 0 := ⟨gm_531, gm_434, by decide +kernel⟩
set_option maxRecDepth 100000 in
set_option maxHeartbeats 4000000 in
theorem c_X5_settle (l : Launch) (u : MP) (th : Int32) (dy : Int32) (sm : Int64)   : Met l yX5_settle (gws yX5_settle cX5_settle 8 (some .int)) ({ frames := 2, cells := 0, slots := 0, locals := 47 }) (mPc u th dy sm [.ref (u.2.1 0)]) (mWr u (some (.int (nI 0))) th dy sm) 0 0 (mA u) := by
  refine b_read (by decide) (Nat.le_of_ble_eq_true rfl) ?_
  intro P_ E_ S_ M_ B_ T_ C_ ls G hnm hV hl
  obtain ⟨hx, hb, hml, hown, hts⟩ := id G.1
  have hl : lv_has ls 8 [(0, .ref (u.2.1 0))] := hl
  have hM := MV.start hV
  refine lv_aload_n hx hb dX5_settle_0 rfl (lv_at hl 0 rfl) ?_
  refine lv_aload_n hx hb dX5_settle_1 rfl (lv_at hl 0 rfl) ?_
  refine m_get hx hb hts hown hM 4 (by decide) (v := .int dy) gm_439 rfl dX5_settle_2 ?_
  refine m_call (As := [.int dy]) (rest := []) G.1 hM rfl ok_X5_due gm_441 gm_442 gm_440 (c_X5_due l u th dy sm dy ) ⟨rfl, rfl⟩ ⟨Nat.le_of_ble_eq_true rfl, Nat.le_of_ble_eq_true rfl⟩ rfl hl.1 rfl (Nat.le_of_ble_eq_true rfl) ⟨Nat.le_of_ble_eq_true rfl, Nat.le_of_ble_eq_true rfl⟩ dX5_settle_5 (fun H locs hM => ?_)
  refine lv_istore_n (lv' := [(1, .int (nI 0)), (0, .ref (u.2.1 0))]) hx hb dX5_settle_8 rfl hl (by decide) rfl (fun ls hl => ?_)
  refine lv_aload_n hx hb dX5_settle_9 rfl (lv_at hl 1 rfl) ?_
  refine lv_iload_n hx hb dX5_settle_10 rfl (lv_at hl 0 rfl) ?_
  refine m_call (As := [.int (nI 0)]) (rest := []) G.1 hM rfl ok_X5_approved gm_445 gm_446 gm_444 (c_X5_approved l u th dy sm (nI 0) ) ⟨rfl, rfl⟩ ⟨Nat.le_of_ble_eq_true rfl, Nat.le_of_ble_eq_true rfl⟩ rfl hl.1 rfl (Nat.le_of_ble_eq_true rfl) ⟨Nat.le_of_ble_eq_true rfl, Nat.le_of_ble_eq_true rfl⟩ dX5_settle_11 (fun H locs hM => ?_)
  refine lv_istore_n (lv' := [(2, .int (nI 0)), (1, .int (nI 0)), (0, .ref (u.2.1 0))]) hx hb dX5_settle_14 rfl hl (by decide) rfl (fun ls hl => ?_)
  refine lv_iconst (v := nI 0) hx hb dX5_settle_15 (by decide) ?_
  refine lv_istore_n (lv' := [(3, .int (nI 0)), (2, .int (nI 0)), (1, .int (nI 0)), (0, .ref (u.2.1 0))]) hx hb dX5_settle_16 rfl hl (by decide) rfl (fun ls hl => ?_)
  refine lv_iload_n hx hb dX5_settle_17 rfl (lv_at hl 0 rfl) ?_
  refine lv_aload_n hx hb dX5_settle_18 rfl (lv_at hl 3 rfl) ?_
  refine m_get hx hb hts hown hM 3 (by decide) (v := .ref (u.2.1 3)) gm_425 rfl dX5_settle_19 ?_
  refine m_size (j := 3) (rest := [.int (nI 0)]) G.1 hM (by decide) gm_430 hl.1 (Nat.le_of_ble_eq_true rfl) ⟨Nat.le_of_ble_eq_true rfl, Nat.le_of_ble_eq_true rfl⟩ ⟨Nat.le_of_ble_eq_true rfl, Nat.le_of_ble_eq_true rfl⟩ dX5_settle_22 ?_
  refine lv_icmp_ge (tgt := 106) hx hb dX5_settle_25 (by decide) (fun c25 => ?_) (fun c25 => ?_)
  · skip
    have c25 : 0 ≤ 0 := (g_le (by omega) (by omega)).mp c25
    refine lv_iload_n hx hb dX5_settle_106 rfl (lv_at hl 1 rfl) ?_
    exact m_iret G hM (rfl) (by decide) (by decide) dX5_settle_107
  · skip
    have c25 : ¬ (0 ≤ 0) := fun q => c25 ((g_le (by omega) (by omega)).mpr q)
    omega
theorem ok_X5_inState : gOK yX5_inState cX5_inState 9 (some .int) 1 := ⟨gm_553, gm_434, by decide +kernel⟩
set_option maxRecDepth 100000 in
set_option maxHeartbeats 4000000 in
theorem c_X5_inState (l : Launch) (u : MP) (th : Int32) (dy : Int32) (sm : Int64) (x : Int32)  : Met l yX5_inState (gws yX5_inState cX5_inState 9 (some .int)) ({ frames := 3, cells := 1, slots := 4, locals := 53 }) (mPc u th dy sm [.ref (u.2.1 0), .int x]) (mWr u (some (.int (nI 0))) th dy sm) 1 4 (mA u) := by
  refine b_read (by decide) (Nat.le_of_ble_eq_true rfl) ?_
  intro P_ E_ S_ M_ B_ T_ C_ ls G hnm hV hl
  obtain ⟨hx, hb, hml, hown, hts⟩ := id G.1
  have hl : lv_has ls 9 [(0, .ref (u.2.1 0)), (1, .int x)] := hl
  have hM := MV.start hV
  refine lv_iconst (v := nI 0) hx hb dX5_inState_0 (by decide) ?_
  refine lv_istore_n (lv' := [(2, .int (nI 0)), (0, .ref (u.2.1 0)), (1, .int x)]) hx hb dX5_inState_1 rfl hl (by decide) rfl (fun ls hl => ?_)
  refine lv_aload_n hx hb dX5_inState_2 rfl (lv_at hl 1 rfl) ?_
  refine m_get hx hb hts hown hM 3 (by decide) (v := .ref (u.2.1 3)) gm_425 rfl dX5_inState_3 ?_
  refine m_iter (j := 3) (rest := []) G.1 hM (by decide) gm_514 hl.1 (Nat.le_of_ble_eq_true rfl) ⟨Nat.le_of_ble_eq_true rfl, Nat.le_of_ble_eq_true rfl⟩ ⟨Nat.le_of_ble_eq_true rfl, Nat.le_of_ble_eq_true rfl⟩ dX5_inState_6 (fun it H hM hIt => ?_)
  refine lv_astore_n (lv' := [(3, .ref it), (2, .int (nI 0)), (0, .ref (u.2.1 0)), (1, .int x)]) hx hb dX5_inState_9 rfl hl (by decide) rfl (fun ls hl => ?_)
  refine lv_aload_n hx hb dX5_inState_10 rfl (lv_at hl 0 rfl) ?_
  refine m_hasNext (j := 3) (rest := []) G.1 hM (by decide) hIt gm_518 hl.1 (Nat.le_of_ble_eq_true rfl) ⟨Nat.le_of_ble_eq_true rfl, Nat.le_of_ble_eq_true rfl⟩ ⟨Nat.le_of_ble_eq_true rfl, Nat.le_of_ble_eq_true rfl⟩ dX5_inState_11 ?_
  refine lv_if_eq (tgt := 93) hx hb dX5_inState_16 (by decide) (fun c16 => ?_) (fun c16 => ?_)
  · skip
    have c16 : nI 0 = nI 0 := c16
    have c16 : 0 = 0 := (g_eq (by omega) (by omega)).mp c16
    refine lv_iload_n hx hb dX5_inState_93 rfl (lv_at hl 1 rfl) ?_
    exact m_iret G hM (rfl) (by decide) (by decide) dX5_inState_94
  · skip
    have c16 : ¬ (nI 0 = nI 0) := c16
    have c16 : ¬ (0 = 0) := fun q => c16 ((g_eq (by omega) (by omega)).mpr q)
    omega
theorem ok_X5_manyNow : gOK yX5_manyNow cX5_manyNow 6 (some .int) 1 := ⟨gm_557, gm_434, by decide +kernel⟩
set_option maxRecDepth 100000 in
set_option maxHeartbeats 4000000 in
theorem c_X5_manyNow (l : Launch) (u : MP) (th : Int32) (sm : Int64) (q : Nat) (hq : q < 13) : Met l yX5_manyNow (gws yX5_manyNow cX5_manyNow 6 (some .int)) ({ frames := 4, cells := 1, slots := 4, locals := 81 }) (mPc u th (nI 0) sm [.ref (u.2.1 0), .int (nI q)]) (mWr u (some (.int (nI 0))) th (nI 0) sm) 1 4 (mA u) := by
  refine b_read (by decide) (Nat.le_of_ble_eq_true rfl) ?_
  intro P_ E_ S_ M_ B_ T_ C_ ls G hnm hV hl
  obtain ⟨hx, hb, hml, hown, hts⟩ := id G.1
  have hl : lv_has ls 6 [(0, .ref (u.2.1 0)), (1, .int (nI q))] := hl
  have hM := MV.start hV
  refine lv_iconst (v := nI 0) hx hb dX5_manyNow_0 (by decide) ?_
  refine lv_istore_n (lv' := [(2, .int (nI 0)), (0, .ref (u.2.1 0)), (1, .int (nI q))]) hx hb dX5_manyNow_1 rfl hl (by decide) rfl (fun ls hl => ?_)
  refine lv_iload_n hx hb dX5_manyNow_2 rfl (lv_at hl 2 rfl) ?_
  have hcs : q = 0 ∨ q = 1 ∨ q = 2 ∨ q = 3 ∨ q = 4 ∨ q = 5 ∨ q = 6 ∨ q = 7 ∨ q = 8 ∨ q = 9 ∨ q = 10 ∨ q = 11 ∨ q = 12 := by omega
  rcases hcs with rfl | rfl | rfl | rfl | rfl | rfl | rfl | rfl | rfl | rfl | rfl | rfl | rfl
  · skip
    refine lv_tableIn (off := 61) (tgt := 64) hx hb dX5_manyNow_3 (by decide) (by decide) (by decide) (by decide) ?_
    refine lv_aload_n hx hb dX5_manyNow_64 rfl (lv_at hl 1 rfl) ?_
    refine m_get hx hb hts hown hM 1 (by decide) (v := .ref (u.2.1 1)) gm_423 rfl dX5_manyNow_65 ?_
    refine m_size (j := 1) (rest := []) G.1 hM (by decide) gm_430 hl.1 (Nat.le_of_ble_eq_true rfl) ⟨Nat.le_of_ble_eq_true rfl, Nat.le_of_ble_eq_true rfl⟩ ⟨Nat.le_of_ble_eq_true rfl, Nat.le_of_ble_eq_true rfl⟩ dX5_manyNow_68 ?_
    exact m_iret G hM (rfl) (by decide) (by decide) dX5_manyNow_71
  · skip
    refine lv_tableIn (off := 69) (tgt := 72) hx hb dX5_manyNow_3 (by decide) (by decide) (by decide) (by decide) ?_
    refine lv_iconst (v := nI 0) hx hb dX5_manyNow_72 (by decide) ?_
    refine lv_istore_n (lv' := [(3, .int (nI 0)), (2, .int (nI 0)), (0, .ref (u.2.1 0)), (1, .int (nI 1))]) hx hb dX5_manyNow_73 rfl hl (by decide) rfl (fun ls hl => ?_)
    refine lv_iload_n hx hb dX5_manyNow_74 rfl (lv_at hl 0 rfl) ?_
    refine lv_aload_n hx hb dX5_manyNow_75 rfl (lv_at hl 2 rfl) ?_
    refine m_get hx hb hts hown hM 1 (by decide) (v := .ref (u.2.1 1)) gm_423 rfl dX5_manyNow_76 ?_
    refine m_size (j := 1) (rest := [.int (nI 0)]) G.1 hM (by decide) gm_430 hl.1 (Nat.le_of_ble_eq_true rfl) ⟨Nat.le_of_ble_eq_true rfl, Nat.le_of_ble_eq_true rfl⟩ ⟨Nat.le_of_ble_eq_true rfl, Nat.le_of_ble_eq_true rfl⟩ dX5_manyNow_79 ?_
    refine lv_icmp_ge (tgt := 107) hx hb dX5_manyNow_82 (by decide) (fun c82 => ?_) (fun c82 => ?_)
    · skip
      have c82 : 0 ≤ 0 := (g_le (by omega) (by omega)).mp c82
      refine lv_iload_n hx hb dX5_manyNow_107 rfl (lv_at hl 1 rfl) ?_
      exact m_iret G hM (rfl) (by decide) (by decide) dX5_manyNow_108
    · skip
      have c82 : ¬ (0 ≤ 0) := fun q => c82 ((g_le (by omega) (by omega)).mpr q)
      omega
  · skip
    refine lv_tableIn (off := 106) (tgt := 109) hx hb dX5_manyNow_3 (by decide) (by decide) (by decide) (by decide) ?_
    refine lv_aload_n hx hb dX5_manyNow_109 rfl (lv_at hl 1 rfl) ?_
    refine m_get hx hb hts hown hM 2 (by decide) (v := .ref (u.2.1 2)) gm_424 rfl dX5_manyNow_110 ?_
    refine m_size (j := 2) (rest := []) G.1 hM (by decide) gm_430 hl.1 (Nat.le_of_ble_eq_true rfl) ⟨Nat.le_of_ble_eq_true rfl, Nat.le_of_ble_eq_true rfl⟩ ⟨Nat.le_of_ble_eq_true rfl, Nat.le_of_ble_eq_true rfl⟩ dX5_manyNow_113 ?_
    exact m_iret G hM (rfl) (by decide) (by decide) dX5_manyNow_116
  · skip
    refine lv_tableIn (off := 114) (tgt := 117) hx hb dX5_manyNow_3 (by decide) (by decide) (by decide) (by decide) ?_
    refine lv_aload_n hx hb dX5_manyNow_117 rfl (lv_at hl 1 rfl) ?_
    refine m_get hx hb hts hown hM 2 (by decide) (v := .ref (u.2.1 2)) gm_424 rfl dX5_manyNow_118 ?_
    refine m_iter (j := 2) (rest := []) G.1 hM (by decide) gm_514 hl.1 (Nat.le_of_ble_eq_true rfl) ⟨Nat.le_of_ble_eq_true rfl, Nat.le_of_ble_eq_true rfl⟩ ⟨Nat.le_of_ble_eq_true rfl, Nat.le_of_ble_eq_true rfl⟩ dX5_manyNow_121 (fun it H hM hIt => ?_)
    refine lv_astore_n (lv' := [(3, .ref it), (2, .int (nI 0)), (0, .ref (u.2.1 0)), (1, .int (nI 3))]) hx hb dX5_manyNow_124 rfl hl (by decide) rfl (fun ls hl => ?_)
    refine lv_aload_n hx hb dX5_manyNow_125 rfl (lv_at hl 0 rfl) ?_
    refine m_hasNext (j := 2) (rest := []) G.1 hM (by decide) hIt gm_518 hl.1 (Nat.le_of_ble_eq_true rfl) ⟨Nat.le_of_ble_eq_true rfl, Nat.le_of_ble_eq_true rfl⟩ ⟨Nat.le_of_ble_eq_true rfl, Nat.le_of_ble_eq_true rfl⟩ dX5_manyNow_126 ?_
    refine lv_if_eq (tgt := 167) hx hb dX5_manyNow_131 (by decide) (fun c131 => ?_) (fun c131 => ?_)
    · skip
      have c131 : nI 0 = nI 0 := c131
      have c131 : 0 = 0 := (g_eq (by omega) (by omega)).mp c131
      refine lv_iload_n hx hb dX5_manyNow_167 rfl (lv_at hl 1 rfl) ?_
      exact m_iret G hM (rfl) (by decide) (by decide) dX5_manyNow_168
    · skip
      have c131 : ¬ (nI 0 = nI 0) := c131
      have c131 : ¬ (0 = 0) := fun q => c131 ((g_eq (by omega) (by omega)).mpr q)
      omega
  · skip
    refine lv_tableIn (off := 114) (tgt := 117) hx hb dX5_manyNow_3 (by decide) (by decide) (by decide) (by decide) ?_
    refine lv_aload_n hx hb dX5_manyNow_117 rfl (lv_at hl 1 rfl) ?_
    refine m_get hx hb hts hown hM 2 (by decide) (v := .ref (u.2.1 2)) gm_424 rfl dX5_manyNow_118 ?_
    refine m_iter (j := 2) (rest := []) G.1 hM (by decide) gm_514 hl.1 (Nat.le_of_ble_eq_true rfl) ⟨Nat.le_of_ble_eq_true rfl, Nat.le_of_ble_eq_true rfl⟩ ⟨Nat.le_of_ble_eq_true rfl, Nat.le_of_ble_eq_true rfl⟩ dX5_manyNow_121 (fun it H hM hIt => ?_)
    refine lv_astore_n (lv' := [(3, .ref it), (2, .int (nI 0)), (0, .ref (u.2.1 0)), (1, .int (nI 4))]) hx hb dX5_manyNow_124 rfl hl (by decide) rfl (fun ls hl => ?_)
    refine lv_aload_n hx hb dX5_manyNow_125 rfl (lv_at hl 0 rfl) ?_
    refine m_hasNext (j := 2) (rest := []) G.1 hM (by decide) hIt gm_518 hl.1 (Nat.le_of_ble_eq_true rfl) ⟨Nat.le_of_ble_eq_true rfl, Nat.le_of_ble_eq_true rfl⟩ ⟨Nat.le_of_ble_eq_true rfl, Nat.le_of_ble_eq_true rfl⟩ dX5_manyNow_126 ?_
    refine lv_if_eq (tgt := 167) hx hb dX5_manyNow_131 (by decide) (fun c131 => ?_) (fun c131 => ?_)
    · skip
      have c131 : nI 0 = nI 0 := c131
      have c131 : 0 = 0 := (g_eq (by omega) (by omega)).mp c131
      refine lv_iload_n hx hb dX5_manyNow_167 rfl (lv_at hl 1 rfl) ?_
      exact m_iret G hM (rfl) (by decide) (by decide) dX5_manyNow_168
    · skip
      have c131 : ¬ (nI 0 = nI 0) := c131
      have c131 : ¬ (0 = 0) := fun q => c131 ((g_eq (by omega) (by omega)).mpr q)
      omega
  · skip
    refine lv_tableIn (off := 114) (tgt := 117) hx hb dX5_manyNow_3 (by decide) (by decide) (by decide) (by decide) ?_
    refine lv_aload_n hx hb dX5_manyNow_117 rfl (lv_at hl 1 rfl) ?_
    refine m_get hx hb hts hown hM 2 (by decide) (v := .ref (u.2.1 2)) gm_424 rfl dX5_manyNow_118 ?_
    refine m_iter (j := 2) (rest := []) G.1 hM (by decide) gm_514 hl.1 (Nat.le_of_ble_eq_true rfl) ⟨Nat.le_of_ble_eq_true rfl, Nat.le_of_ble_eq_true rfl⟩ ⟨Nat.le_of_ble_eq_true rfl, Nat.le_of_ble_eq_true rfl⟩ dX5_manyNow_121 (fun it H hM hIt => ?_)
    refine lv_astore_n (lv' := [(3, .ref it), (2, .int (nI 0)), (0, .ref (u.2.1 0)), (1, .int (nI 5))]) hx hb dX5_manyNow_124 rfl hl (by decide) rfl (fun ls hl => ?_)
    refine lv_aload_n hx hb dX5_manyNow_125 rfl (lv_at hl 0 rfl) ?_
    refine m_hasNext (j := 2) (rest := []) G.1 hM (by decide) hIt gm_518 hl.1 (Nat.le_of_ble_eq_true rfl) ⟨Nat.le_of_ble_eq_true rfl, Nat.le_of_ble_eq_true rfl⟩ ⟨Nat.le_of_ble_eq_true rfl, Nat.le_of_ble_eq_true rfl⟩ dX5_manyNow_126 ?_
    refine lv_if_eq (tgt := 167) hx hb dX5_manyNow_131 (by decide) (fun c131 => ?_) (fun c131 => ?_)
    · skip
      have c131 : nI 0 = nI 0 := c131
      have c131 : 0 = 0 := (g_eq (by omega) (by omega)).mp c131
      refine lv_iload_n hx hb dX5_manyNow_167 rfl (lv_at hl 1 rfl) ?_
      exact m_iret G hM (rfl) (by decide) (by decide) dX5_manyNow_168
    · skip
      have c131 : ¬ (nI 0 = nI 0) := c131
      have c131 : ¬ (0 = 0) := fun q => c131 ((g_eq (by omega) (by omega)).mpr q)
      omega
  · skip
    refine lv_tableIn (off := 114) (tgt := 117) hx hb dX5_manyNow_3 (by decide) (by decide) (by decide) (by decide) ?_
    refine lv_aload_n hx hb dX5_manyNow_117 rfl (lv_at hl 1 rfl) ?_
    refine m_get hx hb hts hown hM 2 (by decide) (v := .ref (u.2.1 2)) gm_424 rfl dX5_manyNow_118 ?_
    refine m_iter (j := 2) (rest := []) G.1 hM (by decide) gm_514 hl.1 (Nat.le_of_ble_eq_true rfl) ⟨Nat.le_of_ble_eq_true rfl, Nat.le_of_ble_eq_true rfl⟩ ⟨Nat.le_of_ble_eq_true rfl, Nat.le_of_ble_eq_true rfl⟩ dX5_manyNow_121 (fun it H hM hIt => ?_)
    refine lv_astore_n (lv' := [(3, .ref it), (2, .int (nI 0)), (0, .ref (u.2.1 0)), (1, .int (nI 6))]) hx hb dX5_manyNow_124 rfl hl (by decide) rfl (fun ls hl => ?_)
    refine lv_aload_n hx hb dX5_manyNow_125 rfl (lv_at hl 0 rfl) ?_
    refine m_hasNext (j := 2) (rest := []) G.1 hM (by decide) hIt gm_518 hl.1 (Nat.le_of_ble_eq_true rfl) ⟨Nat.le_of_ble_eq_true rfl, Nat.le_of_ble_eq_true rfl⟩ ⟨Nat.le_of_ble_eq_true rfl, Nat.le_of_ble_eq_true rfl⟩ dX5_manyNow_126 ?_
    refine lv_if_eq (tgt := 167) hx hb dX5_manyNow_131 (by decide) (fun c131 => ?_) (fun c131 => ?_)
    · skip
      have c131 : nI 0 = nI 0 := c131
      have c131 : 0 = 0 := (g_eq (by omega) (by omega)).mp c131
      refine lv_iload_n hx hb dX5_manyNow_167 rfl (lv_at hl 1 rfl) ?_
      exact m_iret G hM (rfl) (by decide) (by decide) dX5_manyNow_168
    · skip
      have c131 : ¬ (nI 0 = nI 0) := c131
      have c131 : ¬ (0 = 0) := fun q => c131 ((g_eq (by omega) (by omega)).mpr q)
      omega
  · skip
    refine lv_tableIn (off := 166) (tgt := 169) hx hb dX5_manyNow_3 (by decide) (by decide) (by decide) (by decide) ?_
    refine lv_aload_n hx hb dX5_manyNow_169 rfl (lv_at hl 1 rfl) ?_
    refine m_get hx hb hts hown hM 3 (by decide) (v := .ref (u.2.1 3)) gm_425 rfl dX5_manyNow_170 ?_
    refine m_size (j := 3) (rest := []) G.1 hM (by decide) gm_430 hl.1 (Nat.le_of_ble_eq_true rfl) ⟨Nat.le_of_ble_eq_true rfl, Nat.le_of_ble_eq_true rfl⟩ ⟨Nat.le_of_ble_eq_true rfl, Nat.le_of_ble_eq_true rfl⟩ dX5_manyNow_173 ?_
    exact m_iret G hM (rfl) (by decide) (by decide) dX5_manyNow_176
  · skip
    refine lv_tableIn (off := 174) (tgt := 177) hx hb dX5_manyNow_3 (by decide) (by decide) (by decide) (by decide) ?_
    refine lv_aload_n hx hb dX5_manyNow_177 rfl (lv_at hl 1 rfl) ?_
    refine lv_iload_n hx hb dX5_manyNow_178 rfl (lv_at hl 2 rfl) ?_
    refine lv_bipush (v := nI 8) hx hb dX5_manyNow_179 (by decide) ?_
    refine lv_isub hx hb dX5_manyNow_181 ?_
    refine W.eq (g2 := F0 M_ _ ls [.int (nI 0), .ref (u.2.1 0)]) (by rw [show (nI 8) - (nI 8) = nI 0 from by decide]) ?_
    refine m_call (As := [.int (nI 0)]) (rest := []) G.1 hM rfl ok_X5_inState gm_551 gm_552 gm_550 (c_X5_inState l u th (nI 0) sm (nI 0) ) ⟨rfl, rfl⟩ ⟨Nat.le_of_ble_eq_true rfl, Nat.le_of_ble_eq_true rfl⟩ rfl hl.1 rfl (Nat.le_of_ble_eq_true rfl) ⟨Nat.le_of_ble_eq_true rfl, Nat.le_of_ble_eq_true rfl⟩ dX5_manyNow_182 (fun H locs hM => ?_)
    exact m_iret G hM (rfl) (by decide) (by decide) dX5_manyNow_185
  · skip
    refine lv_tableIn (off := 174) (tgt := 177) hx hb dX5_manyNow_3 (by decide) (by decide) (by decide) (by decide) ?_
    refine lv_aload_n hx hb dX5_manyNow_177 rfl (lv_at hl 1 rfl) ?_
    refine lv_iload_n hx hb dX5_manyNow_178 rfl (lv_at hl 2 rfl) ?_
    refine lv_bipush (v := nI 8) hx hb dX5_manyNow_179 (by decide) ?_
    refine lv_isub hx hb dX5_manyNow_181 ?_
    refine W.eq (g2 := F0 M_ _ ls [.int (nI 1), .ref (u.2.1 0)]) (by rw [show (nI 9) - (nI 8) = nI 1 from by decide]) ?_
    refine m_call (As := [.int (nI 1)]) (rest := []) G.1 hM rfl ok_X5_inState gm_551 gm_552 gm_550 (c_X5_inState l u th (nI 0) sm (nI 1) ) ⟨rfl, rfl⟩ ⟨Nat.le_of_ble_eq_true rfl, Nat.le_of_ble_eq_true rfl⟩ rfl hl.1 rfl (Nat.le_of_ble_eq_true rfl) ⟨Nat.le_of_ble_eq_true rfl, Nat.le_of_ble_eq_true rfl⟩ dX5_manyNow_182 (fun H locs hM => ?_)
    exact m_iret G hM (rfl) (by decide) (by decide) dX5_manyNow_185
  · skip
    refine lv_tableIn (off := 174) (tgt := 177) hx hb dX5_manyNow_3 (by decide) (by decide) (by decide) (by decide) ?_
    refine lv_aload_n hx hb dX5_manyNow_177 rfl (lv_at hl 1 rfl) ?_
    refine lv_iload_n hx hb dX5_manyNow_178 rfl (lv_at hl 2 rfl) ?_
    refine lv_bipush (v := nI 8) hx hb dX5_manyNow_179 (by decide) ?_
    refine lv_isub hx hb dX5_manyNow_181 ?_
    refine W.eq (g2 := F0 M_ _ ls [.int (nI 2), .ref (u.2.1 0)]) (by rw [show (nI 10) - (nI 8) = nI 2 from by decide]) ?_
    refine m_call (As := [.int (nI 2)]) (rest := []) G.1 hM rfl ok_X5_inState gm_551 gm_552 gm_550 (c_X5_inState l u th (nI 0) sm (nI 2) ) ⟨rfl, rfl⟩ ⟨Nat.le_of_ble_eq_true rfl, Nat.le_of_ble_eq_true rfl⟩ rfl hl.1 rfl (Nat.le_of_ble_eq_true rfl) ⟨Nat.le_of_ble_eq_true rfl, Nat.le_of_ble_eq_true rfl⟩ dX5_manyNow_182 (fun H locs hM => ?_)
    exact m_iret G hM (rfl) (by decide) (by decide) dX5_manyNow_185
  · skip
    refine lv_tableIn (off := 183) (tgt := 186) hx hb dX5_manyNow_3 (by decide) (by decide) (by decide) (by decide) ?_
    refine lv_aload_n hx hb dX5_manyNow_186 rfl (lv_at hl 1 rfl) ?_
    refine m_get hx hb hts hown hM 3 (by decide) (v := .ref (u.2.1 3)) gm_425 rfl dX5_manyNow_187 ?_
    refine m_iter (j := 3) (rest := []) G.1 hM (by decide) gm_514 hl.1 (Nat.le_of_ble_eq_true rfl) ⟨Nat.le_of_ble_eq_true rfl, Nat.le_of_ble_eq_true rfl⟩ ⟨Nat.le_of_ble_eq_true rfl, Nat.le_of_ble_eq_true rfl⟩ dX5_manyNow_190 (fun it H hM hIt => ?_)
    refine lv_astore_n (lv' := [(3, .ref it), (2, .int (nI 0)), (0, .ref (u.2.1 0)), (1, .int (nI 11))]) hx hb dX5_manyNow_193 rfl hl (by decide) rfl (fun ls hl => ?_)
    refine lv_aload_n hx hb dX5_manyNow_194 rfl (lv_at hl 0 rfl) ?_
    refine m_hasNext (j := 3) (rest := []) G.1 hM (by decide) hIt gm_518 hl.1 (Nat.le_of_ble_eq_true rfl) ⟨Nat.le_of_ble_eq_true rfl, Nat.le_of_ble_eq_true rfl⟩ ⟨Nat.le_of_ble_eq_true rfl, Nat.le_of_ble_eq_true rfl⟩ dX5_manyNow_195 ?_
    refine lv_if_eq (tgt := 247) hx hb dX5_manyNow_200 (by decide) (fun c200 => ?_) (fun c200 => ?_)
    · skip
      have c200 : nI 0 = nI 0 := c200
      have c200 : 0 = 0 := (g_eq (by omega) (by omega)).mp c200
      refine lv_iload_n hx hb dX5_manyNow_247 rfl (lv_at hl 1 rfl) ?_
      exact m_iret G hM (rfl) (by decide) (by decide) dX5_manyNow_248
    · skip
      have c200 : ¬ (nI 0 = nI 0) := c200
      have c200 : ¬ (0 = 0) := fun q => c200 ((g_eq (by omega) (by omega)).mpr q)
      omega
  · skip
    refine lv_tableOut (tgt := 249) hx hb dX5_manyNow_3 (by decide) (by decide) ?_
    refine lv_aload_n hx hb dX5_manyNow_249 rfl (lv_at hl 1 rfl) ?_
    refine m_get hx hb hts hown hM 4 (by decide) (v := .int (nI 0)) gm_439 rfl dX5_manyNow_250 ?_
    exact m_iret G hM (rfl) (by decide) (by decide) dX5_manyNow_253
theorem ok_X5_many : gOK yX5_many cX5_many 2 (some .int) 1 := ⟨gm_785, gm_434, by decide +kernel⟩
set_option maxRecDepth 100000 in
set_option maxHeartbeats 4000000 in
theorem c_X5_many (l : Launch) (u : MP) (th : Int32) (sm : Int64) (q : Nat) (hq : q < 13) : Met l yX5_many (gws yX5_many cX5_many 2 (some .int)) ({ frames := 5, cells := 1, slots := 4, locals := 106 }) (mPc u th (nI 0) sm [.ref (u.2.1 0), .int (nI q)]) (mWr u (some (.int (nI 0))) (nI 0) (nI 0) sm) 1 4 (mA u) := by
  refine b_read (by decide) (Nat.le_of_ble_eq_true rfl) ?_
  intro P_ E_ S_ M_ B_ T_ C_ ls G hnm hV hl
  obtain ⟨hx, hb, hml, hown, hts⟩ := id G.1
  have hl : lv_has ls 2 [(0, .ref (u.2.1 0)), (1, .int (nI q))] := hl
  have hM := MV.start hV
  refine lv_aload_n hx hb dX5_many_0 rfl (lv_at hl 0 rfl) ?_
  refine lv_iconst (v := nI 0) hx hb dX5_many_1 (by decide) ?_
  refine m_putT hx hb hts hown hM gm_427 dX5_many_2 (fun H locs hM => ?_)
  refine lv_iload_n hx hb dX5_many_5 rfl (lv_at hl 1 rfl) ?_
  refine lv_iconst (v := nI 0) hx hb dX5_many_6 (by decide) ?_
  refine lv_bipush (v := nI 12) hx hb dX5_many_7 (by decide) ?_
  refine b_callS (As := [.int (nI q), .int (nI 0), .int (nI 12)]) (rest := []) G.1 ok_X5_is gm_449 gm_448 (c_X5_is l (nI q) (nI 0) (nI 12)) ⟨rfl, rfl⟩ ⟨Nat.le_of_ble_eq_true rfl, Nat.le_of_ble_eq_true rfl⟩ rfl hl.1 rfl (Nat.le_of_ble_eq_true rfl) ⟨Nat.le_of_ble_eq_true rfl, Nat.le_of_ble_eq_true rfl⟩ dX5_many_9 ?_
  refine lv_if_eq (tgt := 23) hx hb dX5_many_12 (by decide) (fun c12 => ?_) (fun c12 => ?_)
  · skip
    have c12 : ¬ ((nI 0) ≤ (nI q) ∧ (nI q) ≤ (nI 12)) := g_if0.mp c12
    exact absurd (is_in (by omega) (by omega) (by omega)) c12
  · skip
    have c12 : (nI 0) ≤ (nI q) ∧ (nI q) ≤ (nI 12) := g_if1.mp c12
    refine lv_aload_n hx hb dX5_many_15 rfl (lv_at hl 0 rfl) ?_
    refine lv_iload_n hx hb dX5_many_16 rfl (lv_at hl 1 rfl) ?_
    refine m_call (As := [.int (nI q)]) (rest := []) G.1 hM rfl ok_X5_manyNow gm_555 gm_556 gm_554 (c_X5_manyNow l u (nI 0) sm q (by omega)) ⟨rfl, rfl⟩ ⟨Nat.le_of_ble_eq_true rfl, Nat.le_of_ble_eq_true rfl⟩ rfl hl.1 rfl (Nat.le_of_ble_eq_true rfl) ⟨Nat.le_of_ble_eq_true rfl, Nat.le_of_ble_eq_true rfl⟩ dX5_many_17 (fun H locs hM => ?_)
    refine lv_goto (tgt := 28) hx hb dX5_many_20 (by decide) ?_
    exact m_iret G hM (rfl) (by decide) (by decide) dX5_many_28
theorem ok_X5_meanConsistency : gOK yX5_meanConsistency cX5_meanConsistency 6 (some .double) 0 := ⟨gm_793, gm_434, by decide +kernel⟩
set_option maxRecDepth 100000 in
set_option maxHeartbeats 4000000 in
theorem c_X5_meanConsistency (l : Launch) (u : MP) (th : Int32) (dy : Int32) (sm : Int64)   : Met l yX5_meanConsistency (gws yX5_meanConsistency cX5_meanConsistency 6 (some .double)) ({ frames := 3, cells := 1, slots := 4, locals := 53 }) (mPc u th dy sm [.ref (u.2.1 0)]) (mWr u (some (.double FP.dconst0)) (nI 0) dy sm) 1 4 (mA u) := by
  refine b_read (by decide) (Nat.le_of_ble_eq_true rfl) ?_
  intro P_ E_ S_ M_ B_ T_ C_ ls G hnm hV hl
  obtain ⟨hx, hb, hml, hown, hts⟩ := id G.1
  have hl : lv_has ls 6 [(0, .ref (u.2.1 0))] := hl
  have hM := MV.start hV
  refine lv_aload_n hx hb dX5_meanConsistency_0 rfl (lv_at hl 0 rfl) ?_
  refine lv_iconst (v := nI 0) hx hb dX5_meanConsistency_1 (by decide) ?_
  refine m_putT hx hb hts hown hM gm_427 dX5_meanConsistency_2 (fun H locs hM => ?_)
  refine lv_iconst (v := nI 0) hx hb dX5_meanConsistency_5 (by decide) ?_
  refine lv_istore_n (lv' := [(1, .int (nI 0)), (0, .ref (u.2.1 0))]) hx hb dX5_meanConsistency_6 rfl hl (by decide) rfl (fun ls hl => ?_)
  refine lv_iconst (v := nI 0) hx hb dX5_meanConsistency_7 (by decide) ?_
  refine lv_istore_n (lv' := [(2, .int (nI 0)), (1, .int (nI 0)), (0, .ref (u.2.1 0))]) hx hb dX5_meanConsistency_8 rfl hl (by decide) rfl (fun ls hl => ?_)
  refine lv_aload_n hx hb dX5_meanConsistency_9 rfl (lv_at hl 2 rfl) ?_
  refine m_get hx hb hts hown hM 3 (by decide) (v := .ref (u.2.1 3)) gm_425 rfl dX5_meanConsistency_10 ?_
  refine m_iter (j := 3) (rest := []) G.1 hM (by decide) gm_514 hl.1 (Nat.le_of_ble_eq_true rfl) ⟨Nat.le_of_ble_eq_true rfl, Nat.le_of_ble_eq_true rfl⟩ ⟨Nat.le_of_ble_eq_true rfl, Nat.le_of_ble_eq_true rfl⟩ dX5_meanConsistency_13 (fun it H hM hIt => ?_)
  refine lv_astore_n (lv' := [(3, .ref it), (2, .int (nI 0)), (1, .int (nI 0)), (0, .ref (u.2.1 0))]) hx hb dX5_meanConsistency_16 rfl hl (by decide) rfl (fun ls hl => ?_)
  refine lv_aload_n hx hb dX5_meanConsistency_17 rfl (lv_at hl 0 rfl) ?_
  refine m_hasNext (j := 3) (rest := []) G.1 hM (by decide) hIt gm_518 hl.1 (Nat.le_of_ble_eq_true rfl) ⟨Nat.le_of_ble_eq_true rfl, Nat.le_of_ble_eq_true rfl⟩ ⟨Nat.le_of_ble_eq_true rfl, Nat.le_of_ble_eq_true rfl⟩ dX5_meanConsistency_18 ?_
  refine lv_if_eq (tgt := 89) hx hb dX5_meanConsistency_23 (by decide) (fun c23 => ?_) (fun c23 => ?_)
  · skip
    have c23 : nI 0 = nI 0 := c23
    have c23 : 0 = 0 := (g_eq (by omega) (by omega)).mp c23
    refine lv_iload_n hx hb dX5_meanConsistency_89 rfl (lv_at hl 2 rfl) ?_
    refine lv_if_ne (tgt := 97) hx hb dX5_meanConsistency_90 (by decide) (fun c90 => ?_) (fun c90 => ?_)
    · skip
      have c90 : ¬ (nI 0 = nI 0) := c90
      have c90 : ¬ (0 = 0) := fun q => c90 ((g_eq (by omega) (by omega)).mpr q)
      omega
    · skip
      have c90 : nI 0 = nI 0 := c90
      have c90 : 0 = 0 := (g_eq (by omega) (by omega)).mp c90
      refine lv_dconst0 hx hb dX5_meanConsistency_93 ?_
      refine lv_goto (tgt := 102) hx hb dX5_meanConsistency_94 (by decide) ?_
      exact m_dret G hM rfl (by decide) (by decide) dX5_meanConsistency_102
  · skip
    have c23 : ¬ (nI 0 = nI 0) := c23
    have c23 : ¬ (0 = 0) := fun q => c23 ((g_eq (by omega) (by omega)).mpr q)
    omega
theorem ok_X5_reopenedIn : gOK yX5_reopenedIn cX5_reopenedIn 2 (some .int) 1 := ⟨gm_807, gm_434, by decide +kernel⟩
set_option maxRecDepth 100000 in
set_option maxHeartbeats 4000000 in
theorem c_X5_reopenedIn (l : Launch) (u : MP) (th : Int32) (dy : Int32) (sm : Int64) (n : Nat) (h1 : 1 ≤ n) (h2 : n ≤ 40) : Met l yX5_reopenedIn (gws yX5_reopenedIn cX5_reopenedIn 2 (some .int)) ({ frames := 2, cells := 0, slots := 0, locals := 47 }) (mPc u th dy sm [.ref (u.2.1 0), .int (nI n)]) (mWr u (some (.int (nI 0))) (nI 0) dy sm) 0 0 (mA u) := by
  refine b_read (by decide) (Nat.le_of_ble_eq_true rfl) ?_
  intro P_ E_ S_ M_ B_ T_ C_ ls G hnm hV hl
  obtain ⟨hx, hb, hml, hown, hts⟩ := id G.1
  have hl : lv_has ls 2 [(0, .ref (u.2.1 0)), (1, .int (nI n))] := hl
  have hM := MV.start hV
  refine lv_aload_n hx hb dX5_reopenedIn_0 rfl (lv_at hl 0 rfl) ?_
  refine lv_iconst (v := nI 0) hx hb dX5_reopenedIn_1 (by decide) ?_
  refine m_putT hx hb hts hown hM gm_427 dX5_reopenedIn_2 (fun H locs hM => ?_)
  refine lv_iload_n hx hb dX5_reopenedIn_5 rfl (lv_at hl 1 rfl) ?_
  refine lv_iconst (v := nI 1) hx hb dX5_reopenedIn_6 (by decide) ?_
  refine lv_bipush (v := nI 40) hx hb dX5_reopenedIn_7 (by decide) ?_
  refine b_callS (As := [.int (nI n), .int (nI 1), .int (nI 40)]) (rest := []) G.1 ok_X5_is gm_449 gm_448 (c_X5_is l (nI n) (nI 1) (nI 40)) ⟨rfl, rfl⟩ ⟨Nat.le_of_ble_eq_true rfl, Nat.le_of_ble_eq_true rfl⟩ rfl hl.1 rfl (Nat.le_of_ble_eq_true rfl) ⟨Nat.le_of_ble_eq_true rfl, Nat.le_of_ble_eq_true rfl⟩ dX5_reopenedIn_9 ?_
  refine lv_if_eq (tgt := 32) hx hb dX5_reopenedIn_12 (by decide) (fun c12 => ?_) (fun c12 => ?_)
  · skip
    have c12 : ¬ ((nI 1) ≤ (nI n) ∧ (nI n) ≤ (nI 40)) := g_if0.mp c12
    exact absurd (is_in (by omega) (by omega) (by omega)) c12
  · skip
    have c12 : (nI 1) ≤ (nI n) ∧ (nI n) ≤ (nI 40) := g_if1.mp c12
    refine lv_aload_n hx hb dX5_reopenedIn_15 rfl (lv_at hl 0 rfl) ?_
    refine lv_aload_n hx hb dX5_reopenedIn_16 rfl (lv_at hl 0 rfl) ?_
    refine lv_aload_n hx hb dX5_reopenedIn_17 rfl (lv_at hl 0 rfl) ?_
    refine m_get hx hb hts hown hM 4 (by decide) (v := .int dy) gm_439 rfl dX5_reopenedIn_18 ?_
    refine lv_iload_n hx hb dX5_reopenedIn_21 rfl (lv_at hl 1 rfl) ?_
    refine lv_iadd hx hb dX5_reopenedIn_22 ?_
    refine m_call (As := [.int (dy + (nI n))]) (rest := [.ref (u.2.1 0)]) G.1 hM rfl ok_X5_due gm_441 gm_442 gm_440 (c_X5_due l u (nI 0) dy sm (dy + (nI n)) ) ⟨rfl, rfl⟩ ⟨Nat.le_of_ble_eq_true rfl, Nat.le_of_ble_eq_true rfl⟩ rfl hl.1 rfl (Nat.le_of_ble_eq_true rfl) ⟨Nat.le_of_ble_eq_true rfl, Nat.le_of_ble_eq_true rfl⟩ dX5_reopenedIn_23 (fun H locs hM => ?_)
    refine m_call (As := [.int (nI 0)]) (rest := []) G.1 hM rfl ok_X5_approved gm_445 gm_446 gm_444 (c_X5_approved l u (nI 0) dy sm (nI 0) ) ⟨rfl, rfl⟩ ⟨Nat.le_of_ble_eq_true rfl, Nat.le_of_ble_eq_true rfl⟩ rfl hl.1 rfl (Nat.le_of_ble_eq_true rfl) ⟨Nat.le_of_ble_eq_true rfl, Nat.le_of_ble_eq_true rfl⟩ dX5_reopenedIn_26 (fun H locs hM => ?_)
    refine lv_goto (tgt := 37) hx hb dX5_reopenedIn_29 (by decide) ?_
    exact m_iret G hM (rfl) (by decide) (by decide) dX5_reopenedIn_37
theorem ok_X5_add : gOK yX5_add cX5_add 2 none 1 := ⟨gm_565, gm_434, by decide +kernel⟩
set_option maxRecDepth 100000 in
set_option maxHeartbeats 4000000 in
theorem c_X5_add (l : Launch) (u : MP) (th : Int32) (dy : Int32) (sm : Int64) (x : Int32)  : Met l yX5_add (gws yX5_add cX5_add 2 none) ({ frames := 0, cells := 0, slots := 0, locals := 0 }) (mPc u th dy sm [.ref (u.2.1 0), .int x]) (mWr u none th dy (sm * 31 + x.toInt64)) 0 0 (mA u) := by
  refine b_read (by decide) (Nat.le_of_ble_eq_true rfl) ?_
  intro P_ E_ S_ M_ B_ T_ C_ ls G hnm hV hl
  obtain ⟨hx, hb, hml, hown, hts⟩ := id G.1
  have hl : lv_has ls 2 [(0, .ref (u.2.1 0)), (1, .int x)] := hl
  have hM := MV.start hV
  refine lv_aload_n hx hb dX5_add_0 rfl (lv_at hl 0 rfl) ?_
  refine lv_aload_n hx hb dX5_add_1 rfl (lv_at hl 0 rfl) ?_
  refine m_get hx hb hts hown hM 5 (by decide) (v := .long sm) gm_559 rfl dX5_add_2 ?_
  refine lv_ldc2 hx hb hown (hts _ gm_560) dX5_add_5 ?_
  refine lv_lmul hx hb dX5_add_8 ?_
  refine lv_iload_n hx hb dX5_add_9 rfl (lv_at hl 1 rfl) ?_
  refine lv_i2l hx hb dX5_add_10 rfl ?_
  refine lv_ladd hx hb dX5_add_11 ?_
  refine m_putS hx hb hts hown hM gm_559 dX5_add_12 (fun H locs hM => ?_)
  exact m_vret G hM (by decide) (by decide) dX5_add_15
