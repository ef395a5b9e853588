theorem ok_X2_readAnew : gOK yX2_readAnew cX2_readAnew 2 none 0 := ⟨gm_222, gm_18, by decide +kernel⟩
set_option maxRecDepth 100000 in
set_option maxHeartbeats 4000000 in
theorem c_X2_readAnew (l : Launch) (w : GP) (f : CS)  (hI : gI f)  : Met l yX2_readAnew (gws yX2_readAnew cX2_readAnew 2 none) ({ frames := 5, cells := 0, slots := 0, locals := 127 }) (gPc w f [.ref (w.2.2.2 0)]) (gWr w (fun v_ f_ => v_ = none ∧ f_ = raA f)) 0 0 (gA w) := by
  refine g_read (by decide) (Nat.le_of_ble_eq_true rfl) ?_
  intro P_ E_ S_ M_ B_ T_ C_ ls G hV hl
  obtain ⟨hx, hb, hml, hown, hts⟩ := id G.1
  obtain ⟨⟨hT, hT24⟩, ⟨hC, hC12⟩, ⟨hD, hD6⟩, hLn⟩ := id hI
  have hl : lv_has ls 2 [(0, .ref (w.2.2.2 0))] := hl
  have hG := hV.start
  obtain ⟨H, hH⟩ : ∃ H, H = S_.heap := ⟨_, rfl⟩
  obtain ⟨locs, hL⟩ : ∃ L : List Loc, L = [] := ⟨_, rfl⟩
  rw [← hH, ← hL] at hG
  suffices K : ∀ (H : Heap) (locs : List Loc), GS w (gA w) S_ H locs f → W P_ l E_ _ S_ M_ _ B_ T_ C_ H locs 0 0 _ (F0 M_ 0 ls []) from by have := K H locs hG; rw [hH, hL] at this; exact this
  clear hG hH hL; intro H locs hG
  refine lv_iconst (v := nI 0) hx hb dX2_readAnew_0 (by decide) ?_
  refine lv_istore_n (lv' := [(1, .int (nI 0)), (0, .ref (w.2.2.2 0))]) hx hb dX2_readAnew_1 rfl hl (by decide) rfl (fun ls hl => ?_)
  refine g_for (P := fun k => ∀ (H : Heap) (locs : List Loc) (ls : Array Slot), GS w (gA w) S_ H locs (rlF f k) → lv_has ls 2 [(1, .int (nI k)), (0, .ref (w.2.2.2 0))] → W P_ l E_ _ S_ M_ _ B_ T_ C_ H locs 0 0 _ (F0 M_ 2 ls [])) (nD f * 3) ?_ ?_ 0 (Nat.zero_le _) H locs ls (by rw [rlF_0]; exact hG) (lv_sub hl [0, 1] rfl)
  · intro k hk ih H locs ls hG hl
    refine lv_iload_n hx hb dX2_readAnew_2 rfl (lv_at hl 0 rfl) ?_
    have hag := rlF_ag (f := f) (n := k) (by omega)
    have hDk := hag.D
    have hIk := hag.I hI
    refine lv_aload_n hx hb dX2_readAnew_3 rfl (lv_at hl 1 rfl) ?_
    refine g_get hx hb hts hown hG.1 0 1 (by decide) (v := .ref (w.2.2.2 2)) rfl rfl gin2 (by decide) gm_158 (rfl) dX2_readAnew_4 ?_
    refine g_callV (As := []) (rest := [.int (nI k)]) G.1 hG.1 2 (by decide) rfl rfl ok_X1_textCount gm_103 gm_104 gm_200 (c_X1_textCount l w (rlF f k)  hIk ) ⟨rfl, rfl⟩ ⟨Nat.le_of_ble_eq_true rfl, Nat.le_of_ble_eq_true rfl⟩ rfl hl.1 rfl (Nat.le_of_ble_eq_true rfl) ⟨Nat.zero_le _, Nat.zero_le _⟩ dX2_readAnew_7 ?_
    refine lv_icmp_ge (tgt := 27) hx hb dX2_readAnew_10 (by decide) (fun c10 => ?_) (fun c10 => ?_)
    · skip
      have c10 : (nD (rlF f k) * 3) ≤ k := (g_le (by omega) (by omega)).mp c10
      exact absurd c10 (by omega)
    · skip
      have c10 : ¬ ((nD (rlF f k) * 3) ≤ k) := fun q => c10 ((g_le (by omega) (by omega)).mpr q)
      refine lv_aload_n hx hb dX2_readAnew_13 rfl (lv_at hl 1 rfl) ?_
      refine g_get hx hb hts hown hG.1 0 1 (by decide) (v := .ref (w.2.2.2 2)) rfl rfl gin2 (by decide) gm_158 (rfl) dX2_readAnew_14 ?_
      refine lv_iload_n hx hb dX2_readAnew_17 rfl (lv_at hl 0 rfl) ?_
      refine g_callW (As := [.int (nI k)]) (rest := []) G.1 hG 2 (by decide) rfl rfl ok_X1_read gm_99 gm_100 gm_201 (c_X1_read l w (rlF f k) k hIk (by omega)) ⟨rfl, rfl⟩ ⟨Nat.le_of_ble_eq_true rfl, Nat.le_of_ble_eq_true rfl⟩ rfl hl.1 rfl (Nat.le_of_ble_eq_true rfl) ⟨Nat.zero_le _, Nat.zero_le _⟩ dX2_readAnew_18 (fun v f18 H locs hp hG => ?_)
      obtain ⟨rfl, rfl⟩ := hp
      refine lv_iinc (v := nI (k + 1)) (lv' := [(1, .int (nI (k + 1))), (0, .ref (w.2.2.2 0))]) hx hb dX2_readAnew_21 hl (k := 0) rfl (g_inc k 1) (by decide) rfl (fun ls hl => ?_)
      refine lv_goto (tgt := 2) hx hb dX2_readAnew_24 (by decide) ?_
      refine ih H locs ls (by rw [show rlF f (k + 1) = rdF (rlF f k) k (nL (rlF f k) k) from rlF_s (by omega)]; exact hG) ?_
      exact lv_sub hl [0, 1] rfl
  · intro H locs ls hG hl
    refine lv_iload_n hx hb dX2_readAnew_2 rfl (lv_at hl 0 rfl) ?_
    have hag := rlF_ag (f := f) (n := nD f * 3) (by omega)
    have hDk := hag.D
    have hIk := hag.I hI
    refine lv_aload_n hx hb dX2_readAnew_3 rfl (lv_at hl 1 rfl) ?_
    refine g_get hx hb hts hown hG.1 0 1 (by decide) (v := .ref (w.2.2.2 2)) rfl rfl gin2 (by decide) gm_158 (rfl) dX2_readAnew_4 ?_
    refine g_callV (As := []) (rest := [.int (nI (nD f * 3))]) G.1 hG.1 2 (by decide) rfl rfl ok_X1_textCount gm_103 gm_104 gm_200 (c_X1_textCount l w (rlF f (nD f * 3))  hIk ) ⟨rfl, rfl⟩ ⟨Nat.le_of_ble_eq_true rfl, Nat.le_of_ble_eq_true rfl⟩ rfl hl.1 rfl (Nat.le_of_ble_eq_true rfl) ⟨Nat.zero_le _, Nat.zero_le _⟩ dX2_readAnew_7 ?_
    refine lv_icmp_ge (tgt := 27) hx hb dX2_readAnew_10 (by decide) (fun c10 => ?_) (fun c10 => ?_)
    · skip
      have c10 : (nD (rlF f (nD f * 3)) * 3) ≤ (nD f * 3) := (g_le (by omega) (by omega)).mp c10
      refine lv_aload_n hx hb dX2_readAnew_27 rfl (lv_at hl 1 rfl) ?_
      refine g_get hx hb hts hown hG.1 0 1 (by decide) (v := .ref (w.2.2.2 2)) rfl rfl gin2 (by decide) gm_158 (rfl) dX2_readAnew_28 ?_
      refine lv_aload_n hx hb dX2_readAnew_31 rfl (lv_at hl 1 rfl) ?_
      refine g_get hx hb hts hown hG.1 0 2 (by decide) (v := .int (f 0 3)) rfl rfl gin2 (by decide) gm_159 (by show some (Value.int ((rlF f (nD f * 3)) 0 3)) = some (.int (f 0 3)); rw [show (rlF f (nD f * 3)) 0 3 = f 0 3 from congrFun (hag 0 (by omega)) 3]) dX2_readAnew_32 ?_
      refine g_callW (As := [.int (f 0 3)]) (rest := []) G.1 hG 2 (by decide) rfl rfl ok_X1_reopenDue gm_203 gm_204 gm_202 (c_X1_reopenDue l w (rlF f (nD f * 3)) (f 0 3) hIk ) ⟨rfl, rfl⟩ ⟨Nat.le_of_ble_eq_true rfl, Nat.le_of_ble_eq_true rfl⟩ rfl hl.1 rfl (Nat.le_of_ble_eq_true rfl) ⟨Nat.zero_le _, Nat.zero_le _⟩ dX2_readAnew_35 (fun v f35 H locs hp hG => ?_)
      obtain ⟨rfl, rfl⟩ := hp
      refine lv_pop hx hb dX2_readAnew_38 rfl ?_
      exact g_vretW G hG (⟨rfl, by unfold raA; rw [hDk]⟩) dX2_readAnew_39
    · skip
      have c10 : ¬ ((nD (rlF f (nD f * 3)) * 3) ≤ (nD f * 3)) := fun q => c10 ((g_le (by omega) (by omega)).mpr q)
      exact absurd c10 (by omega)
theorem ok_X2_concept : gOK yX2_concept cX2_concept 2 (some .int) 1 := ⟨gm_448, gm_18, by decide +kernel⟩
set_option maxRecDepth 100000 in
set_option maxHeartbeats 4000000 in
theorem c_X2_concept (l : Launch) (w : GP) (f : CS) (x : Nat) (hI : gI f) (h : x < 4) (h2 : nC f < 12) : Met l yX2_concept (gws yX2_concept cX2_concept 2 (some .int)) ({ frames := 1, cells := 0, slots := 0, locals := 22 }) (gPc w f [.ref (w.2.2.2 0), .int (nI x)]) (gWr w (fun v_ f_ => v_ = some (.int (nI (nC f))) ∧ f_ = adC f (nI x))) 0 0 (gA w) := by
  refine g_read (by decide) (Nat.le_of_ble_eq_true rfl) ?_
  intro P_ E_ S_ M_ B_ T_ C_ ls G hV hl
  obtain ⟨hx, hb, hml, hown, hts⟩ := id G.1
  obtain ⟨⟨hT, hT24⟩, ⟨hC, hC12⟩, ⟨hD, hD6⟩, hLn⟩ := id hI
  have hl : lv_has ls 2 [(0, .ref (w.2.2.2 0)), (1, .int (nI x))] := hl
  have hG := hV.start
  obtain ⟨H, hH⟩ : ∃ H, H = S_.heap := ⟨_, rfl⟩
  obtain ⟨locs, hL⟩ : ∃ L : List Loc, L = [] := ⟨_, rfl⟩
  rw [← hH, ← hL] at hG
  suffices K : ∀ (H : Heap) (locs : List Loc), GS w (gA w) S_ H locs f → W P_ l E_ _ S_ M_ _ B_ T_ C_ H locs 0 0 _ (F0 M_ 0 ls []) from by have := K H locs hG; rw [hH, hL] at this; exact this
  clear hG hH hL; intro H locs hG
  refine lv_aload_n hx hb dX2_concept_0 rfl (lv_at hl 0 rfl) ?_
  refine lv_iload_n hx hb dX2_concept_1 rfl (lv_at hl 1 rfl) ?_
  refine g_callVv (As := [.int (nI x)]) (rest := []) G.1 hG.1 0 (by decide) rfl rfl ok_X2_requireDomain gm_171 gm_172 gm_170 (c_X2_requireDomain l w f x hI (by omega)) ⟨rfl, rfl⟩ ⟨Nat.le_of_ble_eq_true rfl, Nat.le_of_ble_eq_true rfl⟩ rfl hl.1 rfl (Nat.le_of_ble_eq_true rfl) ⟨Nat.zero_le _, Nat.zero_le _⟩ dX2_concept_2 ?_
  refine lv_aload_n hx hb dX2_concept_5 rfl (lv_at hl 0 rfl) ?_
  refine g_callVv (As := []) (rest := []) G.1 hG.1 0 (by decide) rfl rfl ok_X2_requireRoomForConcept gm_175 gm_176 gm_174 (c_X2_requireRoomForConcept l w f  hI (h2)) ⟨rfl, rfl⟩ ⟨Nat.le_of_ble_eq_true rfl, Nat.le_of_ble_eq_true rfl⟩ rfl hl.1 rfl (Nat.le_of_ble_eq_true rfl) ⟨Nat.zero_le _, Nat.zero_le _⟩ dX2_concept_6 ?_
  refine lv_aload_n hx hb dX2_concept_9 rfl (lv_at hl 0 rfl) ?_
  refine g_get hx hb hts hown hG.1 0 0 (by decide) (v := .ref (w.2.2.2 1)) rfl rfl gin2 (by decide) gm_155 (rfl) dX2_concept_10 ?_
  refine lv_iload_n hx hb dX2_concept_13 rfl (lv_at hl 1 rfl) ?_
  refine g_callW (As := [.int (nI x)]) (rest := []) G.1 hG 1 (by decide) rfl rfl ok_X0_addConcept gm_179 gm_180 gm_178 (c_X0_addConcept l w f (nI x) hI (h2)) ⟨rfl, rfl⟩ ⟨Nat.le_of_ble_eq_true rfl, Nat.le_of_ble_eq_true rfl⟩ rfl hl.1 rfl (Nat.le_of_ble_eq_true rfl) ⟨Nat.zero_le _, Nat.zero_le _⟩ dX2_concept_14 (fun v f14 H locs hp hG => ?_)
  obtain ⟨rfl, rfl⟩ := hp
  exact g_iretW G hG (⟨rfl, rfl⟩) dX2_concept_17
theorem ok_X2_term : gOK yX2_term cX2_term 4 (some .int) 3 := ⟨gm_409, gm_18, by decide +kernel⟩
set_option maxRecDepth 100000 in
set_option maxHeartbeats 4000000 in
theorem c_X2_term (l : Launch) (w : GP) (f : CS) (c : Nat) (g : Nat) (x : Nat) (hI : gI f) (h : c < nC f) (h2 : g < 3) (h3 : x < 20) (h4 : nT f < 24) (h5 : ¬ hasT f (nI c) (nI g) (nI x) = true) : Met l yX2_term (gws yX2_term cX2_term 4 (some .int)) ({ frames := 2, cells := 0, slots := 0, locals := 42 }) (gPc w f [.ref (w.2.2.2 0), .int (nI c), .int (nI g), .int (nI x)]) (gWr w (fun v_ f_ => v_ = some (.int (nI (nT f))) ∧ f_ = adT f (nI c) (nI g) (nI x))) 0 0 (gA w) := by
  refine g_read (by decide) (Nat.le_of_ble_eq_true rfl) ?_
  intro P_ E_ S_ M_ B_ T_ C_ ls G hV hl
  obtain ⟨hx, hb, hml, hown, hts⟩ := id G.1
  obtain ⟨⟨hT, hT24⟩, ⟨hC, hC12⟩, ⟨hD, hD6⟩, hLn⟩ := id hI
  have hl : lv_has ls 4 [(0, .ref (w.2.2.2 0)), (1, .int (nI c)), (2, .int (nI g)), (3, .int (nI x))] := hl
  have hG := hV.start
  obtain ⟨H, hH⟩ : ∃ H, H = S_.heap := ⟨_, rfl⟩
  obtain ⟨locs, hL⟩ : ∃ L : List Loc, L = [] := ⟨_, rfl⟩
  rw [← hH, ← hL] at hG
  suffices K : ∀ (H : Heap) (locs : List Loc), GS w (gA w) S_ H locs f → W P_ l E_ _ S_ M_ _ B_ T_ C_ H locs 0 0 _ (F0 M_ 0 ls []) from by have := K H locs hG; rw [hH, hL] at this; exact this
  clear hG hH hL; intro H locs hG
  refine lv_aload_n hx hb dX2_term_0 rfl (lv_at hl 0 rfl) ?_
  refine lv_iload_n hx hb dX2_term_1 rfl (lv_at hl 1 rfl) ?_
  refine g_callVv (As := [.int (nI c)]) (rest := []) G.1 hG.1 0 (by decide) rfl rfl ok_X2_requireConcept gm_187 gm_188 gm_186 (c_X2_requireConcept l w f c hI (by omega)) ⟨rfl, rfl⟩ ⟨Nat.le_of_ble_eq_true rfl, Nat.le_of_ble_eq_true rfl⟩ rfl hl.1 rfl (Nat.le_of_ble_eq_true rfl) ⟨Nat.zero_le _, Nat.zero_le _⟩ dX2_term_2 ?_
  refine lv_aload_n hx hb dX2_term_5 rfl (lv_at hl 0 rfl) ?_
  refine lv_iload_n hx hb dX2_term_6 rfl (lv_at hl 2 rfl) ?_
  refine g_callVv (As := [.int (nI g)]) (rest := []) G.1 hG.1 0 (by decide) rfl rfl ok_X2_requireLanguage gm_191 gm_192 gm_190 (c_X2_requireLanguage l w f g hI (by omega)) ⟨rfl, rfl⟩ ⟨Nat.le_of_ble_eq_true rfl, Nat.le_of_ble_eq_true rfl⟩ rfl hl.1 rfl (Nat.le_of_ble_eq_true rfl) ⟨Nat.zero_le _, Nat.zero_le _⟩ dX2_term_7 ?_
  refine lv_iload_n hx hb dX2_term_10 rfl (lv_at hl 3 rfl) ?_
  refine lv_if_lt (tgt := 20) hx hb dX2_term_11 (by decide) (fun c11 => ?_) (fun c11 => ?_)
  · skip
    rw [show (0 : Int32) = nI 0 from rfl] at c11
    have c11 : x < 0 := (g_lt (by omega) (by omega)).mp c11
    exfalso; omega
  · skip
    rw [show (0 : Int32) = nI 0 from rfl] at c11
    have c11 : ¬ (x < 0) := fun q => c11 ((g_lt (by omega) (by omega)).mpr q)
    refine lv_iload_n hx hb dX2_term_14 rfl (lv_at hl 3 rfl) ?_
    refine lv_bipush (v := nI 20) hx hb dX2_term_15 (by decide) ?_
    refine lv_icmp_lt (tgt := 30) hx hb dX2_term_17 (by decide) (fun c17 => ?_) (fun c17 => ?_)
    · skip
      have c17 : x < 20 := (g_lt (by omega) (by omega)).mp c17
      refine lv_aload_n hx hb dX2_term_30 rfl (lv_at hl 0 rfl) ?_
      refine g_get hx hb hts hown hG.1 0 0 (by decide) (v := .ref (w.2.2.2 1)) rfl rfl gin2 (by decide) gm_155 (rfl) dX2_term_31 ?_
      refine g_get hx hb hts hown hG.1 1 1 (by decide) (v := .int (nI (nT f))) rfl rfl gin0 (by decide) gm_185 (by rw [← hT]; rfl) dX2_term_34 ?_
      refine lv_bipush (v := nI 24) hx hb dX2_term_37 (by decide) ?_
      refine lv_icmp_ge (tgt := 55) hx hb dX2_term_39 (by decide) (fun c39 => ?_) (fun c39 => ?_)
      · skip
        have c39 : 24 ≤ (nT f) := (g_le (by omega) (by omega)).mp c39
        exfalso; omega
      · skip
        have c39 : ¬ (24 ≤ (nT f)) := fun q => c39 ((g_le (by omega) (by omega)).mpr q)
        refine lv_aload_n hx hb dX2_term_42 rfl (lv_at hl 0 rfl) ?_
        refine g_get hx hb hts hown hG.1 0 0 (by decide) (v := .ref (w.2.2.2 1)) rfl rfl gin2 (by decide) gm_155 (rfl) dX2_term_43 ?_
        refine lv_iload_n hx hb dX2_term_46 rfl (lv_at hl 1 rfl) ?_
        refine lv_iload_n hx hb dX2_term_47 rfl (lv_at hl 2 rfl) ?_
        refine lv_iload_n hx hb dX2_term_48 rfl (lv_at hl 3 rfl) ?_
        refine g_callV (As := [.int (nI c), .int (nI g), .int (nI x)]) (rest := []) G.1 hG.1 1 (by decide) rfl rfl ok_X0_hasTerm gm_44 gm_45 gm_194 (c_X0_hasTerm l w f (nI c) (nI g) (nI x) hI ) ⟨rfl, rfl⟩ ⟨Nat.le_of_ble_eq_true rfl, Nat.le_of_ble_eq_true rfl⟩ rfl hl.1 rfl (Nat.le_of_ble_eq_true rfl) ⟨Nat.zero_le _, Nat.zero_le _⟩ dX2_term_49 ?_
        refine lv_if_eq (tgt := 65) hx hb dX2_term_52 (by decide) (fun c52 => ?_) (fun c52 => ?_)
        · skip
          have c52 : ¬ (hasT f (nI c) (nI g) (nI x) = true) := g_if0.mp c52
          refine lv_aload_n hx hb dX2_term_65 rfl (lv_at hl 0 rfl) ?_
          refine g_get hx hb hts hown hG.1 0 0 (by decide) (v := .ref (w.2.2.2 1)) rfl rfl gin2 (by decide) gm_155 (rfl) dX2_term_66 ?_
          refine lv_iload_n hx hb dX2_term_69 rfl (lv_at hl 1 rfl) ?_
          refine lv_iload_n hx hb dX2_term_70 rfl (lv_at hl 2 rfl) ?_
          refine lv_iload_n hx hb dX2_term_71 rfl (lv_at hl 3 rfl) ?_
          refine g_callW (As := [.int (nI c), .int (nI g), .int (nI x)]) (rest := []) G.1 hG 1 (by decide) rfl rfl ok_X0_addTerm gm_196 gm_197 gm_195 (c_X0_addTerm l w f (nI c) (nI g) (nI x) hI (by omega)) ⟨rfl, rfl⟩ ⟨Nat.le_of_ble_eq_true rfl, Nat.le_of_ble_eq_true rfl⟩ rfl hl.1 rfl (Nat.le_of_ble_eq_true rfl) ⟨Nat.zero_le _, Nat.zero_le _⟩ dX2_term_72 (fun v f72 H locs hp hG => ?_)
          obtain ⟨rfl, rfl⟩ := hp
          exact g_iretW G hG (⟨rfl, rfl⟩) dX2_term_75
        · skip
          have c52 : hasT f (nI c) (nI g) (nI x) = true := g_if1.mp c52
          exact absurd c52 h5
    · skip
      have c17 : ¬ (x < 20) := fun q => c17 ((g_lt (by omega) (by omega)).mpr q)
      exfalso; omega
theorem ok_X2_vote : gOK yX2_vote cX2_vote 5 (some .int) 3 := ⟨gm_412, gm_18, by decide +kernel⟩
set_option maxRecDepth 100000 in
set_option maxHeartbeats 4000000 in
theorem c_X2_vote (l : Launch) (w : GP) (f : CS) (t : Nat) (v : Nat) (b : Prop) [Decidable b] (hI : gI f) (h : t < nT f) (h2 : v < 5) (h3 : f 5 t = nI 0) (h4 : ¬ hs (f 6 t ||| f 7 t) (nI v) = true) : Met l yX2_vote (gws yX2_vote cX2_vote 5 (some .int)) ({ frames := 6, cells := 0, slots := 0, locals := 148 }) (gPc w f [.ref (w.2.2.2 0), .int (nI t), .int (nI v), .int (if b then 1 else 0)]) (gWr w (fun v_ f_ => v_ = some (.int (avF f t (nI v) b 5 t)) ∧ f_ = voF f t (nI v) b)) 0 0 (gA w) := by
  refine g_read (by decide) (Nat.le_of_ble_eq_true rfl) ?_
  intro P_ E_ S_ M_ B_ T_ C_ ls G hV hl
  obtain ⟨hx, hb, hml, hown, hts⟩ := id G.1
  obtain ⟨⟨hT, hT24⟩, ⟨hC, hC12⟩, ⟨hD, hD6⟩, hLn⟩ := id hI
  have hl : lv_has ls 5 [(0, .ref (w.2.2.2 0)), (1, .int (nI t)), (2, .int (nI v)), (3, .int (if b then 1 else 0))] := hl
  have hG := hV.start
  obtain ⟨H, hH⟩ : ∃ H, H = S_.heap := ⟨_, rfl⟩
  obtain ⟨locs, hL⟩ : ∃ L : List Loc, L = [] := ⟨_, rfl⟩
  rw [← hH, ← hL] at hG
  suffices K : ∀ (H : Heap) (locs : List Loc), GS w (gA w) S_ H locs f → W P_ l E_ _ S_ M_ _ B_ T_ C_ H locs 0 0 _ (F0 M_ 0 ls []) from by have := K H locs hG; rw [hH, hL] at this; exact this
  clear hG hH hL; intro H locs hG
  refine lv_aload_n hx hb dX2_vote_0 rfl (lv_at hl 0 rfl) ?_
  refine lv_iload_n hx hb dX2_vote_1 rfl (lv_at hl 1 rfl) ?_
  refine g_callVv (As := [.int (nI t)]) (rest := []) G.1 hG.1 0 (by decide) rfl rfl ok_X2_requireTerm gm_208 gm_209 gm_207 (c_X2_requireTerm l w f t hI (by omega)) ⟨rfl, rfl⟩ ⟨Nat.le_of_ble_eq_true rfl, Nat.le_of_ble_eq_true rfl⟩ rfl hl.1 rfl (Nat.le_of_ble_eq_true rfl) ⟨Nat.zero_le _, Nat.zero_le _⟩ dX2_vote_2 ?_
  refine lv_iload_n hx hb dX2_vote_5 rfl (lv_at hl 2 rfl) ?_
  refine lv_if_lt (tgt := 14) hx hb dX2_vote_6 (by decide) (fun c6 => ?_) (fun c6 => ?_)
  · skip
    rw [show (0 : Int32) = nI 0 from rfl] at c6
    have c6 : v < 0 := (g_lt (by omega) (by omega)).mp c6
    exfalso; omega
  · skip
    rw [show (0 : Int32) = nI 0 from rfl] at c6
    have c6 : ¬ (v < 0) := fun q => c6 ((g_lt (by omega) (by omega)).mpr q)
    refine lv_iload_n hx hb dX2_vote_9 rfl (lv_at hl 2 rfl) ?_
    refine lv_iconst (v := nI 5) hx hb dX2_vote_10 (by decide) ?_
    refine lv_icmp_lt (tgt := 24) hx hb dX2_vote_11 (by decide) (fun c11 => ?_) (fun c11 => ?_)
    · skip
      have c11 : v < 5 := (g_lt (by omega) (by omega)).mp c11
      refine lv_aload_n hx hb dX2_vote_24 rfl (lv_at hl 0 rfl) ?_
      refine g_get hx hb hts hown hG.1 0 0 (by decide) (v := .ref (w.2.2.2 1)) rfl rfl gin2 (by decide) gm_155 (rfl) dX2_vote_25 ?_
      refine g_get hx hb hts hown hG.1 1 6 (by decide) (v := .ref (w.2.2.2 7)) rfl rfl gin0 (by decide) gm_206 (rfl) dX2_vote_28 ?_
      refine lv_iload_n hx hb dX2_vote_31 rfl (lv_at hl 1 rfl) ?_
      refine g_ialn (a := 5) (n := 24) hx hb hG.1 7 (by decide) (by decide) rfl rfl (i := t) (by omega) dX2_vote_32 ?_
      refine lv_if_ne (tgt := 48) hx hb dX2_vote_33 (by decide) (fun c33 => ?_) (fun c33 => ?_)
      · skip
        exact absurd h3 c33
      · skip
        refine lv_aload_n hx hb dX2_vote_36 rfl (lv_at hl 0 rfl) ?_
        refine g_get hx hb hts hown hG.1 0 0 (by decide) (v := .ref (w.2.2.2 1)) rfl rfl gin2 (by decide) gm_155 (rfl) dX2_vote_37 ?_
        refine lv_iload_n hx hb dX2_vote_40 rfl (lv_at hl 1 rfl) ?_
        refine lv_iload_n hx hb dX2_vote_41 rfl (lv_at hl 2 rfl) ?_
        refine g_callV (As := [.int (nI t), .int (nI v)]) (rest := []) G.1 hG.1 1 (by decide) rfl rfl ok_X0_hasVoted gm_212 gm_213 gm_211 (c_X0_hasVoted l w f t (nI v) hI (by omega)) ⟨rfl, rfl⟩ ⟨Nat.le_of_ble_eq_true rfl, Nat.le_of_ble_eq_true rfl⟩ rfl hl.1 rfl (Nat.le_of_ble_eq_true rfl) ⟨Nat.zero_le _, Nat.zero_le _⟩ dX2_vote_42 ?_
        refine lv_if_eq (tgt := 58) hx hb dX2_vote_45 (by decide) (fun c45 => ?_) (fun c45 => ?_)
        · skip
          have c45 : ¬ (hs (f 6 t ||| f 7 t) (nI v) = true) := g_if0.mp c45
          refine lv_aload_n hx hb dX2_vote_58 rfl (lv_at hl 0 rfl) ?_
          refine g_get hx hb hts hown hG.1 0 0 (by decide) (v := .ref (w.2.2.2 1)) rfl rfl gin2 (by decide) gm_155 (rfl) dX2_vote_59 ?_
          refine lv_iload_n hx hb dX2_vote_62 rfl (lv_at hl 1 rfl) ?_
          refine lv_iload_n hx hb dX2_vote_63 rfl (lv_at hl 2 rfl) ?_
          refine lv_iload_n hx hb dX2_vote_64 rfl (lv_at hl 3 rfl) ?_
          refine g_callW (As := [.int (nI t), .int (nI v), .int (if b then 1 else 0)]) (rest := []) G.1 hG 1 (by decide) rfl rfl ok_X0_addVote gm_216 gm_217 gm_215 (c_X0_addVote l w f t (nI v) b hI (by omega)) ⟨rfl, rfl⟩ ⟨Nat.le_of_ble_eq_true rfl, Nat.le_of_ble_eq_true rfl⟩ rfl hl.1 rfl (Nat.le_of_ble_eq_true rfl) ⟨Nat.zero_le _, Nat.zero_le _⟩ dX2_vote_65 (fun v f65 H locs hp hG => ?_)
          obtain ⟨rfl, rfl⟩ := hp
          refine lv_istore (lv' := [(4, .int (avF f t (nI v) b 5 t)), (0, .ref (w.2.2.2 0)), (1, .int (nI t)), (2, .int (nI v)), (3, .int (if b then 1 else 0))]) hx hb dX2_vote_68 hl (by decide) rfl (fun ls hl => ?_)
          refine lv_iload hx hb dX2_vote_70 (lv_at hl 0 rfl) ?_
          refine lv_iconst (v := nI 1) hx hb dX2_vote_72 (by decide) ?_
          refine lv_icmp_ne (tgt := 80) hx hb dX2_vote_73 (by decide) (fun c73 => ?_) (fun c73 => ?_)
          · skip
            refine lv_iload hx hb dX2_vote_80 (lv_at hl 0 rfl) ?_
            exact g_iretW G hG (⟨rfl, by unfold voF; rw [if_neg c73]⟩) dX2_vote_82
          · skip
            refine lv_aload_n hx hb dX2_vote_76 rfl (lv_at hl 1 rfl) ?_
            refine g_callW (As := []) (rest := []) G.1 hG 0 (by decide) rfl rfl ok_X2_readAnew gm_220 gm_221 gm_219 (c_X2_readAnew l w (avF f t (nI v) b)  (avI hI) ) ⟨rfl, rfl⟩ ⟨Nat.le_of_ble_eq_true rfl, Nat.le_of_ble_eq_true rfl⟩ rfl hl.1 rfl (Nat.le_of_ble_eq_true rfl) ⟨Nat.zero_le _, Nat.zero_le _⟩ dX2_vote_77 (fun v f77 H locs hp hG => ?_)
            obtain ⟨rfl, rfl⟩ := hp
            refine lv_iload hx hb dX2_vote_80 (lv_at hl 0 rfl) ?_
            exact g_iretW G hG (⟨rfl, by unfold voF; rw [if_pos c73]⟩) dX2_vote_82
        · skip
          have c45 : hs (f 6 t ||| f 7 t) (nI v) = true := g_if1.mp c45
          exact absurd c45 h4
    · skip
      have c11 : ¬ (v < 5) := fun q => c11 ((g_lt (by omega) (by omega)).mpr q)
      exfalso; omega
theorem ok_X2_prefer : gOK yX2_prefer cX2_prefer 2 (some .int) 1 := ⟨gm_415, gm_18, by decide +kernel⟩
set_option maxRecDepth 100000 in
set_option maxHeartbeats 4000000 in
theorem c_X2_prefer (l : Launch) (w : GP) (f : CS) (t : Nat) (hI : gI f) (h : t < nT f) (h3 : f 5 t = nI 1) : Met l yX2_prefer (gws yX2_prefer cX2_prefer 2 (some .int)) ({ frames := 2, cells := 0, slots := 0, locals := 45 }) (gPc w f [.ref (w.2.2.2 0), .int (nI t)]) (gWr w (fun v_ f_ => v_ = some (.int (prI f (f 2 t) (f 3 t))) ∧ f_ = raF f t)) 0 0 (gA w) := by
  refine g_read (by decide) (Nat.le_of_ble_eq_true rfl) ?_
  intro P_ E_ S_ M_ B_ T_ C_ ls G hV hl
  obtain ⟨hx, hb, hml, hown, hts⟩ := id G.1
  obtain ⟨⟨hT, hT24⟩, ⟨hC, hC12⟩, ⟨hD, hD6⟩, hLn⟩ := id hI
  have hl : lv_has ls 2 [(0, .ref (w.2.2.2 0)), (1, .int (nI t))] := hl
  have hG := hV.start
  obtain ⟨H, hH⟩ : ∃ H, H = S_.heap := ⟨_, rfl⟩
  obtain ⟨locs, hL⟩ : ∃ L : List Loc, L = [] := ⟨_, rfl⟩
  rw [← hH, ← hL] at hG
  suffices K : ∀ (H : Heap) (locs : List Loc), GS w (gA w) S_ H locs f → W P_ l E_ _ S_ M_ _ B_ T_ C_ H locs 0 0 _ (F0 M_ 0 ls []) from by have := K H locs hG; rw [hH, hL] at this; exact this
  clear hG hH hL; intro H locs hG
  refine lv_aload_n hx hb dX2_prefer_0 rfl (lv_at hl 0 rfl) ?_
  refine lv_iload_n hx hb dX2_prefer_1 rfl (lv_at hl 1 rfl) ?_
  refine g_callVv (As := [.int (nI t)]) (rest := []) G.1 hG.1 0 (by decide) rfl rfl ok_X2_requireTerm gm_208 gm_209 gm_207 (c_X2_requireTerm l w f t hI (by omega)) ⟨rfl, rfl⟩ ⟨Nat.le_of_ble_eq_true rfl, Nat.le_of_ble_eq_true rfl⟩ rfl hl.1 rfl (Nat.le_of_ble_eq_true rfl) ⟨Nat.zero_le _, Nat.zero_le _⟩ dX2_prefer_2 ?_
  refine lv_aload_n hx hb dX2_prefer_5 rfl (lv_at hl 0 rfl) ?_
  refine g_get hx hb hts hown hG.1 0 0 (by decide) (v := .ref (w.2.2.2 1)) rfl rfl gin2 (by decide) gm_155 (rfl) dX2_prefer_6 ?_
  refine g_get hx hb hts hown hG.1 1 6 (by decide) (v := .ref (w.2.2.2 7)) rfl rfl gin0 (by decide) gm_206 (rfl) dX2_prefer_9 ?_
  refine lv_iload_n hx hb dX2_prefer_12 rfl (lv_at hl 1 rfl) ?_
  refine g_ialn (a := 5) (n := 24) hx hb hG.1 7 (by decide) (by decide) rfl rfl (i := t) (by omega) dX2_prefer_13 ?_
  refine lv_iconst (v := nI 1) hx hb dX2_prefer_14 (by decide) ?_
  refine lv_icmp_eq (tgt := 28) hx hb dX2_prefer_15 (by decide) (fun c15 => ?_) (fun c15 => ?_)
  · skip
    refine lv_aload_n hx hb dX2_prefer_28 rfl (lv_at hl 0 rfl) ?_
    refine g_get hx hb hts hown hG.1 0 0 (by decide) (v := .ref (w.2.2.2 1)) rfl rfl gin2 (by decide) gm_155 (rfl) dX2_prefer_29 ?_
    refine lv_iload_n hx hb dX2_prefer_32 rfl (lv_at hl 1 rfl) ?_
    refine g_callW (As := [.int (nI t)]) (rest := []) G.1 hG 1 (by decide) rfl rfl ok_X0_raise gm_224 gm_225 gm_223 (c_X0_raise l w f t hI (by omega)) ⟨rfl, rfl⟩ ⟨Nat.le_of_ble_eq_true rfl, Nat.le_of_ble_eq_true rfl⟩ rfl hl.1 rfl (Nat.le_of_ble_eq_true rfl) ⟨Nat.zero_le _, Nat.zero_le _⟩ dX2_prefer_33 (fun v f33 H locs hp hG => ?_)
    obtain ⟨rfl, rfl⟩ := hp
    exact g_iretW G hG (⟨rfl, rfl⟩) dX2_prefer_36
  · skip
    exact absurd h3 c15
theorem ok_X2_ban : gOK yX2_ban cX2_ban 3 (some .int) 2 := ⟨gm_418, gm_18, by decide +kernel⟩
set_option maxRecDepth 100000 in
set_option maxHeartbeats 4000000 in
theorem c_X2_ban (l : Launch) (w : GP) (f : CS) (t : Nat) (g : Nat) (hI : gI f) (h : t < nT f) (h2 : g ≤ 30) (h3 : canB f t) : Met l yX2_ban (gws yX2_ban cX2_ban 3 (some .int)) ({ frames := 5, cells := 0, slots := 0, locals := 117 }) (gPc w f [.ref (w.2.2.2 0), .int (nI t), .int (nI g)]) (gWr w (fun v_ f_ => v_ = some (.int (nI (roN (bn1 f t (nI g)) (due (bn1 f t (nI g)) (f 0 3))))) ∧ f_ = bnF f t (nI g))) 0 0 (gA w) := by
  refine g_read (by decide) (Nat.le_of_ble_eq_true rfl) ?_
  intro P_ E_ S_ M_ B_ T_ C_ ls G hV hl
  obtain ⟨hx, hb, hml, hown, hts⟩ := id G.1
  obtain ⟨⟨hT, hT24⟩, ⟨hC, hC12⟩, ⟨hD, hD6⟩, hLn⟩ := id hI
  have hl : lv_has ls 3 [(0, .ref (w.2.2.2 0)), (1, .int (nI t)), (2, .int (nI g))] := hl
  have hG := hV.start
  obtain ⟨H, hH⟩ : ∃ H, H = S_.heap := ⟨_, rfl⟩
  obtain ⟨locs, hL⟩ : ∃ L : List Loc, L = [] := ⟨_, rfl⟩
  rw [← hH, ← hL] at hG
  suffices K : ∀ (H : Heap) (locs : List Loc), GS w (gA w) S_ H locs f → W P_ l E_ _ S_ M_ _ B_ T_ C_ H locs 0 0 _ (F0 M_ 0 ls []) from by have := K H locs hG; rw [hH, hL] at this; exact this
  clear hG hH hL; intro H locs hG
  refine lv_aload_n hx hb dX2_ban_0 rfl (lv_at hl 0 rfl) ?_
  refine lv_iload_n hx hb dX2_ban_1 rfl (lv_at hl 1 rfl) ?_
  refine g_callVv (As := [.int (nI t)]) (rest := []) G.1 hG.1 0 (by decide) rfl rfl ok_X2_requireTerm gm_208 gm_209 gm_207 (c_X2_requireTerm l w f t hI (by omega)) ⟨rfl, rfl⟩ ⟨Nat.le_of_ble_eq_true rfl, Nat.le_of_ble_eq_true rfl⟩ rfl hl.1 rfl (Nat.le_of_ble_eq_true rfl) ⟨Nat.zero_le _, Nat.zero_le _⟩ dX2_ban_2 ?_
  refine lv_iload_n hx hb dX2_ban_5 rfl (lv_at hl 2 rfl) ?_
  refine lv_if_lt (tgt := 15) hx hb dX2_ban_6 (by decide) (fun c6 => ?_) (fun c6 => ?_)
  · skip
    rw [show (0 : Int32) = nI 0 from rfl] at c6
    have c6 : g < 0 := (g_lt (by omega) (by omega)).mp c6
    exfalso; omega
  · skip
    rw [show (0 : Int32) = nI 0 from rfl] at c6
    have c6 : ¬ (g < 0) := fun q => c6 ((g_lt (by omega) (by omega)).mpr q)
    refine lv_iload_n hx hb dX2_ban_9 rfl (lv_at hl 2 rfl) ?_
    refine lv_bipush (v := nI 30) hx hb dX2_ban_10 (by decide) ?_
    refine lv_icmp_le (tgt := 25) hx hb dX2_ban_12 (by decide) (fun c12 => ?_) (fun c12 => ?_)
    · skip
      have c12 : g ≤ 30 := (g_le (by omega) (by omega)).mp c12
      refine lv_aload_n hx hb dX2_ban_25 rfl (lv_at hl 0 rfl) ?_
      refine g_get hx hb hts hown hG.1 0 0 (by decide) (v := .ref (w.2.2.2 1)) rfl rfl gin2 (by decide) gm_155 (rfl) dX2_ban_26 ?_
      refine lv_iload_n hx hb dX2_ban_29 rfl (lv_at hl 1 rfl) ?_
      refine g_callV (As := [.int (nI t)]) (rest := []) G.1 hG.1 1 (by decide) rfl rfl ok_X0_canBeBanned gm_228 gm_229 gm_227 (c_X0_canBeBanned l w f t hI (by omega)) ⟨rfl, rfl⟩ ⟨Nat.le_of_ble_eq_true rfl, Nat.le_of_ble_eq_true rfl⟩ rfl hl.1 rfl (Nat.le_of_ble_eq_true rfl) ⟨Nat.zero_le _, Nat.zero_le _⟩ dX2_ban_30 ?_
      refine lv_if_ne (tgt := 46) hx hb dX2_ban_33 (by decide) (fun c33 => ?_) (fun c33 => ?_)
      · skip
        have c33 : canB f t := g_if1.mp c33
        refine lv_aload_n hx hb dX2_ban_46 rfl (lv_at hl 0 rfl) ?_
        refine g_get hx hb hts hown hG.1 0 0 (by decide) (v := .ref (w.2.2.2 1)) rfl rfl gin2 (by decide) gm_155 (rfl) dX2_ban_47 ?_
        refine lv_iload_n hx hb dX2_ban_50 rfl (lv_at hl 1 rfl) ?_
        refine lv_aload_n hx hb dX2_ban_51 rfl (lv_at hl 0 rfl) ?_
        refine g_get hx hb hts hown hG.1 0 2 (by decide) (v := .int (f 0 3)) rfl rfl gin2 (by decide) gm_159 (rfl) dX2_ban_52 ?_
        refine lv_iload_n hx hb dX2_ban_55 rfl (lv_at hl 2 rfl) ?_
        refine g_callW (As := [.int (nI t), .int (f 0 3), .int (nI g)]) (rest := []) G.1 hG 1 (by decide) rfl rfl ok_X0_forbid gm_232 gm_233 gm_231 (c_X0_forbid l w f t (f 0 3) (nI g) hI (by omega)) ⟨rfl, rfl⟩ ⟨Nat.le_of_ble_eq_true rfl, Nat.le_of_ble_eq_true rfl⟩ rfl hl.1 rfl (Nat.le_of_ble_eq_true rfl) ⟨Nat.zero_le _, Nat.zero_le _⟩ dX2_ban_56 (fun v f56 H locs hp hG => ?_)
        obtain ⟨rfl, rfl⟩ := hp
        refine lv_aload_n hx hb dX2_ban_59 rfl (lv_at hl 0 rfl) ?_
        refine g_get hx hb hts hown hG.1 0 1 (by decide) (v := .ref (w.2.2.2 2)) rfl rfl gin2 (by decide) gm_158 (rfl) dX2_ban_60 ?_
        refine lv_aload_n hx hb dX2_ban_63 rfl (lv_at hl 0 rfl) ?_
        refine g_get hx hb hts hown hG.1 0 2 (by decide) (v := .int (f 0 3)) rfl rfl gin2 (by decide) gm_159 (by show some (Value.int ((foF f t (f 0 3) (nI g)) 0 3)) = some (.int (f 0 3)); rw [show (foF f t (f 0 3) (nI g)) 0 3 = f 0 3 from by simp [foF, gset]]) dX2_ban_64 ?_
        refine g_callW (As := [.int (f 0 3)]) (rest := []) G.1 hG 2 (by decide) rfl rfl ok_X1_reopenDue gm_203 gm_204 gm_202 (c_X1_reopenDue l w (foF f t (f 0 3) (nI g)) (f 0 3) (foI hI) ) ⟨rfl, rfl⟩ ⟨Nat.le_of_ble_eq_true rfl, Nat.le_of_ble_eq_true rfl⟩ rfl hl.1 rfl (Nat.le_of_ble_eq_true rfl) ⟨Nat.zero_le _, Nat.zero_le _⟩ dX2_ban_67 (fun v f67 H locs hp hG => ?_)
        obtain ⟨rfl, rfl⟩ := hp
        exact g_iretW G hG (⟨rfl, rfl⟩) dX2_ban_70
      · skip
        have c33 : ¬ (canB f t) := g_if0.mp c33
        exact absurd h3 c33
    · skip
      have c12 : ¬ (g ≤ 30) := fun q => c12 ((g_le (by omega) (by omega)).mpr q)
      exfalso; omega
theorem ok_X2_allow : gOK yX2_allow cX2_allow 2 (some .int) 1 := ⟨gm_421, gm_18, by decide +kernel⟩
set_option maxRecDepth 100000 in
set_option maxHeartbeats 4000000 in
theorem c_X2_allow (l : Launch) (w : GP) (f : CS) (t : Nat) (hI : gI f) (h : t < nT f) (h3 : f 5 t = nI 3) : Met l yX2_allow (gws yX2_allow cX2_allow 2 (some .int)) ({ frames := 2, cells := 0, slots := 0, locals := 42 }) (gPc w f [.ref (w.2.2.2 0), .int (nI t)]) (gWr w (fun v_ f_ => v_ = some (.int (f 0 3 - f 8 t)) ∧ f_ = gset f 5 t (nI 1))) 0 0 (gA w) := by
  refine g_read (by decide) (Nat.le_of_ble_eq_true rfl) ?_
  intro P_ E_ S_ M_ B_ T_ C_ ls G hV hl
  obtain ⟨hx, hb, hml, hown, hts⟩ := id G.1
  obtain ⟨⟨hT, hT24⟩, ⟨hC, hC12⟩, ⟨hD, hD6⟩, hLn⟩ := id hI
  have hl : lv_has ls 2 [(0, .ref (w.2.2.2 0)), (1, .int (nI t))] := hl
  have hG := hV.start
  obtain ⟨H, hH⟩ : ∃ H, H = S_.heap := ⟨_, rfl⟩
  obtain ⟨locs, hL⟩ : ∃ L : List Loc, L = [] := ⟨_, rfl⟩
  rw [← hH, ← hL] at hG
  suffices K : ∀ (H : Heap) (locs : List Loc), GS w (gA w) S_ H locs f → W P_ l E_ _ S_ M_ _ B_ T_ C_ H locs 0 0 _ (F0 M_ 0 ls []) from by have := K H locs hG; rw [hH, hL] at this; exact this
  clear hG hH hL; intro H locs hG
  refine lv_aload_n hx hb dX2_allow_0 rfl (lv_at hl 0 rfl) ?_
  refine lv_iload_n hx hb dX2_allow_1 rfl (lv_at hl 1 rfl) ?_
  refine g_callVv (As := [.int (nI t)]) (rest := []) G.1 hG.1 0 (by decide) rfl rfl ok_X2_requireTerm gm_208 gm_209 gm_207 (c_X2_requireTerm l w f t hI (by omega)) ⟨rfl, rfl⟩ ⟨Nat.le_of_ble_eq_true rfl, Nat.le_of_ble_eq_true rfl⟩ rfl hl.1 rfl (Nat.le_of_ble_eq_true rfl) ⟨Nat.zero_le _, Nat.zero_le _⟩ dX2_allow_2 ?_
  refine lv_aload_n hx hb dX2_allow_5 rfl (lv_at hl 0 rfl) ?_
  refine g_get hx hb hts hown hG.1 0 0 (by decide) (v := .ref (w.2.2.2 1)) rfl rfl gin2 (by decide) gm_155 (rfl) dX2_allow_6 ?_
  refine g_get hx hb hts hown hG.1 1 6 (by decide) (v := .ref (w.2.2.2 7)) rfl rfl gin0 (by decide) gm_206 (rfl) dX2_allow_9 ?_
  refine lv_iload_n hx hb dX2_allow_12 rfl (lv_at hl 1 rfl) ?_
  refine g_ialn (a := 5) (n := 24) hx hb hG.1 7 (by decide) (by decide) rfl rfl (i := t) (by omega) dX2_allow_13 ?_
  refine lv_iconst (v := nI 3) hx hb dX2_allow_14 (by decide) ?_
  refine lv_icmp_eq (tgt := 28) hx hb dX2_allow_15 (by decide) (fun c15 => ?_) (fun c15 => ?_)
  · skip
    refine lv_aload_n hx hb dX2_allow_28 rfl (lv_at hl 0 rfl) ?_
    refine g_get hx hb hts hown hG.1 0 0 (by decide) (v := .ref (w.2.2.2 1)) rfl rfl gin2 (by decide) gm_155 (rfl) dX2_allow_29 ?_
    refine lv_iload_n hx hb dX2_allow_32 rfl (lv_at hl 1 rfl) ?_
    refine lv_aload_n hx hb dX2_allow_33 rfl (lv_at hl 0 rfl) ?_
    refine g_get hx hb hts hown hG.1 0 2 (by decide) (v := .int (f 0 3)) rfl rfl gin2 (by decide) gm_159 (rfl) dX2_allow_34 ?_
    refine g_callW (As := [.int (nI t), .int (f 0 3)]) (rest := []) G.1 hG 1 (by decide) rfl rfl ok_X0_permit gm_236 gm_237 gm_235 (c_X0_permit l w f t (f 0 3) hI (by omega)) ⟨rfl, rfl⟩ ⟨Nat.le_of_ble_eq_true rfl, Nat.le_of_ble_eq_true rfl⟩ rfl hl.1 rfl (Nat.le_of_ble_eq_true rfl) ⟨Nat.zero_le _, Nat.zero_le _⟩ dX2_allow_37 (fun v f37 H locs hp hG => ?_)
    obtain ⟨rfl, rfl⟩ := hp
    exact g_iretW G hG (⟨rfl, rfl⟩) dX2_allow_40
  · skip
    exact absurd h3 c15
theorem ok_X2_split : gOK yX2_split cX2_split 6 (some .int) 3 := ⟨gm_430, gm_18, by decide +kernel⟩
set_option maxRecDepth 100000 in
set_option maxHeartbeats 4000000 in
theorem c_X2_split (l : Launch) (w : GP) (f : CS) (c : Nat) (s : Int32) (x : Nat) (hI : gI f) (h : c < nC f) (h2 : ¬ s < nI 1) (h3 : s &&& (ofC f (nI c) ^^^ (-1)) = 0) (h4 : ¬ s = ofC f (nI c)) (h5 : x < 4) (h6 : nC f < 12) : Met l yX2_split (gws yX2_split cX2_split 6 (some .int)) ({ frames := 6, cells := 0, slots := 0, locals := 148 }) (gPc w f [.ref (w.2.2.2 0), .int (nI c), .int s, .int (nI x)]) (gWr w (fun v_ f_ => v_ = some (.int (nI (nC f))) ∧ f_ = spF f s x)) 0 0 (gA w) := by
  refine g_read (by decide) (Nat.le_of_ble_eq_true rfl) ?_
  intro P_ E_ S_ M_ B_ T_ C_ ls G hV hl
  obtain ⟨hx, hb, hml, hown, hts⟩ := id G.1
  obtain ⟨⟨hT, hT24⟩, ⟨hC, hC12⟩, ⟨hD, hD6⟩, hLn⟩ := id hI
  have hl : lv_has ls 6 [(0, .ref (w.2.2.2 0)), (1, .int (nI c)), (2, .int s), (3, .int (nI x))] := hl
  have hG := hV.start
  obtain ⟨H, hH⟩ : ∃ H, H = S_.heap := ⟨_, rfl⟩
  obtain ⟨locs, hL⟩ : ∃ L : List Loc, L = [] := ⟨_, rfl⟩
  rw [← hH, ← hL] at hG
  suffices K : ∀ (H : Heap) (locs : List Loc), GS w (gA w) S_ H locs f → W P_ l E_ _ S_ M_ _ B_ T_ C_ H locs 0 0 _ (F0 M_ 0 ls []) from by have := K H locs hG; rw [hH, hL] at this; exact this
  clear hG hH hL; intro H locs hG
  refine lv_aload_n hx hb dX2_split_0 rfl (lv_at hl 0 rfl) ?_
  refine lv_iload_n hx hb dX2_split_1 rfl (lv_at hl 1 rfl) ?_
  refine g_callVv (As := [.int (nI c)]) (rest := []) G.1 hG.1 0 (by decide) rfl rfl ok_X2_requireConcept gm_187 gm_188 gm_186 (c_X2_requireConcept l w f c hI (by omega)) ⟨rfl, rfl⟩ ⟨Nat.le_of_ble_eq_true rfl, Nat.le_of_ble_eq_true rfl⟩ rfl hl.1 rfl (Nat.le_of_ble_eq_true rfl) ⟨Nat.zero_le _, Nat.zero_le _⟩ dX2_split_2 ?_
  refine lv_aload_n hx hb dX2_split_5 rfl (lv_at hl 0 rfl) ?_
  refine g_get hx hb hts hown hG.1 0 0 (by decide) (v := .ref (w.2.2.2 1)) rfl rfl gin2 (by decide) gm_155 (rfl) dX2_split_6 ?_
  refine lv_iload_n hx hb dX2_split_9 rfl (lv_at hl 1 rfl) ?_
  refine g_callV (As := [.int (nI c)]) (rest := []) G.1 hG.1 1 (by decide) rfl rfl ok_X0_termsOf gm_52 gm_53 gm_255 (c_X0_termsOf l w f (nI c) hI ) ⟨rfl, rfl⟩ ⟨Nat.le_of_ble_eq_true rfl, Nat.le_of_ble_eq_true rfl⟩ rfl hl.1 rfl (Nat.le_of_ble_eq_true rfl) ⟨Nat.zero_le _, Nat.zero_le _⟩ dX2_split_10 ?_
  refine lv_istore (lv' := [(4, .int (ofC f (nI c))), (0, .ref (w.2.2.2 0)), (1, .int (nI c)), (2, .int s), (3, .int (nI x))]) hx hb dX2_split_13 hl (by decide) rfl (fun ls hl => ?_)
  refine lv_iload_n hx hb dX2_split_15 rfl (lv_at hl 3 rfl) ?_
  refine lv_iconst (v := nI 1) hx hb dX2_split_16 (by decide) ?_
  refine lv_icmp_lt (tgt := 35) hx hb dX2_split_17 (by decide) (fun c17 => ?_) (fun c17 => ?_)
  · skip
    exact absurd c17 h2
  · skip
    refine lv_iload_n hx hb dX2_split_20 rfl (lv_at hl 3 rfl) ?_
    refine lv_iload hx hb dX2_split_21 (lv_at hl 0 rfl) ?_
    refine lv_iconst (v := -1) hx hb dX2_split_23 (by decide) ?_
    refine lv_ixor hx hb dX2_split_24 ?_
    refine lv_iand hx hb dX2_split_25 ?_
    refine lv_if_ne (tgt := 35) hx hb dX2_split_26 (by decide) (fun c26 => ?_) (fun c26 => ?_)
    · skip
      exact absurd h3 c26
    · skip
      refine lv_iload_n hx hb dX2_split_29 rfl (lv_at hl 3 rfl) ?_
      refine lv_iload hx hb dX2_split_30 (lv_at hl 0 rfl) ?_
      refine lv_icmp_ne (tgt := 45) hx hb dX2_split_32 (by decide) (fun c32 => ?_) (fun c32 => ?_)
      · skip
        refine lv_aload_n hx hb dX2_split_45 rfl (lv_at hl 1 rfl) ?_
        refine lv_iload_n hx hb dX2_split_46 rfl (lv_at hl 4 rfl) ?_
        refine g_callVv (As := [.int (nI x)]) (rest := []) G.1 hG.1 0 (by decide) rfl rfl ok_X2_requireDomain gm_171 gm_172 gm_170 (c_X2_requireDomain l w f x hI (h5)) ⟨rfl, rfl⟩ ⟨Nat.le_of_ble_eq_true rfl, Nat.le_of_ble_eq_true rfl⟩ rfl hl.1 rfl (Nat.le_of_ble_eq_true rfl) ⟨Nat.zero_le _, Nat.zero_le _⟩ dX2_split_47 ?_
        refine lv_aload_n hx hb dX2_split_50 rfl (lv_at hl 1 rfl) ?_
        refine g_callVv (As := []) (rest := []) G.1 hG.1 0 (by decide) rfl rfl ok_X2_requireRoomForConcept gm_175 gm_176 gm_174 (c_X2_requireRoomForConcept l w f  hI (h6)) ⟨rfl, rfl⟩ ⟨Nat.le_of_ble_eq_true rfl, Nat.le_of_ble_eq_true rfl⟩ rfl hl.1 rfl (Nat.le_of_ble_eq_true rfl) ⟨Nat.zero_le _, Nat.zero_le _⟩ dX2_split_51 ?_
        refine lv_aload_n hx hb dX2_split_54 rfl (lv_at hl 1 rfl) ?_
        refine g_get hx hb hts hown hG.1 0 0 (by decide) (v := .ref (w.2.2.2 1)) rfl rfl gin2 (by decide) gm_155 (rfl) dX2_split_55 ?_
        refine lv_iload_n hx hb dX2_split_58 rfl (lv_at hl 4 rfl) ?_
        refine g_callW (As := [.int (nI x)]) (rest := []) G.1 hG 1 (by decide) rfl rfl ok_X0_addConcept gm_179 gm_180 gm_178 (c_X0_addConcept l w f (nI x) hI (h6)) ⟨rfl, rfl⟩ ⟨Nat.le_of_ble_eq_true rfl, Nat.le_of_ble_eq_true rfl⟩ rfl hl.1 rfl (Nat.le_of_ble_eq_true rfl) ⟨Nat.zero_le _, Nat.zero_le _⟩ dX2_split_59 (fun v f59 H locs hp hG => ?_)
        obtain ⟨rfl, rfl⟩ := hp
        refine lv_istore (lv' := [(5, .int (nI (nC f))), (4, .int (ofC f (nI c))), (0, .ref (w.2.2.2 0)), (1, .int (nI c)), (2, .int s), (3, .int (nI x))]) hx hb dX2_split_62 hl (by decide) rfl (fun ls hl => ?_)
        refine lv_aload_n hx hb dX2_split_64 rfl (lv_at hl 2 rfl) ?_
        refine g_get hx hb hts hown hG.1 0 0 (by decide) (v := .ref (w.2.2.2 1)) rfl rfl gin2 (by decide) gm_155 (rfl) dX2_split_65 ?_
        refine lv_iload_n hx hb dX2_split_68 rfl (lv_at hl 4 rfl) ?_
        refine lv_iload hx hb dX2_split_69 (lv_at hl 0 rfl) ?_
        refine g_callW (As := [.int s, .int (nI (nC f))]) (rest := []) G.1 hG 1 (by decide) rfl rfl ok_X0_move gm_56 gm_57 gm_261 (c_X0_move l w (adC f (nI x)) s (nI (nC f)) (adC_I hI h6) ) ⟨rfl, rfl⟩ ⟨Nat.le_of_ble_eq_true rfl, Nat.le_of_ble_eq_true rfl⟩ rfl hl.1 rfl (Nat.le_of_ble_eq_true rfl) ⟨Nat.zero_le _, Nat.zero_le _⟩ dX2_split_71 (fun v f71 H locs hp hG => ?_)
        obtain ⟨rfl, rfl⟩ := hp
        refine lv_aload_n hx hb dX2_split_74 rfl (lv_at hl 2 rfl) ?_
        refine g_callW (As := []) (rest := []) G.1 hG 0 (by decide) rfl rfl ok_X2_readAnew gm_220 gm_221 gm_219 (c_X2_readAnew l w (mvF (adC f (nI x)) s (nI (nC f)) (nT (adC f (nI x))))  (mvI (adC_I hI h6)) ) ⟨rfl, rfl⟩ ⟨Nat.le_of_ble_eq_true rfl, Nat.le_of_ble_eq_true rfl⟩ rfl hl.1 rfl (Nat.le_of_ble_eq_true rfl) ⟨Nat.zero_le _, Nat.zero_le _⟩ dX2_split_75 (fun v f75 H locs hp hG => ?_)
        obtain ⟨rfl, rfl⟩ := hp
        refine lv_iload hx hb dX2_split_78 (lv_at hl 0 rfl) ?_
        exact g_iretW G hG (⟨rfl, rfl⟩) dX2_split_80
      · skip
        exact absurd c32 h4
theorem ok_X2_join : gOK yX2_join cX2_join 4 (some .int) 2 := ⟨gm_427, gm_18, by decide +kernel⟩
set_option maxRecDepth 100000 in
set_option maxHeartbeats 4000000 in
theorem c_X2_join (l : Launch) (w : GP) (f : CS) (a : Nat) (b : Nat) (hI : gI f) (h : a < nC f) (h2 : b < nC f) (h3 : ¬ a = b) (h4 : canJ f (nI a) (nI b)) : Met l yX2_join (gws yX2_join cX2_join 4 (some .int)) ({ frames := 6, cells := 0, slots := 0, locals := 148 }) (gPc w f [.ref (w.2.2.2 0), .int (nI a), .int (nI b)]) (gWr w (fun v_ f_ => v_ = some (.int (nI (pcn (ofC (joF f a b) (nI (if b < a then b else a)))))) ∧ f_ = joF f a b)) 0 0 (gA w) := by
  refine g_read (by decide) (Nat.le_of_ble_eq_true rfl) ?_
  intro P_ E_ S_ M_ B_ T_ C_ ls G hV hl
  obtain ⟨hx, hb, hml, hown, hts⟩ := id G.1
  obtain ⟨⟨hT, hT24⟩, ⟨hC, hC12⟩, ⟨hD, hD6⟩, hLn⟩ := id hI
  have hl : lv_has ls 4 [(0, .ref (w.2.2.2 0)), (1, .int (nI a)), (2, .int (nI b))] := hl
  have hG := hV.start
  obtain ⟨H, hH⟩ : ∃ H, H = S_.heap := ⟨_, rfl⟩
  obtain ⟨locs, hL⟩ : ∃ L : List Loc, L = [] := ⟨_, rfl⟩
  rw [← hH, ← hL] at hG
  suffices K : ∀ (H : Heap) (locs : List Loc), GS w (gA w) S_ H locs f → W P_ l E_ _ S_ M_ _ B_ T_ C_ H locs 0 0 _ (F0 M_ 0 ls []) from by have := K H locs hG; rw [hH, hL] at this; exact this
  clear hG hH hL; intro H locs hG
  refine lv_aload_n hx hb dX2_join_0 rfl (lv_at hl 0 rfl) ?_
  refine lv_iload_n hx hb dX2_join_1 rfl (lv_at hl 1 rfl) ?_
  refine lv_iload_n hx hb dX2_join_2 rfl (lv_at hl 2 rfl) ?_
  refine g_callVv (As := [.int (nI a), .int (nI b)]) (rest := []) G.1 hG.1 0 (by decide) rfl rfl ok_X2_requireTwoConcepts gm_265 gm_266 gm_264 (c_X2_requireTwoConcepts l w f a b hI (by omega) (by omega) (by omega)) ⟨rfl, rfl⟩ ⟨Nat.le_of_ble_eq_true rfl, Nat.le_of_ble_eq_true rfl⟩ rfl hl.1 rfl (Nat.le_of_ble_eq_true rfl) ⟨Nat.zero_le _, Nat.zero_le _⟩ dX2_join_3 ?_
  refine lv_aload_n hx hb dX2_join_6 rfl (lv_at hl 0 rfl) ?_
  refine g_get hx hb hts hown hG.1 0 0 (by decide) (v := .ref (w.2.2.2 1)) rfl rfl gin2 (by decide) gm_155 (rfl) dX2_join_7 ?_
  refine lv_iload_n hx hb dX2_join_10 rfl (lv_at hl 1 rfl) ?_
  refine lv_iload_n hx hb dX2_join_11 rfl (lv_at hl 2 rfl) ?_
  refine g_callV (As := [.int (nI a), .int (nI b)]) (rest := []) G.1 hG.1 1 (by decide) rfl rfl ok_X0_canBeJoined gm_269 gm_270 gm_268 (c_X0_canBeJoined l w f (nI a) (nI b) hI ) ⟨rfl, rfl⟩ ⟨Nat.le_of_ble_eq_true rfl, Nat.le_of_ble_eq_true rfl⟩ rfl hl.1 rfl (Nat.le_of_ble_eq_true rfl) ⟨Nat.zero_le _, Nat.zero_le _⟩ dX2_join_12 ?_
  refine lv_if_ne (tgt := 28) hx hb dX2_join_15 (by decide) (fun c15 => ?_) (fun c15 => ?_)
  · skip
    have c15 : canJ f (nI a) (nI b) := g_if1.mp c15
    refine lv_iload_n hx hb dX2_join_28 rfl (lv_at hl 1 rfl) ?_
    refine lv_iload_n hx hb dX2_join_29 rfl (lv_at hl 2 rfl) ?_
    refine va_mmin hx hb (hml.trans hl.1.symm) hown (hts _ gm_262) (hts _ gm_72) (hts _ gm_49) (hts _ gm_73) (Nat.le_of_ble_eq_true rfl) (Nat.le_of_ble_eq_true rfl) (Nat.zero_le _) (Nat.zero_le _) dX2_join_30 ?_
    refine W.eq (g2 := F0 M_ _ ls [.int (nI (if b < a then b else a))]) (by rw [show (if nI b < nI a then nI b else nI a) = nI (if b < a then b else a) from by simp only [g_lt (show b < 2 ^ 31 by omega) (show a < 2 ^ 31 by omega)]; split <;> rfl]) ?_
    refine lv_istore_n (lv' := [(3, .int (nI (if b < a then b else a))), (0, .ref (w.2.2.2 0)), (1, .int (nI a)), (2, .int (nI b))]) hx hb dX2_join_33 rfl hl (by decide) rfl (fun ls hl => ?_)
    refine lv_aload_n hx hb dX2_join_34 rfl (lv_at hl 1 rfl) ?_
    refine g_get hx hb hts hown hG.1 0 0 (by decide) (v := .ref (w.2.2.2 1)) rfl rfl gin2 (by decide) gm_155 (rfl) dX2_join_35 ?_
    refine lv_iload_n hx hb dX2_join_38 rfl (lv_at hl 0 rfl) ?_
    refine lv_iload_n hx hb dX2_join_39 rfl (lv_at hl 2 rfl) ?_
    refine lv_iload_n hx hb dX2_join_40 rfl (lv_at hl 3 rfl) ?_
    refine va_mmax hx hb (hml.trans hl.1.symm) hown (hts _ gm_263) (hts _ gm_48) (hts _ gm_49) (hts _ gm_50) (Nat.le_of_ble_eq_true rfl) (Nat.le_of_ble_eq_true rfl) (Nat.zero_le _) (Nat.zero_le _) dX2_join_41 ?_
    refine W.eq (g2 := F0 M_ _ ls [.int (nI (if a < b then b else a)), .int (nI (if b < a then b else a)), .ref (w.2.2.2 1)]) (by rw [show (if nI a < nI b then nI b else nI a) = nI (if a < b then b else a) from by simp only [g_lt (show a < 2 ^ 31 by omega) (show b < 2 ^ 31 by omega)]; split <;> rfl]) ?_
    refine g_callW (As := [.int (nI (if b < a then b else a)), .int (nI (if a < b then b else a))]) (rest := []) G.1 hG 1 (by decide) rfl rfl ok_X0_unite gm_273 gm_274 gm_272 (c_X0_unite l w f (nI (if b < a then b else a)) (nI (if a < b then b else a)) hI ) ⟨rfl, rfl⟩ ⟨Nat.le_of_ble_eq_true rfl, Nat.le_of_ble_eq_true rfl⟩ rfl hl.1 rfl (Nat.le_of_ble_eq_true rfl) ⟨Nat.zero_le _, Nat.zero_le _⟩ dX2_join_44 (fun v f44 H locs hp hG => ?_)
    obtain ⟨rfl, rfl⟩ := hp
    refine lv_aload_n hx hb dX2_join_47 rfl (lv_at hl 1 rfl) ?_
    refine g_callW (As := []) (rest := []) G.1 hG 0 (by decide) rfl rfl ok_X2_readAnew gm_220 gm_221 gm_219 (c_X2_readAnew l w (unA f (nI (if b < a then b else a)) (nI (if a < b then b else a)))  (unA_I hI) ) ⟨rfl, rfl⟩ ⟨Nat.le_of_ble_eq_true rfl, Nat.le_of_ble_eq_true rfl⟩ rfl hl.1 rfl (Nat.le_of_ble_eq_true rfl) ⟨Nat.zero_le _, Nat.zero_le _⟩ dX2_join_48 (fun v f48 H locs hp hG => ?_)
    obtain ⟨rfl, rfl⟩ := hp
    refine lv_aload_n hx hb dX2_join_51 rfl (lv_at hl 1 rfl) ?_
    refine g_get hx hb hts hown hG.1 0 0 (by decide) (v := .ref (w.2.2.2 1)) rfl rfl gin2 (by decide) gm_155 (rfl) dX2_join_52 ?_
    refine lv_iload_n hx hb dX2_join_55 rfl (lv_at hl 0 rfl) ?_
    refine g_callV (As := [.int (nI (if b < a then b else a))]) (rest := []) G.1 hG.1 1 (by decide) rfl rfl ok_X0_termsOf gm_52 gm_53 gm_255 (c_X0_termsOf l w (raA (unA f (nI (if b < a then b else a)) (nI (if a < b then b else a)))) (nI (if b < a then b else a)) (raA_I (unA_I hI)) ) ⟨rfl, rfl⟩ ⟨Nat.le_of_ble_eq_true rfl, Nat.le_of_ble_eq_true rfl⟩ rfl hl.1 rfl (Nat.le_of_ble_eq_true rfl) ⟨Nat.zero_le _, Nat.zero_le _⟩ dX2_join_56 ?_
    refine g_callS (As := [.int (ofC (raA (unA f (nI (if b < a then b else a)) (nI (if a < b then b else a)))) (nI (if b < a then b else a)))]) (rest := []) G.1 hG.1 ok_J6_bitCount_0f7a4 gm_28 gm_249 (c_J6_bitCount_0f7a4 l w (raA (unA f (nI (if b < a then b else a)) (nI (if a < b then b else a)))) (ofC (raA (unA f (nI (if b < a then b else a)) (nI (if a < b then b else a)))) (nI (if b < a then b else a)))  ) ⟨rfl, rfl⟩ ⟨Nat.le_of_ble_eq_true rfl, Nat.le_of_ble_eq_true rfl⟩ rfl hl.1 rfl (Nat.le_of_ble_eq_true rfl) ⟨Nat.zero_le _, Nat.zero_le _⟩ dX2_join_59 ?_
    exact g_iretW G hG (⟨rfl, rfl⟩) dX2_join_62
  · skip
    have c15 : ¬ (canJ f (nI a) (nI b)) := g_if0.mp c15
    exact absurd h4 c15
theorem ok_X2_document : gOK yX2_document cX2_document 1 (some .int) 0 := ⟨gm_451, gm_18, by decide +kernel⟩
set_option maxRecDepth 100000 in
set_option maxHeartbeats 4000000 in
theorem c_X2_document (l : Launch) (w : GP) (f : CS)  (hI : gI f) (h : nD f < 6) : Met l yX2_document (gws yX2_document cX2_document 1 (some .int)) ({ frames := 1, cells := 0, slots := 0, locals := 21 }) (gPc w f [.ref (w.2.2.2 0)]) (gWr w (fun v_ f_ => v_ = some (.int (nI (nD f))) ∧ f_ = gset f 0 2 (nI (nD f + 1)))) 0 0 (gA w) := by
  refine g_read (by decide) (Nat.le_of_ble_eq_true rfl) ?_
  intro P_ E_ S_ M_ B_ T_ C_ ls G hV hl
  obtain ⟨hx, hb, hml, hown, hts⟩ := id G.1
  obtain ⟨⟨hT, hT24⟩, ⟨hC, hC12⟩, ⟨hD, hD6⟩, hLn⟩ := id hI
  have hl : lv_has ls 1 [(0, .ref (w.2.2.2 0))] := hl
  have hG := hV.start
  obtain ⟨H, hH⟩ : ∃ H, H = S_.heap := ⟨_, rfl⟩
  obtain ⟨locs, hL⟩ : ∃ L : List Loc, L = [] := ⟨_, rfl⟩
  rw [← hH, ← hL] at hG
  suffices K : ∀ (H : Heap) (locs : List Loc), GS w (gA w) S_ H locs f → W P_ l E_ _ S_ M_ _ B_ T_ C_ H locs 0 0 _ (F0 M_ 0 ls []) from by have := K H locs hG; rw [hH, hL] at this; exact this
  clear hG hH hL; intro H locs hG
  refine lv_aload_n hx hb dX2_document_0 rfl (lv_at hl 0 rfl) ?_
  refine g_get hx hb hts hown hG.1 0 1 (by decide) (v := .ref (w.2.2.2 2)) rfl rfl gin2 (by decide) gm_158 (rfl) dX2_document_1 ?_
  refine g_get hx hb hts hown hG.1 2 1 (by decide) (v := .int (nI (nD f))) rfl rfl gin1 (by decide) gm_276 (by rw [← hD]; rfl) dX2_document_4 ?_
  refine lv_bipush (v := nI 6) hx hb dX2_document_7 (by decide) ?_
  refine lv_icmp_lt (tgt := 22) hx hb dX2_document_9 (by decide) (fun c9 => ?_) (fun c9 => ?_)
  · skip
    have c9 : (nD f) < 6 := (g_lt (by omega) (by omega)).mp c9
    refine lv_aload_n hx hb dX2_document_22 rfl (lv_at hl 0 rfl) ?_
    refine g_get hx hb hts hown hG.1 0 1 (by decide) (v := .ref (w.2.2.2 2)) rfl rfl gin2 (by decide) gm_158 (rfl) dX2_document_23 ?_
    refine g_callW (As := []) (rest := []) G.1 hG 2 (by decide) rfl rfl ok_X1_addDocument gm_278 gm_279 gm_277 (c_X1_addDocument l w f  hI (by omega)) ⟨rfl, rfl⟩ ⟨Nat.le_of_ble_eq_true rfl, Nat.le_of_ble_eq_true rfl⟩ rfl hl.1 rfl (Nat.le_of_ble_eq_true rfl) ⟨Nat.zero_le _, Nat.zero_le _⟩ dX2_document_26 (fun v f26 H locs hp hG => ?_)
    obtain ⟨rfl, rfl⟩ := hp
    exact g_iretW G hG (⟨rfl, rfl⟩) dX2_document_29
  · skip
    have c9 : ¬ ((nD f) < 6) := fun q => c9 ((g_lt (by omega) (by omega)).mpr q)
    exfalso; omega
theorem ok_X2_write : gOK yX2_write cX2_write 6 (some .int) 4 := ⟨gm_406, gm_18, by decide +kernel⟩
set_option maxRecDepth 100000 in
set_option maxHeartbeats 4000000 in
theorem c_X2_write (l : Launch) (w : GP) (f : CS) (d : Nat) (g : Nat) (p : Nat) (x : Nat) (hI : gI f) (hd : d < nD f) (hg : g < 3) (hp : p < (if nL f (d * 3 + g) + 1 ≤ 12 then nL f (d * 3 + g) + 1 else 12)) (hx0 : x < 80) (h5 : ¬ f 12 (d * 3 + g) = nI 1) : Met l yX2_write (gws yX2_write cX2_write 6 (some .int)) ({ frames := 6, cells := 0, slots := 0, locals := 150 }) (gPc w f [.ref (w.2.2.2 0), .int (nI d), .int (nI g), .int (nI p), .int (nI x)]) (gWr w (fun v_ f_ => v_ = some (.int (nI (puN f (d * 3 + g) p))) ∧ f_ = puF f (d * 3 + g) p (nI x))) 0 0 (gA w) := by
  refine g_read (by decide) (Nat.le_of_ble_eq_true rfl) ?_
  intro P_ E_ S_ M_ B_ T_ C_ ls G hV hl
  obtain ⟨hx, hb, hml, hown, hts⟩ := id G.1
  obtain ⟨⟨hT, hT24⟩, ⟨hC, hC12⟩, ⟨hD, hD6⟩, hLn⟩ := id hI
  have hl : lv_has ls 6 [(0, .ref (w.2.2.2 0)), (1, .int (nI d)), (2, .int (nI g)), (3, .int (nI p)), (4, .int (nI x))] := hl
  have hG := hV.start
  obtain ⟨H, hH⟩ : ∃ H, H = S_.heap := ⟨_, rfl⟩
  obtain ⟨locs, hL⟩ : ∃ L : List Loc, L = [] := ⟨_, rfl⟩
  rw [← hH, ← hL] at hG
  suffices K : ∀ (H : Heap) (locs : List Loc), GS w (gA w) S_ H locs f → W P_ l E_ _ S_ M_ _ B_ T_ C_ H locs 0 0 _ (F0 M_ 0 ls []) from by have := K H locs hG; rw [hH, hL] at this; exact this
  clear hG hH hL; intro H locs hG
  have hLt := hLn (d * 3 + g) (by omega)
  have hp12 : p < 12 ∧ p ≤ nL f (d * 3 + g) := by split at hp <;> omega
  refine lv_aload_n hx hb dX2_write_0 rfl (lv_at hl 0 rfl) ?_
  refine lv_iload_n hx hb dX2_write_1 rfl (lv_at hl 1 rfl) ?_
  refine lv_iload_n hx hb dX2_write_2 rfl (lv_at hl 2 rfl) ?_
  refine g_callV (As := [.int (nI d), .int (nI g)]) (rest := []) G.1 hG.1 0 (by decide) rfl rfl ok_X2_requireText gm_287 gm_288 gm_286 (c_X2_requireText l w f d g hI (by omega) (by omega)) ⟨rfl, rfl⟩ ⟨Nat.le_of_ble_eq_true rfl, Nat.le_of_ble_eq_true rfl⟩ rfl hl.1 rfl (Nat.le_of_ble_eq_true rfl) ⟨Nat.zero_le _, Nat.zero_le _⟩ dX2_write_3 ?_
  refine lv_istore (lv' := [(5, .int (nI (d * 3 + g))), (0, .ref (w.2.2.2 0)), (1, .int (nI d)), (2, .int (nI g)), (3, .int (nI p)), (4, .int (nI x))]) hx hb dX2_write_6 hl (by decide) rfl (fun ls hl => ?_)
  refine lv_aload_n hx hb dX2_write_8 rfl (lv_at hl 1 rfl) ?_
  refine lv_iload_n hx hb dX2_write_9 rfl (lv_at hl 4 rfl) ?_
  refine lv_aload_n hx hb dX2_write_10 rfl (lv_at hl 1 rfl) ?_
  refine g_get hx hb hts hown hG.1 0 1 (by decide) (v := .ref (w.2.2.2 2)) rfl rfl gin2 (by decide) gm_158 (rfl) dX2_write_11 ?_
  refine lv_iload hx hb dX2_write_14 (lv_at hl 0 rfl) ?_
  refine g_callV (As := [.int (nI (d * 3 + g))]) (rest := [.int (nI p), .ref (w.2.2.2 0)]) G.1 hG.1 2 (by decide) rfl rfl ok_X1_placesToWrite gm_291 gm_292 gm_290 (c_X1_placesToWrite l w f (d * 3 + g) hI (by omega)) ⟨rfl, rfl⟩ ⟨Nat.le_of_ble_eq_true rfl, Nat.le_of_ble_eq_true rfl⟩ rfl hl.1 rfl (Nat.le_of_ble_eq_true rfl) ⟨Nat.zero_le _, Nat.zero_le _⟩ dX2_write_16 ?_
  refine g_callVv (As := [.int (nI p), .int (nI (if nL f (d * 3 + g) + 1 ≤ 12 then nL f (d * 3 + g) + 1 else 12))]) (rest := []) G.1 hG.1 0 (by decide) rfl rfl ok_X2_requirePlace gm_295 gm_296 gm_294 (c_X2_requirePlace l w f p (if nL f (d * 3 + g) + 1 ≤ 12 then nL f (d * 3 + g) + 1 else 12) hI (hp) (by split <;> omega)) ⟨rfl, rfl⟩ ⟨Nat.le_of_ble_eq_true rfl, Nat.le_of_ble_eq_true rfl⟩ rfl hl.1 rfl (Nat.le_of_ble_eq_true rfl) ⟨Nat.zero_le _, Nat.zero_le _⟩ dX2_write_19 ?_
  refine lv_iload hx hb dX2_write_22 (lv_at hl 5 rfl) ?_
  refine lv_if_lt (tgt := 34) hx hb dX2_write_24 (by decide) (fun c24 => ?_) (fun c24 => ?_)
  · skip
    rw [show (0 : Int32) = nI 0 from rfl] at c24
    have c24 : x < 0 := (g_lt (by omega) (by omega)).mp c24
    exfalso; omega
  · skip
    rw [show (0 : Int32) = nI 0 from rfl] at c24
    have c24 : ¬ (x < 0) := fun q => c24 ((g_lt (by omega) (by omega)).mpr q)
    refine lv_iload hx hb dX2_write_27 (lv_at hl 5 rfl) ?_
    refine lv_bipush (v := nI 80) hx hb dX2_write_29 (by decide) ?_
    refine lv_icmp_lt (tgt := 44) hx hb dX2_write_31 (by decide) (fun c31 => ?_) (fun c31 => ?_)
    · skip
      have c31 : x < 80 := (g_lt (by omega) (by omega)).mp c31
      refine lv_aload_n hx hb dX2_write_44 rfl (lv_at hl 1 rfl) ?_
      refine g_get hx hb hts hown hG.1 0 1 (by decide) (v := .ref (w.2.2.2 2)) rfl rfl gin2 (by decide) gm_158 (rfl) dX2_write_45 ?_
      refine g_get hx hb hts hown hG.1 2 3 (by decide) (v := .ref (w.2.2.2 17)) rfl rfl gin1 (by decide) gm_285 (rfl) dX2_write_48 ?_
      refine lv_iload hx hb dX2_write_51 (lv_at hl 0 rfl) ?_
      refine g_ialn (a := 12) (n := 18) hx hb hG.1 17 (by decide) (by decide) rfl rfl (i := d * 3 + g) (by omega) dX2_write_53 ?_
      refine lv_iconst (v := nI 1) hx hb dX2_write_54 (by decide) ?_
      refine lv_icmp_ne (tgt := 68) hx hb dX2_write_55 (by decide) (fun c55 => ?_) (fun c55 => ?_)
      · skip
        refine lv_aload_n hx hb dX2_write_68 rfl (lv_at hl 1 rfl) ?_
        refine g_get hx hb hts hown hG.1 0 1 (by decide) (v := .ref (w.2.2.2 2)) rfl rfl gin2 (by decide) gm_158 (rfl) dX2_write_69 ?_
        refine lv_iload hx hb dX2_write_72 (lv_at hl 0 rfl) ?_
        refine lv_iload_n hx hb dX2_write_74 rfl (lv_at hl 4 rfl) ?_
        refine lv_iload hx hb dX2_write_75 (lv_at hl 5 rfl) ?_
        refine g_callW (As := [.int (nI (d * 3 + g)), .int (nI p), .int (nI x)]) (rest := []) G.1 hG 2 (by decide) rfl rfl ok_X1_put gm_299 gm_300 gm_298 (c_X1_put l w f (d * 3 + g) p (nI x) hI (by omega) (by omega) (by omega)) ⟨rfl, rfl⟩ ⟨Nat.le_of_ble_eq_true rfl, Nat.le_of_ble_eq_true rfl⟩ rfl hl.1 rfl (Nat.le_of_ble_eq_true rfl) ⟨Nat.zero_le _, Nat.zero_le _⟩ dX2_write_77 (fun v f77 H locs hp hG => ?_)
        obtain ⟨rfl, rfl⟩ := hp
        exact g_iretW G hG (⟨rfl, rfl⟩) dX2_write_80
      · skip
        exact absurd c55 h5
    · skip
      have c31 : ¬ (x < 80) := fun q => c31 ((g_lt (by omega) (by omega)).mpr q)
      exfalso; omega
theorem ok_X2_cut : gOK yX2_cut cX2_cut 4 (some .int) 2 := ⟨gm_439, gm_18, by decide +kernel⟩
set_option maxRecDepth 100000 in
set_option maxHeartbeats 4000000 in
theorem c_X2_cut (l : Launch) (w : GP) (f : CS) (d : Nat) (g : Nat) (hI : gI f) (hd : d < nD f) (hg : g < 3) (h4 : 1 ≤ nL f (d * 3 + g)) (h5 : ¬ f 12 (d * 3 + g) = nI 1) : Met l yX2_cut (gws yX2_cut cX2_cut 4 (some .int)) ({ frames := 6, cells := 0, slots := 0, locals := 148 }) (gPc w f [.ref (w.2.2.2 0), .int (nI d), .int (nI g)]) (gWr w (fun v_ f_ => v_ = some (.int (f (20 + (d * 3 + g)) (nL f (d * 3 + g) - 1))) ∧ f_ = dlF f (d * 3 + g))) 0 0 (gA w) := by
  refine g_read (by decide) (Nat.le_of_ble_eq_true rfl) ?_
  intro P_ E_ S_ M_ B_ T_ C_ ls G hV hl
  obtain ⟨hx, hb, hml, hown, hts⟩ := id G.1
  obtain ⟨⟨hT, hT24⟩, ⟨hC, hC12⟩, ⟨hD, hD6⟩, hLn⟩ := id hI
  have hl : lv_has ls 4 [(0, .ref (w.2.2.2 0)), (1, .int (nI d)), (2, .int (nI g))] := hl
  have hG := hV.start
  obtain ⟨H, hH⟩ : ∃ H, H = S_.heap := ⟨_, rfl⟩
  obtain ⟨locs, hL⟩ : ∃ L : List Loc, L = [] := ⟨_, rfl⟩
  rw [← hH, ← hL] at hG
  suffices K : ∀ (H : Heap) (locs : List Loc), GS w (gA w) S_ H locs f → W P_ l E_ _ S_ M_ _ B_ T_ C_ H locs 0 0 _ (F0 M_ 0 ls []) from by have := K H locs hG; rw [hH, hL] at this; exact this
  clear hG hH hL; intro H locs hG
  have hLt := hLn (d * 3 + g) (by omega)
  refine lv_aload_n hx hb dX2_cut_0 rfl (lv_at hl 0 rfl) ?_
  refine lv_iload_n hx hb dX2_cut_1 rfl (lv_at hl 1 rfl) ?_
  refine lv_iload_n hx hb dX2_cut_2 rfl (lv_at hl 2 rfl) ?_
  refine g_callV (As := [.int (nI d), .int (nI g)]) (rest := []) G.1 hG.1 0 (by decide) rfl rfl ok_X2_requireText gm_287 gm_288 gm_286 (c_X2_requireText l w f d g hI (by omega) (by omega)) ⟨rfl, rfl⟩ ⟨Nat.le_of_ble_eq_true rfl, Nat.le_of_ble_eq_true rfl⟩ rfl hl.1 rfl (Nat.le_of_ble_eq_true rfl) ⟨Nat.zero_le _, Nat.zero_le _⟩ dX2_cut_3 ?_
  refine lv_istore_n (lv' := [(3, .int (nI (d * 3 + g))), (0, .ref (w.2.2.2 0)), (1, .int (nI d)), (2, .int (nI g))]) hx hb dX2_cut_6 rfl hl (by decide) rfl (fun ls hl => ?_)
  refine lv_aload_n hx hb dX2_cut_7 rfl (lv_at hl 1 rfl) ?_
  refine g_get hx hb hts hown hG.1 0 1 (by decide) (v := .ref (w.2.2.2 2)) rfl rfl gin2 (by decide) gm_158 (rfl) dX2_cut_8 ?_
  refine g_get hx hb hts hown hG.1 2 3 (by decide) (v := .ref (w.2.2.2 17)) rfl rfl gin1 (by decide) gm_285 (rfl) dX2_cut_11 ?_
  refine lv_iload_n hx hb dX2_cut_14 rfl (lv_at hl 0 rfl) ?_
  refine g_ialn (a := 12) (n := 18) hx hb hG.1 17 (by decide) (by decide) rfl rfl (i := d * 3 + g) (by omega) dX2_cut_15 ?_
  refine lv_iconst (v := nI 1) hx hb dX2_cut_16 (by decide) ?_
  refine lv_icmp_eq (tgt := 33) hx hb dX2_cut_17 (by decide) (fun c17 => ?_) (fun c17 => ?_)
  · skip
    exact absurd c17 h5
  · skip
    refine lv_aload_n hx hb dX2_cut_20 rfl (lv_at hl 1 rfl) ?_
    refine g_get hx hb hts hown hG.1 0 1 (by decide) (v := .ref (w.2.2.2 2)) rfl rfl gin2 (by decide) gm_158 (rfl) dX2_cut_21 ?_
    refine g_get hx hb hts hown hG.1 2 2 (by decide) (v := .ref (w.2.2.2 16)) rfl rfl gin1 (by decide) gm_302 (rfl) dX2_cut_24 ?_
    refine lv_iload_n hx hb dX2_cut_27 rfl (lv_at hl 0 rfl) ?_
    refine g_ialn (a := 11) (n := 18) hx hb hG.1 16 (by decide) (by decide) rfl rfl (i := d * 3 + g) (by omega) dX2_cut_28 ?_
    rw [(hLn (d * 3 + g) (by omega)).1]
    refine lv_iconst (v := nI 1) hx hb dX2_cut_29 (by decide) ?_
    refine lv_icmp_ge (tgt := 43) hx hb dX2_cut_30 (by decide) (fun c30 => ?_) (fun c30 => ?_)
    · skip
      have c30 : 1 ≤ (nL f (d * 3 + g)) := (g_le (by omega) (by omega)).mp c30
      refine lv_aload_n hx hb dX2_cut_43 rfl (lv_at hl 1 rfl) ?_
      refine g_get hx hb hts hown hG.1 0 1 (by decide) (v := .ref (w.2.2.2 2)) rfl rfl gin2 (by decide) gm_158 (rfl) dX2_cut_44 ?_
      refine lv_iload_n hx hb dX2_cut_47 rfl (lv_at hl 0 rfl) ?_
      refine g_callW (As := [.int (nI (d * 3 + g))]) (rest := []) G.1 hG 2 (by decide) rfl rfl ok_X1_dropLast gm_304 gm_305 gm_303 (c_X1_dropLast l w f (d * 3 + g) hI (by omega) (by omega)) ⟨rfl, rfl⟩ ⟨Nat.le_of_ble_eq_true rfl, Nat.le_of_ble_eq_true rfl⟩ rfl hl.1 rfl (Nat.le_of_ble_eq_true rfl) ⟨Nat.zero_le _, Nat.zero_le _⟩ dX2_cut_48 (fun v f48 H locs hp hG => ?_)
      obtain ⟨rfl, rfl⟩ := hp
      exact g_iretW G hG (⟨rfl, rfl⟩) dX2_cut_51
    · skip
      have c30 : ¬ (1 ≤ (nL f (d * 3 + g))) := fun q => c30 ((g_le (by omega) (by omega)).mpr q)
      exfalso; omega
theorem ok_X2_approve : gOK yX2_approve cX2_approve 4 (some .int) 2 := ⟨gm_436, gm_18, by decide +kernel⟩
set_option maxRecDepth 100000 in
set_option maxHeartbeats 4000000 in
theorem c_X2_approve (l : Launch) (w : GP) (f : CS) (d : Nat) (g : Nat) (hI : gI f) (hd : d < nD f) (hg : g < 3) (h4 : 0 < nL f (d * 3 + g) ∧ ¬ f 12 (d * 3 + g) = nI 1 ∧ fbI f (d * 3 + g) = -1) : Met l yX2_approve (gws yX2_approve cX2_approve 4 (some .int)) ({ frames := 4, cells := 0, slots := 0, locals := 91 }) (gPc w f [.ref (w.2.2.2 0), .int (nI d), .int (nI g)]) (gWr w (fun v_ f_ => v_ = some (.int (nI (csN (apF f (d * 3 + g)) (d * 3 + g)))) ∧ f_ = apF f (d * 3 + g))) 0 0 (gA w) := by
  refine g_read (by decide) (Nat.le_of_ble_eq_true rfl) ?_
  intro P_ E_ S_ M_ B_ T_ C_ ls G hV hl
  obtain ⟨hx, hb, hml, hown, hts⟩ := id G.1
  obtain ⟨⟨hT, hT24⟩, ⟨hC, hC12⟩, ⟨hD, hD6⟩, hLn⟩ := id hI
  have hl : lv_has ls 4 [(0, .ref (w.2.2.2 0)), (1, .int (nI d)), (2, .int (nI g))] := hl
  have hG := hV.start
  obtain ⟨H, hH⟩ : ∃ H, H = S_.heap := ⟨_, rfl⟩
  obtain ⟨locs, hL⟩ : ∃ L : List Loc, L = [] := ⟨_, rfl⟩
  rw [← hH, ← hL] at hG
  suffices K : ∀ (H : Heap) (locs : List Loc), GS w (gA w) S_ H locs f → W P_ l E_ _ S_ M_ _ B_ T_ C_ H locs 0 0 _ (F0 M_ 0 ls []) from by have := K H locs hG; rw [hH, hL] at this; exact this
  clear hG hH hL; intro H locs hG
  refine lv_aload_n hx hb dX2_approve_0 rfl (lv_at hl 0 rfl) ?_
  refine lv_iload_n hx hb dX2_approve_1 rfl (lv_at hl 1 rfl) ?_
  refine lv_iload_n hx hb dX2_approve_2 rfl (lv_at hl 2 rfl) ?_
  refine g_callV (As := [.int (nI d), .int (nI g)]) (rest := []) G.1 hG.1 0 (by decide) rfl rfl ok_X2_requireText gm_287 gm_288 gm_286 (c_X2_requireText l w f d g hI (by omega) (by omega)) ⟨rfl, rfl⟩ ⟨Nat.le_of_ble_eq_true rfl, Nat.le_of_ble_eq_true rfl⟩ rfl hl.1 rfl (Nat.le_of_ble_eq_true rfl) ⟨Nat.zero_le _, Nat.zero_le _⟩ dX2_approve_3 ?_
  refine lv_istore_n (lv' := [(3, .int (nI (d * 3 + g))), (0, .ref (w.2.2.2 0)), (1, .int (nI d)), (2, .int (nI g))]) hx hb dX2_approve_6 rfl hl (by decide) rfl (fun ls hl => ?_)
  refine lv_aload_n hx hb dX2_approve_7 rfl (lv_at hl 1 rfl) ?_
  refine g_get hx hb hts hown hG.1 0 1 (by decide) (v := .ref (w.2.2.2 2)) rfl rfl gin2 (by decide) gm_158 (rfl) dX2_approve_8 ?_
  refine lv_iload_n hx hb dX2_approve_11 rfl (lv_at hl 0 rfl) ?_
  refine g_callV (As := [.int (nI (d * 3 + g))]) (rest := []) G.1 hG.1 2 (by decide) rfl rfl ok_X1_canBeApproved gm_308 gm_309 gm_307 (c_X1_canBeApproved l w f (d * 3 + g) hI (by omega)) ⟨rfl, rfl⟩ ⟨Nat.le_of_ble_eq_true rfl, Nat.le_of_ble_eq_true rfl⟩ rfl hl.1 rfl (Nat.le_of_ble_eq_true rfl) ⟨Nat.zero_le _, Nat.zero_le _⟩ dX2_approve_12 ?_
  refine lv_if_ne (tgt := 28) hx hb dX2_approve_15 (by decide) (fun c15 => ?_) (fun c15 => ?_)
  · skip
    have c15 : 0 < nL f (d * 3 + g) ∧ ¬ f 12 (d * 3 + g) = nI 1 ∧ fbI f (d * 3 + g) = -1 := g_if1.mp c15
    refine lv_aload_n hx hb dX2_approve_28 rfl (lv_at hl 1 rfl) ?_
    refine g_get hx hb hts hown hG.1 0 1 (by decide) (v := .ref (w.2.2.2 2)) rfl rfl gin2 (by decide) gm_158 (rfl) dX2_approve_29 ?_
    refine g_get hx hb hts hown hG.1 2 3 (by decide) (v := .ref (w.2.2.2 17)) rfl rfl gin1 (by decide) gm_285 (rfl) dX2_approve_32 ?_
    refine lv_iload_n hx hb dX2_approve_35 rfl (lv_at hl 0 rfl) ?_
    refine lv_iconst (v := nI 1) hx hb dX2_approve_36 (by decide) ?_
    refine g_iast (a := 12) (n := 18) hx hb hG 17 (by decide) (by decide) rfl rfl (i := d * 3 + g) (by omega) dX2_approve_37 (fun H locs hG => ?_)
    refine lv_aload_n hx hb dX2_approve_38 rfl (lv_at hl 1 rfl) ?_
    refine g_get hx hb hts hown hG.1 0 1 (by decide) (v := .ref (w.2.2.2 2)) rfl rfl gin2 (by decide) gm_158 (rfl) dX2_approve_39 ?_
    refine lv_iload_n hx hb dX2_approve_42 rfl (lv_at hl 0 rfl) ?_
    refine g_callV (As := [.int (nI (d * 3 + g))]) (rest := []) G.1 hG.1 2 (by decide) rfl rfl ok_X1_consistency gm_149 gm_150 gm_311 (c_X1_consistency l w (gset f 12 (d * 3 + g) (nI 1)) (d * 3 + g) (apI hI) (by omega)) ⟨rfl, rfl⟩ ⟨Nat.le_of_ble_eq_true rfl, Nat.le_of_ble_eq_true rfl⟩ rfl hl.1 rfl (Nat.le_of_ble_eq_true rfl) ⟨Nat.zero_le _, Nat.zero_le _⟩ dX2_approve_43 ?_
    exact g_iretW G hG (⟨rfl, rfl⟩) dX2_approve_46
  · skip
    have c15 : ¬ (0 < nL f (d * 3 + g) ∧ ¬ f 12 (d * 3 + g) = nI 1 ∧ fbI f (d * 3 + g) = -1) := g_if0.mp c15
    exact absurd h4 c15
theorem ok_X2_pass : gOK yX2_pass cX2_pass 4 (some .int) 1 := ⟨gm_433, gm_18, by decide +kernel⟩
set_option maxRecDepth 100000 in
set_option maxHeartbeats 4000000 in
theorem c_X2_pass (l : Launch) (w : GP) (f : CS) (n : Nat) (hI : gI f) (h1 : 1 ≤ n) (h2 : n ≤ 40) (h3 : f 0 3 + nI n ≤ nI 199) : Met l yX2_pass (gws yX2_pass cX2_pass 4 (some .int)) ({ frames := 5, cells := 0, slots := 0, locals := 117 }) (gPc w f [.ref (w.2.2.2 0), .int (nI n)]) (gWr w (fun v_ f_ => v_ = some (.int (nI (paN f n))) ∧ f_ = paF f n)) 0 0 (gA w) := by
  refine g_read (by decide) (Nat.le_of_ble_eq_true rfl) ?_
  intro P_ E_ S_ M_ B_ T_ C_ ls G hV hl
  obtain ⟨hx, hb, hml, hown, hts⟩ := id G.1
  obtain ⟨⟨hT, hT24⟩, ⟨hC, hC12⟩, ⟨hD, hD6⟩, hLn⟩ := id hI
  have hl : lv_has ls 4 [(0, .ref (w.2.2.2 0)), (1, .int (nI n))] := hl
  have hG := hV.start
  obtain ⟨H, hH⟩ : ∃ H, H = S_.heap := ⟨_, rfl⟩
  obtain ⟨locs, hL⟩ : ∃ L : List Loc, L = [] := ⟨_, rfl⟩
  rw [← hH, ← hL] at hG
  suffices K : ∀ (H : Heap) (locs : List Loc), GS w (gA w) S_ H locs f → W P_ l E_ _ S_ M_ _ B_ T_ C_ H locs 0 0 _ (F0 M_ 0 ls []) from by have := K H locs hG; rw [hH, hL] at this; exact this
  clear hG hH hL; intro H locs hG
  refine lv_aload_n hx hb dX2_pass_0 rfl (lv_at hl 0 rfl) ?_
  refine lv_iload_n hx hb dX2_pass_1 rfl (lv_at hl 1 rfl) ?_
  refine g_callVv (As := [.int (nI n)]) (rest := []) G.1 hG.1 0 (by decide) rfl rfl ok_X2_requireDays gm_325 gm_326 gm_324 (c_X2_requireDays l w f n hI (by omega) (by omega)) ⟨rfl, rfl⟩ ⟨Nat.le_of_ble_eq_true rfl, Nat.le_of_ble_eq_true rfl⟩ rfl hl.1 rfl (Nat.le_of_ble_eq_true rfl) ⟨Nat.zero_le _, Nat.zero_le _⟩ dX2_pass_2 ?_
  refine lv_aload_n hx hb dX2_pass_5 rfl (lv_at hl 0 rfl) ?_
  refine g_get hx hb hts hown hG.1 0 2 (by decide) (v := .int (f 0 3)) rfl rfl gin2 (by decide) gm_159 (rfl) dX2_pass_6 ?_
  refine lv_iload_n hx hb dX2_pass_9 rfl (lv_at hl 1 rfl) ?_
  refine lv_iadd hx hb dX2_pass_10 ?_
  refine lv_sipush (v := nI 199) hx hb dX2_pass_11 (by decide) ?_
  refine lv_icmp_le (tgt := 27) hx hb dX2_pass_14 (by decide) (fun c14 => ?_) (fun c14 => ?_)
  · skip
    refine lv_iconst (v := nI 0) hx hb dX2_pass_27 (by decide) ?_
    refine lv_istore_n (lv' := [(2, .int (nI 0)), (0, .ref (w.2.2.2 0)), (1, .int (nI n))]) hx hb dX2_pass_28 rfl hl (by decide) rfl (fun ls hl => ?_)
    refine lv_iconst (v := nI 0) hx hb dX2_pass_29 (by decide) ?_
    refine lv_istore_n (lv' := [(3, .int (nI 0)), (2, .int (nI 0)), (0, .ref (w.2.2.2 0)), (1, .int (nI n))]) hx hb dX2_pass_30 rfl hl (by decide) rfl (fun ls hl => ?_)
    refine g_for (P := fun k => ∀ (H : Heap) (locs : List Loc) (ls : Array Slot), GS w (gA w) S_ H locs (paF f k) → lv_has ls 4 [(2, .int (nI (paN f k))), (3, .int (nI k)), (0, .ref (w.2.2.2 0)), (1, .int (nI n))] → W P_ l E_ _ S_ M_ _ B_ T_ C_ H locs 0 0 _ (F0 M_ 31 ls [])) (n) ?_ ?_ 0 (Nat.zero_le _) H locs ls hG (lv_sub hl [1, 0, 2, 3] rfl)
    · intro k hk ih H locs ls hG hl
      refine lv_iload_n hx hb dX2_pass_31 rfl (lv_at hl 1 rfl) ?_
      refine lv_iload_n hx hb dX2_pass_32 rfl (lv_at hl 3 rfl) ?_
      refine lv_icmp_ge (tgt := 66) hx hb dX2_pass_33 (by decide) (fun c33 => ?_) (fun c33 => ?_)
      · skip
        have c33 : n ≤ k := (g_le (by omega) (by omega)).mp c33
        exact absurd c33 (by omega)
      · skip
        have c33 : ¬ (n ≤ k) := fun q => c33 ((g_le (by omega) (by omega)).mpr q)
        refine lv_aload_n hx hb dX2_pass_36 rfl (lv_at hl 2 rfl) ?_
        refine lv_dup hx hb dX2_pass_37 rfl ?_
        refine g_get hx hb hts hown hG.1 0 2 (by decide) (v := .int (paF f k 0 3)) rfl rfl gin2 (by decide) gm_159 (by show some (Value.int ((paF f k) 0 3)) = some (.int (paF f k 0 3)); rw [show (paF f k) 0 3 = paF f k 0 3 from rfl]) dX2_pass_38 ?_
        refine lv_iconst (v := nI 1) hx hb dX2_pass_41 (by decide) ?_
        refine lv_iadd hx hb dX2_pass_42 ?_
        refine g_put (a := 3) hx hb hts hown hG 0 2 (by decide) rfl rfl gin2 tyX2_ok nmX2 (by decide) gm_159 rfl (by decide +kernel) (Nat.le_of_ble_eq_true rfl) dX2_pass_43 (by simp [gE, gset]) (fun i _ h => gE_num (by decide) h) (fun H locs hG => ?_)
        refine lv_iload_n hx hb dX2_pass_46 rfl (lv_at hl 0 rfl) ?_
        refine lv_aload_n hx hb dX2_pass_47 rfl (lv_at hl 2 rfl) ?_
        refine g_get hx hb hts hown hG.1 0 1 (by decide) (v := .ref (w.2.2.2 2)) rfl rfl gin2 (by decide) gm_158 (rfl) dX2_pass_48 ?_
        refine lv_aload_n hx hb dX2_pass_51 rfl (lv_at hl 2 rfl) ?_
        refine g_get hx hb hts hown hG.1 0 2 (by decide) (v := .int ((paF f k 0 3) + (nI 1))) rfl rfl gin2 (by decide) gm_159 (by show some (Value.int ((gset (paF f k) 0 3 ((paF f k 0 3) + (nI 1))) 0 3)) = some (.int ((paF f k 0 3) + (nI 1))); rw [show (gset (paF f k) 0 3 ((paF f k 0 3) + (nI 1))) 0 3 = (paF f k 0 3) + (nI 1) from by simp [gset]]) dX2_pass_52 ?_
        refine g_callW (As := [.int ((paF f k 0 3) + (nI 1))]) (rest := [.int (nI (paN f k))]) G.1 hG 2 (by decide) rfl rfl ok_X1_reopenDue gm_203 gm_204 gm_202 (c_X1_reopenDue l w (gset (paF f k) 0 3 ((paF f k 0 3) + (nI 1))) ((paF f k 0 3) + (nI 1)) (pa1_I (paI hI k)) ) ⟨rfl, rfl⟩ ⟨Nat.le_of_ble_eq_true rfl, Nat.le_of_ble_eq_true rfl⟩ rfl hl.1 rfl (Nat.le_of_ble_eq_true rfl) ⟨Nat.zero_le _, Nat.zero_le _⟩ dX2_pass_55 (fun v f55 H locs hp hG => ?_)
        obtain ⟨rfl, rfl⟩ := hp
        refine g_iaddn hx hb dX2_pass_58 ?_
        refine lv_istore_n (lv' := [(2, .int (nI ((paN f k) + (roN (gset (paF f k) 0 3 ((paF f k 0 3) + (nI 1))) (due (gset (paF f k) 0 3 ((paF f k 0 3) + (nI 1))) ((paF f k 0 3) + (nI 1))))))), (3, .int (nI k)), (0, .ref (w.2.2.2 0)), (1, .int (nI n))]) hx hb dX2_pass_59 rfl hl (by decide) rfl (fun ls hl => ?_)
        refine lv_iinc (v := nI (k + 1)) (lv' := [(3, .int (nI (k + 1))), (2, .int (nI ((paN f k) + (roN (gset (paF f k) 0 3 ((paF f k 0 3) + (nI 1))) (due (gset (paF f k) 0 3 ((paF f k 0 3) + (nI 1))) ((paF f k 0 3) + (nI 1))))))), (0, .ref (w.2.2.2 0)), (1, .int (nI n))]) hx hb dX2_pass_60 hl (k := 1) rfl (g_inc k 1) (by decide) rfl (fun ls hl => ?_)
        refine lv_goto (tgt := 31) hx hb dX2_pass_63 (by decide) ?_
        refine ih H locs ls (by rw [show paF f (k + 1) = rpF (gset (paF f k) 0 3 ((paF f k 0 3) + (nI 1))) (due (gset (paF f k) 0 3 ((paF f k 0 3) + (nI 1))) ((paF f k 0 3) + (nI 1))) (nD (gset (paF f k) 0 3 ((paF f k 0 3) + (nI 1)))) from rfl]; exact hG) ?_
        rw [(show paN f (k + 1) = (paN f k) + (roN (gset (paF f k) 0 3 ((paF f k 0 3) + (nI 1))) (due (gset (paF f k) 0 3 ((paF f k 0 3) + (nI 1))) ((paF f k 0 3) + (nI 1)))) from rfl)]
        exact lv_sub hl [1, 0, 2, 3] rfl
    · intro H locs ls hG hl
      refine lv_iload_n hx hb dX2_pass_31 rfl (lv_at hl 1 rfl) ?_
      refine lv_iload_n hx hb dX2_pass_32 rfl (lv_at hl 3 rfl) ?_
      refine lv_icmp_ge (tgt := 66) hx hb dX2_pass_33 (by decide) (fun c33 => ?_) (fun c33 => ?_)
      · skip
        have c33 : n ≤ n := (g_le (by omega) (by omega)).mp c33
        refine lv_iload_n hx hb dX2_pass_66 rfl (lv_at hl 0 rfl) ?_
        exact g_iretW G hG (⟨rfl, rfl⟩) dX2_pass_67
      · skip
        have c33 : ¬ (n ≤ n) := fun q => c33 ((g_le (by omega) (by omega)).mpr q)
        exact absurd c33 (by omega)
  · skip
    exact absurd h3 c14
