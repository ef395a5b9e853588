theorem ok_X0_addConcept : gOK yX0_addConcept cX0_addConcept 3 (some .int) 1 := ⟨gm_181, gm_25, by decide +kernel⟩
set_option maxRecDepth 100000 in
set_option maxHeartbeats 4000000 in
theorem c_X0_addConcept (l : Launch) (w : GP) (f : CS) (x : Int32) (hI : gI f) (h : nC f < 12) : Met l yX0_addConcept (gws yX0_addConcept cX0_addConcept 3 (some .int)) ({ frames := 0, cells := 0, slots := 0, locals := 0 }) (gPc w f [.ref (w.2.2.2 1), .int x]) (gWr w (fun v_ f_ => v_ = some (.int (nI (nC f))) ∧ f_ = adC f x)) 0 0 (gA w) := by
  refine g_read (by decide) (Nat.le_of_ble_eq_true rfl) ?_
  intro P_ E_ S_ M_ B_ T_ C_ ls G hV hl
  obtain ⟨hx, hb, hml, hown, hts⟩ := id G.1
  obtain ⟨⟨hT, hT24⟩, ⟨hC, hC12⟩, ⟨hD, hD6⟩, hLn⟩ := id hI
  have hl : lv_has ls 3 [(0, .ref (w.2.2.2 1)), (1, .int x)] := hl
  have hG := hV.start
  obtain ⟨H, hH⟩ : ∃ H, H = S_.heap := ⟨_, rfl⟩
  obtain ⟨locs, hL⟩ : ∃ L : List Loc, L = [] := ⟨_, rfl⟩
  rw [← hH, ← hL] at hG
  suffices K : ∀ (H : Heap) (locs : List Loc), GS w (gA w) S_ H locs f → W P_ l E_ _ S_ M_ _ B_ T_ C_ H locs 0 0 _ (F0 M_ 0 ls []) from by have := K H locs hG; rw [hH, hL] at this; exact this
  clear hG hH hL; intro H locs hG
  refine lv_aload_n hx hb dX0_addConcept_0 rfl (lv_at hl 0 rfl) ?_
  refine g_get hx hb hts hown hG.1 1 0 (by decide) (v := .int (nI (nC f))) rfl rfl gin0 (by decide) gm_3 (by rw [← hC]; rfl) dX0_addConcept_1 ?_
  refine lv_istore_n (lv' := [(2, .int (nI (nC f))), (0, .ref (w.2.2.2 1)), (1, .int x)]) hx hb dX0_addConcept_4 rfl hl (by decide) rfl (fun ls hl => ?_)
  refine lv_aload_n hx hb dX0_addConcept_5 rfl (lv_at hl 1 rfl) ?_
  refine g_get hx hb hts hown hG.1 1 2 (by decide) (v := .ref (w.2.2.2 3)) rfl rfl gin0 (by decide) gm_6 (rfl) dX0_addConcept_6 ?_
  refine lv_iload_n hx hb dX0_addConcept_9 rfl (lv_at hl 0 rfl) ?_
  refine lv_iload_n hx hb dX0_addConcept_10 rfl (lv_at hl 2 rfl) ?_
  refine g_iast (a := 1) (n := 12) hx hb hG 3 (by decide) (by decide) rfl rfl (i := nC f) (by omega) dX0_addConcept_11 (fun H locs hG => ?_)
  refine lv_aload_n hx hb dX0_addConcept_12 rfl (lv_at hl 1 rfl) ?_
  refine lv_dup hx hb dX0_addConcept_13 rfl ?_
  refine g_get hx hb hts hown hG.1 1 0 (by decide) (v := .int (nI (nC f))) rfl rfl gin0 (by decide) gm_3 (by show some (Value.int ((gset f 1 (nC f) x) 0 0)) = some (.int (nI (nC f))); rw [show (gset f 1 (nC f) x) 0 0 = nI (nC f) from by simp [gset, ← hC]]) dX0_addConcept_14 ?_
  refine lv_iconst (v := nI 1) hx hb dX0_addConcept_17 (by decide) ?_
  refine g_iaddn hx hb dX0_addConcept_18 ?_
  refine g_put (a := 0) hx hb hts hown hG 1 0 (by decide) rfl rfl gin0 tyX0_ok nmX0 (by decide) gm_3 rfl (by decide +kernel) (Nat.le_of_ble_eq_true rfl) dX0_addConcept_19 (by simp [gE, gset]) (fun i _ h => gE_num (by decide) h) (fun H locs hG => ?_)
  refine lv_iload_n hx hb dX0_addConcept_22 rfl (lv_at hl 0 rfl) ?_
  exact g_iretW G hG (⟨rfl, rfl⟩) dX0_addConcept_23
theorem ok_X0_addTerm : gOK yX0_addTerm cX0_addTerm 5 (some .int) 3 := ⟨gm_198, gm_25, by decide +kernel⟩
set_option maxRecDepth 100000 in
set_option maxHeartbeats 4000000 in
theorem c_X0_addTerm (l : Launch) (w : GP) (f : CS) (c : Int32) (g : Int32) (x : Int32) (hI : gI f) (h : nT f < 24) : Met l yX0_addTerm (gws yX0_addTerm cX0_addTerm 5 (some .int)) ({ frames := 0, cells := 0, slots := 0, locals := 0 }) (gPc w f [.ref (w.2.2.2 1), .int c, .int g, .int x]) (gWr w (fun v_ f_ => v_ = some (.int (nI (nT f))) ∧ f_ = adT f c g x)) 0 0 (gA w) := by
  refine g_read (by decide) (Nat.le_of_ble_eq_true rfl) ?_
  intro P_ E_ S_ M_ B_ T_ C_ ls G hV hl
  obtain ⟨hx, hb, hml, hown, hts⟩ := id G.1
  obtain ⟨⟨hT, hT24⟩, ⟨hC, hC12⟩, ⟨hD, hD6⟩, hLn⟩ := id hI
  have hl : lv_has ls 5 [(0, .ref (w.2.2.2 1)), (1, .int c), (2, .int g), (3, .int x)] := hl
  have hG := hV.start
  obtain ⟨H, hH⟩ : ∃ H, H = S_.heap := ⟨_, rfl⟩
  obtain ⟨locs, hL⟩ : ∃ L : List Loc, L = [] := ⟨_, rfl⟩
  rw [← hH, ← hL] at hG
  suffices K : ∀ (H : Heap) (locs : List Loc), GS w (gA w) S_ H locs f → W P_ l E_ _ S_ M_ _ B_ T_ C_ H locs 0 0 _ (F0 M_ 0 ls []) from by have := K H locs hG; rw [hH, hL] at this; exact this
  clear hG hH hL; intro H locs hG
  refine lv_aload_n hx hb dX0_addTerm_0 rfl (lv_at hl 0 rfl) ?_
  refine g_get hx hb hts hown hG.1 1 1 (by decide) (v := .int (nI (nT f))) rfl rfl gin0 (by decide) gm_4 (by rw [← hT]; rfl) dX0_addTerm_1 ?_
  refine lv_istore (lv' := [(4, .int (nI (nT f))), (0, .ref (w.2.2.2 1)), (1, .int c), (2, .int g), (3, .int x)]) hx hb dX0_addTerm_4 hl (by decide) rfl (fun ls hl => ?_)
  refine lv_aload_n hx hb dX0_addTerm_6 rfl (lv_at hl 1 rfl) ?_
  refine g_get hx hb hts hown hG.1 1 3 (by decide) (v := .ref (w.2.2.2 4)) rfl rfl gin0 (by decide) gm_7 (rfl) dX0_addTerm_7 ?_
  refine lv_iload hx hb dX0_addTerm_10 (lv_at hl 0 rfl) ?_
  refine lv_iload_n hx hb dX0_addTerm_12 rfl (lv_at hl 2 rfl) ?_
  refine g_iast (a := 2) (n := 24) hx hb hG 4 (by decide) (by decide) rfl rfl (i := nT f) (by omega) dX0_addTerm_13 (fun H locs hG => ?_)
  refine lv_aload_n hx hb dX0_addTerm_14 rfl (lv_at hl 1 rfl) ?_
  refine g_get hx hb hts hown hG.1 1 4 (by decide) (v := .ref (w.2.2.2 5)) rfl rfl gin0 (by decide) gm_8 (rfl) dX0_addTerm_15 ?_
  refine lv_iload hx hb dX0_addTerm_18 (lv_at hl 0 rfl) ?_
  refine lv_iload_n hx hb dX0_addTerm_20 rfl (lv_at hl 3 rfl) ?_
  refine g_iast (a := 3) (n := 24) hx hb hG 5 (by decide) (by decide) rfl rfl (i := nT f) (by omega) dX0_addTerm_21 (fun H locs hG => ?_)
  refine lv_aload_n hx hb dX0_addTerm_22 rfl (lv_at hl 1 rfl) ?_
  refine g_get hx hb hts hown hG.1 1 5 (by decide) (v := .ref (w.2.2.2 6)) rfl rfl gin0 (by decide) gm_9 (rfl) dX0_addTerm_23 ?_
  refine lv_iload hx hb dX0_addTerm_26 (lv_at hl 0 rfl) ?_
  refine lv_iload_n hx hb dX0_addTerm_28 rfl (lv_at hl 4 rfl) ?_
  refine g_iast (a := 4) (n := 24) hx hb hG 6 (by decide) (by decide) rfl rfl (i := nT f) (by omega) dX0_addTerm_29 (fun H locs hG => ?_)
  refine lv_aload_n hx hb dX0_addTerm_30 rfl (lv_at hl 1 rfl) ?_
  refine g_get hx hb hts hown hG.1 1 6 (by decide) (v := .ref (w.2.2.2 7)) rfl rfl gin0 (by decide) gm_10 (rfl) dX0_addTerm_31 ?_
  refine lv_iload hx hb dX0_addTerm_34 (lv_at hl 0 rfl) ?_
  refine lv_iconst (v := nI 0) hx hb dX0_addTerm_36 (by decide) ?_
  refine g_iast (a := 5) (n := 24) hx hb hG 7 (by decide) (by decide) rfl rfl (i := nT f) (by omega) dX0_addTerm_37 (fun H locs hG => ?_)
  refine lv_aload_n hx hb dX0_addTerm_38 rfl (lv_at hl 1 rfl) ?_
  refine lv_dup hx hb dX0_addTerm_39 rfl ?_
  refine g_get hx hb hts hown hG.1 1 1 (by decide) (v := .int (nI (nT f))) rfl rfl gin0 (by decide) gm_4 (by show some (Value.int ((gset (gset (gset (gset f 2 (nT f) c) 3 (nT f) g) 4 (nT f) x) 5 (nT f) (nI 0)) 0 1)) = some (.int (nI (nT f))); rw [show (gset (gset (gset (gset f 2 (nT f) c) 3 (nT f) g) 4 (nT f) x) 5 (nT f) (nI 0)) 0 1 = nI (nT f) from by simp [gset, ← hT]]) dX0_addTerm_40 ?_
  refine lv_iconst (v := nI 1) hx hb dX0_addTerm_43 (by decide) ?_
  refine g_iaddn hx hb dX0_addTerm_44 ?_
  refine g_put (a := 1) hx hb hts hown hG 1 1 (by decide) rfl rfl gin0 tyX0_ok nmX0 (by decide) gm_4 rfl (by decide +kernel) (Nat.le_of_ble_eq_true rfl) dX0_addTerm_45 (by simp [gE, gset]) (fun i _ h => gE_num (by decide) h) (fun H locs hG => ?_)
  refine lv_iload hx hb dX0_addTerm_48 (lv_at hl 0 rfl) ?_
  exact g_iretW G hG (⟨rfl, rfl⟩) dX0_addTerm_50
theorem ok_X0_makeKnown : gOK yX0_makeKnown cX0_makeKnown 4 none 3 := ⟨gm_34, gm_25, by decide +kernel⟩
set_option maxRecDepth 100000 in
set_option maxHeartbeats 4000000 in
theorem c_X0_makeKnown (l : Launch) (w : GP) (f : CS) (t : Nat) (g : Int32) (x : Int32) (hI : gI f)  : Met l yX0_makeKnown (gws yX0_makeKnown cX0_makeKnown 4 none) ({ frames := 1, cells := 0, slots := 0, locals := 21 }) (gPc w f [.ref (w.2.2.2 1), .int (nI t), .int g, .int x]) (gWr w (fun v_ f_ => v_ = none ∧ f_ = mkF f t g x)) 0 0 (gA w) := by
  refine g_read (by decide) (Nat.le_of_ble_eq_true rfl) ?_
  intro P_ E_ S_ M_ B_ T_ C_ ls G hV hl
  obtain ⟨hx, hb, hml, hown, hts⟩ := id G.1
  obtain ⟨⟨hT, hT24⟩, ⟨hC, hC12⟩, ⟨hD, hD6⟩, hLn⟩ := id hI
  have hl : lv_has ls 4 [(0, .ref (w.2.2.2 1)), (1, .int (nI t)), (2, .int g), (3, .int x)] := hl
  have hG := hV.start
  obtain ⟨H, hH⟩ : ∃ H, H = S_.heap := ⟨_, rfl⟩
  obtain ⟨locs, hL⟩ : ∃ L : List Loc, L = [] := ⟨_, rfl⟩
  rw [← hH, ← hL] at hG
  suffices K : ∀ (H : Heap) (locs : List Loc), GS w (gA w) S_ H locs f → W P_ l E_ _ S_ M_ _ B_ T_ C_ H locs 0 0 _ (F0 M_ 0 ls []) from by have := K H locs hG; rw [hH, hL] at this; exact this
  clear hG hH hL; intro H locs hG
  refine lv_iload_n hx hb dX0_makeKnown_0 rfl (lv_at hl 2 rfl) ?_
  refine lv_iload_n hx hb dX0_makeKnown_1 rfl (lv_at hl 3 rfl) ?_
  refine g_callS (As := [.int g, .int x]) (rest := []) G.1 hG.1 ok_X0_isStem gm_24 gm_23 (c_X0_isStem l w f g x  ) ⟨rfl, rfl⟩ ⟨Nat.le_of_ble_eq_true rfl, Nat.le_of_ble_eq_true rfl⟩ rfl hl.1 rfl (Nat.le_of_ble_eq_true rfl) ⟨Nat.zero_le _, Nat.zero_le _⟩ dX0_makeKnown_2 ?_
  refine lv_if_eq (tgt := 22) hx hb dX0_makeKnown_5 (by decide) (fun c5 => ?_) (fun c5 => ?_)
  · skip
    have c5 : ¬ (isS g x) := g_if0.mp c5
    exact g_vretW G hG (⟨rfl, by unfold mkF; rw [if_neg c5]⟩) dX0_makeKnown_22
  · skip
    have c5 : isS g x := g_if1.mp c5
    obtain ⟨u, hu, eu⟩ : ∃ u : Nat, u < 3 ∧ g = nI u := nz c5.1.1 c5.1.2 (by omega)
    rw [eu] at hl
    obtain ⟨v, hv, ev⟩ : ∃ v : Nat, v < 20 ∧ x = nI v := nz c5.2.1 c5.2.2 (by omega)
    rw [ev] at hl
    refine lv_aload_n hx hb dX0_makeKnown_8 rfl (lv_at hl 0 rfl) ?_
    refine g_get hx hb hts hown hG.1 1 11 (by decide) (v := .ref (w.2.2.2 12)) rfl rfl gin0 (by decide) gm_16 (rfl) dX0_makeKnown_9 ?_
    refine lv_iload_n hx hb dX0_makeKnown_12 rfl (lv_at hl 2 rfl) ?_
    refine g_row (n := 3) (b := 13) hx hb hG.1 12 (by decide) rfl (i := u) (by omega) (by decide) dX0_makeKnown_13 ?_
    refine lv_iload_n hx hb dX0_makeKnown_14 rfl (lv_at hl 3 rfl) ?_
    refine lv_dup2_11 hx hb dX0_makeKnown_15 rfl rfl ?_
    refine g_ialn (a := 60 + u) (n := 20) hx hb hG.1 (13 + u) (by omega) (by omega) (gid_13 (by omega)) (gn_13 (by omega)) (i := v) (by omega) dX0_makeKnown_16 ?_
    refine lv_iconst (v := nI 1) hx hb dX0_makeKnown_17 (by decide) ?_
    refine lv_iload_n hx hb dX0_makeKnown_18 rfl (lv_at hl 1 rfl) ?_
    refine lv_ishl hx hb dX0_makeKnown_19 ?_
    refine lv_ior hx hb dX0_makeKnown_20 ?_
    refine g_iast (a := 60 + u) (n := 20) hx hb hG (13 + u) (by omega) (by omega) (gid_13 (by omega)) (gn_13 (by omega)) (i := v) (by omega) dX0_makeKnown_21 (fun H locs hG => ?_)
    exact g_vretW G hG (⟨rfl, by unfold mkF; rw [if_pos c5, eu, ev, nI_clamp (by omega), nI_clamp (by omega)]⟩) dX0_makeKnown_22
theorem ok_X0_raise : gOK yX0_raise cX0_raise 3 (some .int) 1 := ⟨gm_226, gm_25, by decide +kernel⟩
set_option maxRecDepth 100000 in
set_option maxHeartbeats 4000000 in
theorem c_X0_raise (l : Launch) (w : GP) (f : CS) (t : Nat) (hI : gI f) (ht : t < 24) : Met l yX0_raise (gws yX0_raise cX0_raise 3 (some .int)) ({ frames := 1, cells := 0, slots := 0, locals := 23 }) (gPc w f [.ref (w.2.2.2 1), .int (nI t)]) (gWr w (fun v_ f_ => v_ = some (.int (prI f (f 2 t) (f 3 t))) ∧ f_ = raF f t)) 0 0 (gA w) := by
  refine g_read (by decide) (Nat.le_of_ble_eq_true rfl) ?_
  intro P_ E_ S_ M_ B_ T_ C_ ls G hV hl
  obtain ⟨hx, hb, hml, hown, hts⟩ := id G.1
  obtain ⟨⟨hT, hT24⟩, ⟨hC, hC12⟩, ⟨hD, hD6⟩, hLn⟩ := id hI
  have hl : lv_has ls 3 [(0, .ref (w.2.2.2 1)), (1, .int (nI t))] := hl
  have hG := hV.start
  obtain ⟨H, hH⟩ : ∃ H, H = S_.heap := ⟨_, rfl⟩
  obtain ⟨locs, hL⟩ : ∃ L : List Loc, L = [] := ⟨_, rfl⟩
  rw [← hH, ← hL] at hG
  suffices K : ∀ (H : Heap) (locs : List Loc), GS w (gA w) S_ H locs f → W P_ l E_ _ S_ M_ _ B_ T_ C_ H locs 0 0 _ (F0 M_ 0 ls []) from by have := K H locs hG; rw [hH, hL] at this; exact this
  clear hG hH hL; intro H locs hG
  refine lv_aload_n hx hb dX0_raise_0 rfl (lv_at hl 0 rfl) ?_
  refine lv_aload_n hx hb dX0_raise_1 rfl (lv_at hl 0 rfl) ?_
  refine g_get hx hb hts hown hG.1 1 3 (by decide) (v := .ref (w.2.2.2 4)) rfl rfl gin0 (by decide) gm_7 (rfl) dX0_raise_2 ?_
  refine lv_iload_n hx hb dX0_raise_5 rfl (lv_at hl 1 rfl) ?_
  refine g_ialn (a := 2) (n := 24) hx hb hG.1 4 (by decide) (by decide) rfl rfl (i := t) (by omega) dX0_raise_6 ?_
  refine lv_aload_n hx hb dX0_raise_7 rfl (lv_at hl 0 rfl) ?_
  refine g_get hx hb hts hown hG.1 1 4 (by decide) (v := .ref (w.2.2.2 5)) rfl rfl gin0 (by decide) gm_8 (rfl) dX0_raise_8 ?_
  refine lv_iload_n hx hb dX0_raise_11 rfl (lv_at hl 1 rfl) ?_
  refine g_ialn (a := 3) (n := 24) hx hb hG.1 5 (by decide) (by decide) rfl rfl (i := t) (by omega) dX0_raise_12 ?_
  refine g_callV (As := [.int (f 2 t), .int (f 3 t)]) (rest := []) G.1 hG.1 1 (by decide) rfl rfl ok_X0_preferredOf gm_36 gm_37 gm_35 (c_X0_preferredOf l w f (f 2 t) (f 3 t) hI ) ⟨rfl, rfl⟩ ⟨Nat.le_of_ble_eq_true rfl, Nat.le_of_ble_eq_true rfl⟩ rfl hl.1 rfl (Nat.le_of_ble_eq_true rfl) ⟨Nat.zero_le _, Nat.zero_le _⟩ dX0_raise_13 ?_
  refine lv_istore_n (lv' := [(2, .int (prI f (f 2 t) (f 3 t))), (0, .ref (w.2.2.2 1)), (1, .int (nI t))]) hx hb dX0_raise_16 rfl hl (by decide) rfl (fun ls hl => ?_)
  refine lv_aload_n hx hb dX0_raise_17 rfl (lv_at hl 1 rfl) ?_
  refine lv_iload_n hx hb dX0_raise_18 rfl (lv_at hl 0 rfl) ?_
  refine g_callV (As := [.int (prI f (f 2 t) (f 3 t))]) (rest := []) G.1 hG.1 1 (by decide) rfl rfl ok_X0_isTerm gm_40 gm_41 gm_39 (c_X0_isTerm l w f (prI f (f 2 t) (f 3 t)) hI ) ⟨rfl, rfl⟩ ⟨Nat.le_of_ble_eq_true rfl, Nat.le_of_ble_eq_true rfl⟩ rfl hl.1 rfl (Nat.le_of_ble_eq_true rfl) ⟨Nat.zero_le _, Nat.zero_le _⟩ dX0_raise_19 ?_
  refine lv_if_eq (tgt := 32) hx hb dX0_raise_22 (by decide) (fun c22 => ?_) (fun c22 => ?_)
  · skip
    have c22 : ¬ (0 ≤ (prI f (f 2 t) (f 3 t)) ∧ (prI f (f 2 t) (f 3 t)) < nI (nT f)) := g_if0.mp c22
    refine lv_aload_n hx hb dX0_raise_32 rfl (lv_at hl 1 rfl) ?_
    refine g_get hx hb hts hown hG.1 1 6 (by decide) (v := .ref (w.2.2.2 7)) rfl rfl gin0 (by decide) gm_10 (rfl) dX0_raise_33 ?_
    refine lv_iload_n hx hb dX0_raise_36 rfl (lv_at hl 2 rfl) ?_
    refine lv_iconst (v := nI 2) hx hb dX0_raise_37 (by decide) ?_
    refine g_iast (a := 5) (n := 24) hx hb hG 7 (by decide) (by decide) rfl rfl (i := t) (by omega) dX0_raise_38 (fun H locs hG => ?_)
    refine lv_iload_n hx hb dX0_raise_39 rfl (lv_at hl 0 rfl) ?_
    exact g_iretW G hG (⟨rfl, by unfold raF; rw [if_neg c22]⟩) dX0_raise_40
  · skip
    have c22 : 0 ≤ (prI f (f 2 t) (f 3 t)) ∧ (prI f (f 2 t) (f 3 t)) < nI (nT f) := g_if1.mp c22
    obtain ⟨u, hu, eu⟩ : ∃ u : Nat, u < nT f ∧ prI f (f 2 t) (f 3 t) = nI u := nz c22.1 c22.2 (by omega)
    rw [eu] at hl
    refine lv_aload_n hx hb dX0_raise_25 rfl (lv_at hl 1 rfl) ?_
    refine g_get hx hb hts hown hG.1 1 6 (by decide) (v := .ref (w.2.2.2 7)) rfl rfl gin0 (by decide) gm_10 (rfl) dX0_raise_26 ?_
    refine lv_iload_n hx hb dX0_raise_29 rfl (lv_at hl 0 rfl) ?_
    refine lv_iconst (v := nI 1) hx hb dX0_raise_30 (by decide) ?_
    refine g_iast (a := 5) (n := 24) hx hb hG 7 (by decide) (by decide) rfl rfl (i := u) (by omega) dX0_raise_31 (fun H locs hG => ?_)
    refine lv_aload_n hx hb dX0_raise_32 rfl (lv_at hl 1 rfl) ?_
    refine g_get hx hb hts hown hG.1 1 6 (by decide) (v := .ref (w.2.2.2 7)) rfl rfl gin0 (by decide) gm_10 (rfl) dX0_raise_33 ?_
    refine lv_iload_n hx hb dX0_raise_36 rfl (lv_at hl 2 rfl) ?_
    refine lv_iconst (v := nI 2) hx hb dX0_raise_37 (by decide) ?_
    refine g_iast (a := 5) (n := 24) hx hb hG 7 (by decide) (by decide) rfl rfl (i := t) (by omega) dX0_raise_38 (fun H locs hG => ?_)
    refine lv_iload_n hx hb dX0_raise_39 rfl (lv_at hl 0 rfl) ?_
    exact g_iretW G hG (⟨by rw [eu], by unfold raF; rw [if_pos c22, eu, nI_clamp (by omega)]⟩) dX0_raise_40
theorem ok_X0_forbid : gOK yX0_forbid cX0_forbid 4 none 3 := ⟨gm_234, gm_25, by decide +kernel⟩
set_option maxRecDepth 100000 in
set_option maxHeartbeats 4000000 in
theorem c_X0_forbid (l : Launch) (w : GP) (f : CS) (t : Nat) (d : Int32) (g : Int32) (hI : gI f) (ht : t < 24) : Met l yX0_forbid (gws yX0_forbid cX0_forbid 4 none) ({ frames := 0, cells := 0, slots := 0, locals := 0 }) (gPc w f [.ref (w.2.2.2 1), .int (nI t), .int d, .int g]) (gWr w (fun v_ f_ => v_ = none ∧ f_ = foF f t d g)) 0 0 (gA w) := by
  refine g_read (by decide) (Nat.le_of_ble_eq_true rfl) ?_
  intro P_ E_ S_ M_ B_ T_ C_ ls G hV hl
  obtain ⟨hx, hb, hml, hown, hts⟩ := id G.1
  obtain ⟨⟨hT, hT24⟩, ⟨hC, hC12⟩, ⟨hD, hD6⟩, hLn⟩ := id hI
  have hl : lv_has ls 4 [(0, .ref (w.2.2.2 1)), (1, .int (nI t)), (2, .int d), (3, .int g)] := hl
  have hG := hV.start
  obtain ⟨H, hH⟩ : ∃ H, H = S_.heap := ⟨_, rfl⟩
  obtain ⟨locs, hL⟩ : ∃ L : List Loc, L = [] := ⟨_, rfl⟩
  rw [← hH, ← hL] at hG
  suffices K : ∀ (H : Heap) (locs : List Loc), GS w (gA w) S_ H locs f → W P_ l E_ _ S_ M_ _ B_ T_ C_ H locs 0 0 _ (F0 M_ 0 ls []) from by have := K H locs hG; rw [hH, hL] at this; exact this
  clear hG hH hL; intro H locs hG
  refine lv_aload_n hx hb dX0_forbid_0 rfl (lv_at hl 0 rfl) ?_
  refine g_get hx hb hts hown hG.1 1 6 (by decide) (v := .ref (w.2.2.2 7)) rfl rfl gin0 (by decide) gm_10 (rfl) dX0_forbid_1 ?_
  refine lv_iload_n hx hb dX0_forbid_4 rfl (lv_at hl 1 rfl) ?_
  refine lv_iconst (v := nI 3) hx hb dX0_forbid_5 (by decide) ?_
  refine g_iast (a := 5) (n := 24) hx hb hG 7 (by decide) (by decide) rfl rfl (i := t) (by omega) dX0_forbid_6 (fun H locs hG => ?_)
  refine lv_aload_n hx hb dX0_forbid_7 rfl (lv_at hl 0 rfl) ?_
  refine g_get hx hb hts hown hG.1 1 9 (by decide) (v := .ref (w.2.2.2 10)) rfl rfl gin0 (by decide) gm_13 (rfl) dX0_forbid_8 ?_
  refine lv_iload_n hx hb dX0_forbid_11 rfl (lv_at hl 1 rfl) ?_
  refine lv_iload_n hx hb dX0_forbid_12 rfl (lv_at hl 2 rfl) ?_
  refine g_iast (a := 8) (n := 24) hx hb hG 10 (by decide) (by decide) rfl rfl (i := t) (by omega) dX0_forbid_13 (fun H locs hG => ?_)
  refine lv_aload_n hx hb dX0_forbid_14 rfl (lv_at hl 0 rfl) ?_
  refine g_get hx hb hts hown hG.1 1 10 (by decide) (v := .ref (w.2.2.2 11)) rfl rfl gin0 (by decide) gm_14 (rfl) dX0_forbid_15 ?_
  refine lv_iload_n hx hb dX0_forbid_18 rfl (lv_at hl 1 rfl) ?_
  refine lv_iload_n hx hb dX0_forbid_19 rfl (lv_at hl 3 rfl) ?_
  refine g_iast (a := 9) (n := 24) hx hb hG 11 (by decide) (by decide) rfl rfl (i := t) (by omega) dX0_forbid_20 (fun H locs hG => ?_)
  exact g_vretW G hG (⟨rfl, rfl⟩) dX0_forbid_21
theorem ok_X0_permit : gOK yX0_permit cX0_permit 3 (some .int) 2 := ⟨gm_238, gm_25, by decide +kernel⟩
set_option maxRecDepth 100000 in
set_option maxHeartbeats 4000000 in
theorem c_X0_permit (l : Launch) (w : GP) (f : CS) (t : Nat) (d : Int32) (hI : gI f) (ht : t < 24) : Met l yX0_permit (gws yX0_permit cX0_permit 3 (some .int)) ({ frames := 0, cells := 0, slots := 0, locals := 0 }) (gPc w f [.ref (w.2.2.2 1), .int (nI t), .int d]) (gWr w (fun v_ f_ => v_ = some (.int (d - f 8 t)) ∧ f_ = gset f 5 t (nI 1))) 0 0 (gA w) := by
  refine g_read (by decide) (Nat.le_of_ble_eq_true rfl) ?_
  intro P_ E_ S_ M_ B_ T_ C_ ls G hV hl
  obtain ⟨hx, hb, hml, hown, hts⟩ := id G.1
  obtain ⟨⟨hT, hT24⟩, ⟨hC, hC12⟩, ⟨hD, hD6⟩, hLn⟩ := id hI
  have hl : lv_has ls 3 [(0, .ref (w.2.2.2 1)), (1, .int (nI t)), (2, .int d)] := hl
  have hG := hV.start
  obtain ⟨H, hH⟩ : ∃ H, H = S_.heap := ⟨_, rfl⟩
  obtain ⟨locs, hL⟩ : ∃ L : List Loc, L = [] := ⟨_, rfl⟩
  rw [← hH, ← hL] at hG
  suffices K : ∀ (H : Heap) (locs : List Loc), GS w (gA w) S_ H locs f → W P_ l E_ _ S_ M_ _ B_ T_ C_ H locs 0 0 _ (F0 M_ 0 ls []) from by have := K H locs hG; rw [hH, hL] at this; exact this
  clear hG hH hL; intro H locs hG
  refine lv_aload_n hx hb dX0_permit_0 rfl (lv_at hl 0 rfl) ?_
  refine g_get hx hb hts hown hG.1 1 6 (by decide) (v := .ref (w.2.2.2 7)) rfl rfl gin0 (by decide) gm_10 (rfl) dX0_permit_1 ?_
  refine lv_iload_n hx hb dX0_permit_4 rfl (lv_at hl 1 rfl) ?_
  refine lv_iconst (v := nI 1) hx hb dX0_permit_5 (by decide) ?_
  refine g_iast (a := 5) (n := 24) hx hb hG 7 (by decide) (by decide) rfl rfl (i := t) (by omega) dX0_permit_6 (fun H locs hG => ?_)
  refine lv_iload_n hx hb dX0_permit_7 rfl (lv_at hl 2 rfl) ?_
  refine lv_aload_n hx hb dX0_permit_8 rfl (lv_at hl 0 rfl) ?_
  refine g_get hx hb hts hown hG.1 1 9 (by decide) (v := .ref (w.2.2.2 10)) rfl rfl gin0 (by decide) gm_13 (rfl) dX0_permit_9 ?_
  refine lv_iload_n hx hb dX0_permit_12 rfl (lv_at hl 1 rfl) ?_
  refine g_ialv (a := 8) (n := 24) (v := f 8 t) hx hb hG.1 10 (by decide) (by decide) rfl rfl (i := t) (by omega) (by simp [gset, ez0, ez5, ez11, ez12, eo11, eo12, eu11, eu12, eu20]) dX0_permit_13 ?_
  refine lv_isub hx hb dX0_permit_14 ?_
  exact g_iretW G hG (⟨rfl, rfl⟩) dX0_permit_15
theorem ok_X0_move : gOK yX0_move cX0_move 4 none 2 := ⟨gm_58, gm_25, by decide +kernel⟩
set_option maxRecDepth 100000 in
set_option maxHeartbeats 4000000 in
theorem c_X0_move (l : Launch) (w : GP) (f : CS) (x : Int32) (c : Int32) (hI : gI f)  : Met l yX0_move (gws yX0_move cX0_move 4 none) ({ frames := 1, cells := 0, slots := 0, locals := 21 }) (gPc w f [.ref (w.2.2.2 1), .int x, .int c]) (gWr w (fun v_ f_ => v_ = none ∧ f_ = mvF f x c (nT f))) 0 0 (gA w) := by
  refine g_read (by decide) (Nat.le_of_ble_eq_true rfl) ?_
  intro P_ E_ S_ M_ B_ T_ C_ ls G hV hl
  obtain ⟨hx, hb, hml, hown, hts⟩ := id G.1
  obtain ⟨⟨hT, hT24⟩, ⟨hC, hC12⟩, ⟨hD, hD6⟩, hLn⟩ := id hI
  have hl : lv_has ls 4 [(0, .ref (w.2.2.2 1)), (1, .int x), (2, .int c)] := hl
  have hG := hV.start
  obtain ⟨H, hH⟩ : ∃ H, H = S_.heap := ⟨_, rfl⟩
  obtain ⟨locs, hL⟩ : ∃ L : List Loc, L = [] := ⟨_, rfl⟩
  rw [← hH, ← hL] at hG
  suffices K : ∀ (H : Heap) (locs : List Loc), GS w (gA w) S_ H locs f → W P_ l E_ _ S_ M_ _ B_ T_ C_ H locs 0 0 _ (F0 M_ 0 ls []) from by have := K H locs hG; rw [hH, hL] at this; exact this
  clear hG hH hL; intro H locs hG
  refine lv_iconst (v := nI 0) hx hb dX0_move_0 (by decide) ?_
  refine lv_istore_n (lv' := [(3, .int (nI 0)), (0, .ref (w.2.2.2 1)), (1, .int x), (2, .int c)]) hx hb dX0_move_1 rfl hl (by decide) rfl (fun ls hl => ?_)
  refine g_for (P := fun k => ∀ (H : Heap) (locs : List Loc) (ls : Array Slot), GS w (gA w) S_ H locs (mvF f x c k) → lv_has ls 4 [(3, .int (nI k)), (0, .ref (w.2.2.2 1)), (1, .int x), (2, .int c)] → W P_ l E_ _ S_ M_ _ B_ T_ C_ H locs 0 0 _ (F0 M_ 2 ls [])) (nT f) ?_ ?_ 0 (Nat.zero_le _) H locs ls (by rw [mvF_0]; exact hG) (lv_sub hl [0, 1, 2, 3] rfl)
  · intro k hk ih H locs ls hG hl
    refine lv_iload_n hx hb dX0_move_2 rfl (lv_at hl 0 rfl) ?_
    refine lv_aload_n hx hb dX0_move_3 rfl (lv_at hl 1 rfl) ?_
    refine g_get hx hb hts hown hG.1 1 1 (by decide) (v := .int (nI (nT f))) rfl rfl gin0 (by decide) gm_4 (by show some (Value.int ((mvF f x c k) 0 1)) = some (.int (nI (nT f))); rw [show (mvF f x c k) 0 1 = nI (nT f) from by simp [gset, mvF, ← hT]]) dX0_move_4 ?_
    refine lv_icmp_ge (tgt := 31) hx hb dX0_move_7 (by decide) (fun c7 => ?_) (fun c7 => ?_)
    · skip
      have c7 : (nT f) ≤ k := (g_le (by omega) (by omega)).mp c7
      exact absurd c7 (by omega)
    · skip
      have c7 : ¬ ((nT f) ≤ k) := fun q => c7 ((g_le (by omega) (by omega)).mpr q)
      refine lv_iload_n hx hb dX0_move_10 rfl (lv_at hl 2 rfl) ?_
      refine lv_iload_n hx hb dX0_move_11 rfl (lv_at hl 0 rfl) ?_
      refine g_callN (As := [.int x, .int (nI k)]) (rest := []) G.1 hG.1 ok_X2_has gm_17 hG.1.1.2.1 (c_X2_has l w (mvF f x c k) x (nI k)  ) ⟨rfl, rfl⟩ ⟨Nat.le_of_ble_eq_true rfl, Nat.le_of_ble_eq_true rfl⟩ rfl hl.1 rfl (Nat.le_of_ble_eq_true rfl) ⟨Nat.zero_le _, Nat.zero_le _⟩ dX0_move_12 ?_
      refine lv_if_eq (tgt := 25) hx hb dX0_move_15 (by decide) (fun c15 => ?_) (fun c15 => ?_)
      · skip
        have c15 : ¬ (hs x (nI k) = true) := g_if0.mp c15
        refine lv_iinc (v := nI (k + 1)) (lv' := [(3, .int (nI (k + 1))), (0, .ref (w.2.2.2 1)), (1, .int x), (2, .int c)]) hx hb dX0_move_25 hl (k := 0) rfl (g_inc k 1) (by decide) rfl (fun ls hl => ?_)
        refine lv_goto (tgt := 2) hx hb dX0_move_28 (by decide) ?_
        refine ih H locs ls (by rw [show mvF f x c (k + 1) = mvF f x c k from by first | exact mvF_n c15 | exact mvF_y c15]; exact hG) ?_
        exact lv_sub hl [0, 1, 2, 3] rfl
      · skip
        have c15 : hs x (nI k) = true := g_if1.mp c15
        refine lv_aload_n hx hb dX0_move_18 rfl (lv_at hl 1 rfl) ?_
        refine g_get hx hb hts hown hG.1 1 3 (by decide) (v := .ref (w.2.2.2 4)) rfl rfl gin0 (by decide) gm_7 (rfl) dX0_move_19 ?_
        refine lv_iload_n hx hb dX0_move_22 rfl (lv_at hl 0 rfl) ?_
        refine lv_iload_n hx hb dX0_move_23 rfl (lv_at hl 3 rfl) ?_
        refine g_iast (a := 2) (n := 24) hx hb hG 4 (by decide) (by decide) rfl rfl (i := k) (by omega) dX0_move_24 (fun H locs hG => ?_)
        refine lv_iinc (v := nI (k + 1)) (lv' := [(3, .int (nI (k + 1))), (0, .ref (w.2.2.2 1)), (1, .int x), (2, .int c)]) hx hb dX0_move_25 hl (k := 0) rfl (g_inc k 1) (by decide) rfl (fun ls hl => ?_)
        refine lv_goto (tgt := 2) hx hb dX0_move_28 (by decide) ?_
        refine ih H locs ls (by rw [show mvF f x c (k + 1) = gset (mvF f x c k) 2 k c from by first | exact mvF_n c15 | exact mvF_y c15]; exact hG) ?_
        exact lv_sub hl [0, 1, 2, 3] rfl
  · intro H locs ls hG hl
    refine lv_iload_n hx hb dX0_move_2 rfl (lv_at hl 0 rfl) ?_
    refine lv_aload_n hx hb dX0_move_3 rfl (lv_at hl 1 rfl) ?_
    refine g_get hx hb hts hown hG.1 1 1 (by decide) (v := .int (nI (nT f))) rfl rfl gin0 (by decide) gm_4 (by show some (Value.int ((mvF f x c (nT f)) 0 1)) = some (.int (nI (nT f))); rw [show (mvF f x c (nT f)) 0 1 = nI (nT f) from by simp [gset, mvF, ← hT]]) dX0_move_4 ?_
    refine lv_icmp_ge (tgt := 31) hx hb dX0_move_7 (by decide) (fun c7 => ?_) (fun c7 => ?_)
    · skip
      have c7 : (nT f) ≤ (nT f) := (g_le (by omega) (by omega)).mp c7
      exact g_vretW G hG (⟨rfl, rfl⟩) dX0_move_31
    · skip
      have c7 : ¬ ((nT f) ≤ (nT f)) := fun q => c7 ((g_le (by omega) (by omega)).mpr q)
      exact absurd c7 (by omega)
theorem ok_X0_unite : gOK yX0_unite cX0_unite 6 none 2 := ⟨gm_275, gm_25, by decide +kernel⟩
set_option maxRecDepth 100000 in
set_option maxHeartbeats 4000000 in
theorem c_X0_unite (l : Launch) (w : GP) (f : CS) (x : Int32) (y : Int32) (hI : gI f)  : Met l yX0_unite (gws yX0_unite cX0_unite 6 none) ({ frames := 2, cells := 0, slots := 0, locals := 44 }) (gPc w f [.ref (w.2.2.2 1), .int x, .int y]) (gWr w (fun v_ f_ => v_ = none ∧ f_ = unA f x y)) 0 0 (gA w) := by
  refine g_read (by decide) (Nat.le_of_ble_eq_true rfl) ?_
  intro P_ E_ S_ M_ B_ T_ C_ ls G hV hl
  obtain ⟨hx, hb, hml, hown, hts⟩ := id G.1
  obtain ⟨⟨hT, hT24⟩, ⟨hC, hC12⟩, ⟨hD, hD6⟩, hLn⟩ := id hI
  have hl : lv_has ls 6 [(0, .ref (w.2.2.2 1)), (1, .int x), (2, .int y)] := hl
  have hG := hV.start
  obtain ⟨H, hH⟩ : ∃ H, H = S_.heap := ⟨_, rfl⟩
  obtain ⟨locs, hL⟩ : ∃ L : List Loc, L = [] := ⟨_, rfl⟩
  rw [← hH, ← hL] at hG
  suffices K : ∀ (H : Heap) (locs : List Loc), GS w (gA w) S_ H locs f → W P_ l E_ _ S_ M_ _ B_ T_ C_ H locs 0 0 _ (F0 M_ 0 ls []) from by have := K H locs hG; rw [hH, hL] at this; exact this
  clear hG hH hL; intro H locs hG
  refine lv_iconst (v := nI 0) hx hb dX0_unite_0 (by decide) ?_
  refine lv_istore_n (lv' := [(3, .int (nI 0)), (0, .ref (w.2.2.2 1)), (1, .int x), (2, .int y)]) hx hb dX0_unite_1 rfl hl (by decide) rfl (fun ls hl => ?_)
  refine g_for (P := fun k => ∀ (H : Heap) (locs : List Loc) (ls : Array Slot), GS w (gA w) S_ H locs (unF f x y k) → lv_has ls 6 [(3, .int (nI k)), (0, .ref (w.2.2.2 1)), (1, .int x), (2, .int y)] → W P_ l E_ _ S_ M_ _ B_ T_ C_ H locs 0 0 _ (F0 M_ 2 ls [])) (3) ?_ ?_ 0 (Nat.zero_le _) H locs ls hG (lv_sub hl [0, 1, 2, 3] rfl)
  · intro k hk ih H locs ls hG hl
    refine lv_iload_n hx hb dX0_unite_2 rfl (lv_at hl 0 rfl) ?_
    refine lv_iconst (v := nI 3) hx hb dX0_unite_3 (by decide) ?_
    refine lv_icmp_ge (tgt := 60) hx hb dX0_unite_4 (by decide) (fun c4 => ?_) (fun c4 => ?_)
    · skip
      have c4 : 3 ≤ k := (g_le (by omega) (by omega)).mp c4
      exact absurd c4 (by omega)
    · skip
      have c4 : ¬ (3 ≤ k) := fun q => c4 ((g_le (by omega) (by omega)).mpr q)
      have hIk : gI (unF f x y k) := unF_I hI k
      have hTk : nT (unF f x y k) = nT f := by unfold nT; rw [unF_0 f x y 0 (by omega) k]
      refine lv_aload_n hx hb dX0_unite_7 rfl (lv_at hl 1 rfl) ?_
      refine lv_iload_n hx hb dX0_unite_8 rfl (lv_at hl 2 rfl) ?_
      refine lv_iload_n hx hb dX0_unite_9 rfl (lv_at hl 0 rfl) ?_
      refine g_callV (As := [.int x, .int (nI k)]) (rest := []) G.1 hG.1 1 (by decide) rfl rfl ok_X0_preferredOf gm_36 gm_37 gm_35 (c_X0_preferredOf l w (unF f x y k) x (nI k) hIk ) ⟨rfl, rfl⟩ ⟨Nat.le_of_ble_eq_true rfl, Nat.le_of_ble_eq_true rfl⟩ rfl hl.1 rfl (Nat.le_of_ble_eq_true rfl) ⟨Nat.zero_le _, Nat.zero_le _⟩ dX0_unite_10 ?_
      refine lv_istore (lv' := [(4, .int (prI (unF f x y k) x (nI k))), (3, .int (nI k)), (0, .ref (w.2.2.2 1)), (1, .int x), (2, .int y)]) hx hb dX0_unite_13 hl (by decide) rfl (fun ls hl => ?_)
      refine lv_aload_n hx hb dX0_unite_15 rfl (lv_at hl 2 rfl) ?_
      refine lv_iload_n hx hb dX0_unite_16 rfl (lv_at hl 4 rfl) ?_
      refine lv_iload_n hx hb dX0_unite_17 rfl (lv_at hl 1 rfl) ?_
      refine g_callV (As := [.int y, .int (nI k)]) (rest := []) G.1 hG.1 1 (by decide) rfl rfl ok_X0_preferredOf gm_36 gm_37 gm_35 (c_X0_preferredOf l w (unF f x y k) y (nI k) hIk ) ⟨rfl, rfl⟩ ⟨Nat.le_of_ble_eq_true rfl, Nat.le_of_ble_eq_true rfl⟩ rfl hl.1 rfl (Nat.le_of_ble_eq_true rfl) ⟨Nat.zero_le _, Nat.zero_le _⟩ dX0_unite_18 ?_
      refine lv_istore (lv' := [(5, .int (prI (unF f x y k) y (nI k))), (4, .int (prI (unF f x y k) x (nI k))), (3, .int (nI k)), (0, .ref (w.2.2.2 1)), (1, .int x), (2, .int y)]) hx hb dX0_unite_21 hl (by decide) rfl (fun ls hl => ?_)
      refine lv_aload_n hx hb dX0_unite_23 rfl (lv_at hl 3 rfl) ?_
      refine lv_iload hx hb dX0_unite_24 (lv_at hl 1 rfl) ?_
      refine g_callV (As := [.int (prI (unF f x y k) x (nI k))]) (rest := []) G.1 hG.1 1 (by decide) rfl rfl ok_X0_isTerm gm_40 gm_41 gm_39 (c_X0_isTerm l w (unF f x y k) (prI (unF f x y k) x (nI k)) hIk ) ⟨rfl, rfl⟩ ⟨Nat.le_of_ble_eq_true rfl, Nat.le_of_ble_eq_true rfl⟩ rfl hl.1 rfl (Nat.le_of_ble_eq_true rfl) ⟨Nat.zero_le _, Nat.zero_le _⟩ dX0_unite_26 ?_
      refine lv_if_eq (tgt := 54) hx hb dX0_unite_29 (by decide) (fun c29 => ?_) (fun c29 => ?_)
      · skip
        have c29 : ¬ (0 ≤ (prI (unF f x y k) x (nI k)) ∧ (prI (unF f x y k) x (nI k)) < nI (nT (unF f x y k))) := g_if0.mp c29
        refine lv_iinc (v := nI (k + 1)) (lv' := [(3, .int (nI (k + 1))), (5, .int (prI (unF f x y k) y (nI k))), (4, .int (prI (unF f x y k) x (nI k))), (0, .ref (w.2.2.2 1)), (1, .int x), (2, .int y)]) hx hb dX0_unite_54 hl (k := 2) rfl (g_inc k 1) (by decide) rfl (fun ls hl => ?_)
        refine lv_goto (tgt := 2) hx hb dX0_unite_57 (by decide) ?_
        refine ih H locs ls (by rw [show unF f x y (k + 1) = unF f x y k from by first | (show un1 _ _ _ _ = _; unfold un1; rw [if_neg (fun q => c29 q.1)]; done) | (show un1 _ _ _ _ = _; unfold un1; rw [if_neg (fun q => c38 q.2)]; done) | (show un1 _ _ _ _ = _; unfold un1; rw [if_pos ⟨c29, c38⟩, eu, ev]; simp only [g_lt (show u < 2 ^ 31 by omega) (show v < 2 ^ 31 by omega)]; congr 1; split <;> exact nI_clamp (by omega))]; exact hG) ?_
        exact lv_sub hl [0, 3, 4, 5] rfl
      · skip
        have c29 : 0 ≤ (prI (unF f x y k) x (nI k)) ∧ (prI (unF f x y k) x (nI k)) < nI (nT (unF f x y k)) := g_if1.mp c29
        refine lv_aload_n hx hb dX0_unite_32 rfl (lv_at hl 3 rfl) ?_
        refine lv_iload hx hb dX0_unite_33 (lv_at hl 0 rfl) ?_
        refine g_callV (As := [.int (prI (unF f x y k) y (nI k))]) (rest := []) G.1 hG.1 1 (by decide) rfl rfl ok_X0_isTerm gm_40 gm_41 gm_39 (c_X0_isTerm l w (unF f x y k) (prI (unF f x y k) y (nI k)) hIk ) ⟨rfl, rfl⟩ ⟨Nat.le_of_ble_eq_true rfl, Nat.le_of_ble_eq_true rfl⟩ rfl hl.1 rfl (Nat.le_of_ble_eq_true rfl) ⟨Nat.zero_le _, Nat.zero_le _⟩ dX0_unite_35 ?_
        refine lv_if_eq (tgt := 54) hx hb dX0_unite_38 (by decide) (fun c38 => ?_) (fun c38 => ?_)
        · skip
          have c38 : ¬ (0 ≤ (prI (unF f x y k) y (nI k)) ∧ (prI (unF f x y k) y (nI k)) < nI (nT (unF f x y k))) := g_if0.mp c38
          refine lv_iinc (v := nI (k + 1)) (lv' := [(3, .int (nI (k + 1))), (5, .int (prI (unF f x y k) y (nI k))), (4, .int (prI (unF f x y k) x (nI k))), (0, .ref (w.2.2.2 1)), (1, .int x), (2, .int y)]) hx hb dX0_unite_54 hl (k := 2) rfl (g_inc k 1) (by decide) rfl (fun ls hl => ?_)
          refine lv_goto (tgt := 2) hx hb dX0_unite_57 (by decide) ?_
          refine ih H locs ls (by rw [show unF f x y (k + 1) = unF f x y k from by first | (show un1 _ _ _ _ = _; unfold un1; rw [if_neg (fun q => c29 q.1)]; done) | (show un1 _ _ _ _ = _; unfold un1; rw [if_neg (fun q => c38 q.2)]; done) | (show un1 _ _ _ _ = _; unfold un1; rw [if_pos ⟨c29, c38⟩, eu, ev]; simp only [g_lt (show u < 2 ^ 31 by omega) (show v < 2 ^ 31 by omega)]; congr 1; split <;> exact nI_clamp (by omega))]; exact hG) ?_
          exact lv_sub hl [0, 3, 4, 5] rfl
        · skip
          have c38 : 0 ≤ (prI (unF f x y k) y (nI k)) ∧ (prI (unF f x y k) y (nI k)) < nI (nT (unF f x y k)) := g_if1.mp c38
          obtain ⟨u, hu, eu⟩ : ∃ u : Nat, u < nT (unF f x y k) ∧ prI (unF f x y k) x (nI k) = nI u := nz c29.1 c29.2 (by omega)
          rw [eu] at hl
          obtain ⟨v, hv, ev⟩ : ∃ v : Nat, v < nT (unF f x y k) ∧ prI (unF f x y k) y (nI k) = nI v := nz c38.1 c38.2 (by omega)
          rw [ev] at hl
          refine lv_aload_n hx hb dX0_unite_41 rfl (lv_at hl 3 rfl) ?_
          refine g_get hx hb hts hown hG.1 1 6 (by decide) (v := .ref (w.2.2.2 7)) rfl rfl gin0 (by decide) gm_10 (rfl) dX0_unite_42 ?_
          refine lv_iload hx hb dX0_unite_45 (lv_at hl 1 rfl) ?_
          refine lv_iload hx hb dX0_unite_47 (lv_at hl 0 rfl) ?_
          refine va_mmax hx hb (hml.trans hl.1.symm) hown (hts _ gm_47) (hts _ gm_48) (hts _ gm_49) (hts _ gm_50) (Nat.le_of_ble_eq_true rfl) (Nat.le_of_ble_eq_true rfl) (Nat.zero_le _) (Nat.zero_le _) dX0_unite_49 ?_
          refine W.eq (g2 := F0 M_ _ ls [.int (nI (if u < v then v else u)), .ref (w.2.2.2 7)]) (by rw [show (if nI u < nI v then nI v else nI u) = nI (if u < v then v else u) from by simp only [g_lt (show u < 2 ^ 31 by omega) (show v < 2 ^ 31 by omega)]; split <;> rfl]) ?_
          refine lv_iconst (v := nI 1) hx hb dX0_unite_52 (by decide) ?_
          refine g_iast (a := 5) (n := 24) hx hb hG 7 (by decide) (by decide) rfl rfl (i := if u < v then v else u) (by split <;> omega) dX0_unite_53 (fun H locs hG => ?_)
          refine lv_iinc (v := nI (k + 1)) (lv' := [(3, .int (nI (k + 1))), (5, .int (nI v)), (4, .int (nI u)), (0, .ref (w.2.2.2 1)), (1, .int x), (2, .int y)]) hx hb dX0_unite_54 hl (k := 2) rfl (g_inc k 1) (by decide) rfl (fun ls hl => ?_)
          refine lv_goto (tgt := 2) hx hb dX0_unite_57 (by decide) ?_
          refine ih H locs ls (by rw [show unF f x y (k + 1) = gset (unF f x y k) 5 (if u < v then v else u) (nI 1) from by first | (show un1 _ _ _ _ = _; unfold un1; rw [if_neg (fun q => c29 q.1)]; done) | (show un1 _ _ _ _ = _; unfold un1; rw [if_neg (fun q => c38 q.2)]; done) | (show un1 _ _ _ _ = _; unfold un1; rw [if_pos ⟨c29, c38⟩, eu, ev]; simp only [g_lt (show u < 2 ^ 31 by omega) (show v < 2 ^ 31 by omega)]; congr 1; split <;> exact nI_clamp (by omega))]; exact hG) ?_
          exact lv_sub hl [0, 3, 4, 5] rfl
  · intro H locs ls hG hl
    refine lv_iload_n hx hb dX0_unite_2 rfl (lv_at hl 0 rfl) ?_
    refine lv_iconst (v := nI 3) hx hb dX0_unite_3 (by decide) ?_
    refine lv_icmp_ge (tgt := 60) hx hb dX0_unite_4 (by decide) (fun c4 => ?_) (fun c4 => ?_)
    · skip
      have c4 : 3 ≤ 3 := (g_le (by omega) (by omega)).mp c4
      have hI3 : gI (unF f x y 3) := unF_I hI 3
      refine lv_aload_n hx hb dX0_unite_60 rfl (lv_at hl 1 rfl) ?_
      refine lv_aload_n hx hb dX0_unite_61 rfl (lv_at hl 1 rfl) ?_
      refine lv_iload_n hx hb dX0_unite_62 rfl (lv_at hl 3 rfl) ?_
      refine g_callV (As := [.int y]) (rest := [.ref (w.2.2.2 1)]) G.1 hG.1 1 (by decide) rfl rfl ok_X0_termsOf gm_52 gm_53 gm_51 (c_X0_termsOf l w (unF f x y 3) y hI3 ) ⟨rfl, rfl⟩ ⟨Nat.le_of_ble_eq_true rfl, Nat.le_of_ble_eq_true rfl⟩ rfl hl.1 rfl (Nat.le_of_ble_eq_true rfl) ⟨Nat.zero_le _, Nat.zero_le _⟩ dX0_unite_63 ?_
      refine lv_iload_n hx hb dX0_unite_66 rfl (lv_at hl 2 rfl) ?_
      refine g_callW (As := [.int (ofC (unF f x y 3) y), .int x]) (rest := []) G.1 hG 1 (by decide) rfl rfl ok_X0_move gm_56 gm_57 gm_55 (c_X0_move l w (unF f x y 3) (ofC (unF f x y 3) y) x hI3 ) ⟨rfl, rfl⟩ ⟨Nat.le_of_ble_eq_true rfl, Nat.le_of_ble_eq_true rfl⟩ rfl hl.1 rfl (Nat.le_of_ble_eq_true rfl) ⟨Nat.zero_le _, Nat.zero_le _⟩ dX0_unite_67 (fun v f67 H locs hp hG => ?_)
      obtain ⟨rfl, rfl⟩ := hp
      exact g_vretW G hG (⟨rfl, rfl⟩) dX0_unite_70
    · skip
      have c4 : ¬ (3 ≤ 3) := fun q => c4 ((g_le (by omega) (by omega)).mpr q)
      exact absurd c4 (by omega)
