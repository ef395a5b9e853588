theorem ok_X0_addConcept : gOK yX0_addConcept cX0_addConcept 3 (some .int) 1 := ⟨gm_181, gm_25, by decide +kernel⟩
set_option maxRecDepth 100000 in
set_option maxHeartbeats 4000000 in
theorem c_X0_addConcept (l : Launch) (w : GP) (f : CS) (x : Int32) (hI : gI f) (h : nC f < 12) : Met l yX0_addConcept (gws yX0_addConcept cX0_addConcept 3 (some .int)) ({ frames := 0, cells := 0, slots := 0, locals := 0 }) (gPc w f [.ref (w.2.2.2 1), .int x]) (gWr w (fun v_ f_ => v_ = some (.int (nI (nC f))) ∧ f_ = adC f x)) 0 0 (gA w) := by
  refine g_read (by decide) (Nat.le_of_ble_eq_true rfl) ?_
  intro P_ E_ S_ M_ B_ T_ C_ ls G hV hl
  obtain ⟨hx, hb, hml, hown, hts⟩ := id G.1
  obtain ⟨⟨hT, hT24⟩, ⟨hC, hC12⟩, ⟨hD, hD6⟩, hLn⟩ := id hI
  have hl : lv_has ls 3 [(0, .ref (w.2.2.2 1)), (1, .int x)] := hl
  have hG := hV.start
  obtain ⟨H, hH⟩ : ∃ H, H = S_.heap := ⟨_, rfl⟩
  obtain ⟨locs, hL⟩ : ∃ L : List Loc, L = [] := ⟨_, rfl⟩
  rw [← hH, ← hL] at hG
  suffices K : ∀ (H : Heap) (locs : List Loc), GS w (gA w) S_ H locs f → W P_ l E_ _ S_ M_ _ B_ T_ C_ H locs 0 0 _ (F0 M_ 0 ls []) from by have := K H locs hG; rw [hH, hL] at this; exact this
  clear hG hH hL; intro H locs hG
  refine lv_aload_n hx hb dX0_addConcept_0 rfl (lv_at hl 0 rfl) ?_
  refine g_get hx hb hts hown hG.1 1 0 (by decide) (v := .int (nI (nC f))) rfl rfl gin0 (by decide) gm_3 (by rw [← hC]; rfl) dX0_addConcept_1 ?_
  refine lv_istore_n (lv' := [(2, .int (nI (nC f))), (0, .ref (w.2.2.2 1)), (1, .int x)]) hx hb dX0_addConcept_4 rfl hl (by decide) rfl (fun ls hl => ?_)
  refine lv_aload_n hx hb dX0_addConcept_5 rfl (lv_at hl 1 rfl) ?_
  refine g_get hx hb hts hown hG.1 1 2 (by decide) (v := .ref (w.2.2.2 3)) rfl rfl gin0 (by decide) gm_6 (rfl) dX0_addConcept_6 ?_
  refine lv_iload_n hx hb dX0_addConcept_9 rfl (lv_at hl 0 rfl) ?_
  refine lv_iload_n hx hb dX0_addConcept_10 rfl (lv_at hl 2 rfl) ?_
  refine g_iast (a := 1) (n := 12) hx hb hG 3 (by decide) (by decide) rfl rfl (i := nC f) (by omega) dX0_addConcept_11 (fun H locs hG => ?_)
  refine lv_aload_n hx hb dX0_addConcept_12 rfl (lv_at hl 1 rfl) ?_
  refine lv_dup hx hb dX0_addConcept_13 rfl ?_
  refine g_get hx hb hts hown hG.1 1 0 (by decide) (v := .int (nI (nC f))) rfl rfl gin0 (by decide) gm_3 (by show some (Value.int ((gset f 1 (nC f) x) 0 0)) = some (.int (nI (nC f))); rw [show (gset f 1 (nC f) x) 0 0 = nI (nC f) from by simp [gset, ← hC]]) dX0_addConcept_14 ?_
  refine lv_iconst (v := nI 1) hx hb dX0_addConcept_17 (by decide) ?_
  refine g_iaddn hx hb dX0_addConcept_18 ?_
  refine g_put (a := 0) hx hb hts hown hG 1 0 (by decide) rfl rfl gin0 tyX0_ok nmX0 (by decide) gm_3 rfl (by decide +kernel) (Nat.le_of_ble_eq_true rfl) dX0_addConcept_19 (by simp [gE, gset]) (fun i _ h => gE_num (by decide) h) (fun H locs hG => ?_)
  refine lv_iload_n hx hb dX0_addConcept_22 rfl (lv_at hl 0 rfl) ?_
  exact g_iretW G hG (⟨rfl, rfl⟩) dX0_addConcept_23
