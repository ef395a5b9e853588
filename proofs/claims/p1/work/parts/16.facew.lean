theorem ok_X2_concept : gOK yX2_concept cX2_concept 2 (some .int) 1 := ⟨gm_571, gm_18, by decide +kernel⟩
set_option maxRecDepth 100000 in
set_option maxHeartbeats 4000000 in
theorem c_X2_concept (l : Launch) (w : GP) (f : CS) (x : Nat) (hI : gI f) (h : x < 4) (h2 : nC f < 12) : Met l yX2_concept (gws yX2_concept cX2_concept 2 (some .int)) ({ frames := 1, cells := 0, slots := 0, locals := 22 }) (gPc w f [.ref (w.2.2.2 0), .int (nI x)]) (gWr w (fun v_ f_ => v_ = some (.int (nI (nC f))) ∧ f_ = adC f (nI x))) 0 0 (gA w) := by
  refine g_read (by decide) (Nat.le_of_ble_eq_true rfl) ?_
  intro P_ E_ S_ M_ B_ T_ C_ ls G hV hl
  obtain ⟨hx, hb, hml, hown, hts⟩ := id G.1
  obtain ⟨⟨hT, hT24⟩, ⟨hC, hC12⟩, ⟨hD, hD6⟩, hLn⟩ := id hI
  have hl : lv_has ls 2 [(0, .ref (w.2.2.2 0)), (1, .int (nI x))] := hl
  have hG := hV.start
  obtain ⟨H, hH⟩ : ∃ H, H = S_.heap := ⟨_, rfl⟩
  obtain ⟨locs, hL⟩ : ∃ L : List Loc, L = [] := ⟨_, rfl⟩
  rw [← hH, ← hL] at hG
  suffices K : ∀ (H : Heap) (locs : List Loc), GS w (gA w) S_ H locs f → W P_ l E_ _ S_ M_ _ B_ T_ C_ H locs 0 0 _ (F0 M_ 0 ls []) from by have := K H locs hG; rw [hH, hL] at this; exact this
  clear hG hH hL; intro H locs hG
  refine lv_aload_n hx hb dX2_concept_0 rfl (lv_at hl 0 rfl) ?_
  refine lv_iload_n hx hb dX2_concept_1 rfl (lv_at hl 1 rfl) ?_
  refine g_callVv (As := [.int (nI x)]) (rest := []) G.1 hG.1 0 (by decide) rfl rfl ok_X2_requireDomain gm_171 gm_172 gm_170 (c_X2_requireDomain l w f x hI (by omega)) ⟨rfl, rfl⟩ ⟨Nat.le_of_ble_eq_true rfl, Nat.le_of_ble_eq_true rfl⟩ rfl hl.1 rfl (Nat.le_of_ble_eq_true rfl) ⟨Nat.zero_le _, Nat.zero_le _⟩ dX2_concept_2 ?_
  refine lv_aload_n hx hb dX2_concept_5 rfl (lv_at hl 0 rfl) ?_
  refine g_callVv (As := []) (rest := []) G.1 hG.1 0 (by decide) rfl rfl ok_X2_requireRoomForConcept gm_175 gm_176 gm_174 (c_X2_requireRoomForConcept l w f  hI (h2)) ⟨rfl, rfl⟩ ⟨Nat.le_of_ble_eq_true rfl, Nat.le_of_ble_eq_true rfl⟩ rfl hl.1 rfl (Nat.le_of_ble_eq_true rfl) ⟨Nat.zero_le _, Nat.zero_le _⟩ dX2_concept_6 ?_
  refine lv_aload_n hx hb dX2_concept_9 rfl (lv_at hl 0 rfl) ?_
  refine g_get hx hb hts hown hG.1 0 0 (by decide) (v := .ref (w.2.2.2 1)) rfl rfl gin2 (by decide) gm_155 (rfl) dX2_concept_10 ?_
  refine lv_iload_n hx hb dX2_concept_13 rfl (lv_at hl 1 rfl) ?_
  refine g_callW (As := [.int (nI x)]) (rest := []) G.1 hG 1 (by decide) rfl rfl ok_X0_addConcept gm_179 gm_180 gm_178 (c_X0_addConcept l w f (nI x) hI (h2)) ⟨rfl, rfl⟩ ⟨Nat.le_of_ble_eq_true rfl, Nat.le_of_ble_eq_true rfl⟩ rfl hl.1 rfl (Nat.le_of_ble_eq_true rfl) ⟨Nat.zero_le _, Nat.zero_le _⟩ dX2_concept_14 (fun v f14 H locs hp hG => ?_)
  obtain ⟨rfl, rfl⟩ := hp
  exact g_iretW G hG (⟨rfl, rfl⟩) dX2_concept_17
theorem ok_X2_document : gOK yX2_document cX2_document 1 (some .int) 0 := ⟨gm_606, gm_18, by decide +kernel⟩
set_option maxRecDepth 100000 in
set_option maxHeartbeats 4000000 in
theorem c_X2_document (l : Launch) (w : GP) (f : CS)  (hI : gI f) (h : nD f < 6) : Met l yX2_document (gws yX2_document cX2_document 1 (some .int)) ({ frames := 1, cells := 0, slots := 0, locals := 21 }) (gPc w f [.ref (w.2.2.2 0)]) (gWr w (fun v_ f_ => v_ = some (.int (nI (nD f))) ∧ f_ = gset f 0 2 (nI (nD f + 1)))) 0 0 (gA w) := by
  refine g_read (by decide) (Nat.le_of_ble_eq_true rfl) ?_
  intro P_ E_ S_ M_ B_ T_ C_ ls G hV hl
  obtain ⟨hx, hb, hml, hown, hts⟩ := id G.1
  obtain ⟨⟨hT, hT24⟩, ⟨hC, hC12⟩, ⟨hD, hD6⟩, hLn⟩ := id hI
  have hl : lv_has ls 1 [(0, .ref (w.2.2.2 0))] := hl
  have hG := hV.start
  obtain ⟨H, hH⟩ : ∃ H, H = S_.heap := ⟨_, rfl⟩
  obtain ⟨locs, hL⟩ : ∃ L : List Loc, L = [] := ⟨_, rfl⟩
  rw [← hH, ← hL] at hG
  suffices K : ∀ (H : Heap) (locs : List Loc), GS w (gA w) S_ H locs f → W P_ l E_ _ S_ M_ _ B_ T_ C_ H locs 0 0 _ (F0 M_ 0 ls []) from by have := K H locs hG; rw [hH, hL] at this; exact this
  clear hG hH hL; intro H locs hG
  refine lv_aload_n hx hb dX2_document_0 rfl (lv_at hl 0 rfl) ?_
  refine g_get hx hb hts hown hG.1 0 1 (by decide) (v := .ref (w.2.2.2 2)) rfl rfl gin2 (by decide) gm_158 (rfl) dX2_document_1 ?_
  refine g_get hx hb hts hown hG.1 2 1 (by decide) (v := .int (nI (nD f))) rfl rfl gin1 (by decide) gm_276 (by rw [← hD]; rfl) dX2_document_4 ?_
  refine lv_bipush (v := nI 6) hx hb dX2_document_7 (by decide) ?_
  refine lv_icmp_lt (tgt := 22) hx hb dX2_document_9 (by decide) (fun c9 => ?_) (fun c9 => ?_)
  · skip
    have c9 : (nD f) < 6 := (g_lt (by omega) (by omega)).mp c9
    refine lv_aload_n hx hb dX2_document_22 rfl (lv_at hl 0 rfl) ?_
    refine g_get hx hb hts hown hG.1 0 1 (by decide) (v := .ref (w.2.2.2 2)) rfl rfl gin2 (by decide) gm_158 (rfl) dX2_document_23 ?_
    refine g_callW (As := []) (rest := []) G.1 hG 2 (by decide) rfl rfl ok_X1_addDocument gm_278 gm_279 gm_277 (c_X1_addDocument l w f  hI (by omega)) ⟨rfl, rfl⟩ ⟨Nat.le_of_ble_eq_true rfl, Nat.le_of_ble_eq_true rfl⟩ rfl hl.1 rfl (Nat.le_of_ble_eq_true rfl) ⟨Nat.zero_le _, Nat.zero_le _⟩ dX2_document_26 (fun v f26 H locs hp hG => ?_)
    obtain ⟨rfl, rfl⟩ := hp
    exact g_iretW G hG (⟨rfl, rfl⟩) dX2_document_29
  · skip
    have c9 : ¬ ((nD f) < 6) := fun q => c9 ((g_lt (by omega) (by omega)).mpr q)
    exfalso; omega
theorem ok_X2_pass : gOK yX2_pass cX2_pass 4 (some .int) 1 := ⟨gm_625, gm_18, by decide +kernel⟩
set_option maxRecDepth 100000 in
set_option maxHeartbeats 4000000 in
theorem c_X2_pass (l : Launch) (w : GP) (f : CS) (n : Nat) (hI : gI f) (h1 : 1 ≤ n) (h2 : n ≤ 40) (h3 : f 0 3 + nI n ≤ nI 199) : Met l yX2_pass (gws yX2_pass cX2_pass 4 (some .int)) ({ frames := 5, cells := 0, slots := 0, locals := 117 }) (gPc w f [.ref (w.2.2.2 0), .int (nI n)]) (gWr w (fun v_ f_ => v_ = some (.int (nI (paN f n))) ∧ f_ = paF f n)) 0 0 (gA w) := by
  refine g_read (by decide) (Nat.le_of_ble_eq_true rfl) ?_
  intro P_ E_ S_ M_ B_ T_ C_ ls G hV hl
  obtain ⟨hx, hb, hml, hown, hts⟩ := id G.1
  obtain ⟨⟨hT, hT24⟩, ⟨hC, hC12⟩, ⟨hD, hD6⟩, hLn⟩ := id hI
  have hl : lv_has ls 4 [(0, .ref (w.2.2.2 0)), (1, .int (nI n))] := hl
  have hG := hV.start
  obtain ⟨H, hH⟩ : ∃ H, H = S_.heap := ⟨_, rfl⟩
  obtain ⟨locs, hL⟩ : ∃ L : List Loc, L = [] := ⟨_, rfl⟩
  rw [← hH, ← hL] at hG
  suffices K : ∀ (H : Heap) (locs : List Loc), GS w (gA w) S_ H locs f → W P_ l E_ _ S_ M_ _ B_ T_ C_ H locs 0 0 _ (F0 M_ 0 ls []) from by have := K H locs hG; rw [hH, hL] at this; exact this
  clear hG hH hL; intro H locs hG
  refine lv_aload_n hx hb dX2_pass_0 rfl (lv_at hl 0 rfl) ?_
  refine lv_iload_n hx hb dX2_pass_1 rfl (lv_at hl 1 rfl) ?_
  refine g_callVv (As := [.int (nI n)]) (rest := []) G.1 hG.1 0 (by decide) rfl rfl ok_X2_requireDays gm_325 gm_326 gm_324 (c_X2_requireDays l w f n hI (by omega) (by omega)) ⟨rfl, rfl⟩ ⟨Nat.le_of_ble_eq_true rfl, Nat.le_of_ble_eq_true rfl⟩ rfl hl.1 rfl (Nat.le_of_ble_eq_true rfl) ⟨Nat.zero_le _, Nat.zero_le _⟩ dX2_pass_2 ?_
  refine lv_aload_n hx hb dX2_pass_5 rfl (lv_at hl 0 rfl) ?_
  refine g_get hx hb hts hown hG.1 0 2 (by decide) (v := .int (f 0 3)) rfl rfl gin2 (by decide) gm_159 (rfl) dX2_pass_6 ?_
  refine lv_iload_n hx hb dX2_pass_9 rfl (lv_at hl 1 rfl) ?_
  refine lv_iadd hx hb dX2_pass_10 ?_
  refine lv_sipush (v := nI 199) hx hb dX2_pass_11 (by decide) ?_
  refine lv_icmp_le (tgt := 27) hx hb dX2_pass_14 (by decide) (fun c14 => ?_) (fun c14 => ?_)
  · skip
    refine lv_iconst (v := nI 0) hx hb dX2_pass_27 (by decide) ?_
    refine lv_istore_n (lv' := [(2, .int (nI 0)), (0, .ref (w.2.2.2 0)), (1, .int (nI n))]) hx hb dX2_pass_28 rfl hl (by decide) rfl (fun ls hl => ?_)
    refine lv_iconst (v := nI 0) hx hb dX2_pass_29 (by decide) ?_
    refine lv_istore_n (lv' := [(3, .int (nI 0)), (2, .int (nI 0)), (0, .ref (w.2.2.2 0)), (1, .int (nI n))]) hx hb dX2_pass_30 rfl hl (by decide) rfl (fun ls hl => ?_)
    refine g_for (P := fun k => ∀ (H : Heap) (locs : List Loc) (ls : Array Slot), GS w (gA w) S_ H locs (paF f k) → lv_has ls 4 [(2, .int (nI (paN f k))), (3, .int (nI k)), (0, .ref (w.2.2.2 0)), (1, .int (nI n))] → W P_ l E_ _ S_ M_ _ B_ T_ C_ H locs 0 0 _ (F0 M_ 31 ls [])) (n) ?_ ?_ 0 (Nat.zero_le _) H locs ls hG (lv_sub hl [1, 0, 2, 3] rfl)
    · intro k hk ih H locs ls hG hl
      refine lv_iload_n hx hb dX2_pass_31 rfl (lv_at hl 1 rfl) ?_
      refine lv_iload_n hx hb dX2_pass_32 rfl (lv_at hl 3 rfl) ?_
      refine lv_icmp_ge (tgt := 66) hx hb dX2_pass_33 (by decide) (fun c33 => ?_) (fun c33 => ?_)
      · skip
        have c33 : n ≤ k := (g_le (by omega) (by omega)).mp c33
        exact absurd c33 (by omega)
      · skip
        have c33 : ¬ (n ≤ k) := fun q => c33 ((g_le (by omega) (by omega)).mpr q)
        refine lv_aload_n hx hb dX2_pass_36 rfl (lv_at hl 2 rfl) ?_
        refine lv_dup hx hb dX2_pass_37 rfl ?_
        refine g_get hx hb hts hown hG.1 0 2 (by decide) (v := .int (paF f k 0 3)) rfl rfl gin2 (by decide) gm_159 (by show some (Value.int ((paF f k) 0 3)) = some (.int (paF f k 0 3)); rw [show (paF f k) 0 3 = paF f k 0 3 from rfl]) dX2_pass_38 ?_
        refine lv_iconst (v := nI 1) hx hb dX2_pass_41 (by decide) ?_
        refine lv_iadd hx hb dX2_pass_42 ?_
        refine g_put (a := 3) hx hb hts hown hG 0 2 (by decide) rfl rfl gin2 tyX2_ok nmX2 (by decide) gm_159 rfl (by decide +kernel) (Nat.le_of_ble_eq_true rfl) dX2_pass_43 (by simp [gE, gset]) (fun i _ h => gE_num (by decide) h) (fun H locs hG => ?_)
        refine lv_iload_n hx hb dX2_pass_46 rfl (lv_at hl 0 rfl) ?_
        refine lv_aload_n hx hb dX2_pass_47 rfl (lv_at hl 2 rfl) ?_
        refine g_get hx hb hts hown hG.1 0 1 (by decide) (v := .ref (w.2.2.2 2)) rfl rfl gin2 (by decide) gm_158 (rfl) dX2_pass_48 ?_
        refine lv_aload_n hx hb dX2_pass_51 rfl (lv_at hl 2 rfl) ?_
        refine g_get hx hb hts hown hG.1 0 2 (by decide) (v := .int ((paF f k 0 3) + (nI 1))) rfl rfl gin2 (by decide) gm_159 (by show some (Value.int ((gset (paF f k) 0 3 ((paF f k 0 3) + (nI 1))) 0 3)) = some (.int ((paF f k 0 3) + (nI 1))); rw [show (gset (paF f k) 0 3 ((paF f k 0 3) + (nI 1))) 0 3 = (paF f k 0 3) + (nI 1) from by simp [gset]]) dX2_pass_52 ?_
        refine g_callW (As := [.int ((paF f k 0 3) + (nI 1))]) (rest := [.int (nI (paN f k))]) G.1 hG 2 (by decide) rfl rfl ok_X1_reopenDue gm_203 gm_204 gm_202 (c_X1_reopenDue l w (gset (paF f k) 0 3 ((paF f k 0 3) + (nI 1))) ((paF f k 0 3) + (nI 1)) (pa1_I (paI hI k)) ) ⟨rfl, rfl⟩ ⟨Nat.le_of_ble_eq_true rfl, Nat.le_of_ble_eq_true rfl⟩ rfl hl.1 rfl (Nat.le_of_ble_eq_true rfl) ⟨Nat.zero_le _, Nat.zero_le _⟩ dX2_pass_55 (fun v f55 H locs hp hG => ?_)
        obtain ⟨rfl, rfl⟩ := hp
        refine g_iaddn hx hb dX2_pass_58 ?_
        refine lv_istore_n (lv' := [(2, .int (nI ((paN f k) + (roN (gset (paF f k) 0 3 ((paF f k 0 3) + (nI 1))) (due (gset (paF f k) 0 3 ((paF f k 0 3) + (nI 1))) ((paF f k 0 3) + (nI 1))))))), (3, .int (nI k)), (0, .ref (w.2.2.2 0)), (1, .int (nI n))]) hx hb dX2_pass_59 rfl hl (by decide) rfl (fun ls hl => ?_)
        refine lv_iinc (v := nI (k + 1)) (lv' := [(3, .int (nI (k + 1))), (2, .int (nI ((paN f k) + (roN (gset (paF f k) 0 3 ((paF f k 0 3) + (nI 1))) (due (gset (paF f k) 0 3 ((paF f k 0 3) + (nI 1))) ((paF f k 0 3) + (nI 1))))))), (0, .ref (w.2.2.2 0)), (1, .int (nI n))]) hx hb dX2_pass_60 hl (k := 1) rfl (g_inc k 1) (by decide) rfl (fun ls hl => ?_)
        refine lv_goto (tgt := 31) hx hb dX2_pass_63 (by decide) ?_
        refine ih H locs ls (by rw [show paF f (k + 1) = rpF (gset (paF f k) 0 3 ((paF f k 0 3) + (nI 1))) (due (gset (paF f k) 0 3 ((paF f k 0 3) + (nI 1))) ((paF f k 0 3) + (nI 1))) (nD (gset (paF f k) 0 3 ((paF f k 0 3) + (nI 1)))) from rfl]; exact hG) ?_
        rw [(show paN f (k + 1) = (paN f k) + (roN (gset (paF f k) 0 3 ((paF f k 0 3) + (nI 1))) (due (gset (paF f k) 0 3 ((paF f k 0 3) + (nI 1))) ((paF f k 0 3) + (nI 1)))) from rfl)]
        exact lv_sub hl [1, 0, 2, 3] rfl
    · intro H locs ls hG hl
      refine lv_iload_n hx hb dX2_pass_31 rfl (lv_at hl 1 rfl) ?_
      refine lv_iload_n hx hb dX2_pass_32 rfl (lv_at hl 3 rfl) ?_
      refine lv_icmp_ge (tgt := 66) hx hb dX2_pass_33 (by decide) (fun c33 => ?_) (fun c33 => ?_)
      · skip
        have c33 : n ≤ n := (g_le (by omega) (by omega)).mp c33
        refine lv_iload_n hx hb dX2_pass_66 rfl (lv_at hl 0 rfl) ?_
        exact g_iretW G hG (⟨rfl, rfl⟩) dX2_pass_67
      · skip
        have c33 : ¬ (n ≤ n) := fun q => c33 ((g_le (by omega) (by omega)).mpr q)
        exact absurd c33 (by omega)
  · skip
    exact absurd h3 c14
