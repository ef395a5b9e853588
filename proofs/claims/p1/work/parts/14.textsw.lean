theorem ok_X1_addDocument : gOK yX1_addDocument cX1_addDocument 2 (some .int) 0 := ⟨gm_280, gm_86, by decide +kernel⟩
set_option maxRecDepth 100000 in
set_option maxHeartbeats 4000000 in
theorem c_X1_addDocument (l : Launch) (w : GP) (f : CS)  (hI : gI f) (h : nD f < 6) : Met l yX1_addDocument (gws yX1_addDocument cX1_addDocument 2 (some .int)) ({ frames := 0, cells := 0, slots := 0, locals := 0 }) (gPc w f [.ref (w.2.2.2 2)]) (gWr w (fun v_ f_ => v_ = some (.int (nI (nD f))) ∧ f_ = gset f 0 2 (nI (nD f + 1)))) 0 0 (gA w) := by
  refine g_read (by decide) (Nat.le_of_ble_eq_true rfl) ?_
  intro P_ E_ S_ M_ B_ T_ C_ ls G hV hl
  obtain ⟨hx, hb, hml, hown, hts⟩ := id G.1
  obtain ⟨⟨hT, hT24⟩, ⟨hC, hC12⟩, ⟨hD, hD6⟩, hLn⟩ := id hI
  have hl : lv_has ls 2 [(0, .ref (w.2.2.2 2))] := hl
  have hG := hV.start
  obtain ⟨H, hH⟩ : ∃ H, H = S_.heap := ⟨_, rfl⟩
  obtain ⟨locs, hL⟩ : ∃ L : List Loc, L = [] := ⟨_, rfl⟩
  rw [← hH, ← hL] at hG
  suffices K : ∀ (H : Heap) (locs : List Loc), GS w (gA w) S_ H locs f → W P_ l E_ _ S_ M_ _ B_ T_ C_ H locs 0 0 _ (F0 M_ 0 ls []) from by have := K H locs hG; rw [hH, hL] at this; exact this
  clear hG hH hL; intro H locs hG
  refine lv_aload_n hx hb dX1_addDocument_0 rfl (lv_at hl 0 rfl) ?_
  refine g_get hx hb hts hown hG.1 2 1 (by decide) (v := .int (nI (nD f))) rfl rfl gin1 (by decide) gm_64 (by rw [← hD]; rfl) dX1_addDocument_1 ?_
  refine lv_istore_n (lv' := [(1, .int (nI (nD f))), (0, .ref (w.2.2.2 2))]) hx hb dX1_addDocument_4 rfl hl (by decide) rfl (fun ls hl => ?_)
  refine lv_aload_n hx hb dX1_addDocument_5 rfl (lv_at hl 1 rfl) ?_
  refine lv_dup hx hb dX1_addDocument_6 rfl ?_
  refine g_get hx hb hts hown hG.1 2 1 (by decide) (v := .int (nI (nD f))) rfl rfl gin1 (by decide) gm_64 (by rw [← hD]; rfl) dX1_addDocument_7 ?_
  refine lv_iconst (v := nI 1) hx hb dX1_addDocument_10 (by decide) ?_
  refine g_iaddn hx hb dX1_addDocument_11 ?_
  refine g_put (a := 2) hx hb hts hown hG 2 1 (by decide) rfl rfl gin1 tyX1_ok nmX1 (by decide) gm_64 rfl (by decide +kernel) (Nat.le_of_ble_eq_true rfl) dX1_addDocument_12 (by simp [gE, gset]) (fun i _ h => gE_num (by decide) h) (fun H locs hG => ?_)
  refine lv_iload_n hx hb dX1_addDocument_15 rfl (lv_at hl 0 rfl) ?_
  exact g_iretW G hG (⟨rfl, rfl⟩) dX1_addDocument_16
theorem ok_X1_reopen : gOK yX1_reopen cX1_reopen 4 none 1 := ⟨gm_147, gm_86, by decide +kernel⟩
set_option maxRecDepth 100000 in
set_option maxHeartbeats 4000000 in
theorem c_X1_reopen (l : Launch) (w : GP) (f : CS) (d : Nat) (hI : gI f) (hd : d < 6) : Met l yX1_reopen (gws yX1_reopen cX1_reopen 4 none) ({ frames := 0, cells := 0, slots := 0, locals := 0 }) (gPc w f [.ref (w.2.2.2 2), .int (nI d)]) (gWr w (fun v_ f_ => v_ = none ∧ f_ = reF f d 3)) 0 0 (gA w) := by
  refine g_read (by decide) (Nat.le_of_ble_eq_true rfl) ?_
  intro P_ E_ S_ M_ B_ T_ C_ ls G hV hl
  obtain ⟨hx, hb, hml, hown, hts⟩ := id G.1
  obtain ⟨⟨hT, hT24⟩, ⟨hC, hC12⟩, ⟨hD, hD6⟩, hLn⟩ := id hI
  have hl : lv_has ls 4 [(0, .ref (w.2.2.2 2)), (1, .int (nI d))] := hl
  have hG := hV.start
  obtain ⟨H, hH⟩ : ∃ H, H = S_.heap := ⟨_, rfl⟩
  obtain ⟨locs, hL⟩ : ∃ L : List Loc, L = [] := ⟨_, rfl⟩
  rw [← hH, ← hL] at hG
  suffices K : ∀ (H : Heap) (locs : List Loc), GS w (gA w) S_ H locs f → W P_ l E_ _ S_ M_ _ B_ T_ C_ H locs 0 0 _ (F0 M_ 0 ls []) from by have := K H locs hG; rw [hH, hL] at this; exact this
  clear hG hH hL; intro H locs hG
  refine lv_iconst (v := nI 0) hx hb dX1_reopen_0 (by decide) ?_
  refine lv_istore_n (lv' := [(2, .int (nI 0)), (0, .ref (w.2.2.2 2)), (1, .int (nI d))]) hx hb dX1_reopen_1 rfl hl (by decide) rfl (fun ls hl => ?_)
  refine g_for (P := fun k => ∀ (H : Heap) (locs : List Loc) (ls : Array Slot), GS w (gA w) S_ H locs (reF f d k) → lv_has ls 4 [(2, .int (nI k)), (0, .ref (w.2.2.2 2)), (1, .int (nI d))] → W P_ l E_ _ S_ M_ _ B_ T_ C_ H locs 0 0 _ (F0 M_ 2 ls [])) (3) ?_ ?_ 0 (Nat.zero_le _) H locs ls (by rw [reF_0]; exact hG) (lv_sub hl [0, 1, 2] rfl)
  · intro k hk ih H locs ls hG hl
    refine lv_iload_n hx hb dX1_reopen_2 rfl (lv_at hl 0 rfl) ?_
    refine lv_iconst (v := nI 3) hx hb dX1_reopen_3 (by decide) ?_
    refine lv_icmp_ge (tgt := 36) hx hb dX1_reopen_4 (by decide) (fun c4 => ?_) (fun c4 => ?_)
    · skip
      have c4 : 3 ≤ k := (g_le (by omega) (by omega)).mp c4
      exact absurd c4 (by omega)
    · skip
      have c4 : ¬ (3 ≤ k) := fun q => c4 ((g_le (by omega) (by omega)).mpr q)
      refine lv_iload_n hx hb dX1_reopen_7 rfl (lv_at hl 2 rfl) ?_
      refine lv_iconst (v := nI 3) hx hb dX1_reopen_8 (by decide) ?_
      refine g_imuln hx hb dX1_reopen_9 ?_
      refine lv_iload_n hx hb dX1_reopen_10 rfl (lv_at hl 0 rfl) ?_
      refine g_iaddn hx hb dX1_reopen_11 ?_
      refine lv_istore_n (lv' := [(3, .int (nI ((d * 3) + k))), (2, .int (nI k)), (0, .ref (w.2.2.2 2)), (1, .int (nI d))]) hx hb dX1_reopen_12 rfl hl (by decide) rfl (fun ls hl => ?_)
      refine lv_aload_n hx hb dX1_reopen_13 rfl (lv_at hl 2 rfl) ?_
      refine g_get hx hb hts hown hG.1 2 3 (by decide) (v := .ref (w.2.2.2 17)) rfl rfl gin1 (by decide) gm_66 (rfl) dX1_reopen_14 ?_
      refine lv_iload_n hx hb dX1_reopen_17 rfl (lv_at hl 0 rfl) ?_
      refine g_ialv (a := 12) (n := 18) (v := f 12 (d * 3 + k)) hx hb hG.1 17 (by decide) (by decide) rfl rfl (i := (d * 3) + k) (by omega) (reF_at) dX1_reopen_18 ?_
      refine lv_iconst (v := nI 1) hx hb dX1_reopen_19 (by decide) ?_
      refine lv_icmp_ne (tgt := 30) hx hb dX1_reopen_20 (by decide) (fun c20 => ?_) (fun c20 => ?_)
      · skip
        refine lv_iinc (v := nI (k + 1)) (lv' := [(2, .int (nI (k + 1))), (3, .int (nI ((d * 3) + k))), (0, .ref (w.2.2.2 2)), (1, .int (nI d))]) hx hb dX1_reopen_30 hl (k := 1) rfl (g_inc k 1) (by decide) rfl (fun ls hl => ?_)
        refine lv_goto (tgt := 2) hx hb dX1_reopen_33 (by decide) ?_
        refine ih H locs ls (by rw [show reF f d (k + 1) = reF f d k from by first | exact reF_n c20 | exact reF_y c20]; exact hG) ?_
        exact lv_sub hl [0, 2, 3] rfl
      · skip
        refine lv_aload_n hx hb dX1_reopen_23 rfl (lv_at hl 2 rfl) ?_
        refine g_get hx hb hts hown hG.1 2 3 (by decide) (v := .ref (w.2.2.2 17)) rfl rfl gin1 (by decide) gm_66 (rfl) dX1_reopen_24 ?_
        refine lv_iload_n hx hb dX1_reopen_27 rfl (lv_at hl 0 rfl) ?_
        refine lv_iconst (v := nI 2) hx hb dX1_reopen_28 (by decide) ?_
        refine g_iast (a := 12) (n := 18) hx hb hG 17 (by decide) (by decide) rfl rfl (i := (d * 3) + k) (by omega) dX1_reopen_29 (fun H locs hG => ?_)
        refine lv_iinc (v := nI (k + 1)) (lv' := [(2, .int (nI (k + 1))), (3, .int (nI ((d * 3) + k))), (0, .ref (w.2.2.2 2)), (1, .int (nI d))]) hx hb dX1_reopen_30 hl (k := 1) rfl (g_inc k 1) (by decide) rfl (fun ls hl => ?_)
        refine lv_goto (tgt := 2) hx hb dX1_reopen_33 (by decide) ?_
        refine ih H locs ls (by rw [show reF f d (k + 1) = gset (reF f d k) 12 ((d * 3) + k) (nI 2) from by first | exact reF_n c20 | exact reF_y c20]; exact hG) ?_
        exact lv_sub hl [0, 2, 3] rfl
  · intro H locs ls hG hl
    refine lv_iload_n hx hb dX1_reopen_2 rfl (lv_at hl 0 rfl) ?_
    refine lv_iconst (v := nI 3) hx hb dX1_reopen_3 (by decide) ?_
    refine lv_icmp_ge (tgt := 36) hx hb dX1_reopen_4 (by decide) (fun c4 => ?_) (fun c4 => ?_)
    · skip
      have c4 : 3 ≤ 3 := (g_le (by omega) (by omega)).mp c4
      exact g_vretW G hG (⟨rfl, rfl⟩) dX1_reopen_36
    · skip
      have c4 : ¬ (3 ≤ 3) := fun q => c4 ((g_le (by omega) (by omega)).mpr q)
      exact absurd c4 (by omega)
theorem ok_X1_reopenDue : gOK yX1_reopenDue cX1_reopenDue 5 (some .int) 1 := ⟨gm_205, gm_86, by decide +kernel⟩
set_option maxRecDepth 100000 in
set_option maxHeartbeats 4000000 in
theorem c_X1_reopenDue (l : Launch) (w : GP) (f : CS) (d : Int32) (hI : gI f)  : Met l yX1_reopenDue (gws yX1_reopenDue cX1_reopenDue 5 (some .int)) ({ frames := 4, cells := 0, slots := 0, locals := 93 }) (gPc w f [.ref (w.2.2.2 2), .int d]) (gWr w (fun v_ f_ => v_ = some (.int (nI (roN f (due f d)))) ∧ f_ = rpF f (due f d) (nD f))) 0 0 (gA w) := by
  refine g_read (by decide) (Nat.le_of_ble_eq_true rfl) ?_
  intro P_ E_ S_ M_ B_ T_ C_ ls G hV hl
  obtain ⟨hx, hb, hml, hown, hts⟩ := id G.1
  obtain ⟨⟨hT, hT24⟩, ⟨hC, hC12⟩, ⟨hD, hD6⟩, hLn⟩ := id hI
  have hl : lv_has ls 5 [(0, .ref (w.2.2.2 2)), (1, .int d)] := hl
  have hG := hV.start
  obtain ⟨H, hH⟩ : ∃ H, H = S_.heap := ⟨_, rfl⟩
  obtain ⟨locs, hL⟩ : ∃ L : List Loc, L = [] := ⟨_, rfl⟩
  rw [← hH, ← hL] at hG
  suffices K : ∀ (H : Heap) (locs : List Loc), GS w (gA w) S_ H locs f → W P_ l E_ _ S_ M_ _ B_ T_ C_ H locs 0 0 _ (F0 M_ 0 ls []) from by have := K H locs hG; rw [hH, hL] at this; exact this
  clear hG hH hL; intro H locs hG
  refine lv_aload_n hx hb dX1_reopenDue_0 rfl (lv_at hl 0 rfl) ?_
  refine g_get hx hb hts hown hG.1 2 0 (by decide) (v := .ref (w.2.2.2 1)) rfl rfl gin1 (by decide) gm_70 (rfl) dX1_reopenDue_1 ?_
  refine lv_iload_n hx hb dX1_reopenDue_4 rfl (lv_at hl 1 rfl) ?_
  refine g_callV (As := [.int d]) (rest := []) G.1 hG.1 1 (by decide) rfl rfl ok_X0_overdueOn gm_137 gm_138 gm_136 (c_X0_overdueOn l w f d hI ) ⟨rfl, rfl⟩ ⟨Nat.le_of_ble_eq_true rfl, Nat.le_of_ble_eq_true rfl⟩ rfl hl.1 rfl (Nat.le_of_ble_eq_true rfl) ⟨Nat.zero_le _, Nat.zero_le _⟩ dX1_reopenDue_5 ?_
  refine lv_istore_n (lv' := [(2, .int (due f d)), (0, .ref (w.2.2.2 2)), (1, .int d)]) hx hb dX1_reopenDue_8 rfl hl (by decide) rfl (fun ls hl => ?_)
  refine lv_aload_n hx hb dX1_reopenDue_9 rfl (lv_at hl 1 rfl) ?_
  refine lv_iload_n hx hb dX1_reopenDue_10 rfl (lv_at hl 0 rfl) ?_
  refine g_callV (As := [.int (due f d)]) (rest := []) G.1 hG.1 2 (by decide) rfl rfl ok_X1_reopenedByOverdue gm_141 gm_142 gm_140 (c_X1_reopenedByOverdue l w f (due f d) hI ) ⟨rfl, rfl⟩ ⟨Nat.le_of_ble_eq_true rfl, Nat.le_of_ble_eq_true rfl⟩ rfl hl.1 rfl (Nat.le_of_ble_eq_true rfl) ⟨Nat.zero_le _, Nat.zero_le _⟩ dX1_reopenDue_11 ?_
  refine lv_istore_n (lv' := [(3, .int (nI (roN f (due f d)))), (2, .int (due f d)), (0, .ref (w.2.2.2 2)), (1, .int d)]) hx hb dX1_reopenDue_14 rfl hl (by decide) rfl (fun ls hl => ?_)
  refine lv_iconst (v := nI 0) hx hb dX1_reopenDue_15 (by decide) ?_
  refine lv_istore (lv' := [(4, .int (nI 0)), (3, .int (nI (roN f (due f d)))), (2, .int (due f d)), (0, .ref (w.2.2.2 2)), (1, .int d)]) hx hb dX1_reopenDue_16 hl (by decide) rfl (fun ls hl => ?_)
  refine g_for (P := fun k => ∀ (H : Heap) (locs : List Loc) (ls : Array Slot), GS w (gA w) S_ H locs (rpF f (due f d) k) → lv_has ls 5 [(4, .int (nI k)), (3, .int (nI (roN f (due f d)))), (2, .int (due f d)), (0, .ref (w.2.2.2 2)), (1, .int d)] → W P_ l E_ _ S_ M_ _ B_ T_ C_ H locs 0 0 _ (F0 M_ 18 ls [])) (nD f) ?_ ?_ 0 (Nat.zero_le _) H locs ls (by rw [rpF_0]; exact hG) (lv_sub hl [0, 1, 2, 3, 4] rfl)
  · intro k hk ih H locs ls hG hl
    refine lv_iload hx hb dX1_reopenDue_18 (lv_at hl 0 rfl) ?_
    refine lv_aload_n hx hb dX1_reopenDue_20 rfl (lv_at hl 3 rfl) ?_
    refine g_get hx hb hts hown hG.1 2 1 (by decide) (v := .int (nI (nD f))) rfl rfl gin1 (by decide) gm_64 (by show some (Value.int ((rpF f (due f d) k) 0 2)) = some (.int (nI (nD f))); rw [show (rpF f (due f d) k) 0 2 = nI (nD f) from by rw [rpF_row (by omega)]; exact hD]) dX1_reopenDue_21 ?_
    refine lv_icmp_ge (tgt := 49) hx hb dX1_reopenDue_24 (by decide) (fun c24 => ?_) (fun c24 => ?_)
    · skip
      have c24 : (nD f) ≤ k := (g_le (by omega) (by omega)).mp c24
      exact absurd c24 (by omega)
    · skip
      have c24 : ¬ ((nD f) ≤ k) := fun q => c24 ((g_le (by omega) (by omega)).mpr q)
      have hIk : gI (rpF f (due f d) k) := rpF_I hI
      refine lv_aload_n hx hb dX1_reopenDue_27 rfl (lv_at hl 3 rfl) ?_
      refine lv_iload hx hb dX1_reopenDue_28 (lv_at hl 0 rfl) ?_
      refine lv_iload_n hx hb dX1_reopenDue_30 rfl (lv_at hl 2 rfl) ?_
      refine g_callV (As := [.int (nI k), .int (due f d)]) (rest := []) G.1 hG.1 2 (by decide) rfl rfl ok_X1_hasApprovedUseOf gm_129 gm_130 gm_128 (c_X1_hasApprovedUseOf l w (rpF f (due f d) k) k (due f d) hIk (by omega)) ⟨rfl, rfl⟩ ⟨Nat.le_of_ble_eq_true rfl, Nat.le_of_ble_eq_true rfl⟩ rfl hl.1 rfl (Nat.le_of_ble_eq_true rfl) ⟨Nat.zero_le _, Nat.zero_le _⟩ dX1_reopenDue_31 ?_
      refine lv_if_eq (tgt := 43) hx hb dX1_reopenDue_34 (by decide) (fun c34 => ?_) (fun c34 => ?_)
      · skip
        have c34 : ¬ (hasA (rpF f (due f d) k) k (due f d) = true) := g_if0.mp c34
        refine lv_iinc (v := nI (k + 1)) (lv' := [(4, .int (nI (k + 1))), (3, .int (nI (roN f (due f d)))), (2, .int (due f d)), (0, .ref (w.2.2.2 2)), (1, .int d)]) hx hb dX1_reopenDue_43 hl (k := 0) rfl (g_inc k 1) (by decide) rfl (fun ls hl => ?_)
        refine lv_goto (tgt := 18) hx hb dX1_reopenDue_46 (by decide) ?_
        refine ih H locs ls (by rw [show rpF f (due f d) (k + 1) = rpF f (due f d) k from by first | exact rpF_n (by rw [← rpF_has]; exact c34) | exact rpF_y (by rw [← rpF_has]; exact c34)]; exact hG) ?_
        exact lv_sub hl [0, 1, 2, 3, 4] rfl
      · skip
        have c34 : hasA (rpF f (due f d) k) k (due f d) = true := g_if1.mp c34
        refine lv_aload_n hx hb dX1_reopenDue_37 rfl (lv_at hl 3 rfl) ?_
        refine lv_iload hx hb dX1_reopenDue_38 (lv_at hl 0 rfl) ?_
        refine g_callW (As := [.int (nI k)]) (rest := []) G.1 hG 2 (by decide) rfl rfl ok_X1_reopen gm_145 gm_146 gm_144 (c_X1_reopen l w (rpF f (due f d) k) k hIk (by omega)) ⟨rfl, rfl⟩ ⟨Nat.le_of_ble_eq_true rfl, Nat.le_of_ble_eq_true rfl⟩ rfl hl.1 rfl (Nat.le_of_ble_eq_true rfl) ⟨Nat.zero_le _, Nat.zero_le _⟩ dX1_reopenDue_40 (fun v f40 H locs hp hG => ?_)
        obtain ⟨rfl, rfl⟩ := hp
        refine lv_iinc (v := nI (k + 1)) (lv' := [(4, .int (nI (k + 1))), (3, .int (nI (roN f (due f d)))), (2, .int (due f d)), (0, .ref (w.2.2.2 2)), (1, .int d)]) hx hb dX1_reopenDue_43 hl (k := 0) rfl (g_inc k 1) (by decide) rfl (fun ls hl => ?_)
        refine lv_goto (tgt := 18) hx hb dX1_reopenDue_46 (by decide) ?_
        refine ih H locs ls (by rw [show rpF f (due f d) (k + 1) = reF (rpF f (due f d) k) k 3 from by first | exact rpF_n (by rw [← rpF_has]; exact c34) | exact rpF_y (by rw [← rpF_has]; exact c34)]; exact hG) ?_
        exact lv_sub hl [0, 1, 2, 3, 4] rfl
  · intro H locs ls hG hl
    refine lv_iload hx hb dX1_reopenDue_18 (lv_at hl 0 rfl) ?_
    refine lv_aload_n hx hb dX1_reopenDue_20 rfl (lv_at hl 3 rfl) ?_
    refine g_get hx hb hts hown hG.1 2 1 (by decide) (v := .int (nI (nD f))) rfl rfl gin1 (by decide) gm_64 (by show some (Value.int ((rpF f (due f d) (nD f)) 0 2)) = some (.int (nI (nD f))); rw [show (rpF f (due f d) (nD f)) 0 2 = nI (nD f) from by rw [rpF_row (by omega)]; exact hD]) dX1_reopenDue_21 ?_
    refine lv_icmp_ge (tgt := 49) hx hb dX1_reopenDue_24 (by decide) (fun c24 => ?_) (fun c24 => ?_)
    · skip
      have c24 : (nD f) ≤ (nD f) := (g_le (by omega) (by omega)).mp c24
      refine lv_iload_n hx hb dX1_reopenDue_49 rfl (lv_at hl 1 rfl) ?_
      exact g_iretW G hG (⟨rfl, rfl⟩) dX1_reopenDue_50
    · skip
      have c24 : ¬ ((nD f) ≤ (nD f)) := fun q => c24 ((g_le (by omega) (by omega)).mpr q)
      exact absurd c24 (by omega)
