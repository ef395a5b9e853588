theorem ok_L_areUsesRight : gOK yL_areUsesRight cL_areUsesRight 9 (some .boolean) 1 := ⟨gm_516, gm_468, by decide +kernel⟩
set_option maxRecDepth 100000 in
set_option maxHeartbeats 4000000 in
theorem c_L_areUsesRight (l : Launch) (w : GP) (f : CS)  (hI : gI f) (hU : hUse f) (hCo : ∀ k, k < nT f → ∃ c, c < nC f ∧ f 2 k = nI c) (hD2 : nD f = 2) : Met l yL_areUsesRight (gws yL_areUsesRight cL_areUsesRight 9 (some .boolean)) ({ frames := 5, cells := 1, slots := 24, locals := 115 }) (gPc w f [.ref (w.2.2.2 0)]) (gRn (.int 1)) 1 24 (fun _ => False) := by
  refine n_read (by decide) (Nat.le_of_ble_eq_true rfl) ?_
  intro P_ E_ S_ M_ B_ T_ C_ ls G hV hl
  obtain ⟨hx, hb, hml, hown, hts⟩ := id G.1
  obtain ⟨⟨hT, hT24⟩, ⟨hC, hC12⟩, ⟨hD, hD6⟩, hLn⟩ := id hI
  have hl : lv_has ls 9 [(0, .ref (w.2.2.2 0))] := hl
  have hL := LV.start hV
  obtain ⟨H, hH⟩ : ∃ H, H = S_.heap := ⟨_, rfl⟩
  obtain ⟨locs, hLo⟩ : ∃ L : List Loc, L = [] := ⟨_, rfl⟩
  rw [← hH, ← hLo] at hL
  suffices K : ∀ (H : Heap) (locs : List Loc), LV w S_ H locs f [] → W P_ l E_ _ S_ M_ _ B_ T_ C_ H locs 0 0 _ (F0 M_ 0 ls []) from by have := K H locs hL; rw [hH, hLo] at this; exact this
  clear hL hH hLo hV; intro H locs hL
  have hLn9 := hLn
  refine lv_bipush (v := nI 24) hx hb dL_areUsesRight_0 (by decide) ?_
  refine l_newa hx hb hL hts (N := 24) (by decide) dL_areUsesRight_2 (Nat.le_of_ble_eq_true rfl) (Nat.le_of_ble_eq_true rfl) (fun q0 H hL => ?_)
  refine lv_astore_n (lv' := [(1, .ref q0), (0, .ref (w.2.2.2 0))]) hx hb dL_areUsesRight_4 rfl hl (by decide) rfl (fun ls hl => ?_)
  refine lv_iconst (v := nI 0) hx hb dL_areUsesRight_5 (by decide) ?_
  refine lv_istore_n (lv' := [(2, .int (nI 0)), (1, .ref q0), (0, .ref (w.2.2.2 0))]) hx hb dL_areUsesRight_6 rfl hl (by decide) rfl (fun ls hl => ?_)
  refine lv_iconst (v := nI 0) hx hb dL_areUsesRight_7 (by decide) ?_
  refine lv_istore_n (lv' := [(3, .int (nI 0)), (2, .int (nI 0)), (1, .ref q0), (0, .ref (w.2.2.2 0))]) hx hb dL_areUsesRight_8 rfl hl (by decide) rfl (fun ls hl => ?_)
  refine g_for (P := fun d => ∀ (H : Heap) (locs : List Loc) (ls : Array Slot), LV w S_ H locs f [(q0, .inl (w.2.1, 24, .inl (uxA f (d * 3) 0)))] → lv_has ls 9 [(2, .int (nI (sm (fun t => uA f t (-1)) (d * 3)))), (3, .int (nI d)), (1, .ref q0), (0, .ref (w.2.2.2 0))] → W P_ l E_ _ S_ M_ _ B_ T_ C_ H locs 1 24 _ (F0 M_ 9 ls [])) (2) ?_ ?_ 0 (Nat.zero_le _) H locs ls (by rw [show uxA f (0 * 3) 0 = fun _ => 0 from uxA_0 f]; exact hL) (lv_sub hl [1, 0, 2, 3] rfl)
  · intro d hd ih H locs ls hL hl
    refine lv_iload_n hx hb dL_areUsesRight_9 rfl (lv_at hl 1 rfl) ?_
    refine lv_iconst (v := nI 2) hx hb dL_areUsesRight_10 (by decide) ?_
    refine lv_icmp_ge (tgt := 258) hx hb dL_areUsesRight_11 (by decide) (fun c11 => ?_) (fun c11 => ?_)
    · skip
      have c11 : 2 ≤ d := (g_le (by omega) (by omega)).mp c11
      exact absurd c11 (by omega)
    · skip
      have c11 : ¬ (2 ≤ d) := fun q => c11 ((g_le (by omega) (by omega)).mpr q)
      refine lv_iconst (v := nI 0) hx hb dL_areUsesRight_14 (by decide) ?_
      refine lv_istore (lv' := [(4, .int (nI 0)), (2, .int (nI (sm (fun t => uA f t (-1)) (d * 3)))), (3, .int (nI d)), (1, .ref q0), (0, .ref (w.2.2.2 0))]) hx hb dL_areUsesRight_15 hl (by decide) rfl (fun ls hl => ?_)
      refine g_for (P := fun g => ∀ (H : Heap) (locs : List Loc) (ls : Array Slot), LV w S_ H locs f [(q0, .inl (w.2.1, 24, .inl (uxA f (d * 3 + g) 0)))] → lv_has ls 9 [(2, .int (nI (sm (fun t => uA f t (-1)) (d * 3 + g)))), (4, .int (nI g)), (3, .int (nI d)), (1, .ref q0), (0, .ref (w.2.2.2 0))] → W P_ l E_ _ S_ M_ _ B_ T_ C_ H locs 1 24 _ (F0 M_ 17 ls [])) (3) ?_ ?_ 0 (Nat.zero_le _) H locs ls hL (lv_sub hl [1, 0, 2, 3, 4] rfl)
      · intro g hg ih H locs ls hL hl
        refine lv_iload hx hb dL_areUsesRight_17 (lv_at hl 1 rfl) ?_
        refine lv_iconst (v := nI 3) hx hb dL_areUsesRight_19 (by decide) ?_
        refine lv_icmp_ge (tgt := 232) hx hb dL_areUsesRight_20 (by decide) (fun c20 => ?_) (fun c20 => ?_)
        · skip
          have c20 : 3 ≤ g := (g_le (by omega) (by omega)).mp c20
          exact absurd c20 (by omega)
        · skip
          have c20 : ¬ (3 ≤ g) := fun q => c20 ((g_le (by omega) (by omega)).mpr q)
          refine lv_iconst (v := nI 0) hx hb dL_areUsesRight_23 (by decide) ?_
          refine lv_istore (lv' := [(5, .int (nI 0)), (2, .int (nI (sm (fun t => uA f t (-1)) (d * 3 + g)))), (4, .int (nI g)), (3, .int (nI d)), (1, .ref q0), (0, .ref (w.2.2.2 0))]) hx hb dL_areUsesRight_24 hl (by decide) rfl (fun ls hl => ?_)
          refine lv_iconst (v := nI 0) hx hb dL_areUsesRight_26 (by decide) ?_
          refine lv_istore (lv' := [(6, .int (nI 0)), (5, .int (nI 0)), (2, .int (nI (sm (fun t => uA f t (-1)) (d * 3 + g)))), (4, .int (nI g)), (3, .int (nI d)), (1, .ref q0), (0, .ref (w.2.2.2 0))]) hx hb dL_areUsesRight_27 hl (by decide) rfl (fun ls hl => ?_)
          refine lv_iconst (v := nI 0) hx hb dL_areUsesRight_29 (by decide) ?_
          refine lv_istore (lv' := [(7, .int (nI 0)), (6, .int (nI 0)), (5, .int (nI 0)), (2, .int (nI (sm (fun t => uA f t (-1)) (d * 3 + g)))), (4, .int (nI g)), (3, .int (nI d)), (1, .ref q0), (0, .ref (w.2.2.2 0))]) hx hb dL_areUsesRight_30 hl (by decide) rfl (fun ls hl => ?_)
          refine g_for (P := fun p => ∀ (H : Heap) (locs : List Loc) (ls : Array Slot), LV w S_ H locs f [(q0, .inl (w.2.1, 24, .inl (uxA f (d * 3 + g) p)))] → lv_has ls 9 [(5, .int (nI (ct (fun p => decide (¬ f (40 + (d * 3 + g)) p = -1 ∧ hs (-1) (f (40 + (d * 3 + g)) p) = true)) p))), (6, .int (nI (ct (fun p => decide (uS f (d * 3 + g) p (nI 3))) p))), (7, .int (nI p)), (2, .int (nI (sm (fun t => uA f t (-1)) (d * 3 + g)))), (4, .int (nI g)), (3, .int (nI d)), (1, .ref q0), (0, .ref (w.2.2.2 0))] → W P_ l E_ _ S_ M_ _ B_ T_ C_ H locs 1 24 _ (F0 M_ 32 ls [])) (nL f (d * 3 + g)) ?_ ?_ 0 (Nat.zero_le _) H locs ls hL (lv_sub hl [2, 1, 0, 3, 4, 5, 6, 7] rfl)
          · intro p hp ih H locs ls hL hl
            refine lv_iload hx hb dL_areUsesRight_32 (lv_at hl 2 rfl) ?_
            have hLt := hLn (d * 3 + g) (by omega)
            refine lv_aload_n hx hb dL_areUsesRight_34 rfl (lv_at hl 7 rfl) ?_
            refine lv_iload_n hx hb dL_areUsesRight_35 rfl (lv_at hl 5 rfl) ?_
            refine lv_iload hx hb dL_areUsesRight_36 (lv_at hl 4 rfl) ?_
            refine lv_iconst (v := nI 0) hx hb dL_areUsesRight_38 (by decide) ?_
            refine g_callV (v := .int (nI (nL f (d * 3 + g)))) (As := [.int (nI d), .int (nI g), .int (nI 0)]) (rest := [.int (nI p)]) G.1 hL.1 0 (by decide) rfl rfl ok_X2_ofText gm_369 gm_370 gm_465 (c_X2_ofText l w f d g 0 hI (by omega) (by omega) (by omega)) ⟨rfl, rfl⟩ ⟨Nat.le_of_ble_eq_true rfl, Nat.le_of_ble_eq_true rfl⟩ rfl hl.1 rfl (Nat.le_of_ble_eq_true rfl) ⟨Nat.le_of_ble_eq_true rfl, Nat.le_of_ble_eq_true rfl⟩ dL_areUsesRight_39 ?_
            refine lv_icmp_ge (tgt := 144) hx hb dL_areUsesRight_42 (by decide) (fun c42 => ?_) (fun c42 => ?_)
            · skip
              have c42 : (nL f (d * 3 + g)) ≤ p := (g_le (by omega) (by omega)).mp c42
              exact absurd c42 (by omega)
            · skip
              have c42 : ¬ ((nL f (d * 3 + g)) ≤ p) := fun q => c42 ((g_le (by omega) (by omega)).mpr q)
              refine lv_aload_n hx hb dL_areUsesRight_45 rfl (lv_at hl 7 rfl) ?_
              refine lv_iload_n hx hb dL_areUsesRight_46 rfl (lv_at hl 5 rfl) ?_
              refine lv_iload hx hb dL_areUsesRight_47 (lv_at hl 4 rfl) ?_
              refine lv_iload hx hb dL_areUsesRight_49 (lv_at hl 2 rfl) ?_
              refine g_callV (As := [.int (nI d), .int (nI g), .int (nI p)]) (rest := []) G.1 hL.1 0 (by decide) rfl rfl ok_X2_use gm_373 gm_374 gm_472 (c_X2_use l w f d g p hI (by omega) (by omega) (by omega)) ⟨rfl, rfl⟩ ⟨Nat.le_of_ble_eq_true rfl, Nat.le_of_ble_eq_true rfl⟩ rfl hl.1 rfl (Nat.le_of_ble_eq_true rfl) ⟨Nat.le_of_ble_eq_true rfl, Nat.le_of_ble_eq_true rfl⟩ dL_areUsesRight_51 ?_
              refine lv_istore (lv' := [(8, .int (f (40 + (d * 3 + g)) p)), (5, .int (nI (ct (fun p => decide (¬ f (40 + (d * 3 + g)) p = -1 ∧ hs (-1) (f (40 + (d * 3 + g)) p) = true)) p))), (6, .int (nI (ct (fun p => decide (uS f (d * 3 + g) p (nI 3))) p))), (7, .int (nI p)), (2, .int (nI (sm (fun t => uA f t (-1)) (d * 3 + g)))), (4, .int (nI g)), (3, .int (nI d)), (1, .ref q0), (0, .ref (w.2.2.2 0))]) hx hb dL_areUsesRight_54 hl (by decide) rfl (fun ls hl => ?_)
              rcases hU (d * 3 + g) (by omega) p hp with e | ⟨u, hu, e, e3, e5⟩
              · skip
                rw [e] at hl
                refine lv_iload hx hb dL_areUsesRight_56 (lv_at hl 0 rfl) ?_
                refine lv_iconst (v := -1) hx hb dL_areUsesRight_58 (by decide) ?_
                refine lv_icmp_lt (tgt := 72) hx hb dL_areUsesRight_59 (by decide) (fun c59 => ?_) (fun c59 => ?_)
                · skip
                  exact absurd c59 (by decide)
                · skip
                  refine lv_iload hx hb dL_areUsesRight_62 (lv_at hl 0 rfl) ?_
                  refine lv_aload_n hx hb dL_areUsesRight_64 rfl (lv_at hl 8 rfl) ?_
                  refine lv_iconst (v := nI 2) hx hb dL_areUsesRight_65 (by decide) ?_
                  refine g_callV (v := .int (nI (nT f))) (As := [.int (nI 2)]) (rest := [.int (-1)]) G.1 hL.1 0 (by decide) rfl rfl ok_X2_many gm_378 gm_379 gm_477 (c_X2_many l w f 2 hI (by omega)) ⟨rfl, rfl⟩ ⟨Nat.le_of_ble_eq_true rfl, Nat.le_of_ble_eq_true rfl⟩ rfl hl.1 rfl (Nat.le_of_ble_eq_true rfl) ⟨Nat.le_of_ble_eq_true rfl, Nat.le_of_ble_eq_true rfl⟩ dL_areUsesRight_66 ?_
                  refine lv_icmp_lt (tgt := 74) hx hb dL_areUsesRight_69 (by decide) (fun c69 => ?_) (fun c69 => ?_)
                  · skip
                    refine lv_iload hx hb dL_areUsesRight_74 (lv_at hl 0 rfl) ?_
                    refine lv_if_ge (tgt := 82) hx hb dL_areUsesRight_76 (by decide) (fun c76 => ?_) (fun c76 => ?_)
                    · skip
                      exact absurd c76 (by decide)
                    · skip
                      refine lv_goto (tgt := 138) hx hb dL_areUsesRight_79 (by decide) ?_
                      refine lv_iinc (v := nI (p + 1)) (lv' := [(7, .int (nI (p + 1))), (8, .int (-1)), (5, .int (nI (ct (fun p => decide (¬ f (40 + (d * 3 + g)) p = -1 ∧ hs (-1) (f (40 + (d * 3 + g)) p) = true)) p))), (6, .int (nI (ct (fun p => decide (uS f (d * 3 + g) p (nI 3))) p))), (2, .int (nI (sm (fun t => uA f t (-1)) (d * 3 + g)))), (4, .int (nI g)), (3, .int (nI d)), (1, .ref q0), (0, .ref (w.2.2.2 0))]) hx hb dL_areUsesRight_138 hl (k := 3) rfl (g_inc p 1) (by decide) rfl (fun ls hl => ?_)
                      refine lv_goto (tgt := 32) hx hb dL_areUsesRight_141 (by decide) ?_
                      refine ih H locs ls (by rw [show uxA f (d * 3 + g) (p + 1) = uxA f (d * 3 + g) p from uxA_n e]; exact hL) ?_
                      rw [(show ct (fun p => decide (¬ f (40 + (d * 3 + g)) p = -1 ∧ hs (-1) (f (40 + (d * 3 + g)) p) = true)) (p + 1) = ct (fun p => decide (¬ f (40 + (d * 3 + g)) p = -1 ∧ hs (-1) (f (40 + (d * 3 + g)) p) = true)) p from by first | exact ct_n (fun q => (of_decide_eq_true q).1 e) | exact ct_y (decide_eq_true ⟨by rw [e]; exact nI_ne1 (by omega), by rw [e]; exact hs_all (by omega)⟩)), (show ct (fun p => decide (uS f (d * 3 + g) p (nI 3))) (p + 1) = ct (fun p => decide (uS f (d * 3 + g) p (nI 3))) p from by first | exact ct_n (fun q => absurd (of_decide_eq_true q).1.1 (by rw [e]; decide)) | exact ct_y (decide_eq_true (show uS f (d * 3 + g) p (nI 3) from by unfold uS isT; rw [e, nI_clamp (by omega)]; exact ⟨⟨nI_pos' (by omega), (g_lt (by omega) (by omega)).mpr hu⟩, c127⟩)) | exact ct_n (fun q => c127 (by have := (of_decide_eq_true q).2; rwa [e, nI_clamp (by omega)] at this)))]
                      exact lv_sub hl [2, 3, 0, 4, 5, 6, 7, 8] rfl
                  · skip
                    exact absurd (Int32.lt_of_lt_of_le (show (-1 : Int32) < nI 0 by decide) (show nI 0 ≤ nI (nT f) from nI_pos' (by omega))) c69
              · skip
                rw [e] at hl
                rw [show (d * 3 + g) % 3 = g from by omega] at e3
                refine lv_iload hx hb dL_areUsesRight_56 (lv_at hl 0 rfl) ?_
                refine lv_iconst (v := -1) hx hb dL_areUsesRight_58 (by decide) ?_
                refine lv_icmp_lt (tgt := 72) hx hb dL_areUsesRight_59 (by decide) (fun c59 => ?_) (fun c59 => ?_)
                · skip
                  exact absurd c59 (Int32.not_lt.mpr (Int32.le_trans (b := nI 0) (by decide) (nI_pos' (by omega))))
                · skip
                  refine lv_iload hx hb dL_areUsesRight_62 (lv_at hl 0 rfl) ?_
                  refine lv_aload_n hx hb dL_areUsesRight_64 rfl (lv_at hl 8 rfl) ?_
                  refine lv_iconst (v := nI 2) hx hb dL_areUsesRight_65 (by decide) ?_
                  refine g_callV (v := .int (nI (nT f))) (As := [.int (nI 2)]) (rest := [.int (nI u)]) G.1 hL.1 0 (by decide) rfl rfl ok_X2_many gm_378 gm_379 gm_477 (c_X2_many l w f 2 hI (by omega)) ⟨rfl, rfl⟩ ⟨Nat.le_of_ble_eq_true rfl, Nat.le_of_ble_eq_true rfl⟩ rfl hl.1 rfl (Nat.le_of_ble_eq_true rfl) ⟨Nat.le_of_ble_eq_true rfl, Nat.le_of_ble_eq_true rfl⟩ dL_areUsesRight_66 ?_
                  refine lv_icmp_lt (tgt := 74) hx hb dL_areUsesRight_69 (by decide) (fun c69 => ?_) (fun c69 => ?_)
                  · skip
                    have c69 : u < (nT f) := (g_lt (by omega) (by omega)).mp c69
                    refine lv_iload hx hb dL_areUsesRight_74 (lv_at hl 0 rfl) ?_
                    refine lv_if_ge (tgt := 82) hx hb dL_areUsesRight_76 (by decide) (fun c76 => ?_) (fun c76 => ?_)
                    · skip
                      have c76 : nI 0 ≤ nI u := c76
                      have c76 : 0 ≤ u := (g_le (by omega) (by omega)).mp c76
                      refine lv_aload_n hx hb dL_areUsesRight_82 rfl (lv_at hl 8 rfl) ?_
                      refine lv_iload hx hb dL_areUsesRight_83 (lv_at hl 0 rfl) ?_
                      refine lv_iconst (v := nI 1) hx hb dL_areUsesRight_85 (by decide) ?_
                      refine g_callV (v := .int (f 3 u)) (As := [.int (nI u), .int (nI 1)]) (rest := []) G.1 hL.1 0 (by decide) rfl rfl ok_X2_ofTerm gm_357 gm_358 gm_479 (c_X2_ofTerm l w f u 1 hI (by omega) (by omega)) ⟨rfl, rfl⟩ ⟨Nat.le_of_ble_eq_true rfl, Nat.le_of_ble_eq_true rfl⟩ rfl hl.1 rfl (Nat.le_of_ble_eq_true rfl) ⟨Nat.le_of_ble_eq_true rfl, Nat.le_of_ble_eq_true rfl⟩ dL_areUsesRight_86 ?_
                      refine lv_iload hx hb dL_areUsesRight_89 (lv_at hl 5 rfl) ?_
                      refine lv_icmp_ne (tgt := 104) hx hb dL_areUsesRight_91 (by decide) (fun c91 => ?_) (fun c91 => ?_)
                      · skip
                        exact absurd e3 c91
                      · skip
                        refine lv_aload_n hx hb dL_areUsesRight_94 rfl (lv_at hl 8 rfl) ?_
                        refine lv_iload hx hb dL_areUsesRight_95 (lv_at hl 0 rfl) ?_
                        refine lv_iconst (v := nI 3) hx hb dL_areUsesRight_97 (by decide) ?_
                        refine g_callV (v := .int (f 5 u)) (As := [.int (nI u), .int (nI 3)]) (rest := []) G.1 hL.1 0 (by decide) rfl rfl ok_X2_ofTerm gm_357 gm_358 gm_479 (c_X2_ofTerm l w f u 3 hI (by omega) (by omega)) ⟨rfl, rfl⟩ ⟨Nat.le_of_ble_eq_true rfl, Nat.le_of_ble_eq_true rfl⟩ rfl hl.1 rfl (Nat.le_of_ble_eq_true rfl) ⟨Nat.le_of_ble_eq_true rfl, Nat.le_of_ble_eq_true rfl⟩ dL_areUsesRight_98 ?_
                        refine lv_if_ne (tgt := 106) hx hb dL_areUsesRight_101 (by decide) (fun c101 => ?_) (fun c101 => ?_)
                        · skip
                          refine lv_aload_n hx hb dL_areUsesRight_106 rfl (lv_at hl 7 rfl) ?_
                          refine lv_iload hx hb dL_areUsesRight_107 (lv_at hl 0 rfl) ?_
                          refine lv_dup2_11 hx hb dL_areUsesRight_109 rfl rfl ?_
                          refine l_iald hx hb hL 0 (u := uxA f (d * 3 + g) p) rfl (i := u) (by omega) (by decide) dL_areUsesRight_110 ?_
                          refine lv_iconst (v := nI 1) hx hb dL_areUsesRight_111 (by decide) ?_
                          refine lv_iadd hx hb dL_areUsesRight_112 ?_
                          refine l_iast hx hb hL 0 (u := uxA f (d * 3 + g) p) rfl (i := u) (by omega) (by decide) dL_areUsesRight_113 (fun H locs hL => ?_)
                          rw [← uxA_y e (by omega)] at hL
                          refine lv_iinc (v := nI (ct (fun p => decide (¬ f (40 + (d * 3 + g)) p = -1 ∧ hs (-1) (f (40 + (d * 3 + g)) p) = true)) p + 1)) (lv' := [(5, .int (nI (ct (fun p => decide (¬ f (40 + (d * 3 + g)) p = -1 ∧ hs (-1) (f (40 + (d * 3 + g)) p) = true)) p + 1))), (8, .int (nI u)), (6, .int (nI (ct (fun p => decide (uS f (d * 3 + g) p (nI 3))) p))), (7, .int (nI p)), (2, .int (nI (sm (fun t => uA f t (-1)) (d * 3 + g)))), (4, .int (nI g)), (3, .int (nI d)), (1, .ref q0), (0, .ref (w.2.2.2 0))]) hx hb dL_areUsesRight_114 hl (k := 1) rfl (g_inc (ct (fun p => decide (¬ f (40 + (d * 3 + g)) p = -1 ∧ hs (-1) (f (40 + (d * 3 + g)) p) = true)) p) 1) (by decide) rfl (fun ls hl => ?_)
                          refine lv_iload hx hb dL_areUsesRight_117 (lv_at hl 2 rfl) ?_
                          refine lv_aload_n hx hb dL_areUsesRight_119 rfl (lv_at hl 8 rfl) ?_
                          refine lv_iload hx hb dL_areUsesRight_120 (lv_at hl 1 rfl) ?_
                          refine lv_iconst (v := nI 3) hx hb dL_areUsesRight_122 (by decide) ?_
                          refine g_callV (v := .int (f 5 u)) (As := [.int (nI u), .int (nI 3)]) (rest := [.int (nI (ct (fun p => decide (uS f (d * 3 + g) p (nI 3))) p))]) G.1 hL.1 0 (by decide) rfl rfl ok_X2_ofTerm gm_357 gm_358 gm_479 (c_X2_ofTerm l w f u 3 hI (by omega) (by omega)) ⟨rfl, rfl⟩ ⟨Nat.le_of_ble_eq_true rfl, Nat.le_of_ble_eq_true rfl⟩ rfl hl.1 rfl (Nat.le_of_ble_eq_true rfl) ⟨Nat.le_of_ble_eq_true rfl, Nat.le_of_ble_eq_true rfl⟩ dL_areUsesRight_123 ?_
                          refine lv_iconst (v := nI 3) hx hb dL_areUsesRight_126 (by decide) ?_
                          refine lv_icmp_ne (tgt := 134) hx hb dL_areUsesRight_127 (by decide) (fun c127 => ?_) (fun c127 => ?_)
                          · skip
                            refine lv_iconst (v := nI 0) hx hb dL_areUsesRight_134 (by decide) ?_
                            refine g_iaddn hx hb dL_areUsesRight_135 ?_
                            refine lv_istore (lv' := [(6, .int (nI ((ct (fun p => decide (uS f (d * 3 + g) p (nI 3))) p) + 0))), (5, .int (nI (ct (fun p => decide (¬ f (40 + (d * 3 + g)) p = -1 ∧ hs (-1) (f (40 + (d * 3 + g)) p) = true)) p + 1))), (8, .int (nI u)), (7, .int (nI p)), (2, .int (nI (sm (fun t => uA f t (-1)) (d * 3 + g)))), (4, .int (nI g)), (3, .int (nI d)), (1, .ref q0), (0, .ref (w.2.2.2 0))]) hx hb dL_areUsesRight_136 hl (by decide) rfl (fun ls hl => ?_)
                            refine lv_iinc (v := nI (p + 1)) (lv' := [(7, .int (nI (p + 1))), (6, .int (nI ((ct (fun p => decide (uS f (d * 3 + g) p (nI 3))) p) + 0))), (5, .int (nI (ct (fun p => decide (¬ f (40 + (d * 3 + g)) p = -1 ∧ hs (-1) (f (40 + (d * 3 + g)) p) = true)) p + 1))), (8, .int (nI u)), (2, .int (nI (sm (fun t => uA f t (-1)) (d * 3 + g)))), (4, .int (nI g)), (3, .int (nI d)), (1, .ref q0), (0, .ref (w.2.2.2 0))]) hx hb dL_areUsesRight_138 hl (k := 3) rfl (g_inc p 1) (by decide) rfl (fun ls hl => ?_)
                            refine lv_goto (tgt := 32) hx hb dL_areUsesRight_141 (by decide) ?_
                            refine ih H locs ls hL ?_
                            rw [(show ct (fun p => decide (¬ f (40 + (d * 3 + g)) p = -1 ∧ hs (-1) (f (40 + (d * 3 + g)) p) = true)) (p + 1) = ct (fun p => decide (¬ f (40 + (d * 3 + g)) p = -1 ∧ hs (-1) (f (40 + (d * 3 + g)) p) = true)) p + 1 from by first | exact ct_n (fun q => (of_decide_eq_true q).1 e) | exact ct_y (decide_eq_true ⟨by rw [e]; exact nI_ne1 (by omega), by rw [e]; exact hs_all (by omega)⟩)), (show ct (fun p => decide (uS f (d * 3 + g) p (nI 3))) (p + 1) = (ct (fun p => decide (uS f (d * 3 + g) p (nI 3))) p) + 0 from by first | exact ct_n (fun q => absurd (of_decide_eq_true q).1.1 (by rw [e]; decide)) | exact ct_y (decide_eq_true (show uS f (d * 3 + g) p (nI 3) from by unfold uS isT; rw [e, nI_clamp (by omega)]; exact ⟨⟨nI_pos' (by omega), (g_lt (by omega) (by omega)).mpr hu⟩, c127⟩)) | exact ct_n (fun q => c127 (by have := (of_decide_eq_true q).2; rwa [e, nI_clamp (by omega)] at this)))]
                            exact lv_sub hl [2, 1, 0, 4, 5, 6, 7, 8] rfl
                          · skip
                            refine lv_iconst (v := nI 1) hx hb dL_areUsesRight_130 (by decide) ?_
                            refine lv_goto (tgt := 135) hx hb dL_areUsesRight_131 (by decide) ?_
                            refine g_iaddn hx hb dL_areUsesRight_135 ?_
                            refine lv_istore (lv' := [(6, .int (nI ((ct (fun p => decide (uS f (d * 3 + g) p (nI 3))) p) + 1))), (5, .int (nI (ct (fun p => decide (¬ f (40 + (d * 3 + g)) p = -1 ∧ hs (-1) (f (40 + (d * 3 + g)) p) = true)) p + 1))), (8, .int (nI u)), (7, .int (nI p)), (2, .int (nI (sm (fun t => uA f t (-1)) (d * 3 + g)))), (4, .int (nI g)), (3, .int (nI d)), (1, .ref q0), (0, .ref (w.2.2.2 0))]) hx hb dL_areUsesRight_136 hl (by decide) rfl (fun ls hl => ?_)
                            refine lv_iinc (v := nI (p + 1)) (lv' := [(7, .int (nI (p + 1))), (6, .int (nI ((ct (fun p => decide (uS f (d * 3 + g) p (nI 3))) p) + 1))), (5, .int (nI (ct (fun p => decide (¬ f (40 + (d * 3 + g)) p = -1 ∧ hs (-1) (f (40 + (d * 3 + g)) p) = true)) p + 1))), (8, .int (nI u)), (2, .int (nI (sm (fun t => uA f t (-1)) (d * 3 + g)))), (4, .int (nI g)), (3, .int (nI d)), (1, .ref q0), (0, .ref (w.2.2.2 0))]) hx hb dL_areUsesRight_138 hl (k := 3) rfl (g_inc p 1) (by decide) rfl (fun ls hl => ?_)
                            refine lv_goto (tgt := 32) hx hb dL_areUsesRight_141 (by decide) ?_
                            refine ih H locs ls hL ?_
                            rw [(show ct (fun p => decide (¬ f (40 + (d * 3 + g)) p = -1 ∧ hs (-1) (f (40 + (d * 3 + g)) p) = true)) (p + 1) = ct (fun p => decide (¬ f (40 + (d * 3 + g)) p = -1 ∧ hs (-1) (f (40 + (d * 3 + g)) p) = true)) p + 1 from by first | exact ct_n (fun q => (of_decide_eq_true q).1 e) | exact ct_y (decide_eq_true ⟨by rw [e]; exact nI_ne1 (by omega), by rw [e]; exact hs_all (by omega)⟩)), (show ct (fun p => decide (uS f (d * 3 + g) p (nI 3))) (p + 1) = (ct (fun p => decide (uS f (d * 3 + g) p (nI 3))) p) + 1 from by first | exact ct_n (fun q => absurd (of_decide_eq_true q).1.1 (by rw [e]; decide)) | exact ct_y (decide_eq_true (show uS f (d * 3 + g) p (nI 3) from by unfold uS isT; rw [e, nI_clamp (by omega)]; exact ⟨⟨nI_pos' (by omega), (g_lt (by omega) (by omega)).mpr hu⟩, c127⟩)) | exact ct_n (fun q => c127 (by have := (of_decide_eq_true q).2; rwa [e, nI_clamp (by omega)] at this)))]
                            exact lv_sub hl [2, 1, 0, 4, 5, 6, 7, 8] rfl
                        · skip
                          exact absurd c101 e5
                    · skip
                      have c76 : ¬ (nI 0 ≤ nI u) := c76
                      have c76 : ¬ (0 ≤ u) := fun q => c76 ((g_le (by omega) (by omega)).mpr q)
                      omega
                  · skip
                    have c69 : ¬ (u < (nT f)) := fun q => c69 ((g_lt (by omega) (by omega)).mpr q)
                    omega
          · intro H locs ls hL hl
            refine lv_iload hx hb dL_areUsesRight_32 (lv_at hl 2 rfl) ?_
            have hLt := hLn (d * 3 + g) (by omega)
            refine lv_aload_n hx hb dL_areUsesRight_34 rfl (lv_at hl 7 rfl) ?_
            refine lv_iload_n hx hb dL_areUsesRight_35 rfl (lv_at hl 5 rfl) ?_
            refine lv_iload hx hb dL_areUsesRight_36 (lv_at hl 4 rfl) ?_
            refine lv_iconst (v := nI 0) hx hb dL_areUsesRight_38 (by decide) ?_
            refine g_callV (v := .int (nI (nL f (d * 3 + g)))) (As := [.int (nI d), .int (nI g), .int (nI 0)]) (rest := [.int (nI (nL f (d * 3 + g)))]) G.1 hL.1 0 (by decide) rfl rfl ok_X2_ofText gm_369 gm_370 gm_465 (c_X2_ofText l w f d g 0 hI (by omega) (by omega) (by omega)) ⟨rfl, rfl⟩ ⟨Nat.le_of_ble_eq_true rfl, Nat.le_of_ble_eq_true rfl⟩ rfl hl.1 rfl (Nat.le_of_ble_eq_true rfl) ⟨Nat.le_of_ble_eq_true rfl, Nat.le_of_ble_eq_true rfl⟩ dL_areUsesRight_39 ?_
            refine lv_icmp_ge (tgt := 144) hx hb dL_areUsesRight_42 (by decide) (fun c42 => ?_) (fun c42 => ?_)
            · skip
              have c42 : (nL f (d * 3 + g)) ≤ (nL f (d * 3 + g)) := (g_le (by omega) (by omega)).mp c42
              refine lv_aload_n hx hb dL_areUsesRight_144 rfl (lv_at hl 7 rfl) ?_
              refine lv_iload_n hx hb dL_areUsesRight_145 rfl (lv_at hl 5 rfl) ?_
              refine lv_iload hx hb dL_areUsesRight_146 (lv_at hl 4 rfl) ?_
              refine lv_iconst (v := nI 2) hx hb dL_areUsesRight_148 (by decide) ?_
              refine g_callV (v := .int (nI (uA f (d * 3 + g) (-1)))) (As := [.int (nI d), .int (nI g), .int (nI 2)]) (rest := []) G.1 hL.1 0 (by decide) rfl rfl ok_X2_ofText gm_369 gm_370 gm_465 (c_X2_ofText l w f d g 2 hI (by omega) (by omega) (by omega)) ⟨rfl, rfl⟩ ⟨Nat.le_of_ble_eq_true rfl, Nat.le_of_ble_eq_true rfl⟩ rfl hl.1 rfl (Nat.le_of_ble_eq_true rfl) ⟨Nat.le_of_ble_eq_true rfl, Nat.le_of_ble_eq_true rfl⟩ dL_areUsesRight_149 ?_
              refine lv_iload hx hb dL_areUsesRight_152 (lv_at hl 0 rfl) ?_
              refine lv_icmp_ne (tgt := 219) hx hb dL_areUsesRight_154 (by decide) (fun c154 => ?_) (fun c154 => ?_)
              · skip
                have c154 : ¬ ((uA f (d * 3 + g) (-1)) = (ct (fun p => decide (¬ f (40 + (d * 3 + g)) p = -1 ∧ hs (-1) (f (40 + (d * 3 + g)) p) = true)) (nL f (d * 3 + g)))) := fun q => c154 ((g_eq (Nat.lt_of_le_of_lt (uA_le _ _ _) (by omega)) (Nat.lt_of_le_of_lt (ct_le _ _) (by omega))).mpr q)
                exact absurd rfl c154
              · skip
                have c154 : (uA f (d * 3 + g) (-1)) = (ct (fun p => decide (¬ f (40 + (d * 3 + g)) p = -1 ∧ hs (-1) (f (40 + (d * 3 + g)) p) = true)) (nL f (d * 3 + g))) := (g_eq (Nat.lt_of_le_of_lt (uA_le _ _ _) (by omega)) (Nat.lt_of_le_of_lt (ct_le _ _) (by omega))).mp c154
                refine lv_aload_n hx hb dL_areUsesRight_157 rfl (lv_at hl 7 rfl) ?_
                refine lv_iload_n hx hb dL_areUsesRight_158 rfl (lv_at hl 5 rfl) ?_
                refine lv_iload hx hb dL_areUsesRight_159 (lv_at hl 4 rfl) ?_
                refine lv_iconst (v := nI 3) hx hb dL_areUsesRight_161 (by decide) ?_
                refine g_callV (v := .int (nI (uI f (d * 3 + g) (nI 3)))) (As := [.int (nI d), .int (nI g), .int (nI 3)]) (rest := []) G.1 hL.1 0 (by decide) rfl rfl ok_X2_ofText gm_369 gm_370 gm_465 (c_X2_ofText l w f d g 3 hI (by omega) (by omega) (by omega)) ⟨rfl, rfl⟩ ⟨Nat.le_of_ble_eq_true rfl, Nat.le_of_ble_eq_true rfl⟩ rfl hl.1 rfl (Nat.le_of_ble_eq_true rfl) ⟨Nat.le_of_ble_eq_true rfl, Nat.le_of_ble_eq_true rfl⟩ dL_areUsesRight_162 ?_
                refine lv_iload hx hb dL_areUsesRight_165 (lv_at hl 1 rfl) ?_
                refine lv_icmp_ne (tgt := 219) hx hb dL_areUsesRight_167 (by decide) (fun c167 => ?_) (fun c167 => ?_)
                · skip
                  have c167 : ¬ ((uI f (d * 3 + g) (nI 3)) = (ct (fun p => decide (uS f (d * 3 + g) p (nI 3))) (nL f (d * 3 + g)))) := fun q => c167 ((g_eq (Nat.lt_of_le_of_lt (uI_le _ _ _) (by omega)) (Nat.lt_of_le_of_lt (ct_le _ _) (by omega))).mpr q)
                  exact absurd rfl c167
                · skip
                  have c167 : (uI f (d * 3 + g) (nI 3)) = (ct (fun p => decide (uS f (d * 3 + g) p (nI 3))) (nL f (d * 3 + g))) := (g_eq (Nat.lt_of_le_of_lt (uI_le _ _ _) (by omega)) (Nat.lt_of_le_of_lt (ct_le _ _) (by omega))).mp c167
                  refine lv_aload_n hx hb dL_areUsesRight_170 rfl (lv_at hl 7 rfl) ?_
                  refine lv_iload_n hx hb dL_areUsesRight_171 rfl (lv_at hl 5 rfl) ?_
                  refine lv_iload hx hb dL_areUsesRight_172 (lv_at hl 4 rfl) ?_
                  refine lv_iconst (v := nI 4) hx hb dL_areUsesRight_174 (by decide) ?_
                  refine g_callV (v := .int (fbI f (d * 3 + g))) (As := [.int (nI d), .int (nI g), .int (nI 4)]) (rest := []) G.1 hL.1 0 (by decide) rfl rfl ok_X2_ofText gm_369 gm_370 gm_465 (c_X2_ofText l w f d g 4 hI (by omega) (by omega) (by omega)) ⟨rfl, rfl⟩ ⟨Nat.le_of_ble_eq_true rfl, Nat.le_of_ble_eq_true rfl⟩ rfl hl.1 rfl (Nat.le_of_ble_eq_true rfl) ⟨Nat.le_of_ble_eq_true rfl, Nat.le_of_ble_eq_true rfl⟩ dL_areUsesRight_175 ?_
                  refine lv_if_ge (tgt := 185) hx hb dL_areUsesRight_178 (by decide) (fun c178 => ?_) (fun c178 => ?_)
                  · skip
                    refine lv_iconst (v := nI 0) hx hb dL_areUsesRight_185 (by decide) ?_
                    refine lv_iload hx hb dL_areUsesRight_186 (lv_at hl 1 rfl) ?_
                    refine lv_if_ne (tgt := 195) hx hb dL_areUsesRight_188 (by decide) (fun c188 => ?_) (fun c188 => ?_)
                    · skip
                      have c188 : ¬ (nI (ct (fun p => decide (uS f (d * 3 + g) p (nI 3))) (nL f (d * 3 + g))) = nI 0) := c188
                      have c188 : ¬ ((ct (fun p => decide (uS f (d * 3 + g) p (nI 3))) (nL f (d * 3 + g))) = 0) := fun q => c188 ((g_eq (Nat.lt_of_le_of_lt (ct_le _ _) (by omega)) (by omega)).mpr q)
                      refine lv_iconst (v := nI 0) hx hb dL_areUsesRight_195 (by decide) ?_
                      refine lv_icmp_ne (tgt := 219) hx hb dL_areUsesRight_196 (by decide) (fun c196 => ?_) (fun c196 => ?_)
                      · skip
                        have c196 : ¬ (0 = 0) := fun q => c196 ((g_eq (by omega) (by omega)).mpr q)
                        first | omega | exact absurd ((fb_ge hLt.2).mp c178) (fun q => q c188) | exact absurd ((fb_ge hLt.2).mpr c188) c178
                      · skip
                        have c196 : 0 = 0 := (g_eq (by omega) (by omega)).mp c196
                        refine lv_aload_n hx hb dL_areUsesRight_199 rfl (lv_at hl 7 rfl) ?_
                        refine lv_iload_n hx hb dL_areUsesRight_200 rfl (lv_at hl 5 rfl) ?_
                        refine lv_iload hx hb dL_areUsesRight_201 (lv_at hl 4 rfl) ?_
                        refine lv_bipush (v := nI 6) hx hb dL_areUsesRight_203 (by decide) ?_
                        refine g_callV (v := .int (nI (amN f (d * 3 + g)))) (As := [.int (nI d), .int (nI g), .int (nI 6)]) (rest := []) G.1 hL.1 0 (by decide) rfl rfl ok_X2_ofText gm_369 gm_370 gm_465 (c_X2_ofText l w f d g 6 hI (by omega) (by omega) (by omega)) ⟨rfl, rfl⟩ ⟨Nat.le_of_ble_eq_true rfl, Nat.le_of_ble_eq_true rfl⟩ rfl hl.1 rfl (Nat.le_of_ble_eq_true rfl) ⟨Nat.le_of_ble_eq_true rfl, Nat.le_of_ble_eq_true rfl⟩ dL_areUsesRight_205 ?_
                        refine lv_aload_n hx hb dL_areUsesRight_208 rfl (lv_at hl 7 rfl) ?_
                        refine lv_iload_n hx hb dL_areUsesRight_209 rfl (lv_at hl 5 rfl) ?_
                        refine lv_iload hx hb dL_areUsesRight_210 (lv_at hl 4 rfl) ?_
                        refine lv_iconst (v := nI 0) hx hb dL_areUsesRight_212 (by decide) ?_
                        refine g_callV (v := .int (nI (nL f (d * 3 + g)))) (As := [.int (nI d), .int (nI g), .int (nI 0)]) (rest := [.int (nI (amN f (d * 3 + g)))]) G.1 hL.1 0 (by decide) rfl rfl ok_X2_ofText gm_369 gm_370 gm_465 (c_X2_ofText l w f d g 0 hI (by omega) (by omega) (by omega)) ⟨rfl, rfl⟩ ⟨Nat.le_of_ble_eq_true rfl, Nat.le_of_ble_eq_true rfl⟩ rfl hl.1 rfl (Nat.le_of_ble_eq_true rfl) ⟨Nat.le_of_ble_eq_true rfl, Nat.le_of_ble_eq_true rfl⟩ dL_areUsesRight_213 ?_
                        refine lv_icmp_le (tgt := 221) hx hb dL_areUsesRight_216 (by decide) (fun c216 => ?_) (fun c216 => ?_)
                        · skip
                          have c216 : (amN f (d * 3 + g)) ≤ (nL f (d * 3 + g)) := (g_le (Nat.lt_of_le_of_lt (ct_le _ _) (by omega)) (by omega)).mp c216
                          refine lv_iload_n hx hb dL_areUsesRight_221 rfl (lv_at hl 3 rfl) ?_
                          refine lv_iload hx hb dL_areUsesRight_222 (lv_at hl 0 rfl) ?_
                          refine g_iaddn hx hb dL_areUsesRight_224 ?_
                          refine lv_istore_n (lv' := [(2, .int (nI ((sm (fun t => uA f t (-1)) (d * 3 + g)) + (ct (fun p => decide (¬ f (40 + (d * 3 + g)) p = -1 ∧ hs (-1) (f (40 + (d * 3 + g)) p) = true)) (nL f (d * 3 + g)))))), (5, .int (nI (ct (fun p => decide (¬ f (40 + (d * 3 + g)) p = -1 ∧ hs (-1) (f (40 + (d * 3 + g)) p) = true)) (nL f (d * 3 + g))))), (6, .int (nI (ct (fun p => decide (uS f (d * 3 + g) p (nI 3))) (nL f (d * 3 + g))))), (7, .int (nI (nL f (d * 3 + g)))), (4, .int (nI g)), (3, .int (nI d)), (1, .ref q0), (0, .ref (w.2.2.2 0))]) hx hb dL_areUsesRight_225 rfl hl (by decide) rfl (fun ls hl => ?_)
                          refine lv_iinc (v := nI (g + 1)) (lv' := [(4, .int (nI (g + 1))), (2, .int (nI ((sm (fun t => uA f t (-1)) (d * 3 + g)) + (ct (fun p => decide (¬ f (40 + (d * 3 + g)) p = -1 ∧ hs (-1) (f (40 + (d * 3 + g)) p) = true)) (nL f (d * 3 + g)))))), (5, .int (nI (ct (fun p => decide (¬ f (40 + (d * 3 + g)) p = -1 ∧ hs (-1) (f (40 + (d * 3 + g)) p) = true)) (nL f (d * 3 + g))))), (6, .int (nI (ct (fun p => decide (uS f (d * 3 + g) p (nI 3))) (nL f (d * 3 + g))))), (7, .int (nI (nL f (d * 3 + g)))), (3, .int (nI d)), (1, .ref q0), (0, .ref (w.2.2.2 0))]) hx hb dL_areUsesRight_226 hl (k := 4) rfl (g_inc g 1) (by decide) rfl (fun ls hl => ?_)
                          refine lv_goto (tgt := 17) hx hb dL_areUsesRight_229 (by decide) ?_
                          refine ih H locs ls (by rw [show uxA f (d * 3 + (g + 1)) 0 = uxA f (d * 3 + g) (nL f (d * 3 + g)) from rfl]; exact hL) ?_
                          rw [(show sm (fun t => uA f t (-1)) (d * 3 + (g + 1)) = (sm (fun t => uA f t (-1)) (d * 3 + g)) + (ct (fun p => decide (¬ f (40 + (d * 3 + g)) p = -1 ∧ hs (-1) (f (40 + (d * 3 + g)) p) = true)) (nL f (d * 3 + g))) from rfl)]
                          exact lv_sub hl [1, 0, 5, 6, 7] rfl
                        · skip
                          have c216 : ¬ ((amN f (d * 3 + g)) ≤ (nL f (d * 3 + g))) := fun q => c216 ((g_le (Nat.lt_of_le_of_lt (ct_le _ _) (by omega)) (by omega)).mpr q)
                          exact absurd (ct_le _ _) c216
                    · skip
                      have c188 : nI (ct (fun p => decide (uS f (d * 3 + g) p (nI 3))) (nL f (d * 3 + g))) = nI 0 := c188
                      have c188 : (ct (fun p => decide (uS f (d * 3 + g) p (nI 3))) (nL f (d * 3 + g))) = 0 := (g_eq (Nat.lt_of_le_of_lt (ct_le _ _) (by omega)) (by omega)).mp c188
                      refine lv_iconst (v := nI 1) hx hb dL_areUsesRight_191 (by decide) ?_
                      refine lv_goto (tgt := 196) hx hb dL_areUsesRight_192 (by decide) ?_
                      refine lv_icmp_ne (tgt := 219) hx hb dL_areUsesRight_196 (by decide) (fun c196 => ?_) (fun c196 => ?_)
                      · skip
                        have c196 : ¬ (0 = 1) := fun q => c196 ((g_eq (by omega) (by omega)).mpr q)
                        first | omega | exact absurd ((fb_ge hLt.2).mp c178) (fun q => q c188) | exact absurd ((fb_ge hLt.2).mpr c188) c178
                      · skip
                        have c196 : 0 = 1 := (g_eq (by omega) (by omega)).mp c196
                        omega
                  · skip
                    refine lv_iconst (v := nI 1) hx hb dL_areUsesRight_181 (by decide) ?_
                    refine lv_goto (tgt := 186) hx hb dL_areUsesRight_182 (by decide) ?_
                    refine lv_iload hx hb dL_areUsesRight_186 (lv_at hl 1 rfl) ?_
                    refine lv_if_ne (tgt := 195) hx hb dL_areUsesRight_188 (by decide) (fun c188 => ?_) (fun c188 => ?_)
                    · skip
                      have c188 : ¬ (nI (ct (fun p => decide (uS f (d * 3 + g) p (nI 3))) (nL f (d * 3 + g))) = nI 0) := c188
                      have c188 : ¬ ((ct (fun p => decide (uS f (d * 3 + g) p (nI 3))) (nL f (d * 3 + g))) = 0) := fun q => c188 ((g_eq (Nat.lt_of_le_of_lt (ct_le _ _) (by omega)) (by omega)).mpr q)
                      refine lv_iconst (v := nI 0) hx hb dL_areUsesRight_195 (by decide) ?_
                      refine lv_icmp_ne (tgt := 219) hx hb dL_areUsesRight_196 (by decide) (fun c196 => ?_) (fun c196 => ?_)
                      · skip
                        have c196 : ¬ (1 = 0) := fun q => c196 ((g_eq (by omega) (by omega)).mpr q)
                        first | omega | exact absurd ((fb_ge hLt.2).mp c178) (fun q => q c188) | exact absurd ((fb_ge hLt.2).mpr c188) c178
                      · skip
                        have c196 : 1 = 0 := (g_eq (by omega) (by omega)).mp c196
                        omega
                    · skip
                      have c188 : nI (ct (fun p => decide (uS f (d * 3 + g) p (nI 3))) (nL f (d * 3 + g))) = nI 0 := c188
                      have c188 : (ct (fun p => decide (uS f (d * 3 + g) p (nI 3))) (nL f (d * 3 + g))) = 0 := (g_eq (Nat.lt_of_le_of_lt (ct_le _ _) (by omega)) (by omega)).mp c188
                      refine lv_iconst (v := nI 1) hx hb dL_areUsesRight_191 (by decide) ?_
                      refine lv_goto (tgt := 196) hx hb dL_areUsesRight_192 (by decide) ?_
                      refine lv_icmp_ne (tgt := 219) hx hb dL_areUsesRight_196 (by decide) (fun c196 => ?_) (fun c196 => ?_)
                      · skip
                        have c196 : ¬ (1 = 1) := fun q => c196 ((g_eq (by omega) (by omega)).mpr q)
                        first | omega | exact absurd ((fb_ge hLt.2).mp c178) (fun q => q c188) | exact absurd ((fb_ge hLt.2).mpr c188) c178
                      · skip
                        have c196 : 1 = 1 := (g_eq (by omega) (by omega)).mp c196
                        refine lv_aload_n hx hb dL_areUsesRight_199 rfl (lv_at hl 7 rfl) ?_
                        refine lv_iload_n hx hb dL_areUsesRight_200 rfl (lv_at hl 5 rfl) ?_
                        refine lv_iload hx hb dL_areUsesRight_201 (lv_at hl 4 rfl) ?_
                        refine lv_bipush (v := nI 6) hx hb dL_areUsesRight_203 (by decide) ?_
                        refine g_callV (v := .int (nI (amN f (d * 3 + g)))) (As := [.int (nI d), .int (nI g), .int (nI 6)]) (rest := []) G.1 hL.1 0 (by decide) rfl rfl ok_X2_ofText gm_369 gm_370 gm_465 (c_X2_ofText l w f d g 6 hI (by omega) (by omega) (by omega)) ⟨rfl, rfl⟩ ⟨Nat.le_of_ble_eq_true rfl, Nat.le_of_ble_eq_true rfl⟩ rfl hl.1 rfl (Nat.le_of_ble_eq_true rfl) ⟨Nat.le_of_ble_eq_true rfl, Nat.le_of_ble_eq_true rfl⟩ dL_areUsesRight_205 ?_
                        refine lv_aload_n hx hb dL_areUsesRight_208 rfl (lv_at hl 7 rfl) ?_
                        refine lv_iload_n hx hb dL_areUsesRight_209 rfl (lv_at hl 5 rfl) ?_
                        refine lv_iload hx hb dL_areUsesRight_210 (lv_at hl 4 rfl) ?_
                        refine lv_iconst (v := nI 0) hx hb dL_areUsesRight_212 (by decide) ?_
                        refine g_callV (v := .int (nI (nL f (d * 3 + g)))) (As := [.int (nI d), .int (nI g), .int (nI 0)]) (rest := [.int (nI (amN f (d * 3 + g)))]) G.1 hL.1 0 (by decide) rfl rfl ok_X2_ofText gm_369 gm_370 gm_465 (c_X2_ofText l w f d g 0 hI (by omega) (by omega) (by omega)) ⟨rfl, rfl⟩ ⟨Nat.le_of_ble_eq_true rfl, Nat.le_of_ble_eq_true rfl⟩ rfl hl.1 rfl (Nat.le_of_ble_eq_true rfl) ⟨Nat.le_of_ble_eq_true rfl, Nat.le_of_ble_eq_true rfl⟩ dL_areUsesRight_213 ?_
                        refine lv_icmp_le (tgt := 221) hx hb dL_areUsesRight_216 (by decide) (fun c216 => ?_) (fun c216 => ?_)
                        · skip
                          have c216 : (amN f (d * 3 + g)) ≤ (nL f (d * 3 + g)) := (g_le (Nat.lt_of_le_of_lt (ct_le _ _) (by omega)) (by omega)).mp c216
                          refine lv_iload_n hx hb dL_areUsesRight_221 rfl (lv_at hl 3 rfl) ?_
                          refine lv_iload hx hb dL_areUsesRight_222 (lv_at hl 0 rfl) ?_
                          refine g_iaddn hx hb dL_areUsesRight_224 ?_
                          refine lv_istore_n (lv' := [(2, .int (nI ((sm (fun t => uA f t (-1)) (d * 3 + g)) + (ct (fun p => decide (¬ f (40 + (d * 3 + g)) p = -1 ∧ hs (-1) (f (40 + (d * 3 + g)) p) = true)) (nL f (d * 3 + g)))))), (5, .int (nI (ct (fun p => decide (¬ f (40 + (d * 3 + g)) p = -1 ∧ hs (-1) (f (40 + (d * 3 + g)) p) = true)) (nL f (d * 3 + g))))), (6, .int (nI (ct (fun p => decide (uS f (d * 3 + g) p (nI 3))) (nL f (d * 3 + g))))), (7, .int (nI (nL f (d * 3 + g)))), (4, .int (nI g)), (3, .int (nI d)), (1, .ref q0), (0, .ref (w.2.2.2 0))]) hx hb dL_areUsesRight_225 rfl hl (by decide) rfl (fun ls hl => ?_)
                          refine lv_iinc (v := nI (g + 1)) (lv' := [(4, .int (nI (g + 1))), (2, .int (nI ((sm (fun t => uA f t (-1)) (d * 3 + g)) + (ct (fun p => decide (¬ f (40 + (d * 3 + g)) p = -1 ∧ hs (-1) (f (40 + (d * 3 + g)) p) = true)) (nL f (d * 3 + g)))))), (5, .int (nI (ct (fun p => decide (¬ f (40 + (d * 3 + g)) p = -1 ∧ hs (-1) (f (40 + (d * 3 + g)) p) = true)) (nL f (d * 3 + g))))), (6, .int (nI (ct (fun p => decide (uS f (d * 3 + g) p (nI 3))) (nL f (d * 3 + g))))), (7, .int (nI (nL f (d * 3 + g)))), (3, .int (nI d)), (1, .ref q0), (0, .ref (w.2.2.2 0))]) hx hb dL_areUsesRight_226 hl (k := 4) rfl (g_inc g 1) (by decide) rfl (fun ls hl => ?_)
                          refine lv_goto (tgt := 17) hx hb dL_areUsesRight_229 (by decide) ?_
                          refine ih H locs ls (by rw [show uxA f (d * 3 + (g + 1)) 0 = uxA f (d * 3 + g) (nL f (d * 3 + g)) from rfl]; exact hL) ?_
                          rw [(show sm (fun t => uA f t (-1)) (d * 3 + (g + 1)) = (sm (fun t => uA f t (-1)) (d * 3 + g)) + (ct (fun p => decide (¬ f (40 + (d * 3 + g)) p = -1 ∧ hs (-1) (f (40 + (d * 3 + g)) p) = true)) (nL f (d * 3 + g))) from rfl)]
                          exact lv_sub hl [1, 0, 5, 6, 7] rfl
                        · skip
                          have c216 : ¬ ((amN f (d * 3 + g)) ≤ (nL f (d * 3 + g))) := fun q => c216 ((g_le (Nat.lt_of_le_of_lt (ct_le _ _) (by omega)) (by omega)).mpr q)
                          exact absurd (ct_le _ _) c216
            · skip
              have c42 : ¬ ((nL f (d * 3 + g)) ≤ (nL f (d * 3 + g))) := fun q => c42 ((g_le (by omega) (by omega)).mpr q)
              exact absurd c42 (by omega)
      · intro H locs ls hL hl
        refine lv_iload hx hb dL_areUsesRight_17 (lv_at hl 1 rfl) ?_
        refine lv_iconst (v := nI 3) hx hb dL_areUsesRight_19 (by decide) ?_
        refine lv_icmp_ge (tgt := 232) hx hb dL_areUsesRight_20 (by decide) (fun c20 => ?_) (fun c20 => ?_)
        · skip
          have c20 : 3 ≤ 3 := (g_le (by omega) (by omega)).mp c20
          refine lv_aload_n hx hb dL_areUsesRight_232 rfl (lv_at hl 4 rfl) ?_
          refine lv_iload_n hx hb dL_areUsesRight_233 rfl (lv_at hl 2 rfl) ?_
          refine g_callV (As := [.int (nI d)]) (rest := []) G.1 hL.1 0 (by decide) rfl rfl ok_X2_agreement gm_394 gm_395 gm_496 (c_X2_agreement l w f d hI (by omega)) ⟨rfl, rfl⟩ ⟨Nat.le_of_ble_eq_true rfl, Nat.le_of_ble_eq_true rfl⟩ rfl hl.1 rfl (Nat.le_of_ble_eq_true rfl) ⟨Nat.le_of_ble_eq_true rfl, Nat.le_of_ble_eq_true rfl⟩ dL_areUsesRight_234 ?_
          refine lv_if_lt (tgt := 250) hx hb dL_areUsesRight_237 (by decide) (fun c237 => ?_) (fun c237 => ?_)
          · skip
            have c237 : nI (agN f d) < nI 0 := c237
            have c237 : (agN f d) < 0 := (g_lt agN_lt (by omega)).mp c237
            omega
          · skip
            have c237 : ¬ (nI (agN f d) < nI 0) := c237
            have c237 : ¬ ((agN f d) < 0) := fun q => c237 ((g_lt agN_lt (by omega)).mpr q)
            refine lv_aload_n hx hb dL_areUsesRight_240 rfl (lv_at hl 4 rfl) ?_
            refine lv_iload_n hx hb dL_areUsesRight_241 rfl (lv_at hl 2 rfl) ?_
            refine g_callV (As := [.int (nI d)]) (rest := []) G.1 hL.1 0 (by decide) rfl rfl ok_X2_agreement gm_394 gm_395 gm_496 (c_X2_agreement l w f d hI (by omega)) ⟨rfl, rfl⟩ ⟨Nat.le_of_ble_eq_true rfl, Nat.le_of_ble_eq_true rfl⟩ rfl hl.1 rfl (Nat.le_of_ble_eq_true rfl) ⟨Nat.le_of_ble_eq_true rfl, Nat.le_of_ble_eq_true rfl⟩ dL_areUsesRight_242 ?_
            refine lv_bipush (v := nI 100) hx hb dL_areUsesRight_245 (by decide) ?_
            refine lv_icmp_le (tgt := 252) hx hb dL_areUsesRight_247 (by decide) (fun c247 => ?_) (fun c247 => ?_)
            · skip
              have c247 : (agN f d) ≤ 100 := (g_le agN_lt (by omega)).mp c247
              refine lv_iinc (v := nI (d + 1)) (lv' := [(3, .int (nI (d + 1))), (2, .int (nI (sm (fun t => uA f t (-1)) (d * 3 + 3)))), (4, .int (nI 3)), (1, .ref q0), (0, .ref (w.2.2.2 0))]) hx hb dL_areUsesRight_252 hl (k := 2) rfl (g_inc d 1) (by decide) rfl (fun ls hl => ?_)
              refine lv_goto (tgt := 9) hx hb dL_areUsesRight_255 (by decide) ?_
              refine ih H locs ls (by rw [show uxA f ((d + 1) * 3) 0 = uxA f (d * 3 + 3) 0 from by rw [show (d + 1) * 3 = d * 3 + 3 from by omega]]; exact hL) ?_
              rw [(show sm (fun t => uA f t (-1)) ((d + 1) * 3) = sm (fun t => uA f t (-1)) (d * 3 + 3) from by rw [show (d + 1) * 3 = d * 3 + 3 from by omega])]
              exact lv_sub hl [1, 0, 3, 4] rfl
            · skip
              have c247 : ¬ ((agN f d) ≤ 100) := fun q => c247 ((g_le agN_lt (by omega)).mpr q)
              exact absurd (agN_le _ _) c247
        · skip
          have c20 : ¬ (3 ≤ 3) := fun q => c20 ((g_le (by omega) (by omega)).mpr q)
          exact absurd c20 (by omega)
  · intro H locs ls hL hl
    refine lv_iload_n hx hb dL_areUsesRight_9 rfl (lv_at hl 1 rfl) ?_
    refine lv_iconst (v := nI 2) hx hb dL_areUsesRight_10 (by decide) ?_
    refine lv_icmp_ge (tgt := 258) hx hb dL_areUsesRight_11 (by decide) (fun c11 => ?_) (fun c11 => ?_)
    · skip
      have c11 : 2 ≤ 2 := (g_le (by omega) (by omega)).mp c11
      refine lv_iconst (v := nI 0) hx hb dL_areUsesRight_258 (by decide) ?_
      refine lv_istore_n (lv' := [(3, .int (nI 0)), (2, .int (nI (sm (fun t => uA f t (-1)) (2 * 3)))), (1, .ref q0), (0, .ref (w.2.2.2 0))]) hx hb dL_areUsesRight_259 rfl hl (by decide) rfl (fun ls hl => ?_)
      refine g_for (P := fun t => ∀ (H : Heap) (locs : List Loc) (ls : Array Slot), LV w S_ H locs f [(q0, .inl (w.2.1, 24, .inl (uxA f (2 * 3) 0)))] → lv_has ls 9 [(3, .int (nI t)), (2, .int (nI (sm (fun t => uA f t (-1)) (2 * 3)))), (1, .ref q0), (0, .ref (w.2.2.2 0))] → W P_ l E_ _ S_ M_ _ B_ T_ C_ H locs 1 24 _ (F0 M_ 260 ls [])) (nT f) ?_ ?_ 0 (Nat.zero_le _) H locs ls hL (lv_sub hl [0, 1, 2, 3] rfl)
      · intro t ht ih H locs ls hL hl
        refine lv_iload_n hx hb dL_areUsesRight_260 rfl (lv_at hl 0 rfl) ?_
        refine lv_aload_n hx hb dL_areUsesRight_261 rfl (lv_at hl 3 rfl) ?_
        refine lv_iconst (v := nI 2) hx hb dL_areUsesRight_262 (by decide) ?_
        refine g_callV (v := .int (nI (nT f))) (As := [.int (nI 2)]) (rest := [.int (nI t)]) G.1 hL.1 0 (by decide) rfl rfl ok_X2_many gm_378 gm_379 gm_477 (c_X2_many l w f 2 hI (by omega)) ⟨rfl, rfl⟩ ⟨Nat.le_of_ble_eq_true rfl, Nat.le_of_ble_eq_true rfl⟩ rfl hl.1 rfl (Nat.le_of_ble_eq_true rfl) ⟨Nat.le_of_ble_eq_true rfl, Nat.le_of_ble_eq_true rfl⟩ dL_areUsesRight_263 ?_
        refine lv_icmp_ge (tgt := 290) hx hb dL_areUsesRight_266 (by decide) (fun c266 => ?_) (fun c266 => ?_)
        · skip
          have c266 : (nT f) ≤ t := (g_le (by omega) (by omega)).mp c266
          exact absurd c266 (by omega)
        · skip
          have c266 : ¬ ((nT f) ≤ t) := fun q => c266 ((g_le (by omega) (by omega)).mpr q)
          refine lv_aload_n hx hb dL_areUsesRight_269 rfl (lv_at hl 3 rfl) ?_
          refine lv_iload_n hx hb dL_areUsesRight_270 rfl (lv_at hl 0 rfl) ?_
          refine lv_bipush (v := nI 7) hx hb dL_areUsesRight_271 (by decide) ?_
          refine g_callV (v := .int (nI (usN f (bit t)))) (As := [.int (nI t), .int (nI 7)]) (rest := []) G.1 hL.1 0 (by decide) rfl rfl ok_X2_ofTerm gm_357 gm_358 gm_479 (c_X2_ofTerm l w f t 7 hI (by omega) (by omega)) ⟨rfl, rfl⟩ ⟨Nat.le_of_ble_eq_true rfl, Nat.le_of_ble_eq_true rfl⟩ rfl hl.1 rfl (Nat.le_of_ble_eq_true rfl) ⟨Nat.le_of_ble_eq_true rfl, Nat.le_of_ble_eq_true rfl⟩ dL_areUsesRight_273 ?_
          refine lv_aload_n hx hb dL_areUsesRight_276 rfl (lv_at hl 2 rfl) ?_
          refine lv_iload_n hx hb dL_areUsesRight_277 rfl (lv_at hl 0 rfl) ?_
          refine l_iald hx hb hL 0 (u := uxA f (2 * 3) 0) rfl (i := t) (by omega) (by decide) dL_areUsesRight_278 ?_
          refine lv_icmp_eq (tgt := 284) hx hb dL_areUsesRight_279 (by decide) (fun c279 => ?_) (fun c279 => ?_)
          · skip
            refine lv_iinc (v := nI (t + 1)) (lv' := [(3, .int (nI (t + 1))), (2, .int (nI (sm (fun t => uA f t (-1)) (2 * 3)))), (1, .ref q0), (0, .ref (w.2.2.2 0))]) hx hb dL_areUsesRight_284 hl (k := 0) rfl (g_inc t 1) (by decide) rfl (fun ls hl => ?_)
            refine lv_goto (tgt := 260) hx hb dL_areUsesRight_287 (by decide) ?_
            refine ih H locs ls hL ?_
            exact lv_sub hl [0, 1, 2, 3] rfl
          · skip
            exact absurd ((uxA_end hI hU (by omega)).trans (by rw [hD2])) c279
      · intro H locs ls hL hl
        refine lv_iload_n hx hb dL_areUsesRight_260 rfl (lv_at hl 0 rfl) ?_
        refine lv_aload_n hx hb dL_areUsesRight_261 rfl (lv_at hl 3 rfl) ?_
        refine lv_iconst (v := nI 2) hx hb dL_areUsesRight_262 (by decide) ?_
        refine g_callV (v := .int (nI (nT f))) (As := [.int (nI 2)]) (rest := [.int (nI (nT f))]) G.1 hL.1 0 (by decide) rfl rfl ok_X2_many gm_378 gm_379 gm_477 (c_X2_many l w f 2 hI (by omega)) ⟨rfl, rfl⟩ ⟨Nat.le_of_ble_eq_true rfl, Nat.le_of_ble_eq_true rfl⟩ rfl hl.1 rfl (Nat.le_of_ble_eq_true rfl) ⟨Nat.le_of_ble_eq_true rfl, Nat.le_of_ble_eq_true rfl⟩ dL_areUsesRight_263 ?_
        refine lv_icmp_ge (tgt := 290) hx hb dL_areUsesRight_266 (by decide) (fun c266 => ?_) (fun c266 => ?_)
        · skip
          have c266 : (nT f) ≤ (nT f) := (g_le (by omega) (by omega)).mp c266
          refine lv_iconst (v := nI 0) hx hb dL_areUsesRight_290 (by decide) ?_
          refine lv_istore_n (lv' := [(3, .int (nI 0)), (2, .int (nI (sm (fun t => uA f t (-1)) (2 * 3)))), (1, .ref q0), (0, .ref (w.2.2.2 0))]) hx hb dL_areUsesRight_291 rfl hl (by decide) rfl (fun ls hl => ?_)
          refine lv_iconst (v := nI 0) hx hb dL_areUsesRight_292 (by decide) ?_
          refine lv_istore (lv' := [(4, .int (nI 0)), (3, .int (nI 0)), (2, .int (nI (sm (fun t => uA f t (-1)) (2 * 3)))), (1, .ref q0), (0, .ref (w.2.2.2 0))]) hx hb dL_areUsesRight_293 hl (by decide) rfl (fun ls hl => ?_)
          refine g_for (P := fun c => ∀ (H : Heap) (locs : List Loc) (ls : Array Slot), LV w S_ H locs f [(q0, .inl (w.2.1, 24, .inl (uxA f (2 * 3) 0)))] → lv_has ls 9 [(3, .int (nI (sm (fun c => usN f (ofC f (nI c))) c))), (4, .int (nI c)), (2, .int (nI (sm (fun t => uA f t (-1)) (2 * 3)))), (1, .ref q0), (0, .ref (w.2.2.2 0))] → W P_ l E_ _ S_ M_ _ B_ T_ C_ H locs 1 24 _ (F0 M_ 295 ls [])) (nC f) ?_ ?_ 0 (Nat.zero_le _) H locs ls hL (lv_sub hl [1, 0, 2, 3, 4] rfl)
          · intro c hc ih H locs ls hL hl
            refine lv_iload hx hb dL_areUsesRight_295 (lv_at hl 1 rfl) ?_
            refine lv_aload_n hx hb dL_areUsesRight_297 rfl (lv_at hl 4 rfl) ?_
            refine lv_iconst (v := nI 0) hx hb dL_areUsesRight_298 (by decide) ?_
            refine g_callV (v := .int (nI (nC f))) (As := [.int (nI 0)]) (rest := [.int (nI c)]) G.1 hL.1 0 (by decide) rfl rfl ok_X2_many gm_378 gm_379 gm_477 (c_X2_many l w f 0 hI (by omega)) ⟨rfl, rfl⟩ ⟨Nat.le_of_ble_eq_true rfl, Nat.le_of_ble_eq_true rfl⟩ rfl hl.1 rfl (Nat.le_of_ble_eq_true rfl) ⟨Nat.le_of_ble_eq_true rfl, Nat.le_of_ble_eq_true rfl⟩ dL_areUsesRight_299 ?_
            refine lv_icmp_ge (tgt := 321) hx hb dL_areUsesRight_302 (by decide) (fun c302 => ?_) (fun c302 => ?_)
            · skip
              have c302 : (nC f) ≤ c := (g_le (by omega) (by omega)).mp c302
              exact absurd c302 (by omega)
            · skip
              have c302 : ¬ ((nC f) ≤ c) := fun q => c302 ((g_le (by omega) (by omega)).mpr q)
              refine lv_iload_n hx hb dL_areUsesRight_305 rfl (lv_at hl 0 rfl) ?_
              refine lv_aload_n hx hb dL_areUsesRight_306 rfl (lv_at hl 4 rfl) ?_
              refine lv_iload hx hb dL_areUsesRight_307 (lv_at hl 1 rfl) ?_
              refine lv_iconst (v := nI 5) hx hb dL_areUsesRight_309 (by decide) ?_
              refine g_callV (v := .int (nI (usN f (ofC f (nI c))))) (As := [.int (nI c), .int (nI 5)]) (rest := [.int (nI (sm (fun c => usN f (ofC f (nI c))) c))]) G.1 hL.1 0 (by decide) rfl rfl ok_X2_ofConcept gm_365 gm_366 gm_482 (c_X2_ofConcept l w f c 5 hI (by omega) (by omega)) ⟨rfl, rfl⟩ ⟨Nat.le_of_ble_eq_true rfl, Nat.le_of_ble_eq_true rfl⟩ rfl hl.1 rfl (Nat.le_of_ble_eq_true rfl) ⟨Nat.le_of_ble_eq_true rfl, Nat.le_of_ble_eq_true rfl⟩ dL_areUsesRight_310 ?_
              refine g_iaddn hx hb dL_areUsesRight_313 ?_
              refine lv_istore_n (lv' := [(3, .int (nI ((sm (fun c => usN f (ofC f (nI c))) c) + (usN f (ofC f (nI c)))))), (4, .int (nI c)), (2, .int (nI (sm (fun t => uA f t (-1)) (2 * 3)))), (1, .ref q0), (0, .ref (w.2.2.2 0))]) hx hb dL_areUsesRight_314 rfl hl (by decide) rfl (fun ls hl => ?_)
              refine lv_iinc (v := nI (c + 1)) (lv' := [(4, .int (nI (c + 1))), (3, .int (nI ((sm (fun c => usN f (ofC f (nI c))) c) + (usN f (ofC f (nI c)))))), (2, .int (nI (sm (fun t => uA f t (-1)) (2 * 3)))), (1, .ref q0), (0, .ref (w.2.2.2 0))]) hx hb dL_areUsesRight_315 hl (k := 1) rfl (g_inc c 1) (by decide) rfl (fun ls hl => ?_)
              refine lv_goto (tgt := 295) hx hb dL_areUsesRight_318 (by decide) ?_
              refine ih H locs ls hL ?_
              rw [(show sm (fun c => usN f (ofC f (nI c))) (c + 1) = (sm (fun c => usN f (ofC f (nI c))) c) + (usN f (ofC f (nI c))) from rfl)]
              exact lv_sub hl [1, 0, 2, 3, 4] rfl
          · intro H locs ls hL hl
            refine lv_iload hx hb dL_areUsesRight_295 (lv_at hl 1 rfl) ?_
            refine lv_aload_n hx hb dL_areUsesRight_297 rfl (lv_at hl 4 rfl) ?_
            refine lv_iconst (v := nI 0) hx hb dL_areUsesRight_298 (by decide) ?_
            refine g_callV (v := .int (nI (nC f))) (As := [.int (nI 0)]) (rest := [.int (nI (nC f))]) G.1 hL.1 0 (by decide) rfl rfl ok_X2_many gm_378 gm_379 gm_477 (c_X2_many l w f 0 hI (by omega)) ⟨rfl, rfl⟩ ⟨Nat.le_of_ble_eq_true rfl, Nat.le_of_ble_eq_true rfl⟩ rfl hl.1 rfl (Nat.le_of_ble_eq_true rfl) ⟨Nat.le_of_ble_eq_true rfl, Nat.le_of_ble_eq_true rfl⟩ dL_areUsesRight_299 ?_
            refine lv_icmp_ge (tgt := 321) hx hb dL_areUsesRight_302 (by decide) (fun c302 => ?_) (fun c302 => ?_)
            · skip
              have c302 : (nC f) ≤ (nC f) := (g_le (by omega) (by omega)).mp c302
              refine lv_aload_n hx hb dL_areUsesRight_321 rfl (lv_at hl 4 rfl) ?_
              refine lv_bipush (v := nI 11) hx hb dL_areUsesRight_322 (by decide) ?_
              refine g_callV (v := .int (nI (usN f (-1)))) (As := [.int (nI 11)]) (rest := []) G.1 hL.1 0 (by decide) rfl rfl ok_X2_many gm_378 gm_379 gm_477 (c_X2_many l w f 11 hI (by omega)) ⟨rfl, rfl⟩ ⟨Nat.le_of_ble_eq_true rfl, Nat.le_of_ble_eq_true rfl⟩ rfl hl.1 rfl (Nat.le_of_ble_eq_true rfl) ⟨Nat.le_of_ble_eq_true rfl, Nat.le_of_ble_eq_true rfl⟩ dL_areUsesRight_324 ?_
              refine lv_iload_n hx hb dL_areUsesRight_327 rfl (lv_at hl 2 rfl) ?_
              refine lv_icmp_ne (tgt := 340) hx hb dL_areUsesRight_328 (by decide) (fun c328 => ?_) (fun c328 => ?_)
              · skip
                exact absurd (by unfold usN; rw [hD2]) c328
              · skip
                refine lv_iload_n hx hb dL_areUsesRight_331 rfl (lv_at hl 0 rfl) ?_
                refine lv_iload_n hx hb dL_areUsesRight_332 rfl (lv_at hl 2 rfl) ?_
                refine lv_icmp_ne (tgt := 340) hx hb dL_areUsesRight_333 (by decide) (fun c333 => ?_) (fun c333 => ?_)
                · skip
                  have c333 : ¬ ((sm (fun c => usN f (ofC f (nI c))) (nC f)) = (sm (fun t => uA f t (-1)) (2 * 3))) := fun q => c333 ((g_eq (by rw [us_parts hI hU hCo]; exact us_lt hI) (all_lt hI (by omega))).mpr q)
                  exact absurd ((us_parts hI hU hCo).trans (by unfold usN; rw [hD2])) c333
                · skip
                  have c333 : (sm (fun c => usN f (ofC f (nI c))) (nC f)) = (sm (fun t => uA f t (-1)) (2 * 3)) := (g_eq (by rw [us_parts hI hU hCo]; exact us_lt hI) (all_lt hI (by omega))).mp c333
                  refine lv_iconst (v := nI 1) hx hb dL_areUsesRight_336 (by decide) ?_
                  refine lv_goto (tgt := 341) hx hb dL_areUsesRight_337 (by decide) ?_
                  exact n_zret G hL (rfl) (Or.inr rfl) dL_areUsesRight_341
            · skip
              have c302 : ¬ ((nC f) ≤ (nC f)) := fun q => c302 ((g_le (by omega) (by omega)).mpr q)
              exact absurd c302 (by omega)
        · skip
          have c266 : ¬ ((nT f) ≤ (nT f)) := fun q => c266 ((g_le (by omega) (by omega)).mpr q)
          exact absurd c266 (by omega)
    · skip
      have c11 : ¬ (2 ≤ 2) := fun q => c11 ((g_le (by omega) (by omega)).mpr q)
      exact absurd c11 (by omega)
