theorem ok_L_areTextsRight : gOK yL_areTextsRight cL_areTextsRight 9 (some .boolean) 1 := ⟨gm_522, gm_468, by decide +kernel⟩
set_option maxRecDepth 100000 in
set_option maxHeartbeats 4000000 in
theorem c_L_areTextsRight (l : Launch) (w : GP) (f : CS)  (hI : gI f) (dy : Nat) (hdy : f 0 3 = nI dy) (hdl : dy ≤ 199) (hM : hTm f dy) (hU : hUse f) (hD2 : nD f = 2) (hSt : ∀ t, t < 18 → ∃ x, x < 3 ∧ f 12 t = nI x) (hE : ∀ t, t < 18 → nL f t = 0 → f 12 t = nI 0) (hGr : ∀ t, t < 18 → f 12 t = nI 1 → ∀ p, p < nL f t → ∀ u, u < nT f → f (40 + t) p = nI u → f 5 u = nI 3 → ∀ b, f 8 u = nI b → b ≤ dy → dy ≤ b + 3) : Met l yL_areTextsRight (gws yL_areTextsRight cL_areTextsRight 9 (some .boolean)) ({ frames := 6, cells := 1, slots := 3, locals := 134 }) (gPc w f [.ref (w.2.2.2 0)]) (gRn (.int 1)) 1 3 (fun _ => False) := by
  refine n_read (by decide) (Nat.le_of_ble_eq_true rfl) ?_
  intro P_ E_ S_ M_ B_ T_ C_ ls G hV hl
  obtain ⟨hx, hb, hml, hown, hts⟩ := id G.1
  obtain ⟨⟨hT, hT24⟩, ⟨hC, hC12⟩, ⟨hD, hD6⟩, hLn⟩ := id hI
  have hl : lv_has ls 9 [(0, .ref (w.2.2.2 0))] := hl
  have hL := LV.start hV
  obtain ⟨H, hH⟩ : ∃ H, H = S_.heap := ⟨_, rfl⟩
  obtain ⟨locs, hLo⟩ : ∃ L : List Loc, L = [] := ⟨_, rfl⟩
  rw [← hH, ← hLo] at hL
  suffices K : ∀ (H : Heap) (locs : List Loc), LV w S_ H locs f [] → W P_ l E_ _ S_ M_ _ B_ T_ C_ H locs 0 0 _ (F0 M_ 0 ls []) from by have := K H locs hL; rw [hH, hLo] at this; exact this
  clear hL hH hLo hV; intro H locs hL
  refine lv_iconst (v := nI 3) hx hb dL_areTextsRight_0 (by decide) ?_
  refine l_newa hx hb hL hts (N := 3) (by decide) dL_areTextsRight_1 (Nat.le_of_ble_eq_true rfl) (Nat.le_of_ble_eq_true rfl) (fun q0 H hL => ?_)
  refine lv_astore_n (lv' := [(1, .ref q0), (0, .ref (w.2.2.2 0))]) hx hb dL_areTextsRight_3 rfl hl (by decide) rfl (fun ls hl => ?_)
  refine lv_dconst0 hx hb dL_areTextsRight_4 ?_
  refine lv_dstore_n (lv' := [(2, .double FP.dconst0), (1, .ref q0), (0, .ref (w.2.2.2 0))]) hx hb dL_areTextsRight_5 rfl hl (by decide) rfl (fun ls hl => ?_)
  refine lv_iconst (v := nI 0) hx hb dL_areTextsRight_6 (by decide) ?_
  refine lv_istore (lv' := [(4, .int (nI 0)), (2, .double FP.dconst0), (1, .ref q0), (0, .ref (w.2.2.2 0))]) hx hb dL_areTextsRight_7 hl (by decide) rfl (fun ls hl => ?_)
  rw [show FP.dconst0 = FP.i2d (nI (sm (fun t => if 0 < nL f t then csN f t else 0) (0 * 3))) from fp_c0] at hl
  refine lv_iconst (v := nI 0) hx hb dL_areTextsRight_9 (by decide) ?_
  refine lv_istore (lv' := [(5, .int (nI 0)), (4, .int (nI 0)), (2, .double (FP.i2d (nI (sm (fun t => if 0 < nL f t then csN f t else 0) (0 * 3))))), (1, .ref q0), (0, .ref (w.2.2.2 0))]) hx hb dL_areTextsRight_10 hl (by decide) rfl (fun ls hl => ?_)
  refine g_for (P := fun d => ∀ (H : Heap) (locs : List Loc) (ls : Array Slot), LV w S_ H locs f [(q0, .inl (w.2.1, 3, .inl (xsA f (d * 3))))] → lv_has ls 9 [(2, .double (FP.i2d (nI (sm (fun t => if 0 < nL f t then csN f t else 0) (d * 3))))), (4, .int (nI (ct (fun t => decide (0 < nL f t)) (d * 3)))), (5, .int (nI d)), (1, .ref q0), (0, .ref (w.2.2.2 0))] → W P_ l E_ _ S_ M_ _ B_ T_ C_ H locs 1 3 _ (F0 M_ 12 ls [])) (2) ?_ ?_ 0 (Nat.zero_le _) H locs ls (by rw [show xsA f (0 * 3) = fun _ => 0 from xsA_0 f]; exact hL) (lv_sub hl [2, 1, 0, 3, 4] rfl)
  · intro d hd ihd H locs ls hL hl
    refine lv_iload hx hb dL_areTextsRight_12 (lv_at hl 2 rfl) ?_
    refine lv_iconst (v := nI 2) hx hb dL_areTextsRight_14 (by decide) ?_
    refine lv_icmp_ge (tgt := 181) hx hb dL_areTextsRight_15 (by decide) (fun c15 => ?_) (fun c15 => ?_)
    · skip
      have c15 : 2 ≤ d := (g_le (by omega) (by omega)).mp c15
      exact absurd c15 (by omega)
    · skip
      have c15 : ¬ (2 ≤ d) := fun q => c15 ((g_le (by omega) (by omega)).mpr q)
      refine lv_iconst (v := nI 0) hx hb dL_areTextsRight_18 (by decide) ?_
      refine lv_istore (lv' := [(6, .int (nI 0)), (2, .double (FP.i2d (nI (sm (fun t => if 0 < nL f t then csN f t else 0) (d * 3))))), (4, .int (nI (ct (fun t => decide (0 < nL f t)) (d * 3)))), (5, .int (nI d)), (1, .ref q0), (0, .ref (w.2.2.2 0))]) hx hb dL_areTextsRight_19 hl (by decide) rfl (fun ls hl => ?_)
      refine g_for (P := fun g => ∀ (H : Heap) (locs : List Loc) (ls : Array Slot), LV w S_ H locs f [(q0, .inl (w.2.1, 3, .inl (xsA f (d * 3 + g))))] → lv_has ls 9 [(2, .double (FP.i2d (nI (sm (fun t => if 0 < nL f t then csN f t else 0) (d * 3 + g))))), (4, .int (nI (ct (fun t => decide (0 < nL f t)) (d * 3 + g)))), (6, .int (nI g)), (5, .int (nI d)), (1, .ref q0), (0, .ref (w.2.2.2 0))] → W P_ l E_ _ S_ M_ _ B_ T_ C_ H locs 1 3 _ (F0 M_ 21 ls [])) (3) ?_ ?_ 0 (Nat.zero_le _) H locs ls hL (lv_sub hl [1, 2, 0, 3, 4, 5] rfl)
      · intro g hg ihg H locs ls hL hl
        refine lv_iload hx hb dL_areTextsRight_21 (lv_at hl 2 rfl) ?_
        refine lv_iconst (v := nI 3) hx hb dL_areTextsRight_23 (by decide) ?_
        refine lv_icmp_ge (tgt := 175) hx hb dL_areTextsRight_24 (by decide) (fun c24 => ?_) (fun c24 => ?_)
        · skip
          have c24 : 3 ≤ g := (g_le (by omega) (by omega)).mp c24
          exact absurd c24 (by omega)
        · skip
          have c24 : ¬ (3 ≤ g) := fun q => c24 ((g_le (by omega) (by omega)).mpr q)
          have hLt := hLn (d * 3 + g) (by omega)
          refine lv_aload_n hx hb dL_areTextsRight_27 rfl (lv_at hl 5 rfl) ?_
          refine lv_iload hx hb dL_areTextsRight_28 (lv_at hl 3 rfl) ?_
          refine lv_iload hx hb dL_areTextsRight_30 (lv_at hl 2 rfl) ?_
          refine lv_iconst (v := nI 0) hx hb dL_areTextsRight_32 (by decide) ?_
          refine g_callV (v := .int (nI (nL f (d * 3 + g)))) (As := [.int (nI d), .int (nI g), .int (nI 0)]) (rest := []) G.1 hL.1 0 (by decide) rfl rfl ok_X2_ofText gm_369 gm_370 gm_465 (c_X2_ofText l w f d g 0 hI (by omega) (by omega) (by omega)) ⟨rfl, rfl⟩ ⟨Nat.le_of_ble_eq_true rfl, Nat.le_of_ble_eq_true rfl⟩ rfl hl.1 rfl (Nat.le_of_ble_eq_true rfl) ⟨Nat.le_of_ble_eq_true rfl, Nat.le_of_ble_eq_true rfl⟩ dL_areTextsRight_33 ?_
          refine lv_if_ne (tgt := 53) hx hb dL_areTextsRight_36 (by decide) (fun c36 => ?_) (fun c36 => ?_)
          · skip
            have c36 : ¬ (nI (nL f (d * 3 + g)) = nI 0) := c36
            have c36 : ¬ ((nL f (d * 3 + g)) = 0) := fun q => c36 ((g_eq (by omega) (by omega)).mpr q)
            obtain ⟨x, hx3, ex⟩ := hSt (d * 3 + g) (by omega)
            have hpos : 0 < nL f (d * 3 + g) := by omega
            have hs6 := sc_le hI hU (k := d * 3 + g + 1) (by omega)
            refine lv_aload_n hx hb dL_areTextsRight_53 rfl (lv_at hl 4 rfl) ?_
            refine lv_aload_n hx hb dL_areTextsRight_54 rfl (lv_at hl 5 rfl) ?_
            refine lv_iload hx hb dL_areTextsRight_55 (lv_at hl 3 rfl) ?_
            refine lv_iload hx hb dL_areTextsRight_57 (lv_at hl 2 rfl) ?_
            refine lv_iconst (v := nI 1) hx hb dL_areTextsRight_59 (by decide) ?_
            refine g_callV (v := .int (nI x)) (As := [.int (nI d), .int (nI g), .int (nI 1)]) (rest := [.ref q0]) G.1 hL.1 0 (by decide) rfl rfl ok_X2_ofText gm_369 gm_370 gm_465 (by have q9 := (c_X2_ofText l w f d g 1 hI (by omega) (by omega) (by omega)); rw [show gRd (.int (oxF f (d * 3 + g) 1)) = gRd (.int (nI x)) from congrArg (fun z => gRd (.int z)) (show oxF f (d * 3 + g) 1 = nI x from ex)] at q9; exact q9) ⟨rfl, rfl⟩ ⟨Nat.le_of_ble_eq_true rfl, Nat.le_of_ble_eq_true rfl⟩ rfl hl.1 rfl (Nat.le_of_ble_eq_true rfl) ⟨Nat.le_of_ble_eq_true rfl, Nat.le_of_ble_eq_true rfl⟩ dL_areTextsRight_60 ?_
            refine lv_dup2_11 hx hb dL_areTextsRight_63 rfl rfl ?_
            refine l_iald hx hb hL 0 (u := xsA f (d * 3 + g)) rfl (i := x) (by omega) (by decide) dL_areTextsRight_64 ?_
            refine lv_iconst (v := nI 1) hx hb dL_areTextsRight_65 (by decide) ?_
            refine lv_iadd hx hb dL_areTextsRight_66 ?_
            refine l_iast hx hb hL 0 (u := xsA f (d * 3 + g)) rfl (i := x) (by omega) (by decide) dL_areTextsRight_67 (fun H locs hL => ?_)
            rw [← xsA_y hpos ex hx3] at hL
            refine lv_dload_n hx hb dL_areTextsRight_68 rfl (lv_at hl 0 rfl) ?_
            refine lv_aload_n hx hb dL_areTextsRight_69 rfl (lv_at hl 5 rfl) ?_
            refine lv_iload hx hb dL_areTextsRight_70 (lv_at hl 3 rfl) ?_
            refine lv_iload hx hb dL_areTextsRight_72 (lv_at hl 2 rfl) ?_
            refine lv_iconst (v := nI 5) hx hb dL_areTextsRight_74 (by decide) ?_
            refine g_callV (v := .int (nI (csN f (d * 3 + g)))) (As := [.int (nI d), .int (nI g), .int (nI 5)]) (rest := [.double (FP.i2d (nI (sm (fun t => if 0 < nL f t then csN f t else 0) (d * 3 + g))))]) G.1 hL.1 0 (by decide) rfl rfl ok_X2_ofText gm_369 gm_370 gm_465 (c_X2_ofText l w f d g 5 hI (by omega) (by omega) (by omega)) ⟨rfl, rfl⟩ ⟨Nat.le_of_ble_eq_true rfl, Nat.le_of_ble_eq_true rfl⟩ rfl hl.1 rfl (Nat.le_of_ble_eq_true rfl) ⟨Nat.le_of_ble_eq_true rfl, Nat.le_of_ble_eq_true rfl⟩ dL_areTextsRight_75 ?_
            refine lv_i2d hx hb dL_areTextsRight_78 ?_
            have z79 : FP.dadd (FP.i2d (nI (sm (fun t => if 0 < nL f t then csN f t else 0) (d * 3 + g)))) (FP.i2d (nI (csN f (d * 3 + g)))) = FP.i2d (nI (sm (fun t => if 0 < nL f t then csN f t else 0) (d * 3 + g) + csN f (d * 3 + g))) := fp_add (by have := sc_le hI hU (k := d * 3 + g) (by omega); omega) (by have := csN_100 hI hU (t := d * 3 + g) (by omega); omega)
            refine lv_dadd hx hb dL_areTextsRight_79 (by rw [z79]; exact i2d_nn (by have := hs6; rw [show sm _ (d * 3 + g + 1) = sm _ (d * 3 + g) + (if 0 < nL f (d * 3 + g) then csN f (d * 3 + g) else 0) from rfl, if_pos hpos] at this; omega)) ?_
            rw [z79]
            refine lv_dstore_n (lv' := [(2, .double (FP.i2d (nI (sm (fun t => if 0 < nL f t then csN f t else 0) (d * 3 + g) + csN f (d * 3 + g))))), (4, .int (nI (ct (fun t => decide (0 < nL f t)) (d * 3 + g)))), (6, .int (nI g)), (5, .int (nI d)), (1, .ref q0), (0, .ref (w.2.2.2 0))]) hx hb dL_areTextsRight_80 rfl hl (by decide) rfl (fun ls hl => ?_)
            refine lv_iinc (v := nI (ct (fun t => decide (0 < nL f t)) (d * 3 + g) + 1)) (lv' := [(4, .int (nI (ct (fun t => decide (0 < nL f t)) (d * 3 + g) + 1))), (2, .double (FP.i2d (nI (sm (fun t => if 0 < nL f t then csN f t else 0) (d * 3 + g) + csN f (d * 3 + g))))), (6, .int (nI g)), (5, .int (nI d)), (1, .ref q0), (0, .ref (w.2.2.2 0))]) hx hb dL_areTextsRight_81 hl (k := 1) rfl (g_inc (ct (fun t => decide (0 < nL f t)) (d * 3 + g)) 1) (by decide) rfl (fun ls hl => ?_)
            refine lv_iconst (v := nI 0) hx hb dL_areTextsRight_84 (by decide) ?_
            refine lv_istore (lv' := [(7, .int (nI 0)), (4, .int (nI (ct (fun t => decide (0 < nL f t)) (d * 3 + g) + 1))), (2, .double (FP.i2d (nI (sm (fun t => if 0 < nL f t then csN f t else 0) (d * 3 + g) + csN f (d * 3 + g))))), (6, .int (nI g)), (5, .int (nI d)), (1, .ref q0), (0, .ref (w.2.2.2 0))]) hx hb dL_areTextsRight_85 hl (by decide) rfl (fun ls hl => ?_)
            refine g_for (P := fun p => ∀ (H : Heap) (locs : List Loc) (ls : Array Slot), LV w S_ H locs f [(q0, .inl (w.2.1, 3, .inl (xsA f (d * 3 + g + 1))))] → lv_has ls 9 [(7, .int (nI p)), (4, .int (nI (ct (fun t => decide (0 < nL f t)) (d * 3 + g) + 1))), (2, .double (FP.i2d (nI (sm (fun t => if 0 < nL f t then csN f t else 0) (d * 3 + g) + csN f (d * 3 + g))))), (6, .int (nI g)), (5, .int (nI d)), (1, .ref q0), (0, .ref (w.2.2.2 0))] → W P_ l E_ _ S_ M_ _ B_ T_ C_ H locs 1 3 _ (F0 M_ 87 ls [])) (nL f (d * 3 + g)) ?_ ?_ 0 (Nat.zero_le _) H locs ls hL (lv_sub hl [0, 1, 2, 3, 4, 5, 6] rfl)
            · intro p hp ihp H locs ls hL hl
              refine lv_iload hx hb dL_areTextsRight_87 (lv_at hl 0 rfl) ?_
              refine lv_aload_n hx hb dL_areTextsRight_89 rfl (lv_at hl 6 rfl) ?_
              refine lv_iload hx hb dL_areTextsRight_90 (lv_at hl 4 rfl) ?_
              refine lv_iload hx hb dL_areTextsRight_92 (lv_at hl 3 rfl) ?_
              refine lv_iconst (v := nI 0) hx hb dL_areTextsRight_94 (by decide) ?_
              refine g_callV (v := .int (nI (nL f (d * 3 + g)))) (As := [.int (nI d), .int (nI g), .int (nI 0)]) (rest := [.int (nI p)]) G.1 hL.1 0 (by decide) rfl rfl ok_X2_ofText gm_369 gm_370 gm_465 (c_X2_ofText l w f d g 0 hI (by omega) (by omega) (by omega)) ⟨rfl, rfl⟩ ⟨Nat.le_of_ble_eq_true rfl, Nat.le_of_ble_eq_true rfl⟩ rfl hl.1 rfl (Nat.le_of_ble_eq_true rfl) ⟨Nat.le_of_ble_eq_true rfl, Nat.le_of_ble_eq_true rfl⟩ dL_areTextsRight_95 ?_
              refine lv_icmp_ge (tgt := 169) hx hb dL_areTextsRight_98 (by decide) (fun c98 => ?_) (fun c98 => ?_)
              · skip
                have c98 : (nL f (d * 3 + g)) ≤ p := (g_le (by omega) (by omega)).mp c98
                exact absurd c98 (by omega)
              · skip
                have c98 : ¬ ((nL f (d * 3 + g)) ≤ p) := fun q => c98 ((g_le (by omega) (by omega)).mpr q)
                refine lv_aload_n hx hb dL_areTextsRight_101 rfl (lv_at hl 6 rfl) ?_
                refine lv_iload hx hb dL_areTextsRight_102 (lv_at hl 4 rfl) ?_
                refine lv_iload hx hb dL_areTextsRight_104 (lv_at hl 3 rfl) ?_
                refine lv_iconst (v := nI 1) hx hb dL_areTextsRight_106 (by decide) ?_
                refine g_callV (v := .int (nI x)) (As := [.int (nI d), .int (nI g), .int (nI 1)]) (rest := []) G.1 hL.1 0 (by decide) rfl rfl ok_X2_ofText gm_369 gm_370 gm_465 (by have q9 := (c_X2_ofText l w f d g 1 hI (by omega) (by omega) (by omega)); rw [show gRd (.int (oxF f (d * 3 + g) 1)) = gRd (.int (nI x)) from congrArg (fun z => gRd (.int z)) (show oxF f (d * 3 + g) 1 = nI x from ex)] at q9; exact q9) ⟨rfl, rfl⟩ ⟨Nat.le_of_ble_eq_true rfl, Nat.le_of_ble_eq_true rfl⟩ rfl hl.1 rfl (Nat.le_of_ble_eq_true rfl) ⟨Nat.le_of_ble_eq_true rfl, Nat.le_of_ble_eq_true rfl⟩ dL_areTextsRight_107 ?_
                refine lv_iconst (v := nI 1) hx hb dL_areTextsRight_110 (by decide) ?_
                refine lv_icmp_ne (tgt := 169) hx hb dL_areTextsRight_111 (by decide) (fun c111 => ?_) (fun c111 => ?_)
                · skip
                  have c111 : ¬ (x = 1) := fun q => c111 ((g_eq (by omega) (by omega)).mpr q)
                  refine lv_iinc (v := nI (g + 1)) (lv' := [(6, .int (nI (g + 1))), (7, .int (nI p)), (4, .int (nI (ct (fun t => decide (0 < nL f t)) (d * 3 + g) + 1))), (2, .double (FP.i2d (nI (sm (fun t => if 0 < nL f t then csN f t else 0) (d * 3 + g) + csN f (d * 3 + g))))), (5, .int (nI d)), (1, .ref q0), (0, .ref (w.2.2.2 0))]) hx hb dL_areTextsRight_169 hl (k := 3) rfl (g_inc g 1) (by decide) rfl (fun ls hl => ?_)
                  refine lv_goto (tgt := 21) hx hb dL_areTextsRight_172 (by decide) ?_
                  refine ihg H locs ls (by rw [show xsA f (d * 3 + (g + 1)) = xsA f (d * 3 + g + 1) from by first | exact xsA_n c36 | rfl]; exact hL) ?_
                  rw [(show FP.i2d (nI (sm (fun t => if 0 < nL f t then csN f t else 0) (d * 3 + (g + 1)))) = FP.i2d (nI (sm (fun t => if 0 < nL f t then csN f t else 0) (d * 3 + g) + csN f (d * 3 + g))) from by first | exact sc_n c36 | exact sc_y c36), (show ct (fun t => decide (0 < nL f t)) (d * 3 + (g + 1)) = ct (fun t => decide (0 < nL f t)) (d * 3 + g) + 1 from by first | exact tx_n c36 | exact tx_y c36)]
                  exact lv_sub hl [3, 2, 0, 4, 5, 6] rfl
                · skip
                  have c111 : x = 1 := (g_eq (by omega) (by omega)).mp c111
                  refine lv_aload_n hx hb dL_areTextsRight_114 rfl (lv_at hl 6 rfl) ?_
                  refine lv_iload hx hb dL_areTextsRight_115 (lv_at hl 4 rfl) ?_
                  refine lv_iload hx hb dL_areTextsRight_117 (lv_at hl 3 rfl) ?_
                  refine lv_iload hx hb dL_areTextsRight_119 (lv_at hl 0 rfl) ?_
                  refine g_callV (As := [.int (nI d), .int (nI g), .int (nI p)]) (rest := []) G.1 hL.1 0 (by decide) rfl rfl ok_X2_use gm_373 gm_374 gm_472 (c_X2_use l w f d g p hI (by omega) (by omega) (by omega)) ⟨rfl, rfl⟩ ⟨Nat.le_of_ble_eq_true rfl, Nat.le_of_ble_eq_true rfl⟩ rfl hl.1 rfl (Nat.le_of_ble_eq_true rfl) ⟨Nat.le_of_ble_eq_true rfl, Nat.le_of_ble_eq_true rfl⟩ dL_areTextsRight_121 ?_
                  refine lv_istore (lv' := [(8, .int (f (40 + (d * 3 + g)) p)), (7, .int (nI p)), (4, .int (nI (ct (fun t => decide (0 < nL f t)) (d * 3 + g) + 1))), (2, .double (FP.i2d (nI (sm (fun t => if 0 < nL f t then csN f t else 0) (d * 3 + g) + csN f (d * 3 + g))))), (6, .int (nI g)), (5, .int (nI d)), (1, .ref q0), (0, .ref (w.2.2.2 0))]) hx hb dL_areTextsRight_124 hl (by decide) rfl (fun ls hl => ?_)
                  rcases hU (d * 3 + g) (by omega) p hp with e | ⟨u, hu, e, e3, e5⟩
                  · skip
                    rw [e] at hl
                    refine lv_iload hx hb dL_areTextsRight_126 (lv_at hl 0 rfl) ?_
                    refine lv_if_lt (tgt := 163) hx hb dL_areTextsRight_128 (by decide) (fun c128 => ?_) (fun c128 => ?_)
                    · skip
                      refine lv_iinc (v := nI (p + 1)) (lv' := [(7, .int (nI (p + 1))), (8, .int (-1)), (4, .int (nI (ct (fun t => decide (0 < nL f t)) (d * 3 + g) + 1))), (2, .double (FP.i2d (nI (sm (fun t => if 0 < nL f t then csN f t else 0) (d * 3 + g) + csN f (d * 3 + g))))), (6, .int (nI g)), (5, .int (nI d)), (1, .ref q0), (0, .ref (w.2.2.2 0))]) hx hb dL_areTextsRight_163 hl (k := 1) rfl (g_inc p 1) (by decide) rfl (fun ls hl => ?_)
                      refine lv_goto (tgt := 87) hx hb dL_areTextsRight_166 (by decide) ?_
                      refine ihp H locs ls hL ?_
                      exact lv_sub hl [0, 2, 3, 4, 5, 6, 7] rfl
                    · skip
                      exact absurd (show (-1 : Int32) < 0 by decide) c128
                  · skip
                    rw [e] at hl
                    refine lv_iload hx hb dL_areTextsRight_126 (lv_at hl 0 rfl) ?_
                    refine lv_if_lt (tgt := 163) hx hb dL_areTextsRight_128 (by decide) (fun c128 => ?_) (fun c128 => ?_)
                    · skip
                      have c128 : nI u < nI 0 := c128
                      have c128 : u < 0 := (g_lt (by omega) (by omega)).mp c128
                      omega
                    · skip
                      have c128 : ¬ (nI u < nI 0) := c128
                      have c128 : ¬ (u < 0) := fun q => c128 ((g_lt (by omega) (by omega)).mpr q)
                      refine lv_aload_n hx hb dL_areTextsRight_131 rfl (lv_at hl 7 rfl) ?_
                      refine lv_iload hx hb dL_areTextsRight_132 (lv_at hl 0 rfl) ?_
                      refine lv_iconst (v := nI 3) hx hb dL_areTextsRight_134 (by decide) ?_
                      refine g_callV (v := .int (f 5 u)) (As := [.int (nI u), .int (nI 3)]) (rest := []) G.1 hL.1 0 (by decide) rfl rfl ok_X2_ofTerm gm_357 gm_358 gm_479 (c_X2_ofTerm l w f u 3 hI (by omega) (by omega)) ⟨rfl, rfl⟩ ⟨Nat.le_of_ble_eq_true rfl, Nat.le_of_ble_eq_true rfl⟩ rfl hl.1 rfl (Nat.le_of_ble_eq_true rfl) ⟨Nat.le_of_ble_eq_true rfl, Nat.le_of_ble_eq_true rfl⟩ dL_areTextsRight_135 ?_
                      refine lv_iconst (v := nI 3) hx hb dL_areTextsRight_138 (by decide) ?_
                      refine lv_icmp_ne (tgt := 163) hx hb dL_areTextsRight_139 (by decide) (fun c139 => ?_) (fun c139 => ?_)
                      · skip
                        refine lv_iinc (v := nI (p + 1)) (lv' := [(7, .int (nI (p + 1))), (8, .int (nI u)), (4, .int (nI (ct (fun t => decide (0 < nL f t)) (d * 3 + g) + 1))), (2, .double (FP.i2d (nI (sm (fun t => if 0 < nL f t then csN f t else 0) (d * 3 + g) + csN f (d * 3 + g))))), (6, .int (nI g)), (5, .int (nI d)), (1, .ref q0), (0, .ref (w.2.2.2 0))]) hx hb dL_areTextsRight_163 hl (k := 1) rfl (g_inc p 1) (by decide) rfl (fun ls hl => ?_)
                        refine lv_goto (tgt := 87) hx hb dL_areTextsRight_166 (by decide) ?_
                        refine ihp H locs ls hL ?_
                        exact lv_sub hl [0, 2, 3, 4, 5, 6, 7] rfl
                      · skip
                        obtain ⟨b, hbd, eb⟩ := ban_of hM hu c139
                        refine lv_aload_n hx hb dL_areTextsRight_142 rfl (lv_at hl 7 rfl) ?_
                        refine lv_bipush (v := nI 12) hx hb dL_areTextsRight_143 (by decide) ?_
                        refine g_callV (v := .int (nI dy)) (As := [.int (nI 12)]) (rest := []) G.1 hL.1 0 (by decide) rfl rfl ok_X2_many gm_378 gm_379 gm_477 (by have q9 := (c_X2_many l w f 12 hI (by omega)); rw [show gRd (.int (maF f 12)) = gRd (.int (nI dy)) from congrArg (fun z => gRd (.int z)) (show maF f 12 = nI dy from hdy)] at q9; exact q9) ⟨rfl, rfl⟩ ⟨Nat.le_of_ble_eq_true rfl, Nat.le_of_ble_eq_true rfl⟩ rfl hl.1 rfl (Nat.le_of_ble_eq_true rfl) ⟨Nat.le_of_ble_eq_true rfl, Nat.le_of_ble_eq_true rfl⟩ dL_areTextsRight_145 ?_
                        refine lv_aload_n hx hb dL_areTextsRight_148 rfl (lv_at hl 7 rfl) ?_
                        refine lv_iload hx hb dL_areTextsRight_149 (lv_at hl 0 rfl) ?_
                        refine lv_bipush (v := nI 6) hx hb dL_areTextsRight_151 (by decide) ?_
                        refine g_callV (v := .int (nI b)) (As := [.int (nI u), .int (nI 6)]) (rest := [.int (nI dy)]) G.1 hL.1 0 (by decide) rfl rfl ok_X2_ofTerm gm_357 gm_358 gm_479 (by have q9 := (c_X2_ofTerm l w f u 6 hI (by omega) (by omega)); rw [show gRd (.int (otF f u 6)) = gRd (.int (nI b)) from congrArg (fun z => gRd (.int z)) (show otF f u 6 = nI b from (show (if f 5 u = nI 3 then f 8 u else -1) = nI b by rw [if_pos c139, eb]))] at q9; exact q9) ⟨rfl, rfl⟩ ⟨Nat.le_of_ble_eq_true rfl, Nat.le_of_ble_eq_true rfl⟩ rfl hl.1 rfl (Nat.le_of_ble_eq_true rfl) ⟨Nat.le_of_ble_eq_true rfl, Nat.le_of_ble_eq_true rfl⟩ dL_areTextsRight_153 ?_
                        refine g_isubn hx hb (by omega) dL_areTextsRight_156 ?_
                        refine lv_iconst (v := nI 3) hx hb dL_areTextsRight_157 (by decide) ?_
                        refine lv_icmp_le (tgt := 163) hx hb dL_areTextsRight_158 (by decide) (fun c158 => ?_) (fun c158 => ?_)
                        · skip
                          have c158 : (dy - b) ≤ 3 := (g_le (by omega) (by omega)).mp c158
                          refine lv_iinc (v := nI (p + 1)) (lv' := [(7, .int (nI (p + 1))), (8, .int (nI u)), (4, .int (nI (ct (fun t => decide (0 < nL f t)) (d * 3 + g) + 1))), (2, .double (FP.i2d (nI (sm (fun t => if 0 < nL f t then csN f t else 0) (d * 3 + g) + csN f (d * 3 + g))))), (6, .int (nI g)), (5, .int (nI d)), (1, .ref q0), (0, .ref (w.2.2.2 0))]) hx hb dL_areTextsRight_163 hl (k := 1) rfl (g_inc p 1) (by decide) rfl (fun ls hl => ?_)
                          refine lv_goto (tgt := 87) hx hb dL_areTextsRight_166 (by decide) ?_
                          refine ihp H locs ls hL ?_
                          exact lv_sub hl [0, 2, 3, 4, 5, 6, 7] rfl
                        · skip
                          have c158 : ¬ ((dy - b) ≤ 3) := fun q => c158 ((g_le (by omega) (by omega)).mpr q)
                          exact absurd (hGr (d * 3 + g) (by omega) (ex.trans (congrArg nI c111)) p hp u hu e c139 b eb hbd) (by omega)
            · intro H locs ls hL hl
              refine lv_iload hx hb dL_areTextsRight_87 (lv_at hl 0 rfl) ?_
              refine lv_aload_n hx hb dL_areTextsRight_89 rfl (lv_at hl 6 rfl) ?_
              refine lv_iload hx hb dL_areTextsRight_90 (lv_at hl 4 rfl) ?_
              refine lv_iload hx hb dL_areTextsRight_92 (lv_at hl 3 rfl) ?_
              refine lv_iconst (v := nI 0) hx hb dL_areTextsRight_94 (by decide) ?_
              refine g_callV (v := .int (nI (nL f (d * 3 + g)))) (As := [.int (nI d), .int (nI g), .int (nI 0)]) (rest := [.int (nI (nL f (d * 3 + g)))]) G.1 hL.1 0 (by decide) rfl rfl ok_X2_ofText gm_369 gm_370 gm_465 (c_X2_ofText l w f d g 0 hI (by omega) (by omega) (by omega)) ⟨rfl, rfl⟩ ⟨Nat.le_of_ble_eq_true rfl, Nat.le_of_ble_eq_true rfl⟩ rfl hl.1 rfl (Nat.le_of_ble_eq_true rfl) ⟨Nat.le_of_ble_eq_true rfl, Nat.le_of_ble_eq_true rfl⟩ dL_areTextsRight_95 ?_
              refine lv_icmp_ge (tgt := 169) hx hb dL_areTextsRight_98 (by decide) (fun c98 => ?_) (fun c98 => ?_)
              · skip
                have c98 : (nL f (d * 3 + g)) ≤ (nL f (d * 3 + g)) := (g_le (by omega) (by omega)).mp c98
                refine lv_iinc (v := nI (g + 1)) (lv' := [(6, .int (nI (g + 1))), (7, .int (nI (nL f (d * 3 + g)))), (4, .int (nI (ct (fun t => decide (0 < nL f t)) (d * 3 + g) + 1))), (2, .double (FP.i2d (nI (sm (fun t => if 0 < nL f t then csN f t else 0) (d * 3 + g) + csN f (d * 3 + g))))), (5, .int (nI d)), (1, .ref q0), (0, .ref (w.2.2.2 0))]) hx hb dL_areTextsRight_169 hl (k := 3) rfl (g_inc g 1) (by decide) rfl (fun ls hl => ?_)
                refine lv_goto (tgt := 21) hx hb dL_areTextsRight_172 (by decide) ?_
                refine ihg H locs ls (by rw [show xsA f (d * 3 + (g + 1)) = xsA f (d * 3 + g + 1) from by first | exact xsA_n c36 | rfl]; exact hL) ?_
                rw [(show FP.i2d (nI (sm (fun t => if 0 < nL f t then csN f t else 0) (d * 3 + (g + 1)))) = FP.i2d (nI (sm (fun t => if 0 < nL f t then csN f t else 0) (d * 3 + g) + csN f (d * 3 + g))) from by first | exact sc_n c36 | exact sc_y c36), (show ct (fun t => decide (0 < nL f t)) (d * 3 + (g + 1)) = ct (fun t => decide (0 < nL f t)) (d * 3 + g) + 1 from by first | exact tx_n c36 | exact tx_y c36)]
                exact lv_sub hl [3, 2, 0, 4, 5, 6] rfl
              · skip
                have c98 : ¬ ((nL f (d * 3 + g)) ≤ (nL f (d * 3 + g))) := fun q => c98 ((g_le (by omega) (by omega)).mpr q)
                exact absurd c98 (by omega)
          · skip
            have c36 : nI (nL f (d * 3 + g)) = nI 0 := c36
            have c36 : (nL f (d * 3 + g)) = 0 := (g_eq (by omega) (by omega)).mp c36
            refine lv_aload_n hx hb dL_areTextsRight_39 rfl (lv_at hl 5 rfl) ?_
            refine lv_iload hx hb dL_areTextsRight_40 (lv_at hl 3 rfl) ?_
            refine lv_iload hx hb dL_areTextsRight_42 (lv_at hl 2 rfl) ?_
            refine lv_iconst (v := nI 1) hx hb dL_areTextsRight_44 (by decide) ?_
            refine g_callV (v := .int (f 12 (d * 3 + g))) (As := [.int (nI d), .int (nI g), .int (nI 1)]) (rest := []) G.1 hL.1 0 (by decide) rfl rfl ok_X2_ofText gm_369 gm_370 gm_465 (c_X2_ofText l w f d g 1 hI (by omega) (by omega) (by omega)) ⟨rfl, rfl⟩ ⟨Nat.le_of_ble_eq_true rfl, Nat.le_of_ble_eq_true rfl⟩ rfl hl.1 rfl (Nat.le_of_ble_eq_true rfl) ⟨Nat.le_of_ble_eq_true rfl, Nat.le_of_ble_eq_true rfl⟩ dL_areTextsRight_45 ?_
            refine lv_if_eq (tgt := 169) hx hb dL_areTextsRight_48 (by decide) (fun c48 => ?_) (fun c48 => ?_)
            · skip
              refine lv_iinc (v := nI (g + 1)) (lv' := [(6, .int (nI (g + 1))), (2, .double (FP.i2d (nI (sm (fun t => if 0 < nL f t then csN f t else 0) (d * 3 + g))))), (4, .int (nI (ct (fun t => decide (0 < nL f t)) (d * 3 + g)))), (5, .int (nI d)), (1, .ref q0), (0, .ref (w.2.2.2 0))]) hx hb dL_areTextsRight_169 hl (k := 2) rfl (g_inc g 1) (by decide) rfl (fun ls hl => ?_)
              refine lv_goto (tgt := 21) hx hb dL_areTextsRight_172 (by decide) ?_
              refine ihg H locs ls (by rw [show xsA f (d * 3 + (g + 1)) = xsA f (d * 3 + g) from by first | exact xsA_n c36 | rfl]; exact hL) ?_
              rw [(show FP.i2d (nI (sm (fun t => if 0 < nL f t then csN f t else 0) (d * 3 + (g + 1)))) = FP.i2d (nI (sm (fun t => if 0 < nL f t then csN f t else 0) (d * 3 + g))) from by first | exact sc_n c36 | exact sc_y c36), (show ct (fun t => decide (0 < nL f t)) (d * 3 + (g + 1)) = ct (fun t => decide (0 < nL f t)) (d * 3 + g) from by first | exact tx_n c36 | exact tx_y c36)]
              exact lv_sub hl [1, 2, 0, 3, 4, 5] rfl
            · skip
              exact absurd (hE (d * 3 + g) (by omega) c36) c48
      · intro H locs ls hL hl
        refine lv_iload hx hb dL_areTextsRight_21 (lv_at hl 2 rfl) ?_
        refine lv_iconst (v := nI 3) hx hb dL_areTextsRight_23 (by decide) ?_
        refine lv_icmp_ge (tgt := 175) hx hb dL_areTextsRight_24 (by decide) (fun c24 => ?_) (fun c24 => ?_)
        · skip
          have c24 : 3 ≤ 3 := (g_le (by omega) (by omega)).mp c24
          refine lv_iinc (v := nI (d + 1)) (lv' := [(5, .int (nI (d + 1))), (2, .double (FP.i2d (nI (sm (fun t => if 0 < nL f t then csN f t else 0) (d * 3 + 3))))), (4, .int (nI (ct (fun t => decide (0 < nL f t)) (d * 3 + 3)))), (6, .int (nI 3)), (1, .ref q0), (0, .ref (w.2.2.2 0))]) hx hb dL_areTextsRight_175 hl (k := 3) rfl (g_inc d 1) (by decide) rfl (fun ls hl => ?_)
          refine lv_goto (tgt := 12) hx hb dL_areTextsRight_178 (by decide) ?_
          refine ihd H locs ls (by rw [show xsA f ((d + 1) * 3) = xsA f (d * 3 + 3) from by rw [show (d + 1) * 3 = d * 3 + 3 from by omega]]; exact hL) ?_
          rw [(show FP.i2d (nI (sm (fun t => if 0 < nL f t then csN f t else 0) ((d + 1) * 3))) = FP.i2d (nI (sm (fun t => if 0 < nL f t then csN f t else 0) (d * 3 + 3))) from by rw [show (d + 1) * 3 = d * 3 + 3 from by omega]), (show ct (fun t => decide (0 < nL f t)) ((d + 1) * 3) = ct (fun t => decide (0 < nL f t)) (d * 3 + 3) from by rw [show (d + 1) * 3 = d * 3 + 3 from by omega])]
          exact lv_sub hl [1, 2, 0, 4, 5] rfl
        · skip
          have c24 : ¬ (3 ≤ 3) := fun q => c24 ((g_le (by omega) (by omega)).mpr q)
          exact absurd c24 (by omega)
  · intro H locs ls hL hl
    refine lv_iload hx hb dL_areTextsRight_12 (lv_at hl 2 rfl) ?_
    refine lv_iconst (v := nI 2) hx hb dL_areTextsRight_14 (by decide) ?_
    refine lv_icmp_ge (tgt := 181) hx hb dL_areTextsRight_15 (by decide) (fun c15 => ?_) (fun c15 => ?_)
    · skip
      have c15 : 2 ≤ 2 := (g_le (by omega) (by omega)).mp c15
      refine lv_iconst (v := nI 0) hx hb dL_areTextsRight_181 (by decide) ?_
      refine lv_istore (lv' := [(5, .int (nI 0)), (2, .double (FP.i2d (nI (sm (fun t => if 0 < nL f t then csN f t else 0) (2 * 3))))), (4, .int (nI (ct (fun t => decide (0 < nL f t)) (2 * 3)))), (1, .ref q0), (0, .ref (w.2.2.2 0))]) hx hb dL_areTextsRight_182 hl (by decide) rfl (fun ls hl => ?_)
      refine g_for (P := fun y => ∀ (H : Heap) (locs : List Loc) (ls : Array Slot), LV w S_ H locs f [(q0, .inl (w.2.1, 3, .inl (xsA f (2 * 3))))] → lv_has ls 9 [(5, .int (nI y)), (2, .double (FP.i2d (nI (sm (fun t => if 0 < nL f t then csN f t else 0) (2 * 3))))), (4, .int (nI (ct (fun t => decide (0 < nL f t)) (2 * 3)))), (1, .ref q0), (0, .ref (w.2.2.2 0))] → W P_ l E_ _ S_ M_ _ B_ T_ C_ H locs 1 3 _ (F0 M_ 184 ls [])) (3) ?_ ?_ 0 (Nat.zero_le _) H locs ls hL (lv_sub hl [0, 1, 2, 3, 4] rfl)
      · intro y hy ihy H locs ls hL hl
        refine lv_iload hx hb dL_areTextsRight_184 (lv_at hl 0 rfl) ?_
        refine lv_iconst (v := nI 3) hx hb dL_areTextsRight_186 (by decide) ?_
        refine lv_icmp_ge (tgt := 214) hx hb dL_areTextsRight_187 (by decide) (fun c187 => ?_) (fun c187 => ?_)
        · skip
          have c187 : 3 ≤ y := (g_le (by omega) (by omega)).mp c187
          exact absurd c187 (by omega)
        · skip
          have c187 : ¬ (3 ≤ y) := fun q => c187 ((g_le (by omega) (by omega)).mpr q)
          refine lv_aload_n hx hb dL_areTextsRight_190 rfl (lv_at hl 4 rfl) ?_
          refine lv_bipush (v := nI 8) hx hb dL_areTextsRight_191 (by decide) ?_
          refine lv_iload hx hb dL_areTextsRight_193 (lv_at hl 0 rfl) ?_
          refine g_iaddn hx hb dL_areTextsRight_195 ?_
          refine g_callV (v := .int (nI (tsN f (nI y)))) (As := [.int (nI (8 + y))]) (rest := []) G.1 hL.1 0 (by decide) rfl rfl ok_X2_many gm_378 gm_379 gm_477 (by have q9 := (c_X2_many l w f (8 + y) hI (by omega)); rw [show gRd (.int (maF f (8 + y))) = gRd (.int (nI (tsN f (nI y)))) from congrArg (fun z => gRd (.int z)) (show maF f (8 + y) = nI (tsN f (nI y)) from by have hxc : y = 0 ∨ y = 1 ∨ y = 2 := (by omega); rcases hxc with rfl | rfl | rfl <;> rfl)] at q9; exact q9) ⟨rfl, rfl⟩ ⟨Nat.le_of_ble_eq_true rfl, Nat.le_of_ble_eq_true rfl⟩ rfl hl.1 rfl (Nat.le_of_ble_eq_true rfl) ⟨Nat.le_of_ble_eq_true rfl, Nat.le_of_ble_eq_true rfl⟩ dL_areTextsRight_196 ?_
          refine lv_aload_n hx hb dL_areTextsRight_199 rfl (lv_at hl 3 rfl) ?_
          refine lv_iload hx hb dL_areTextsRight_200 (lv_at hl 0 rfl) ?_
          refine l_iald hx hb hL 0 (u := xsA f (2 * 3)) rfl (i := y) (by omega) (by decide) dL_areTextsRight_202 ?_
          rw [show (xsA f (2 * 3)) y = nI (ct (fun k => decide (0 < nL f k ∧ f 12 k = nI y)) (2 * 3)) from xsA_at hy]
          refine lv_icmp_eq (tgt := 208) hx hb dL_areTextsRight_203 (by decide) (fun c203 => ?_) (fun c203 => ?_)
          · skip
            refine lv_iinc (v := nI (y + 1)) (lv' := [(5, .int (nI (y + 1))), (2, .double (FP.i2d (nI (sm (fun t => if 0 < nL f t then csN f t else 0) (2 * 3))))), (4, .int (nI (ct (fun t => decide (0 < nL f t)) (2 * 3)))), (1, .ref q0), (0, .ref (w.2.2.2 0))]) hx hb dL_areTextsRight_208 hl (k := 0) rfl (g_inc y 1) (by decide) rfl (fun ls hl => ?_)
            refine lv_goto (tgt := 184) hx hb dL_areTextsRight_211 (by decide) ?_
            refine ihy H locs ls hL ?_
            exact lv_sub hl [0, 1, 2, 3, 4] rfl
          · skip
            exact absurd (by unfold tsN; rw [hD2]) c203
      · intro H locs ls hL hl
        refine lv_iload hx hb dL_areTextsRight_184 (lv_at hl 0 rfl) ?_
        refine lv_iconst (v := nI 3) hx hb dL_areTextsRight_186 (by decide) ?_
        refine lv_icmp_ge (tgt := 214) hx hb dL_areTextsRight_187 (by decide) (fun c187 => ?_) (fun c187 => ?_)
        · skip
          have c187 : 3 ≤ 3 := (g_le (by omega) (by omega)).mp c187
          refine lv_aload_n hx hb dL_areTextsRight_214 rfl (lv_at hl 4 rfl) ?_
          refine g_callV (As := []) (rest := []) G.1 hL.1 0 (by decide) rfl rfl ok_X2_meanConsistency gm_440 gm_441 gm_498 (c_X2_meanConsistency l w f  hI ((sc_all hI hU hD2)) ((tw_all hD2))) ⟨rfl, rfl⟩ ⟨Nat.le_of_ble_eq_true rfl, Nat.le_of_ble_eq_true rfl⟩ rfl hl.1 rfl (Nat.le_of_ble_eq_true rfl) ⟨Nat.le_of_ble_eq_true rfl, Nat.le_of_ble_eq_true rfl⟩ dL_areTextsRight_215 ?_
          refine lv_iload hx hb dL_areTextsRight_218 (lv_at hl 2 rfl) ?_
          refine lv_if_ne (tgt := 227) hx hb dL_areTextsRight_220 (by decide) (fun c220 => ?_) (fun c220 => ?_)
          · skip
            have c220 : ¬ (nI (ct (fun t => decide (0 < nL f t)) (2 * 3)) = nI 0) := c220
            have c220 : ¬ ((ct (fun t => decide (0 < nL f t)) (2 * 3)) = 0) := fun q => c220 ((g_eq (Nat.lt_of_le_of_lt (ct_le _ _) (by omega)) (by omega)).mpr q)
            refine lv_dload_n hx hb dL_areTextsRight_227 rfl (lv_at hl 1 rfl) ?_
            refine lv_iload hx hb dL_areTextsRight_228 (lv_at hl 2 rfl) ?_
            refine lv_i2d hx hb dL_areTextsRight_230 ?_
            refine lv_ddiv hx hb dL_areTextsRight_231 ((fp_q (sc_le hI hU (show 2 * 3 ≤ 6 from Nat.le_refl _)) (Nat.pos_of_ne_zero c220) (ct_le _ _)).1) ?_
            have z232 : FP.dsub (mcF f) (FP.ddiv (FP.i2d (nI (sm (fun t => if 0 < nL f t then csN f t else 0) (2 * 3)))) (FP.i2d (nI (ct (fun t => decide (0 < nL f t)) (2 * 3))))) = 0 := mz1 hI hU hD2 c220
            refine lv_dsub hx hb dL_areTextsRight_232 (by rw [z232]; exact nn0) ?_
            rw [z232]
            refine l_absd hx hb (by rw [hml]; exact hl.1.symm) hown (hts _ gm_499) (hts _ gm_500) (hts _ gm_501) (hts _ gm_502) (nn0) (by decide) (Nat.le_of_ble_eq_true rfl) (Nat.le_of_ble_eq_true rfl) (Nat.le_of_ble_eq_true rfl) dL_areTextsRight_233 ?_
            refine lv_ldc2d (v := 4517329193108106637) hx hb hown (hts _ gm_497) dL_areTextsRight_236 ?_
            refine lv_dcmp hx hb dL_areTextsRight_239 ?_
            refine lv_if_ge (tgt := 247) hx hb dL_areTextsRight_240 (by decide) (fun c240 => ?_) (fun c240 => ?_)
            · skip
              exact absurd c240 (by decide +kernel)
            · skip
              refine lv_iconst (v := nI 1) hx hb dL_areTextsRight_243 (by decide) ?_
              refine lv_goto (tgt := 248) hx hb dL_areTextsRight_244 (by decide) ?_
              exact n_zret G hL (rfl) (Or.inr rfl) dL_areTextsRight_248
          · skip
            have c220 : nI (ct (fun t => decide (0 < nL f t)) (2 * 3)) = nI 0 := c220
            have c220 : (ct (fun t => decide (0 < nL f t)) (2 * 3)) = 0 := (g_eq (Nat.lt_of_le_of_lt (ct_le _ _) (by omega)) (by omega)).mp c220
            refine lv_dconst0 hx hb dL_areTextsRight_223 ?_
            refine lv_goto (tgt := 232) hx hb dL_areTextsRight_224 (by decide) ?_
            have z232 : FP.dsub (mcF f) FP.dconst0 = 0 := mz0 hD2 c220
            refine lv_dsub hx hb dL_areTextsRight_232 (by rw [z232]; exact nn0) ?_
            rw [z232]
            refine l_absd hx hb (by rw [hml]; exact hl.1.symm) hown (hts _ gm_499) (hts _ gm_500) (hts _ gm_501) (hts _ gm_502) (nn0) (by decide) (Nat.le_of_ble_eq_true rfl) (Nat.le_of_ble_eq_true rfl) (Nat.le_of_ble_eq_true rfl) dL_areTextsRight_233 ?_
            refine lv_ldc2d (v := 4517329193108106637) hx hb hown (hts _ gm_497) dL_areTextsRight_236 ?_
            refine lv_dcmp hx hb dL_areTextsRight_239 ?_
            refine lv_if_ge (tgt := 247) hx hb dL_areTextsRight_240 (by decide) (fun c240 => ?_) (fun c240 => ?_)
            · skip
              exact absurd c240 (by decide +kernel)
            · skip
              refine lv_iconst (v := nI 1) hx hb dL_areTextsRight_243 (by decide) ?_
              refine lv_goto (tgt := 248) hx hb dL_areTextsRight_244 (by decide) ?_
              exact n_zret G hL (rfl) (Or.inr rfl) dL_areTextsRight_248
        · skip
          have c187 : ¬ (3 ≤ 3) := fun q => c187 ((g_le (by omega) (by omega)).mpr q)
          exact absurd c187 (by omega)
    · skip
      have c15 : ¬ (2 ≤ 2) := fun q => c15 ((g_le (by omega) (by omega)).mpr q)
      exact absurd c15 (by omega)
