/-! The house that the law begins with, call by call. -/
set_option maxRecDepth 100000 in
set_option maxHeartbeats 4000000 in
theorem law_house {p : Program} {e : Env} {S_ : State} {M_ : MethodId} {below : List Frame} {meth : Method} {c : Code} {l : Launch} {q : Nat} (G : CallFix p M_ c cL_law 7 S_ #[Value.ref q] gw RL ∧ True) {w : GP} {Q : State → Prop} {H : Heap} {locs : List Loc} {ls : Array Slot} (hG : GS w (nA S_) S_ H locs f0) (hl : lv_has ls 7 [(0, .ref q)]) (kk : ∀ (H1 : Heap) (locs1 : List Loc) (ls1 : Array Slot), GS w (nA S_) S_ H1 locs1 fB → lv_has ls1 7 [(0, .ref q), (1, .ref (w.2.2.2 0)), (2, .int (nI 0))] → W p l e room_1 S_ M_ #[Value.ref q] below meth c H1 locs1 56 792 Q (F0 M_ 84 ls1 [])) : W p l e room_1 S_ M_ #[Value.ref q] below meth c H locs 56 792 Q (F0 M_ 7 ls [.ref (w.2.2.2 0)]) := by
  obtain ⟨hx, hb, hml, hown, hts⟩ := id G.1
  refine lv_astore_n (lv' := [(1, .ref (w.2.2.2 0)), (0, .ref q)]) hx hb dL_law_7 rfl hl (by decide) rfl (fun ls hl => ?_)
  refine lv_iconst (v := nI 0) hx hb dL_law_8 (by decide) ?_
  refine lv_istore_n (lv' := [(2, .int (nI 0)), (1, .ref (w.2.2.2 0)), (0, .ref q)]) hx hb dL_law_9 rfl hl (by decide) rfl (fun ls hl => ?_)
  refine lv_iload_n hx hb dL_law_10 rfl (lv_at hl 0 rfl) ?_
  refine lv_iconst (v := nI 3) hx hb dL_law_11 (by decide) ?_
  refine lv_icmp_ge (tgt := 29) hx hb dL_law_12 (by decide) (fun c12 => ?_) (fun c12 => ?_)
  · skip
    have c12 : 3 ≤ 0 := (g_le (by omega) (by omega)).mp c12
    omega
  · skip
    have c12 : ¬ (3 ≤ 0) := fun q => c12 ((g_le (by omega) (by omega)).mpr q)
    refine lv_aload_n hx hb dL_law_15 rfl (lv_at hl 1 rfl) ?_
    refine lv_iload_n hx hb dL_law_16 rfl (lv_at hl 0 rfl) ?_
    refine lv_iconst (v := nI 2) hx hb dL_law_17 (by decide) ?_
    refine g_iremn hx hb (by omega) (by omega) (by omega) dL_law_18 ?_
    refine W.eq (g2 := F0 M_ _ ls [.int (nI 0), .ref (w.2.2.2 0)]) rfl ?_
    refine g_callW (As := [.int (nI 0)]) (rest := []) G.1 hG 0 (by decide) rfl rfl ok_X2_concept gm_446 gm_447 gm_505 (c_X2_concept l w f0 0 (by unfold gI; decide +kernel) (by omega) (by decide +kernel)) ⟨rfl, rfl⟩ ⟨Nat.le_of_ble_eq_true rfl, Nat.le_of_ble_eq_true rfl⟩ rfl hl.1 rfl (Nat.le_of_ble_eq_true rfl) ⟨Nat.le_of_ble_eq_true rfl, Nat.le_of_ble_eq_true rfl⟩ dL_law_19 (fun v f19 H locs hp hG => ?_)
    obtain ⟨rfl, rfl⟩ := hp
    have hG : GS w (nA S_) S_ H locs fC1 := hG
    refine lv_pop hx hb dL_law_22 rfl ?_
    refine lv_iinc (v := nI 1) (lv' := [(2, .int (nI 1)), (1, .ref (w.2.2.2 0)), (0, .ref q)]) hx hb dL_law_23 hl (k := 0) rfl (g_inc 0 1) (by decide) rfl (fun ls hl => ?_)
    refine lv_goto (tgt := 10) hx hb dL_law_26 (by decide) ?_
    refine lv_iload_n hx hb dL_law_10 rfl (lv_at hl 0 rfl) ?_
    refine lv_iconst (v := nI 3) hx hb dL_law_11 (by decide) ?_
    refine lv_icmp_ge (tgt := 29) hx hb dL_law_12 (by decide) (fun c12 => ?_) (fun c12 => ?_)
    · skip
      have c12 : 3 ≤ 1 := (g_le (by omega) (by omega)).mp c12
      omega
    · skip
      have c12 : ¬ (3 ≤ 1) := fun q => c12 ((g_le (by omega) (by omega)).mpr q)
      refine lv_aload_n hx hb dL_law_15 rfl (lv_at hl 1 rfl) ?_
      refine lv_iload_n hx hb dL_law_16 rfl (lv_at hl 0 rfl) ?_
      refine lv_iconst (v := nI 2) hx hb dL_law_17 (by decide) ?_
      refine g_iremn hx hb (by omega) (by omega) (by omega) dL_law_18 ?_
      refine W.eq (g2 := F0 M_ _ ls [.int (nI 1), .ref (w.2.2.2 0)]) rfl ?_
      refine g_callW (As := [.int (nI 1)]) (rest := []) G.1 hG 0 (by decide) rfl rfl ok_X2_concept gm_446 gm_447 gm_505 (c_X2_concept l w fC1 1 (by unfold gI; decide +kernel) (by omega) (by decide +kernel)) ⟨rfl, rfl⟩ ⟨Nat.le_of_ble_eq_true rfl, Nat.le_of_ble_eq_true rfl⟩ rfl hl.1 rfl (Nat.le_of_ble_eq_true rfl) ⟨Nat.le_of_ble_eq_true rfl, Nat.le_of_ble_eq_true rfl⟩ dL_law_19 (fun v f19 H locs hp hG => ?_)
      obtain ⟨rfl, rfl⟩ := hp
      have hG : GS w (nA S_) S_ H locs fC2 := hG
      refine lv_pop hx hb dL_law_22 rfl ?_
      refine lv_iinc (v := nI 2) (lv' := [(2, .int (nI 2)), (1, .ref (w.2.2.2 0)), (0, .ref q)]) hx hb dL_law_23 hl (k := 0) rfl (g_inc 1 1) (by decide) rfl (fun ls hl => ?_)
      refine lv_goto (tgt := 10) hx hb dL_law_26 (by decide) ?_
      refine lv_iload_n hx hb dL_law_10 rfl (lv_at hl 0 rfl) ?_
      refine lv_iconst (v := nI 3) hx hb dL_law_11 (by decide) ?_
      refine lv_icmp_ge (tgt := 29) hx hb dL_law_12 (by decide) (fun c12 => ?_) (fun c12 => ?_)
      · skip
        have c12 : 3 ≤ 2 := (g_le (by omega) (by omega)).mp c12
        omega
      · skip
        have c12 : ¬ (3 ≤ 2) := fun q => c12 ((g_le (by omega) (by omega)).mpr q)
        refine lv_aload_n hx hb dL_law_15 rfl (lv_at hl 1 rfl) ?_
        refine lv_iload_n hx hb dL_law_16 rfl (lv_at hl 0 rfl) ?_
        refine lv_iconst (v := nI 2) hx hb dL_law_17 (by decide) ?_
        refine g_iremn hx hb (by omega) (by omega) (by omega) dL_law_18 ?_
        refine W.eq (g2 := F0 M_ _ ls [.int (nI 0), .ref (w.2.2.2 0)]) rfl ?_
        refine g_callW (As := [.int (nI 0)]) (rest := []) G.1 hG 0 (by decide) rfl rfl ok_X2_concept gm_446 gm_447 gm_505 (c_X2_concept l w fC2 0 (by unfold gI; decide +kernel) (by omega) (by decide +kernel)) ⟨rfl, rfl⟩ ⟨Nat.le_of_ble_eq_true rfl, Nat.le_of_ble_eq_true rfl⟩ rfl hl.1 rfl (Nat.le_of_ble_eq_true rfl) ⟨Nat.le_of_ble_eq_true rfl, Nat.le_of_ble_eq_true rfl⟩ dL_law_19 (fun v f19 H locs hp hG => ?_)
        obtain ⟨rfl, rfl⟩ := hp
        have hG : GS w (nA S_) S_ H locs fA := hG
        refine lv_pop hx hb dL_law_22 rfl ?_
        refine lv_iinc (v := nI 3) (lv' := [(2, .int (nI 3)), (1, .ref (w.2.2.2 0)), (0, .ref q)]) hx hb dL_law_23 hl (k := 0) rfl (g_inc 2 1) (by decide) rfl (fun ls hl => ?_)
        refine lv_goto (tgt := 10) hx hb dL_law_26 (by decide) ?_
        refine lv_iload_n hx hb dL_law_10 rfl (lv_at hl 0 rfl) ?_
        refine lv_iconst (v := nI 3) hx hb dL_law_11 (by decide) ?_
        refine lv_icmp_ge (tgt := 29) hx hb dL_law_12 (by decide) (fun c12 => ?_) (fun c12 => ?_)
        · skip
          have c12 : 3 ≤ 3 := (g_le (by omega) (by omega)).mp c12
          refine lv_iconst (v := nI 0) hx hb dL_law_29 (by decide) ?_
          refine lv_istore_n (lv' := [(2, .int (nI 0)), (1, .ref (w.2.2.2 0)), (0, .ref q)]) hx hb dL_law_30 rfl hl (by decide) rfl (fun ls hl => ?_)
          refine lv_iload_n hx hb dL_law_31 rfl (lv_at hl 0 rfl) ?_
          refine lv_iconst (v := nI 2) hx hb dL_law_32 (by decide) ?_
          refine lv_icmp_ge (tgt := 47) hx hb dL_law_33 (by decide) (fun c33 => ?_) (fun c33 => ?_)
          · skip
            have c33 : 2 ≤ 0 := (g_le (by omega) (by omega)).mp c33
            omega
          · skip
            have c33 : ¬ (2 ≤ 0) := fun q => c33 ((g_le (by omega) (by omega)).mpr q)
            refine lv_aload_n hx hb dL_law_36 rfl (lv_at hl 1 rfl) ?_
            refine g_callW (As := []) (rest := []) G.1 hG 0 (by decide) rfl rfl ok_X2_document gm_449 gm_450 gm_506 (c_X2_document l w fA  (by unfold gI; decide +kernel) (by decide +kernel)) ⟨rfl, rfl⟩ ⟨Nat.le_of_ble_eq_true rfl, Nat.le_of_ble_eq_true rfl⟩ rfl hl.1 rfl (Nat.le_of_ble_eq_true rfl) ⟨Nat.le_of_ble_eq_true rfl, Nat.le_of_ble_eq_true rfl⟩ dL_law_37 (fun v f37 H locs hp hG => ?_)
            obtain ⟨rfl, rfl⟩ := hp
            have hG : GS w (nA S_) S_ H locs fD1 := hG
            refine lv_pop hx hb dL_law_40 rfl ?_
            refine lv_iinc (v := nI 1) (lv' := [(2, .int (nI 1)), (1, .ref (w.2.2.2 0)), (0, .ref q)]) hx hb dL_law_41 hl (k := 0) rfl (g_inc 0 1) (by decide) rfl (fun ls hl => ?_)
            refine lv_goto (tgt := 31) hx hb dL_law_44 (by decide) ?_
            refine lv_iload_n hx hb dL_law_31 rfl (lv_at hl 0 rfl) ?_
            refine lv_iconst (v := nI 2) hx hb dL_law_32 (by decide) ?_
            refine lv_icmp_ge (tgt := 47) hx hb dL_law_33 (by decide) (fun c33 => ?_) (fun c33 => ?_)
            · skip
              have c33 : 2 ≤ 1 := (g_le (by omega) (by omega)).mp c33
              omega
            · skip
              have c33 : ¬ (2 ≤ 1) := fun q => c33 ((g_le (by omega) (by omega)).mpr q)
              refine lv_aload_n hx hb dL_law_36 rfl (lv_at hl 1 rfl) ?_
              refine g_callW (As := []) (rest := []) G.1 hG 0 (by decide) rfl rfl ok_X2_document gm_449 gm_450 gm_506 (c_X2_document l w fD1  (by unfold gI; decide +kernel) (by decide +kernel)) ⟨rfl, rfl⟩ ⟨Nat.le_of_ble_eq_true rfl, Nat.le_of_ble_eq_true rfl⟩ rfl hl.1 rfl (Nat.le_of_ble_eq_true rfl) ⟨Nat.le_of_ble_eq_true rfl, Nat.le_of_ble_eq_true rfl⟩ dL_law_37 (fun v f37 H locs hp hG => ?_)
              obtain ⟨rfl, rfl⟩ := hp
              have hG : GS w (nA S_) S_ H locs fD2 := hG
              refine lv_pop hx hb dL_law_40 rfl ?_
              refine lv_iinc (v := nI 2) (lv' := [(2, .int (nI 2)), (1, .ref (w.2.2.2 0)), (0, .ref q)]) hx hb dL_law_41 hl (k := 0) rfl (g_inc 1 1) (by decide) rfl (fun ls hl => ?_)
              refine lv_goto (tgt := 31) hx hb dL_law_44 (by decide) ?_
              refine lv_iload_n hx hb dL_law_31 rfl (lv_at hl 0 rfl) ?_
              refine lv_iconst (v := nI 2) hx hb dL_law_32 (by decide) ?_
              refine lv_icmp_ge (tgt := 47) hx hb dL_law_33 (by decide) (fun c33 => ?_) (fun c33 => ?_)
              · skip
                have c33 : 2 ≤ 2 := (g_le (by omega) (by omega)).mp c33
                refine lv_iconst (v := nI 0) hx hb dL_law_47 (by decide) ?_
                refine lv_istore_n (lv' := [(2, .int (nI 0)), (1, .ref (w.2.2.2 0)), (0, .ref q)]) hx hb dL_law_48 rfl hl (by decide) rfl (fun ls hl => ?_)
                refine lv_iload_n hx hb dL_law_49 rfl (lv_at hl 0 rfl) ?_
                refine lv_bipush (v := nI 6) hx hb dL_law_50 (by decide) ?_
                refine lv_icmp_ge (tgt := 82) hx hb dL_law_52 (by decide) (fun c52 => ?_) (fun c52 => ?_)
                · skip
                  have c52 : 6 ≤ 0 := (g_le (by omega) (by omega)).mp c52
                  omega
                · skip
                  have c52 : ¬ (6 ≤ 0) := fun q => c52 ((g_le (by omega) (by omega)).mpr q)
                  refine lv_aload_n hx hb dL_law_55 rfl (lv_at hl 1 rfl) ?_
                  refine lv_iload_n hx hb dL_law_56 rfl (lv_at hl 0 rfl) ?_
                  refine lv_iconst (v := nI 3) hx hb dL_law_57 (by decide) ?_
                  refine g_iremn hx hb (by omega) (by omega) (by omega) dL_law_58 ?_
                  refine W.eq (g2 := F0 M_ _ ls [.int (nI 0), .ref (w.2.2.2 0)]) rfl ?_
                  refine lv_iload_n hx hb dL_law_59 rfl (lv_at hl 0 rfl) ?_
                  refine lv_iconst (v := nI 3) hx hb dL_law_60 (by decide) ?_
                  refine g_idivn hx hb (by omega) (by omega) (by omega) dL_law_61 ?_
                  refine W.eq (g2 := F0 M_ _ ls [.int (nI 0), .int (nI 0), .ref (w.2.2.2 0)]) rfl ?_
                  refine lv_iload_n hx hb dL_law_62 rfl (lv_at hl 0 rfl) ?_
                  refine lv_iconst (v := nI 5) hx hb dL_law_63 (by decide) ?_
                  refine lv_icmp_ge (tgt := 71) hx hb dL_law_64 (by decide) (fun c64 => ?_) (fun c64 => ?_)
                  · skip
                    have c64 : 5 ≤ 0 := (g_le (by omega) (by omega)).mp c64
                    omega
                  · skip
                    have c64 : ¬ (5 ≤ 0) := fun q => c64 ((g_le (by omega) (by omega)).mpr q)
                    refine lv_iconst (v := nI 2) hx hb dL_law_67 (by decide) ?_
                    refine lv_goto (tgt := 72) hx hb dL_law_68 (by decide) ?_
                    refine g_callW (As := [.int (nI 0), .int (nI 0), .int (nI 2)]) (rest := []) G.1 hG 0 (by decide) rfl rfl ok_X2_term gm_407 gm_408 gm_478 (c_X2_term l w fD2 0 0 2 (by unfold gI; decide +kernel) (by decide +kernel) (by omega) (by omega) (by decide +kernel) (by decide +kernel)) ⟨rfl, rfl⟩ ⟨Nat.le_of_ble_eq_true rfl, Nat.le_of_ble_eq_true rfl⟩ rfl hl.1 rfl (Nat.le_of_ble_eq_true rfl) ⟨Nat.le_of_ble_eq_true rfl, Nat.le_of_ble_eq_true rfl⟩ dL_law_72 (fun v f72 H locs hp hG => ?_)
                    obtain ⟨rfl, rfl⟩ := hp
                    have hG : GS w (nA S_) S_ H locs fT1 := hG
                    refine lv_pop hx hb dL_law_75 rfl ?_
                    refine lv_iinc (v := nI 1) (lv' := [(2, .int (nI 1)), (1, .ref (w.2.2.2 0)), (0, .ref q)]) hx hb dL_law_76 hl (k := 0) rfl (g_inc 0 1) (by decide) rfl (fun ls hl => ?_)
                    refine lv_goto (tgt := 49) hx hb dL_law_79 (by decide) ?_
                    refine lv_iload_n hx hb dL_law_49 rfl (lv_at hl 0 rfl) ?_
                    refine lv_bipush (v := nI 6) hx hb dL_law_50 (by decide) ?_
                    refine lv_icmp_ge (tgt := 82) hx hb dL_law_52 (by decide) (fun c52 => ?_) (fun c52 => ?_)
                    · skip
                      have c52 : 6 ≤ 1 := (g_le (by omega) (by omega)).mp c52
                      omega
                    · skip
                      have c52 : ¬ (6 ≤ 1) := fun q => c52 ((g_le (by omega) (by omega)).mpr q)
                      refine lv_aload_n hx hb dL_law_55 rfl (lv_at hl 1 rfl) ?_
                      refine lv_iload_n hx hb dL_law_56 rfl (lv_at hl 0 rfl) ?_
                      refine lv_iconst (v := nI 3) hx hb dL_law_57 (by decide) ?_
                      refine g_iremn hx hb (by omega) (by omega) (by omega) dL_law_58 ?_
                      refine W.eq (g2 := F0 M_ _ ls [.int (nI 1), .ref (w.2.2.2 0)]) rfl ?_
                      refine lv_iload_n hx hb dL_law_59 rfl (lv_at hl 0 rfl) ?_
                      refine lv_iconst (v := nI 3) hx hb dL_law_60 (by decide) ?_
                      refine g_idivn hx hb (by omega) (by omega) (by omega) dL_law_61 ?_
                      refine W.eq (g2 := F0 M_ _ ls [.int (nI 0), .int (nI 1), .ref (w.2.2.2 0)]) rfl ?_
                      refine lv_iload_n hx hb dL_law_62 rfl (lv_at hl 0 rfl) ?_
                      refine lv_iconst (v := nI 5) hx hb dL_law_63 (by decide) ?_
                      refine lv_icmp_ge (tgt := 71) hx hb dL_law_64 (by decide) (fun c64 => ?_) (fun c64 => ?_)
                      · skip
                        have c64 : 5 ≤ 1 := (g_le (by omega) (by omega)).mp c64
                        omega
                      · skip
                        have c64 : ¬ (5 ≤ 1) := fun q => c64 ((g_le (by omega) (by omega)).mpr q)
                        refine lv_iconst (v := nI 2) hx hb dL_law_67 (by decide) ?_
                        refine lv_goto (tgt := 72) hx hb dL_law_68 (by decide) ?_
                        refine g_callW (As := [.int (nI 1), .int (nI 0), .int (nI 2)]) (rest := []) G.1 hG 0 (by decide) rfl rfl ok_X2_term gm_407 gm_408 gm_478 (c_X2_term l w fT1 1 0 2 (by unfold gI; decide +kernel) (by decide +kernel) (by omega) (by omega) (by decide +kernel) (by decide +kernel)) ⟨rfl, rfl⟩ ⟨Nat.le_of_ble_eq_true rfl, Nat.le_of_ble_eq_true rfl⟩ rfl hl.1 rfl (Nat.le_of_ble_eq_true rfl) ⟨Nat.le_of_ble_eq_true rfl, Nat.le_of_ble_eq_true rfl⟩ dL_law_72 (fun v f72 H locs hp hG => ?_)
                        obtain ⟨rfl, rfl⟩ := hp
                        have hG : GS w (nA S_) S_ H locs fT2 := hG
                        refine lv_pop hx hb dL_law_75 rfl ?_
                        refine lv_iinc (v := nI 2) (lv' := [(2, .int (nI 2)), (1, .ref (w.2.2.2 0)), (0, .ref q)]) hx hb dL_law_76 hl (k := 0) rfl (g_inc 1 1) (by decide) rfl (fun ls hl => ?_)
                        refine lv_goto (tgt := 49) hx hb dL_law_79 (by decide) ?_
                        refine lv_iload_n hx hb dL_law_49 rfl (lv_at hl 0 rfl) ?_
                        refine lv_bipush (v := nI 6) hx hb dL_law_50 (by decide) ?_
                        refine lv_icmp_ge (tgt := 82) hx hb dL_law_52 (by decide) (fun c52 => ?_) (fun c52 => ?_)
                        · skip
                          have c52 : 6 ≤ 2 := (g_le (by omega) (by omega)).mp c52
                          omega
                        · skip
                          have c52 : ¬ (6 ≤ 2) := fun q => c52 ((g_le (by omega) (by omega)).mpr q)
                          refine lv_aload_n hx hb dL_law_55 rfl (lv_at hl 1 rfl) ?_
                          refine lv_iload_n hx hb dL_law_56 rfl (lv_at hl 0 rfl) ?_
                          refine lv_iconst (v := nI 3) hx hb dL_law_57 (by decide) ?_
                          refine g_iremn hx hb (by omega) (by omega) (by omega) dL_law_58 ?_
                          refine W.eq (g2 := F0 M_ _ ls [.int (nI 2), .ref (w.2.2.2 0)]) rfl ?_
                          refine lv_iload_n hx hb dL_law_59 rfl (lv_at hl 0 rfl) ?_
                          refine lv_iconst (v := nI 3) hx hb dL_law_60 (by decide) ?_
                          refine g_idivn hx hb (by omega) (by omega) (by omega) dL_law_61 ?_
                          refine W.eq (g2 := F0 M_ _ ls [.int (nI 0), .int (nI 2), .ref (w.2.2.2 0)]) rfl ?_
                          refine lv_iload_n hx hb dL_law_62 rfl (lv_at hl 0 rfl) ?_
                          refine lv_iconst (v := nI 5) hx hb dL_law_63 (by decide) ?_
                          refine lv_icmp_ge (tgt := 71) hx hb dL_law_64 (by decide) (fun c64 => ?_) (fun c64 => ?_)
                          · skip
                            have c64 : 5 ≤ 2 := (g_le (by omega) (by omega)).mp c64
                            omega
                          · skip
                            have c64 : ¬ (5 ≤ 2) := fun q => c64 ((g_le (by omega) (by omega)).mpr q)
                            refine lv_iconst (v := nI 2) hx hb dL_law_67 (by decide) ?_
                            refine lv_goto (tgt := 72) hx hb dL_law_68 (by decide) ?_
                            refine g_callW (As := [.int (nI 2), .int (nI 0), .int (nI 2)]) (rest := []) G.1 hG 0 (by decide) rfl rfl ok_X2_term gm_407 gm_408 gm_478 (c_X2_term l w fT2 2 0 2 (by unfold gI; decide +kernel) (by decide +kernel) (by omega) (by omega) (by decide +kernel) (by decide +kernel)) ⟨rfl, rfl⟩ ⟨Nat.le_of_ble_eq_true rfl, Nat.le_of_ble_eq_true rfl⟩ rfl hl.1 rfl (Nat.le_of_ble_eq_true rfl) ⟨Nat.le_of_ble_eq_true rfl, Nat.le_of_ble_eq_true rfl⟩ dL_law_72 (fun v f72 H locs hp hG => ?_)
                            obtain ⟨rfl, rfl⟩ := hp
                            have hG : GS w (nA S_) S_ H locs fT3 := hG
                            refine lv_pop hx hb dL_law_75 rfl ?_
                            refine lv_iinc (v := nI 3) (lv' := [(2, .int (nI 3)), (1, .ref (w.2.2.2 0)), (0, .ref q)]) hx hb dL_law_76 hl (k := 0) rfl (g_inc 2 1) (by decide) rfl (fun ls hl => ?_)
                            refine lv_goto (tgt := 49) hx hb dL_law_79 (by decide) ?_
                            refine lv_iload_n hx hb dL_law_49 rfl (lv_at hl 0 rfl) ?_
                            refine lv_bipush (v := nI 6) hx hb dL_law_50 (by decide) ?_
                            refine lv_icmp_ge (tgt := 82) hx hb dL_law_52 (by decide) (fun c52 => ?_) (fun c52 => ?_)
                            · skip
                              have c52 : 6 ≤ 3 := (g_le (by omega) (by omega)).mp c52
                              omega
                            · skip
                              have c52 : ¬ (6 ≤ 3) := fun q => c52 ((g_le (by omega) (by omega)).mpr q)
                              refine lv_aload_n hx hb dL_law_55 rfl (lv_at hl 1 rfl) ?_
                              refine lv_iload_n hx hb dL_law_56 rfl (lv_at hl 0 rfl) ?_
                              refine lv_iconst (v := nI 3) hx hb dL_law_57 (by decide) ?_
                              refine g_iremn hx hb (by omega) (by omega) (by omega) dL_law_58 ?_
                              refine W.eq (g2 := F0 M_ _ ls [.int (nI 0), .ref (w.2.2.2 0)]) rfl ?_
                              refine lv_iload_n hx hb dL_law_59 rfl (lv_at hl 0 rfl) ?_
                              refine lv_iconst (v := nI 3) hx hb dL_law_60 (by decide) ?_
                              refine g_idivn hx hb (by omega) (by omega) (by omega) dL_law_61 ?_
                              refine W.eq (g2 := F0 M_ _ ls [.int (nI 1), .int (nI 0), .ref (w.2.2.2 0)]) rfl ?_
                              refine lv_iload_n hx hb dL_law_62 rfl (lv_at hl 0 rfl) ?_
                              refine lv_iconst (v := nI 5) hx hb dL_law_63 (by decide) ?_
                              refine lv_icmp_ge (tgt := 71) hx hb dL_law_64 (by decide) (fun c64 => ?_) (fun c64 => ?_)
                              · skip
                                have c64 : 5 ≤ 3 := (g_le (by omega) (by omega)).mp c64
                                omega
                              · skip
                                have c64 : ¬ (5 ≤ 3) := fun q => c64 ((g_le (by omega) (by omega)).mpr q)
                                refine lv_iconst (v := nI 2) hx hb dL_law_67 (by decide) ?_
                                refine lv_goto (tgt := 72) hx hb dL_law_68 (by decide) ?_
                                refine g_callW (As := [.int (nI 0), .int (nI 1), .int (nI 2)]) (rest := []) G.1 hG 0 (by decide) rfl rfl ok_X2_term gm_407 gm_408 gm_478 (c_X2_term l w fT3 0 1 2 (by unfold gI; decide +kernel) (by decide +kernel) (by omega) (by omega) (by decide +kernel) (by decide +kernel)) ⟨rfl, rfl⟩ ⟨Nat.le_of_ble_eq_true rfl, Nat.le_of_ble_eq_true rfl⟩ rfl hl.1 rfl (Nat.le_of_ble_eq_true rfl) ⟨Nat.le_of_ble_eq_true rfl, Nat.le_of_ble_eq_true rfl⟩ dL_law_72 (fun v f72 H locs hp hG => ?_)
                                obtain ⟨rfl, rfl⟩ := hp
                                have hG : GS w (nA S_) S_ H locs fT4 := hG
                                refine lv_pop hx hb dL_law_75 rfl ?_
                                refine lv_iinc (v := nI 4) (lv' := [(2, .int (nI 4)), (1, .ref (w.2.2.2 0)), (0, .ref q)]) hx hb dL_law_76 hl (k := 0) rfl (g_inc 3 1) (by decide) rfl (fun ls hl => ?_)
                                refine lv_goto (tgt := 49) hx hb dL_law_79 (by decide) ?_
                                refine lv_iload_n hx hb dL_law_49 rfl (lv_at hl 0 rfl) ?_
                                refine lv_bipush (v := nI 6) hx hb dL_law_50 (by decide) ?_
                                refine lv_icmp_ge (tgt := 82) hx hb dL_law_52 (by decide) (fun c52 => ?_) (fun c52 => ?_)
                                · skip
                                  have c52 : 6 ≤ 4 := (g_le (by omega) (by omega)).mp c52
                                  omega
                                · skip
                                  have c52 : ¬ (6 ≤ 4) := fun q => c52 ((g_le (by omega) (by omega)).mpr q)
                                  refine lv_aload_n hx hb dL_law_55 rfl (lv_at hl 1 rfl) ?_
                                  refine lv_iload_n hx hb dL_law_56 rfl (lv_at hl 0 rfl) ?_
                                  refine lv_iconst (v := nI 3) hx hb dL_law_57 (by decide) ?_
                                  refine g_iremn hx hb (by omega) (by omega) (by omega) dL_law_58 ?_
                                  refine W.eq (g2 := F0 M_ _ ls [.int (nI 1), .ref (w.2.2.2 0)]) rfl ?_
                                  refine lv_iload_n hx hb dL_law_59 rfl (lv_at hl 0 rfl) ?_
                                  refine lv_iconst (v := nI 3) hx hb dL_law_60 (by decide) ?_
                                  refine g_idivn hx hb (by omega) (by omega) (by omega) dL_law_61 ?_
                                  refine W.eq (g2 := F0 M_ _ ls [.int (nI 1), .int (nI 1), .ref (w.2.2.2 0)]) rfl ?_
                                  refine lv_iload_n hx hb dL_law_62 rfl (lv_at hl 0 rfl) ?_
                                  refine lv_iconst (v := nI 5) hx hb dL_law_63 (by decide) ?_
                                  refine lv_icmp_ge (tgt := 71) hx hb dL_law_64 (by decide) (fun c64 => ?_) (fun c64 => ?_)
                                  · skip
                                    have c64 : 5 ≤ 4 := (g_le (by omega) (by omega)).mp c64
                                    omega
                                  · skip
                                    have c64 : ¬ (5 ≤ 4) := fun q => c64 ((g_le (by omega) (by omega)).mpr q)
                                    refine lv_iconst (v := nI 2) hx hb dL_law_67 (by decide) ?_
                                    refine lv_goto (tgt := 72) hx hb dL_law_68 (by decide) ?_
                                    refine g_callW (As := [.int (nI 1), .int (nI 1), .int (nI 2)]) (rest := []) G.1 hG 0 (by decide) rfl rfl ok_X2_term gm_407 gm_408 gm_478 (c_X2_term l w fT4 1 1 2 (by unfold gI; decide +kernel) (by decide +kernel) (by omega) (by omega) (by decide +kernel) (by decide +kernel)) ⟨rfl, rfl⟩ ⟨Nat.le_of_ble_eq_true rfl, Nat.le_of_ble_eq_true rfl⟩ rfl hl.1 rfl (Nat.le_of_ble_eq_true rfl) ⟨Nat.le_of_ble_eq_true rfl, Nat.le_of_ble_eq_true rfl⟩ dL_law_72 (fun v f72 H locs hp hG => ?_)
                                    obtain ⟨rfl, rfl⟩ := hp
                                    have hG : GS w (nA S_) S_ H locs fT5 := hG
                                    refine lv_pop hx hb dL_law_75 rfl ?_
                                    refine lv_iinc (v := nI 5) (lv' := [(2, .int (nI 5)), (1, .ref (w.2.2.2 0)), (0, .ref q)]) hx hb dL_law_76 hl (k := 0) rfl (g_inc 4 1) (by decide) rfl (fun ls hl => ?_)
                                    refine lv_goto (tgt := 49) hx hb dL_law_79 (by decide) ?_
                                    refine lv_iload_n hx hb dL_law_49 rfl (lv_at hl 0 rfl) ?_
                                    refine lv_bipush (v := nI 6) hx hb dL_law_50 (by decide) ?_
                                    refine lv_icmp_ge (tgt := 82) hx hb dL_law_52 (by decide) (fun c52 => ?_) (fun c52 => ?_)
                                    · skip
                                      have c52 : 6 ≤ 5 := (g_le (by omega) (by omega)).mp c52
                                      omega
                                    · skip
                                      have c52 : ¬ (6 ≤ 5) := fun q => c52 ((g_le (by omega) (by omega)).mpr q)
                                      refine lv_aload_n hx hb dL_law_55 rfl (lv_at hl 1 rfl) ?_
                                      refine lv_iload_n hx hb dL_law_56 rfl (lv_at hl 0 rfl) ?_
                                      refine lv_iconst (v := nI 3) hx hb dL_law_57 (by decide) ?_
                                      refine g_iremn hx hb (by omega) (by omega) (by omega) dL_law_58 ?_
                                      refine W.eq (g2 := F0 M_ _ ls [.int (nI 2), .ref (w.2.2.2 0)]) rfl ?_
                                      refine lv_iload_n hx hb dL_law_59 rfl (lv_at hl 0 rfl) ?_
                                      refine lv_iconst (v := nI 3) hx hb dL_law_60 (by decide) ?_
                                      refine g_idivn hx hb (by omega) (by omega) (by omega) dL_law_61 ?_
                                      refine W.eq (g2 := F0 M_ _ ls [.int (nI 1), .int (nI 2), .ref (w.2.2.2 0)]) rfl ?_
                                      refine lv_iload_n hx hb dL_law_62 rfl (lv_at hl 0 rfl) ?_
                                      refine lv_iconst (v := nI 5) hx hb dL_law_63 (by decide) ?_
                                      refine lv_icmp_ge (tgt := 71) hx hb dL_law_64 (by decide) (fun c64 => ?_) (fun c64 => ?_)
                                      · skip
                                        have c64 : 5 ≤ 5 := (g_le (by omega) (by omega)).mp c64
                                        refine lv_iconst (v := nI 3) hx hb dL_law_71 (by decide) ?_
                                        refine g_callW (As := [.int (nI 2), .int (nI 1), .int (nI 3)]) (rest := []) G.1 hG 0 (by decide) rfl rfl ok_X2_term gm_407 gm_408 gm_478 (c_X2_term l w fT5 2 1 3 (by unfold gI; decide +kernel) (by decide +kernel) (by omega) (by omega) (by decide +kernel) (by decide +kernel)) ⟨rfl, rfl⟩ ⟨Nat.le_of_ble_eq_true rfl, Nat.le_of_ble_eq_true rfl⟩ rfl hl.1 rfl (Nat.le_of_ble_eq_true rfl) ⟨Nat.le_of_ble_eq_true rfl, Nat.le_of_ble_eq_true rfl⟩ dL_law_72 (fun v f72 H locs hp hG => ?_)
                                        obtain ⟨rfl, rfl⟩ := hp
                                        have hG : GS w (nA S_) S_ H locs fB := hG
                                        refine lv_pop hx hb dL_law_75 rfl ?_
                                        refine lv_iinc (v := nI 6) (lv' := [(2, .int (nI 6)), (1, .ref (w.2.2.2 0)), (0, .ref q)]) hx hb dL_law_76 hl (k := 0) rfl (g_inc 5 1) (by decide) rfl (fun ls hl => ?_)
                                        refine lv_goto (tgt := 49) hx hb dL_law_79 (by decide) ?_
                                        refine lv_iload_n hx hb dL_law_49 rfl (lv_at hl 0 rfl) ?_
                                        refine lv_bipush (v := nI 6) hx hb dL_law_50 (by decide) ?_
                                        refine lv_icmp_ge (tgt := 82) hx hb dL_law_52 (by decide) (fun c52 => ?_) (fun c52 => ?_)
                                        · skip
                                          have c52 : 6 ≤ 6 := (g_le (by omega) (by omega)).mp c52
                                          refine lv_iconst (v := nI 0) hx hb dL_law_82 (by decide) ?_
                                          refine lv_istore_n (lv' := [(2, .int (nI 0)), (1, .ref (w.2.2.2 0)), (0, .ref q)]) hx hb dL_law_83 rfl hl (by decide) rfl (fun ls hl => ?_)
                                          exact kk H locs ls hG (lv_sub hl [2, 1, 0] rfl)
                                        · skip
                                          have c52 : ¬ (6 ≤ 6) := fun q => c52 ((g_le (by omega) (by omega)).mpr q)
                                          omega
                                      · skip
                                        have c64 : ¬ (5 ≤ 5) := fun q => c64 ((g_le (by omega) (by omega)).mpr q)
                                        omega
              · skip
                have c33 : ¬ (2 ≤ 2) := fun q => c33 ((g_le (by omega) (by omega)).mpr q)
                omega
        · skip
          have c12 : ¬ (3 ≤ 3) := fun q => c12 ((g_le (by omega) (by omega)).mpr q)
          omega
