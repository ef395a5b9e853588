theorem ok_X2_meanConsistency : gOK yX2_meanConsistency cX2_meanConsistency 2 (some .double) 0 := ⟨gm_789, gm_18, by decide +kernel⟩
def mcF (f : CS) : UInt64 := if twN f = 0 then FP.dconst0 else mcq (scN f) (twN f)
set_option maxRecDepth 100000 in
set_option maxHeartbeats 4000000 in
theorem c_X2_meanConsistency (l : Launch) (w : GP) (f : CS)  (hI : gI f) (h1 : scN f ≤ 600) (h2 : twN f ≤ 6) : Met l yX2_meanConsistency (gws yX2_meanConsistency cX2_meanConsistency 2 (some .double)) ({ frames := 5, cells := 0, slots := 0, locals := 113 }) (gPc w f [.ref (w.2.2.2 0)]) (gRd (.double (mcF f))) 0 0 (fun _ => False) := by
  refine g_read (by decide) (Nat.le_of_ble_eq_true rfl) ?_
  intro P_ E_ S_ M_ B_ T_ C_ ls G hV hl
  obtain ⟨hx, hb, hml, hown, hts⟩ := id G.1
  obtain ⟨⟨hT, hT24⟩, ⟨hC, hC12⟩, ⟨hD, hD6⟩, hLn⟩ := id hI
  have hl : lv_has ls 2 [(0, .ref (w.2.2.2 0))] := hl
  refine lv_aload_n hx hb dX2_meanConsistency_0 rfl (lv_at hl 0 rfl) ?_
  refine g_get hx hb hts hown hV 0 1 (by decide) (v := .ref (w.2.2.2 2)) rfl rfl gin2 (by decide) gm_158 (rfl) dX2_meanConsistency_1 ?_
  refine g_callV (As := []) (rest := []) G.1 hV 2 (by decide) rfl rfl ok_X1_textsWithForms gm_341 gm_342 gm_340 (c_X1_textsWithForms l w f  hI ) ⟨rfl, rfl⟩ ⟨Nat.le_of_ble_eq_true rfl, Nat.le_of_ble_eq_true rfl⟩ rfl hl.1 rfl (Nat.le_of_ble_eq_true rfl) ⟨Nat.zero_le _, Nat.zero_le _⟩ dX2_meanConsistency_4 ?_
  refine lv_istore_n (lv' := [(1, .int (nI (twN f))), (0, .ref (w.2.2.2 0))]) hx hb dX2_meanConsistency_7 rfl hl (by decide) rfl (fun ls hl => ?_)
  refine lv_iload_n hx hb dX2_meanConsistency_8 rfl (lv_at hl 0 rfl) ?_
  refine lv_if_ne (tgt := 16) hx hb dX2_meanConsistency_9 (by decide) (fun c9 => ?_) (fun c9 => ?_)
  · skip
    have c9 : ¬ (nI (twN f) = nI 0) := c9
    have c9 : ¬ ((twN f) = 0) := fun q => c9 ((g_eq (Nat.lt_of_le_of_lt (ct_le _ _) (by omega)) (by omega)).mpr q)
    refine lv_aload_n hx hb dX2_meanConsistency_16 rfl (lv_at hl 1 rfl) ?_
    refine g_get hx hb hts hown hV 0 1 (by decide) (v := .ref (w.2.2.2 2)) rfl rfl gin2 (by decide) gm_158 (rfl) dX2_meanConsistency_17 ?_
    refine g_callV (As := []) (rest := []) G.1 hV 2 (by decide) rfl rfl ok_X1_sumOfConsistencies gm_345 gm_346 gm_344 (c_X1_sumOfConsistencies l w f  hI ) ⟨rfl, rfl⟩ ⟨Nat.le_of_ble_eq_true rfl, Nat.le_of_ble_eq_true rfl⟩ rfl hl.1 rfl (Nat.le_of_ble_eq_true rfl) ⟨Nat.zero_le _, Nat.zero_le _⟩ dX2_meanConsistency_20 ?_
    refine lv_i2d hx hb dX2_meanConsistency_23 ?_
    refine lv_iload_n hx hb dX2_meanConsistency_24 rfl (lv_at hl 0 rfl) ?_
    refine lv_i2d hx hb dX2_meanConsistency_25 ?_
    refine lv_ddiv hx hb dX2_meanConsistency_26 ((fp_q h1 (by omega) h2).1) ?_
    exact g_dret G (by unfold mcF; rw [if_neg c9]; rfl) dX2_meanConsistency_27
  · skip
    have c9 : nI (twN f) = nI 0 := c9
    have c9 : (twN f) = 0 := (g_eq (Nat.lt_of_le_of_lt (ct_le _ _) (by omega)) (by omega)).mp c9
    refine lv_dconst0 hx hb dX2_meanConsistency_12 ?_
    refine lv_goto (tgt := 27) hx hb dX2_meanConsistency_13 (by decide) ?_
    exact g_dret G (by unfold mcF; rw [if_pos c9]) dX2_meanConsistency_27
