theorem ok_J6_bitCount_0f7a4 : gOK yJ6_bitCount_0f7a4 cJ6_bitCount_0f7a4 1 (some .int) 1 := ⟨gm_30, gm_29, by decide +kernel⟩
set_option maxRecDepth 100000 in
set_option maxHeartbeats 4000000 in
theorem c_J6_bitCount_0f7a4 (l : Launch) (w : GP) (f : CS) (x : Int32)   : Met l yJ6_bitCount_0f7a4 (gws yJ6_bitCount_0f7a4 cJ6_bitCount_0f7a4 1 (some .int)) ({ frames := 0, cells := 0, slots := 0, locals := 0 }) (gPc w f [.int x]) (gRd (.int (nI (pcn x)))) 0 0 (fun _ => False) := by
  refine g_read (by decide) (Nat.le_of_ble_eq_true rfl) ?_
  intro P_ E_ S_ M_ B_ T_ C_ ls G hV hl
  obtain ⟨hx, hb, hml, hown, hts⟩ := id G.1
  have hl : lv_has ls 1 [(0, .int x)] := hl
  obtain ⟨X, hX, rfl, hbit⟩ := b_of x
  obtain ⟨n3, n2, n1, n0⟩ := bc_nat hX
  have hU : bU 8 X < 2 ^ 32 := by omega
  have hW : bV 8 X < 2 ^ 32 := bV_lt 8 X
  obtain ⟨Y, hY⟩ : ∃ Y, Y = s3 (bV 8 X) := ⟨_, rfl⟩
  have hYb : Y < 2 ^ 31 := by have a0 := bS2_le X; have a1 := bS2_le (X / 256); have a2 := bS2_le (X / 65536); have a3 := bS2_le (X / 16777216); omega
  refine lv_iload_n hx hb dJ6_bitCount_0f7a4_0 rfl (lv_at hl 0 rfl) ?_
  refine lv_iload_n hx hb dJ6_bitCount_0f7a4_1 rfl (lv_at hl 0 rfl) ?_
  refine lv_iconst (v := nI 1) hx hb dJ6_bitCount_0f7a4_2 (by decide) ?_
  refine lv_iushr (v := nI (X / 2)) hx hb dJ6_bitCount_0f7a4_3 (b_ushrI (by omega) 1 (by decide)) ?_
  refine lv_ldcw (v := nI 1431655765) hx hb hown (hts _ gm_20) dJ6_bitCount_0f7a4_4 ?_
  refine g_iandn hx hb dJ6_bitCount_0f7a4_7 ?_
  refine g_isubn hx hb (n0) dJ6_bitCount_0f7a4_8 ?_
  refine lv_istore_n (lv' := [(0, .int (nI (X - ((X / 2) &&& 1431655765))))]) hx hb dJ6_bitCount_0f7a4_9 rfl hl (by decide) rfl (fun ls hl => ?_)
  rw [show X - ((X / 2) &&& 1431655765) = bU 8 X from n1] at hl
  refine lv_iload_n hx hb dJ6_bitCount_0f7a4_10 rfl (lv_at hl 0 rfl) ?_
  refine lv_ldcw (v := nI 858993459) hx hb hown (hts _ gm_21) dJ6_bitCount_0f7a4_11 ?_
  refine g_iandn hx hb dJ6_bitCount_0f7a4_14 ?_
  refine lv_iload_n hx hb dJ6_bitCount_0f7a4_15 rfl (lv_at hl 0 rfl) ?_
  refine lv_iconst (v := nI 2) hx hb dJ6_bitCount_0f7a4_16 (by decide) ?_
  refine lv_iushr (v := nI ((bU 8 X) / 4)) hx hb dJ6_bitCount_0f7a4_17 (b_ushrI (by omega) 2 (by decide)) ?_
  refine lv_ldcw (v := nI 858993459) hx hb hown (hts _ gm_21) dJ6_bitCount_0f7a4_18 ?_
  refine g_iandn hx hb dJ6_bitCount_0f7a4_21 ?_
  refine g_iaddn hx hb dJ6_bitCount_0f7a4_22 ?_
  refine lv_istore_n (lv' := [(0, .int (nI (((bU 8 X) &&& 858993459) + (((bU 8 X) / 4) &&& 858993459))))]) hx hb dJ6_bitCount_0f7a4_23 rfl hl (by decide) rfl (fun ls hl => ?_)
  rw [show ((bU 8 X) &&& 858993459) + (((bU 8 X) / 4) &&& 858993459) = bV 8 X from n2] at hl
  refine lv_iload_n hx hb dJ6_bitCount_0f7a4_24 rfl (lv_at hl 0 rfl) ?_
  refine lv_iload_n hx hb dJ6_bitCount_0f7a4_25 rfl (lv_at hl 0 rfl) ?_
  refine lv_iconst (v := nI 4) hx hb dJ6_bitCount_0f7a4_26 (by decide) ?_
  refine lv_iushr (v := nI ((bV 8 X) / 16)) hx hb dJ6_bitCount_0f7a4_27 (b_ushrI (by omega) 4 (by decide)) ?_
  refine g_iaddn hx hb dJ6_bitCount_0f7a4_28 ?_
  refine lv_ldcw (v := nI 252645135) hx hb hown (hts _ gm_22) dJ6_bitCount_0f7a4_29 ?_
  refine g_iandn hx hb dJ6_bitCount_0f7a4_32 ?_
  refine lv_istore_n (lv' := [(0, .int (nI (((bV 8 X) + ((bV 8 X) / 16)) &&& 252645135)))]) hx hb dJ6_bitCount_0f7a4_33 rfl hl (by decide) rfl (fun ls hl => ?_)
  rw [show ((bV 8 X) + ((bV 8 X) / 16)) &&& 252645135 = Y from hY.symm] at hl
  refine lv_iload_n hx hb dJ6_bitCount_0f7a4_34 rfl (lv_at hl 0 rfl) ?_
  refine lv_iload_n hx hb dJ6_bitCount_0f7a4_35 rfl (lv_at hl 0 rfl) ?_
  refine lv_bipush (v := nI 8) hx hb dJ6_bitCount_0f7a4_36 (by decide) ?_
  refine lv_iushr (v := nI (Y / 256)) hx hb dJ6_bitCount_0f7a4_38 (b_ushrI (by omega) 8 (by decide)) ?_
  refine g_iaddn hx hb dJ6_bitCount_0f7a4_39 ?_
  refine lv_istore_n (lv' := [(0, .int (nI (Y + (Y / 256))))]) hx hb dJ6_bitCount_0f7a4_40 rfl hl (by decide) rfl (fun ls hl => ?_)
  refine lv_iload_n hx hb dJ6_bitCount_0f7a4_41 rfl (lv_at hl 0 rfl) ?_
  refine lv_iload_n hx hb dJ6_bitCount_0f7a4_42 rfl (lv_at hl 0 rfl) ?_
  refine lv_bipush (v := nI 16) hx hb dJ6_bitCount_0f7a4_43 (by decide) ?_
  refine lv_iushr (v := nI ((Y + (Y / 256)) / 65536)) hx hb dJ6_bitCount_0f7a4_45 (b_ushrI (by omega) 16 (by decide)) ?_
  refine g_iaddn hx hb dJ6_bitCount_0f7a4_46 ?_
  refine lv_istore_n (lv' := [(0, .int (nI ((Y + (Y / 256)) + ((Y + (Y / 256)) / 65536))))]) hx hb dJ6_bitCount_0f7a4_47 rfl hl (by decide) rfl (fun ls hl => ?_)
  refine lv_iload_n hx hb dJ6_bitCount_0f7a4_48 rfl (lv_at hl 0 rfl) ?_
  refine lv_bipush (v := nI 63) hx hb dJ6_bitCount_0f7a4_49 (by decide) ?_
  refine g_iandn hx hb dJ6_bitCount_0f7a4_51 ?_
  exact g_iret G (by rw [bc_pcn hbit]; refine congrArg (fun q => Value.int (nI q)) ?_; show s4 Y &&& (2 ^ 6 - 1) = _; rw [Nat.and_two_pow_sub_one_eq_mod, hY, n3]; exact bc_end (bS2_le _) (bS2_le _) (bS2_le _) (bS2_le _)) dJ6_bitCount_0f7a4_52
theorem ok_X1_onlyOneOf : gOK yX1_onlyOneOf cX1_onlyOneOf 1 (some .int) 1 := ⟨gm_87, gm_86, by decide +kernel⟩
set_option maxRecDepth 100000 in
set_option maxHeartbeats 4000000 in
theorem c_X1_onlyOneOf (l : Launch) (w : GP) (f : CS) (x : Int32)   : Met l yX1_onlyOneOf (gws yX1_onlyOneOf cX1_onlyOneOf 1 (some .int)) ({ frames := 1, cells := 0, slots := 0, locals := 20 }) (gPc w f [.int x]) (gRd (.int (oneI x))) 0 0 (fun _ => False) := by
  refine g_read (by decide) (Nat.le_of_ble_eq_true rfl) ?_
  intro P_ E_ S_ M_ B_ T_ C_ ls G hV hl
  obtain ⟨hx, hb, hml, hown, hts⟩ := id G.1
  have hl : lv_has ls 1 [(0, .int x)] := hl
  refine lv_iload_n hx hb dX1_onlyOneOf_0 rfl (lv_at hl 0 rfl) ?_
  refine g_callS (As := [.int x]) (rest := []) G.1 hV ok_J6_bitCount_0f7a4 gm_28 gm_74 (c_J6_bitCount_0f7a4 l w f x  ) ⟨rfl, rfl⟩ ⟨Nat.le_of_ble_eq_true rfl, Nat.le_of_ble_eq_true rfl⟩ rfl hl.1 rfl (Nat.le_of_ble_eq_true rfl) ⟨Nat.zero_le _, Nat.zero_le _⟩ dX1_onlyOneOf_1 ?_
  refine lv_iconst (v := nI 1) hx hb dX1_onlyOneOf_4 (by decide) ?_
  refine lv_icmp_ne (tgt := 17) hx hb dX1_onlyOneOf_5 (by decide) (fun c5 => ?_) (fun c5 => ?_)
  · skip
    have c5 : ¬ ((pcn x) = 1) := fun q => c5 ((g_eq pcn_lt (by omega)).mpr q)
    refine lv_iconst (v := -1) hx hb dX1_onlyOneOf_17 (by decide) ?_
    exact g_iret G (by unfold oneI; rw [if_neg c5]) dX1_onlyOneOf_18
  · skip
    have c5 : (pcn x) = 1 := (g_eq pcn_lt (by omega)).mp c5
    refine lv_iload_n hx hb dX1_onlyOneOf_8 rfl (lv_at hl 0 rfl) ?_
    refine lv_iconst (v := nI 1) hx hb dX1_onlyOneOf_9 (by decide) ?_
    refine lv_isub hx hb dX1_onlyOneOf_10 ?_
    refine g_callS (As := [.int (x - (nI 1))]) (rest := []) G.1 hV ok_J6_bitCount_0f7a4 gm_28 gm_74 (c_J6_bitCount_0f7a4 l w f (x - (nI 1))  ) ⟨rfl, rfl⟩ ⟨Nat.le_of_ble_eq_true rfl, Nat.le_of_ble_eq_true rfl⟩ rfl hl.1 rfl (Nat.le_of_ble_eq_true rfl) ⟨Nat.zero_le _, Nat.zero_le _⟩ dX1_onlyOneOf_11 ?_
    refine lv_goto (tgt := 18) hx hb dX1_onlyOneOf_14 (by decide) ?_
    exact g_iret G (by unfold oneI; rw [if_pos c5]) dX1_onlyOneOf_18
theorem ok_X1_textCount : gOK yX1_textCount cX1_textCount 1 (some .int) 0 := ⟨gm_105, gm_86, by decide +kernel⟩
set_option maxRecDepth 100000 in
set_option maxHeartbeats 4000000 in
theorem c_X1_textCount (l : Launch) (w : GP) (f : CS)  (hI : gI f)  : Met l yX1_textCount (gws yX1_textCount cX1_textCount 1 (some .int)) ({ frames := 0, cells := 0, slots := 0, locals := 0 }) (gPc w f [.ref (w.2.2.2 2)]) (gRd (.int (nI (nD f * 3)))) 0 0 (fun _ => False) := by
  refine g_read (by decide) (Nat.le_of_ble_eq_true rfl) ?_
  intro P_ E_ S_ M_ B_ T_ C_ ls G hV hl
  obtain ⟨hx, hb, hml, hown, hts⟩ := id G.1
  obtain ⟨⟨hT, hT24⟩, ⟨hC, hC12⟩, ⟨hD, hD6⟩, hLn⟩ := id hI
  have hl : lv_has ls 1 [(0, .ref (w.2.2.2 2))] := hl
  refine lv_aload_n hx hb dX1_textCount_0 rfl (lv_at hl 0 rfl) ?_
  refine g_get hx hb hts hown hV 2 1 (by decide) (v := .int (nI (nD f))) rfl rfl gin1 (by decide) gm_64 (by rw [← hD]; rfl) dX1_textCount_1 ?_
  refine lv_iconst (v := nI 3) hx hb dX1_textCount_4 (by decide) ?_
  refine g_imuln hx hb dX1_textCount_5 ?_
  exact g_iret G (rfl) dX1_textCount_6
theorem ok_X1_placesToWrite : gOK yX1_placesToWrite cX1_placesToWrite 2 (some .int) 1 := ⟨gm_293, gm_86, by decide +kernel⟩
set_option maxRecDepth 100000 in
set_option maxHeartbeats 4000000 in
theorem c_X1_placesToWrite (l : Launch) (w : GP) (f : CS) (t : Nat) (hI : gI f) (ht : t < 18) : Met l yX1_placesToWrite (gws yX1_placesToWrite cX1_placesToWrite 2 (some .int)) ({ frames := 1, cells := 0, slots := 0, locals := 21 }) (gPc w f [.ref (w.2.2.2 2), .int (nI t)]) (gRd (.int (nI (if nL f t + 1 ≤ 12 then nL f t + 1 else 12)))) 0 0 (fun _ => False) := by
  refine g_read (by decide) (Nat.le_of_ble_eq_true rfl) ?_
  intro P_ E_ S_ M_ B_ T_ C_ ls G hV hl
  obtain ⟨hx, hb, hml, hown, hts⟩ := id G.1
  obtain ⟨⟨hT, hT24⟩, ⟨hC, hC12⟩, ⟨hD, hD6⟩, hLn⟩ := id hI
  have hl : lv_has ls 2 [(0, .ref (w.2.2.2 2)), (1, .int (nI t))] := hl
  have hLt := hLn t ht
  refine lv_aload_n hx hb dX1_placesToWrite_0 rfl (lv_at hl 0 rfl) ?_
  refine g_get hx hb hts hown hV 2 2 (by decide) (v := .ref (w.2.2.2 16)) rfl rfl gin1 (by decide) gm_65 (rfl) dX1_placesToWrite_1 ?_
  refine lv_iload_n hx hb dX1_placesToWrite_4 rfl (lv_at hl 1 rfl) ?_
  refine g_ialn (a := 11) (n := 18) hx hb hV 16 (by decide) (by decide) rfl rfl (i := t) (by omega) dX1_placesToWrite_5 ?_
  rw [(hLn t (by omega)).1]
  refine lv_iconst (v := nI 1) hx hb dX1_placesToWrite_6 (by decide) ?_
  refine g_iaddn hx hb dX1_placesToWrite_7 ?_
  refine lv_bipush (v := nI 12) hx hb dX1_placesToWrite_8 (by decide) ?_
  refine va_mmin hx hb (hml.trans hl.1.symm) hown (hts _ gm_71) (hts _ gm_72) (hts _ gm_49) (hts _ gm_73) (Nat.le_of_ble_eq_true rfl) (Nat.le_of_ble_eq_true rfl) (Nat.zero_le _) (Nat.zero_le _) dX1_placesToWrite_10 ?_
  refine W.eq (g2 := F0 M_ _ ls [.int (nI (if nL f t + 1 ≤ 12 then nL f t + 1 else 12))]) (by rw [show (if nI 12 < nI ((nL f t) + 1) then nI 12 else nI ((nL f t) + 1)) = nI (if nL f t + 1 ≤ 12 then nL f t + 1 else 12) from by by_cases h : nL f t + 1 ≤ 12; rw [if_pos h, if_neg (fun q => absurd ((g_lt (by omega) (by omega)).mp q) (by omega))]; rw [if_neg h, if_pos ((g_lt (by omega) (by omega)).mpr (by omega))]]) ?_
  exact g_iret G (rfl) dX1_placesToWrite_13
theorem ok_X1_supportFor : gOK yX1_supportFor cX1_supportFor 11 (some .int) 5 := ⟨gm_93, gm_86, by decide +kernel⟩
set_option maxRecDepth 100000 in
set_option maxHeartbeats 4000000 in
theorem c_X1_supportFor (l : Launch) (w : GP) (f : CS) (k : Nat) (t : Nat) (p : Nat) (a : Int32) (b : Int32) (hI : gI f) (hk0 : k < nT f) (ht : t < 18) (hp : p < 12) : Met l yX1_supportFor (gws yX1_supportFor cX1_supportFor 11 (some .int)) ({ frames := 2, cells := 0, slots := 0, locals := 45 }) (gPc w f [.ref (w.2.2.2 2), .int (nI k), .int (nI t), .int (nI p), .int a, .int b]) (gRd (.int (nI (sup f k t p a b)))) 0 0 (fun _ => False) := by
  refine g_read (by decide) (Nat.le_of_ble_eq_true rfl) ?_
  intro P_ E_ S_ M_ B_ T_ C_ ls G hV hl
  obtain ⟨hx, hb, hml, hown, hts⟩ := id G.1
  obtain ⟨⟨hT, hT24⟩, ⟨hC, hC12⟩, ⟨hD, hD6⟩, hLn⟩ := id hI
  have hl : lv_has ls 11 [(0, .ref (w.2.2.2 2)), (1, .int (nI k)), (2, .int (nI t)), (3, .int (nI p)), (4, .int a), (5, .int b)] := hl
  have hLt := hLn t ht
  obtain ⟨E, hEE⟩ : ∃ E, E = (if p + 4 ≤ nL f t then p + 4 else nL f t) := ⟨_, rfl⟩
  have hE12 : E ≤ 12 := by rw [hEE]; split <;> omega
  obtain ⟨E2, hE2⟩ : ∃ E2, E2 = (if p - 3 ≤ E then E else p - 3) := ⟨_, rfl⟩
  have hE3 : E ≤ E2 ∧ p - 3 ≤ E2 ∧ E2 ≤ 12 ∧ (E2 = E ∨ (E2 = p - 3 ∧ E ≤ p - 3)) := by rw [hE2]; split <;> omega
  refine lv_aload_n hx hb dX1_supportFor_0 rfl (lv_at hl 0 rfl) ?_
  refine g_get hx hb hts hown hV 2 0 (by decide) (v := .ref (w.2.2.2 1)) rfl rfl gin1 (by decide) gm_70 (rfl) dX1_supportFor_1 ?_
  refine lv_iload_n hx hb dX1_supportFor_4 rfl (lv_at hl 1 rfl) ?_
  refine lv_iload hx hb dX1_supportFor_5 (lv_at hl 4 rfl) ?_
  refine lv_iload hx hb dX1_supportFor_7 (lv_at hl 5 rfl) ?_
  refine g_callV (As := [.int (nI k), .int a, .int b]) (rest := []) G.1 hV 1 (by decide) rfl rfl ok_X0_domainIf gm_77 gm_78 gm_76 (c_X0_domainIf l w f k a b hI (by omega)) ⟨rfl, rfl⟩ ⟨Nat.le_of_ble_eq_true rfl, Nat.le_of_ble_eq_true rfl⟩ rfl hl.1 rfl (Nat.le_of_ble_eq_true rfl) ⟨Nat.zero_le _, Nat.zero_le _⟩ dX1_supportFor_9 ?_
  refine lv_istore (lv' := [(6, .int (domI f k a b)), (0, .ref (w.2.2.2 2)), (1, .int (nI k)), (2, .int (nI t)), (3, .int (nI p)), (4, .int a), (5, .int b)]) hx hb dX1_supportFor_12 hl (by decide) rfl (fun ls hl => ?_)
  refine lv_iload_n hx hb dX1_supportFor_14 rfl (lv_at hl 4 rfl) ?_
  refine lv_iconst (v := nI 3) hx hb dX1_supportFor_15 (by decide) ?_
  refine g_iaddn hx hb dX1_supportFor_16 ?_
  refine lv_aload_n hx hb dX1_supportFor_17 rfl (lv_at hl 1 rfl) ?_
  refine g_get hx hb hts hown hV 2 2 (by decide) (v := .ref (w.2.2.2 16)) rfl rfl gin1 (by decide) gm_65 (rfl) dX1_supportFor_18 ?_
  refine lv_iload_n hx hb dX1_supportFor_21 rfl (lv_at hl 3 rfl) ?_
  refine g_ialn (a := 11) (n := 18) hx hb hV 16 (by decide) (by decide) rfl rfl (i := t) (by omega) dX1_supportFor_22 ?_
  rw [(hLn t (by omega)).1]
  refine lv_iconst (v := nI 1) hx hb dX1_supportFor_23 (by decide) ?_
  refine lv_isub hx hb dX1_supportFor_24 ?_
  refine va_mmin hx hb (hml.trans hl.1.symm) hown (hts _ gm_71) (hts _ gm_72) (hts _ gm_49) (hts _ gm_73) (Nat.le_of_ble_eq_true rfl) (Nat.le_of_ble_eq_true rfl) (Nat.zero_le _) (Nat.zero_le _) dX1_supportFor_25 ?_
  refine W.eq (g2 := F0 M_ _ ls [.int (nI E - nI 1)]) (by rw [show (if (nI (nL f t)) - (nI 1) < nI (p + 3) then (nI (nL f t)) - (nI 1) else nI (p + 3)) = nI E - nI 1 from by rw [hEE]; exact g_min1 (by omega) (by omega)]) ?_
  refine lv_istore (lv' := [(7, .int (nI E - nI 1)), (6, .int (domI f k a b)), (0, .ref (w.2.2.2 2)), (1, .int (nI k)), (2, .int (nI t)), (3, .int (nI p)), (4, .int a), (5, .int b)]) hx hb dX1_supportFor_28 hl (by decide) rfl (fun ls hl => ?_)
  refine lv_iconst (v := nI 0) hx hb dX1_supportFor_30 (by decide) ?_
  refine lv_istore (lv' := [(8, .int (nI 0)), (7, .int (nI E - nI 1)), (6, .int (domI f k a b)), (0, .ref (w.2.2.2 2)), (1, .int (nI k)), (2, .int (nI t)), (3, .int (nI p)), (4, .int a), (5, .int b)]) hx hb dX1_supportFor_31 hl (by decide) rfl (fun ls hl => ?_)
  rw [show nI 0 = nI (ct (supP f k t p a b) (p - 3)) from by rw [sup_0 (Nat.le_refl _)]] at hl
  refine lv_iload_n hx hb dX1_supportFor_33 rfl (lv_at hl 6 rfl) ?_
  refine lv_iconst (v := nI 3) hx hb dX1_supportFor_34 (by decide) ?_
  refine lv_isub hx hb dX1_supportFor_35 ?_
  refine lv_iconst (v := nI 0) hx hb dX1_supportFor_36 (by decide) ?_
  refine va_mmax hx hb (hml.trans hl.1.symm) hown (hts _ gm_75) (hts _ gm_48) (hts _ gm_49) (hts _ gm_50) (Nat.le_of_ble_eq_true rfl) (Nat.le_of_ble_eq_true rfl) (Nat.zero_le _) (Nat.zero_le _) dX1_supportFor_37 ?_
  refine W.eq (g2 := F0 M_ _ ls [.int (nI (p - 3))]) (by rw [show (if (nI p) - (nI 3) < nI 0 then nI 0 else (nI p) - (nI 3)) = nI (p - 3) from g_max3 (by omega)]) ?_
  refine lv_istore (lv' := [(9, .int (nI (p - 3))), (8, .int (nI (ct (supP f k t p a b) (p - 3)))), (7, .int (nI E - nI 1)), (6, .int (domI f k a b)), (0, .ref (w.2.2.2 2)), (1, .int (nI k)), (2, .int (nI t)), (3, .int (nI p)), (4, .int a), (5, .int b)]) hx hb dX1_supportFor_40 hl (by decide) rfl (fun ls hl => ?_)
  refine g_for (P := fun o => ∀ (ls : Array Slot), lv_has ls 11 [(8, .int (nI (ct (supP f k t p a b) o))), (9, .int (nI o)), (7, .int (nI E - nI 1)), (6, .int (domI f k a b)), (0, .ref (w.2.2.2 2)), (1, .int (nI k)), (2, .int (nI t)), (3, .int (nI p)), (4, .int a), (5, .int b)] → (p - 3 ≤ o) → W P_ l E_ _ S_ M_ _ B_ T_ C_ S_.heap [] 0 0 _ (F0 M_ 42 ls [])) (E2) ?_ ?_ (p - 3) (hE3.2.1) ls (lv_sub hl [1, 0, 2, 3, 4, 5, 6, 7, 8, 9] rfl) (Nat.le_refl _)
  · intro o ho ih ls hl hio
    refine lv_iload hx hb dX1_supportFor_42 (lv_at hl 1 rfl) ?_
    refine lv_iload hx hb dX1_supportFor_44 (lv_at hl 2 rfl) ?_
    refine lv_icmp_gt (tgt := 118) hx hb dX1_supportFor_46 (by decide) (fun c46 => ?_) (fun c46 => ?_)
    · skip
      have c46 : E ≤ o := (g_pred (by omega) (by omega)).mp c46
      exact absurd c46 (by omega)
    · skip
      have c46 : ¬ (E ≤ o) := fun q => c46 ((g_pred (by omega) (by omega)).mpr q)
      refine lv_aload_n hx hb dX1_supportFor_49 rfl (lv_at hl 4 rfl) ?_
      refine g_get hx hb hts hown hV 2 0 (by decide) (v := .ref (w.2.2.2 1)) rfl rfl gin1 (by decide) gm_70 (rfl) dX1_supportFor_50 ?_
      refine lv_iload_n hx hb dX1_supportFor_53 rfl (lv_at hl 6 rfl) ?_
      refine lv_iconst (v := nI 3) hx hb dX1_supportFor_54 (by decide) ?_
      refine g_iremn hx hb (by omega) (by omega) (by omega) dX1_supportFor_55 ?_
      refine lv_aload_n hx hb dX1_supportFor_56 rfl (lv_at hl 4 rfl) ?_
      refine g_get hx hb hts hown hV 2 4 (by decide) (v := .ref (w.2.2.2 18)) rfl rfl gin1 (by decide) gm_68 (rfl) dX1_supportFor_57 ?_
      refine lv_iload_n hx hb dX1_supportFor_60 rfl (lv_at hl 6 rfl) ?_
      refine g_row (n := 18) (b := 19) hx hb hV 18 (by decide) rfl (i := t) (by omega) (by decide) dX1_supportFor_61 ?_
      refine lv_iload hx hb dX1_supportFor_62 (lv_at hl 1 rfl) ?_
      refine g_ialn (a := 20 + t) (n := 12) hx hb hV (19 + t) (by omega) (by omega) (gid_19 (by omega)) (gn_19 (by omega)) (i := o) (by omega) dX1_supportFor_64 ?_
      refine g_callV (As := [.int (nI (t % 3)), .int (f (20 + t) o)]) (rest := []) G.1 hV 1 (by decide) rfl rfl ok_X0_canBe gm_81 gm_82 gm_80 (c_X0_canBe l w f (t % 3) (f (20 + t) o) hI (by omega)) ⟨rfl, rfl⟩ ⟨Nat.le_of_ble_eq_true rfl, Nat.le_of_ble_eq_true rfl⟩ rfl hl.1 rfl (Nat.le_of_ble_eq_true rfl) ⟨Nat.zero_le _, Nat.zero_le _⟩ dX1_supportFor_65 ?_
      refine g_callS (As := [.int (cb f (t % 3) (f (20 + t) o))]) (rest := []) G.1 hV ok_X1_onlyOneOf gm_85 gm_84 (c_X1_onlyOneOf l w f (cb f (t % 3) (f (20 + t) o))  ) ⟨rfl, rfl⟩ ⟨Nat.le_of_ble_eq_true rfl, Nat.le_of_ble_eq_true rfl⟩ rfl hl.1 rfl (Nat.le_of_ble_eq_true rfl) ⟨Nat.zero_le _, Nat.zero_le _⟩ dX1_supportFor_68 ?_
      refine lv_istore (lv' := [(10, .int (oneI (cb f (t % 3) (f (20 + t) o)))), (8, .int (nI (ct (supP f k t p a b) o))), (9, .int (nI o)), (7, .int (nI E - nI 1)), (6, .int (domI f k a b)), (0, .ref (w.2.2.2 2)), (1, .int (nI k)), (2, .int (nI t)), (3, .int (nI p)), (4, .int a), (5, .int b)]) hx hb dX1_supportFor_71 hl (by decide) rfl (fun ls hl => ?_)
      have hl : lv_has ls 11 [(10, .int (pl f t o)), (8, .int (nI (ct (supP f k t p a b) o))), (9, .int (nI o)), (7, .int (nI E - nI 1)), (6, .int (domI f k a b)), (0, .ref (w.2.2.2 2)), (1, .int (nI k)), (2, .int (nI t)), (3, .int (nI p)), (4, .int a), (5, .int b)] := hl
      refine lv_iload hx hb dX1_supportFor_73 (lv_at hl 2 rfl) ?_
      refine lv_iload_n hx hb dX1_supportFor_75 rfl (lv_at hl 8 rfl) ?_
      refine lv_icmp_eq (tgt := 112) hx hb dX1_supportFor_76 (by decide) (fun c76 => ?_) (fun c76 => ?_)
      · skip
        have c76 : o = p := (g_eq (by omega) (by omega)).mp c76
        refine lv_iinc (v := nI (o + 1)) (lv' := [(9, .int (nI (o + 1))), (10, .int (pl f t o)), (8, .int (nI (ct (supP f k t p a b) o))), (7, .int (nI E - nI 1)), (6, .int (domI f k a b)), (0, .ref (w.2.2.2 2)), (1, .int (nI k)), (2, .int (nI t)), (3, .int (nI p)), (4, .int a), (5, .int b)]) hx hb dX1_supportFor_112 hl (k := 2) rfl (g_inc o 1) (by decide) rfl (fun ls hl => ?_)
        refine lv_goto (tgt := 42) hx hb dX1_supportFor_115 (by decide) ?_
        refine ih ls ?_ (by omega)
        rw [(show ct (supP f k t p a b) (o + 1) = ct (supP f k t p a b) o from by first | exact ct_n (fun q => (of_decide_eq_true q).2.1 c76) | exact ct_n (fun q => c88 (of_decide_eq_true q).2.2.1) | exact ct_n (fun q => c106 (by have := (of_decide_eq_true q).2.2.2; rwa [eu, nI_clamp (by omega)] at this)) | exact ct_y (decide_eq_true ⟨hio, c76, c88, by rw [eu, nI_clamp (by omega)]; exact c106⟩))]
        exact lv_sub hl [2, 0, 3, 4, 5, 6, 7, 8, 9, 10] rfl
      · skip
        have c76 : ¬ (o = p) := fun q => c76 ((g_eq (by omega) (by omega)).mpr q)
        refine lv_aload_n hx hb dX1_supportFor_79 rfl (lv_at hl 5 rfl) ?_
        refine g_get hx hb hts hown hV 2 0 (by decide) (v := .ref (w.2.2.2 1)) rfl rfl gin1 (by decide) gm_70 (rfl) dX1_supportFor_80 ?_
        refine lv_iload hx hb dX1_supportFor_83 (lv_at hl 0 rfl) ?_
        refine g_callV (As := [.int (pl f t o)]) (rest := []) G.1 hV 1 (by decide) rfl rfl ok_X0_isTerm gm_40 gm_41 gm_88 (c_X0_isTerm l w f (pl f t o) hI ) ⟨rfl, rfl⟩ ⟨Nat.le_of_ble_eq_true rfl, Nat.le_of_ble_eq_true rfl⟩ rfl hl.1 rfl (Nat.le_of_ble_eq_true rfl) ⟨Nat.zero_le _, Nat.zero_le _⟩ dX1_supportFor_85 ?_
        refine lv_if_eq (tgt := 112) hx hb dX1_supportFor_88 (by decide) (fun c88 => ?_) (fun c88 => ?_)
        · skip
          have c88 : ¬ (0 ≤ (pl f t o) ∧ (pl f t o) < nI (nT f)) := g_if0.mp c88
          refine lv_iinc (v := nI (o + 1)) (lv' := [(9, .int (nI (o + 1))), (10, .int (pl f t o)), (8, .int (nI (ct (supP f k t p a b) o))), (7, .int (nI E - nI 1)), (6, .int (domI f k a b)), (0, .ref (w.2.2.2 2)), (1, .int (nI k)), (2, .int (nI t)), (3, .int (nI p)), (4, .int a), (5, .int b)]) hx hb dX1_supportFor_112 hl (k := 2) rfl (g_inc o 1) (by decide) rfl (fun ls hl => ?_)
          refine lv_goto (tgt := 42) hx hb dX1_supportFor_115 (by decide) ?_
          refine ih ls ?_ (by omega)
          rw [(show ct (supP f k t p a b) (o + 1) = ct (supP f k t p a b) o from by first | exact ct_n (fun q => (of_decide_eq_true q).2.1 c76) | exact ct_n (fun q => c88 (of_decide_eq_true q).2.2.1) | exact ct_n (fun q => c106 (by have := (of_decide_eq_true q).2.2.2; rwa [eu, nI_clamp (by omega)] at this)) | exact ct_y (decide_eq_true ⟨hio, c76, c88, by rw [eu, nI_clamp (by omega)]; exact c106⟩))]
          exact lv_sub hl [2, 0, 3, 4, 5, 6, 7, 8, 9, 10] rfl
        · skip
          have c88 : 0 ≤ (pl f t o) ∧ (pl f t o) < nI (nT f) := g_if1.mp c88
          obtain ⟨u, hu, eu⟩ : ∃ u : Nat, u < nT f ∧ pl f t o = nI u := nz c88.1 c88.2 (by omega)
          rw [eu] at hl
          refine lv_aload_n hx hb dX1_supportFor_91 rfl (lv_at hl 5 rfl) ?_
          refine g_get hx hb hts hown hV 2 0 (by decide) (v := .ref (w.2.2.2 1)) rfl rfl gin1 (by decide) gm_70 (rfl) dX1_supportFor_92 ?_
          refine lv_iload hx hb dX1_supportFor_95 (lv_at hl 0 rfl) ?_
          refine lv_iload hx hb dX1_supportFor_97 (lv_at hl 9 rfl) ?_
          refine lv_iload hx hb dX1_supportFor_99 (lv_at hl 10 rfl) ?_
          refine g_callV (As := [.int (nI u), .int a, .int b]) (rest := []) G.1 hV 1 (by decide) rfl rfl ok_X0_domainIf gm_77 gm_78 gm_76 (c_X0_domainIf l w f u a b hI (by omega)) ⟨rfl, rfl⟩ ⟨Nat.le_of_ble_eq_true rfl, Nat.le_of_ble_eq_true rfl⟩ rfl hl.1 rfl (Nat.le_of_ble_eq_true rfl) ⟨Nat.zero_le _, Nat.zero_le _⟩ dX1_supportFor_101 ?_
          refine lv_iload hx hb dX1_supportFor_104 (lv_at hl 4 rfl) ?_
          refine lv_icmp_ne (tgt := 112) hx hb dX1_supportFor_106 (by decide) (fun c106 => ?_) (fun c106 => ?_)
          · skip
            refine lv_iinc (v := nI (o + 1)) (lv' := [(9, .int (nI (o + 1))), (10, .int (nI u)), (8, .int (nI (ct (supP f k t p a b) o))), (7, .int (nI E - nI 1)), (6, .int (domI f k a b)), (0, .ref (w.2.2.2 2)), (1, .int (nI k)), (2, .int (nI t)), (3, .int (nI p)), (4, .int a), (5, .int b)]) hx hb dX1_supportFor_112 hl (k := 2) rfl (g_inc o 1) (by decide) rfl (fun ls hl => ?_)
            refine lv_goto (tgt := 42) hx hb dX1_supportFor_115 (by decide) ?_
            refine ih ls ?_ (by omega)
            rw [(show ct (supP f k t p a b) (o + 1) = ct (supP f k t p a b) o from by first | exact ct_n (fun q => (of_decide_eq_true q).2.1 c76) | exact ct_n (fun q => c88 (of_decide_eq_true q).2.2.1) | exact ct_n (fun q => c106 (by have := (of_decide_eq_true q).2.2.2; rwa [eu, nI_clamp (by omega)] at this)) | exact ct_y (decide_eq_true ⟨hio, c76, c88, by rw [eu, nI_clamp (by omega)]; exact c106⟩))]
            exact lv_sub hl [2, 0, 3, 4, 5, 6, 7, 8, 9, 10] rfl
          · skip
            refine lv_iinc (v := nI (ct (supP f k t p a b) o + 1)) (lv' := [(8, .int (nI (ct (supP f k t p a b) o + 1))), (10, .int (nI u)), (9, .int (nI o)), (7, .int (nI E - nI 1)), (6, .int (domI f k a b)), (0, .ref (w.2.2.2 2)), (1, .int (nI k)), (2, .int (nI t)), (3, .int (nI p)), (4, .int a), (5, .int b)]) hx hb dX1_supportFor_109 hl (k := 1) rfl (g_inc (ct (supP f k t p a b) o) 1) (by decide) rfl (fun ls hl => ?_)
            refine lv_iinc (v := nI (o + 1)) (lv' := [(9, .int (nI (o + 1))), (8, .int (nI (ct (supP f k t p a b) o + 1))), (10, .int (nI u)), (7, .int (nI E - nI 1)), (6, .int (domI f k a b)), (0, .ref (w.2.2.2 2)), (1, .int (nI k)), (2, .int (nI t)), (3, .int (nI p)), (4, .int a), (5, .int b)]) hx hb dX1_supportFor_112 hl (k := 2) rfl (g_inc o 1) (by decide) rfl (fun ls hl => ?_)
            refine lv_goto (tgt := 42) hx hb dX1_supportFor_115 (by decide) ?_
            refine ih ls ?_ (by omega)
            rw [(show ct (supP f k t p a b) (o + 1) = ct (supP f k t p a b) o + 1 from by first | exact ct_n (fun q => (of_decide_eq_true q).2.1 c76) | exact ct_n (fun q => c88 (of_decide_eq_true q).2.2.1) | exact ct_n (fun q => c106 (by have := (of_decide_eq_true q).2.2.2; rwa [eu, nI_clamp (by omega)] at this)) | exact ct_y (decide_eq_true ⟨hio, c76, c88, by rw [eu, nI_clamp (by omega)]; exact c106⟩))]
            exact lv_sub hl [1, 0, 3, 4, 5, 6, 7, 8, 9, 10] rfl
  · intro ls hl hio
    refine lv_iload hx hb dX1_supportFor_42 (lv_at hl 1 rfl) ?_
    refine lv_iload hx hb dX1_supportFor_44 (lv_at hl 2 rfl) ?_
    refine lv_icmp_gt (tgt := 118) hx hb dX1_supportFor_46 (by decide) (fun c46 => ?_) (fun c46 => ?_)
    · skip
      have c46 : E ≤ E2 := (g_pred (by omega) (by omega)).mp c46
      refine lv_iload hx hb dX1_supportFor_118 (lv_at hl 0 rfl) ?_
      exact g_iret G (by unfold sup; rw [← hEE]; rcases hE3.2.2.2 with h | h; rw [h]; rw [sup_0 (by omega), sup_0 (by omega)]) dX1_supportFor_120
    · skip
      have c46 : ¬ (E ≤ E2) := fun q => c46 ((g_pred (by omega) (by omega)).mpr q)
      exact absurd c46 (by omega)
theorem ok_X1_useOf : gOK yX1_useOf cX1_useOf 11 (some .int) 5 := ⟨gm_97, gm_86, by decide +kernel⟩
set_option maxRecDepth 100000 in
set_option maxHeartbeats 4000000 in
theorem c_X1_useOf (l : Launch) (w : GP) (f : CS) (t : Nat) (p : Nat) (x : Int32) (a : Int32) (b : Int32) (hI : gI f) (ht : t < 18) (hp : p < 12) : Met l yX1_useOf (gws yX1_useOf cX1_useOf 11 (some .int)) ({ frames := 3, cells := 0, slots := 0, locals := 75 }) (gPc w f [.ref (w.2.2.2 2), .int (nI t), .int (nI p), .int x, .int a, .int b]) (gRd (.int (useF f t p x a b))) 0 0 (fun _ => False) := by
  refine g_read (by decide) (Nat.le_of_ble_eq_true rfl) ?_
  intro P_ E_ S_ M_ B_ T_ C_ ls G hV hl
  obtain ⟨hx, hb, hml, hown, hts⟩ := id G.1
  obtain ⟨⟨hT, hT24⟩, ⟨hC, hC12⟩, ⟨hD, hD6⟩, hLn⟩ := id hI
  have hl : lv_has ls 11 [(0, .ref (w.2.2.2 2)), (1, .int (nI t)), (2, .int (nI p)), (3, .int x), (4, .int a), (5, .int b)] := hl
  refine lv_aload_n hx hb dX1_useOf_0 rfl (lv_at hl 0 rfl) ?_
  refine g_get hx hb hts hown hV 2 0 (by decide) (v := .ref (w.2.2.2 1)) rfl rfl gin1 (by decide) gm_70 (rfl) dX1_useOf_1 ?_
  refine lv_iload_n hx hb dX1_useOf_4 rfl (lv_at hl 1 rfl) ?_
  refine lv_iconst (v := nI 3) hx hb dX1_useOf_5 (by decide) ?_
  refine g_iremn hx hb (by omega) (by omega) (by omega) dX1_useOf_6 ?_
  refine lv_iload_n hx hb dX1_useOf_7 rfl (lv_at hl 3 rfl) ?_
  refine g_callV (As := [.int (nI (t % 3)), .int x]) (rest := []) G.1 hV 1 (by decide) rfl rfl ok_X0_canBe gm_81 gm_82 gm_80 (c_X0_canBe l w f (t % 3) x hI (by omega)) ⟨rfl, rfl⟩ ⟨Nat.le_of_ble_eq_true rfl, Nat.le_of_ble_eq_true rfl⟩ rfl hl.1 rfl (Nat.le_of_ble_eq_true rfl) ⟨Nat.zero_le _, Nat.zero_le _⟩ dX1_useOf_8 ?_
  refine lv_istore (lv' := [(6, .int (cb f (t % 3) x)), (0, .ref (w.2.2.2 2)), (1, .int (nI t)), (2, .int (nI p)), (3, .int x), (4, .int a), (5, .int b)]) hx hb dX1_useOf_11 hl (by decide) rfl (fun ls hl => ?_)
  refine lv_iload hx hb dX1_useOf_13 (lv_at hl 0 rfl) ?_
  refine g_callS (As := [.int (cb f (t % 3) x)]) (rest := []) G.1 hV ok_J6_bitCount_0f7a4 gm_28 gm_74 (c_J6_bitCount_0f7a4 l w f (cb f (t % 3) x)  ) ⟨rfl, rfl⟩ ⟨Nat.le_of_ble_eq_true rfl, Nat.le_of_ble_eq_true rfl⟩ rfl hl.1 rfl (Nat.le_of_ble_eq_true rfl) ⟨Nat.zero_le _, Nat.zero_le _⟩ dX1_useOf_15 ?_
  refine lv_iconst (v := nI 2) hx hb dX1_useOf_18 (by decide) ?_
  refine lv_icmp_ge (tgt := 28) hx hb dX1_useOf_19 (by decide) (fun c19 => ?_) (fun c19 => ?_)
  · skip
    have c19 : 2 ≤ (pcn (cb f (t % 3) x)) := (g_le (by omega) pcn_lt).mp c19
    refine lv_iconst (v := -1) hx hb dX1_useOf_28 (by decide) ?_
    refine lv_istore (lv' := [(7, .int (-1)), (6, .int (cb f (t % 3) x)), (0, .ref (w.2.2.2 2)), (1, .int (nI t)), (2, .int (nI p)), (3, .int x), (4, .int a), (5, .int b)]) hx hb dX1_useOf_29 hl (by decide) rfl (fun ls hl => ?_)
    refine lv_iconst (v := -1) hx hb dX1_useOf_31 (by decide) ?_
    refine lv_istore (lv' := [(8, .int (-1)), (7, .int (-1)), (6, .int (cb f (t % 3) x)), (0, .ref (w.2.2.2 2)), (1, .int (nI t)), (2, .int (nI p)), (3, .int x), (4, .int a), (5, .int b)]) hx hb dX1_useOf_32 hl (by decide) rfl (fun ls hl => ?_)
    refine lv_iconst (v := nI 0) hx hb dX1_useOf_34 (by decide) ?_
    refine lv_istore (lv' := [(9, .int (nI 0)), (8, .int (-1)), (7, .int (-1)), (6, .int (cb f (t % 3) x)), (0, .ref (w.2.2.2 2)), (1, .int (nI t)), (2, .int (nI p)), (3, .int x), (4, .int a), (5, .int b)]) hx hb dX1_useOf_35 hl (by decide) rfl (fun ls hl => ?_)
    refine g_for (P := fun k => ∀ (ls : Array Slot), lv_has ls 11 [(7, .int ((bst f t p (cb f (t % 3) x) a b k).1)), (8, .int ((bst f t p (cb f (t % 3) x) a b k).2)), (9, .int (nI k)), (6, .int (cb f (t % 3) x)), (0, .ref (w.2.2.2 2)), (1, .int (nI t)), (2, .int (nI p)), (3, .int x), (4, .int a), (5, .int b)] → W P_ l E_ _ S_ M_ _ B_ T_ C_ S_.heap [] 0 0 _ (F0 M_ 37 ls [])) (nT f) ?_ ?_ 0 (Nat.zero_le _) ls (lv_sub hl [2, 1, 0, 3, 4, 5, 6, 7, 8, 9] rfl)
    · intro k hk ih ls hl
      refine lv_iload hx hb dX1_useOf_37 (lv_at hl 2 rfl) ?_
      refine lv_aload_n hx hb dX1_useOf_39 rfl (lv_at hl 4 rfl) ?_
      refine g_get hx hb hts hown hV 2 0 (by decide) (v := .ref (w.2.2.2 1)) rfl rfl gin1 (by decide) gm_70 (rfl) dX1_useOf_40 ?_
      refine g_get hx hb hts hown hV 1 1 (by decide) (v := .int (nI (nT f))) rfl rfl gin0 (by decide) gm_89 (by rw [← hT]; rfl) dX1_useOf_43 ?_
      refine lv_icmp_ge (tgt := 94) hx hb dX1_useOf_46 (by decide) (fun c46 => ?_) (fun c46 => ?_)
      · skip
        have c46 : (nT f) ≤ k := (g_le (by omega) (by omega)).mp c46
        exact absurd c46 (by omega)
      · skip
        have c46 : ¬ ((nT f) ≤ k) := fun q => c46 ((g_le (by omega) (by omega)).mpr q)
        refine lv_iload hx hb dX1_useOf_49 (lv_at hl 3 rfl) ?_
        refine lv_iload hx hb dX1_useOf_51 (lv_at hl 2 rfl) ?_
        refine g_callN (As := [.int (cb f (t % 3) x), .int (nI k)]) (rest := []) G.1 hV ok_X2_has gm_17 hV.1.2.2 (c_X2_has l w f (cb f (t % 3) x) (nI k)  ) ⟨rfl, rfl⟩ ⟨Nat.le_of_ble_eq_true rfl, Nat.le_of_ble_eq_true rfl⟩ rfl hl.1 rfl (Nat.le_of_ble_eq_true rfl) ⟨Nat.zero_le _, Nat.zero_le _⟩ dX1_useOf_53 ?_
        refine lv_if_eq (tgt := 88) hx hb dX1_useOf_56 (by decide) (fun c56 => ?_) (fun c56 => ?_)
        · skip
          have c56 : ¬ (hs (cb f (t % 3) x) (nI k) = true) := g_if0.mp c56
          refine lv_iinc (v := nI (k + 1)) (lv' := [(9, .int (nI (k + 1))), (7, .int ((bst f t p (cb f (t % 3) x) a b k).1)), (8, .int ((bst f t p (cb f (t % 3) x) a b k).2)), (6, .int (cb f (t % 3) x)), (0, .ref (w.2.2.2 2)), (1, .int (nI t)), (2, .int (nI p)), (3, .int x), (4, .int a), (5, .int b)]) hx hb dX1_useOf_88 hl (k := 2) rfl (g_inc k 1) (by decide) rfl (fun ls hl => ?_)
          refine lv_goto (tgt := 37) hx hb dX1_useOf_91 (by decide) ?_
          refine ih ls ?_
          rw [(show (bst f t p (cb f (t % 3) x) a b (k + 1)).1 = (bst f t p (cb f (t % 3) x) a b k).1 from by first | (show Prod.fst (if _ then _ else _ : Int32 × Int32) = _; rw [if_neg (fun q => c56 q.1)]) | (show Prod.fst (if _ then _ else _ : Int32 × Int32) = _; rw [if_neg (fun q => absurd q.2 (Int32.not_lt.mpr c77))]) | (show Prod.fst (if _ then _ else _ : Int32 × Int32) = _; rw [if_pos ⟨c56, Int32.not_le.mp c77⟩])), (show (bst f t p (cb f (t % 3) x) a b (k + 1)).2 = (bst f t p (cb f (t % 3) x) a b k).2 from by first | (show Prod.snd (if _ then _ else _ : Int32 × Int32) = _; rw [if_neg (fun q => c56 q.1)]) | (show Prod.snd (if _ then _ else _ : Int32 × Int32) = _; rw [if_neg (fun q => absurd q.2 (Int32.not_lt.mpr c77))]) | (show Prod.snd (if _ then _ else _ : Int32 × Int32) = _; rw [if_pos ⟨c56, Int32.not_le.mp c77⟩]))]
          exact lv_sub hl [1, 2, 0, 3, 4, 5, 6, 7, 8, 9] rfl
        · skip
          have c56 : hs (cb f (t % 3) x) (nI k) = true := g_if1.mp c56
          refine lv_aload_n hx hb dX1_useOf_59 rfl (lv_at hl 4 rfl) ?_
          refine lv_iload hx hb dX1_useOf_60 (lv_at hl 2 rfl) ?_
          refine lv_iload_n hx hb dX1_useOf_62 rfl (lv_at hl 5 rfl) ?_
          refine lv_iload_n hx hb dX1_useOf_63 rfl (lv_at hl 6 rfl) ?_
          refine lv_iload hx hb dX1_useOf_64 (lv_at hl 8 rfl) ?_
          refine lv_iload hx hb dX1_useOf_66 (lv_at hl 9 rfl) ?_
          refine g_callV (As := [.int (nI k), .int (nI t), .int (nI p), .int a, .int b]) (rest := []) G.1 hV 2 (by decide) rfl rfl ok_X1_supportFor gm_91 gm_92 gm_90 (c_X1_supportFor l w f k t p a b hI (by omega) (by omega) (by omega)) ⟨rfl, rfl⟩ ⟨Nat.le_of_ble_eq_true rfl, Nat.le_of_ble_eq_true rfl⟩ rfl hl.1 rfl (Nat.le_of_ble_eq_true rfl) ⟨Nat.zero_le _, Nat.zero_le _⟩ dX1_useOf_68 ?_
          refine lv_istore (lv' := [(10, .int (nI (sup f k t p a b))), (7, .int ((bst f t p (cb f (t % 3) x) a b k).1)), (8, .int ((bst f t p (cb f (t % 3) x) a b k).2)), (9, .int (nI k)), (6, .int (cb f (t % 3) x)), (0, .ref (w.2.2.2 2)), (1, .int (nI t)), (2, .int (nI p)), (3, .int x), (4, .int a), (5, .int b)]) hx hb dX1_useOf_71 hl (by decide) rfl (fun ls hl => ?_)
          refine lv_iload hx hb dX1_useOf_73 (lv_at hl 0 rfl) ?_
          refine lv_iload hx hb dX1_useOf_75 (lv_at hl 2 rfl) ?_
          refine lv_icmp_le (tgt := 88) hx hb dX1_useOf_77 (by decide) (fun c77 => ?_) (fun c77 => ?_)
          · skip
            refine lv_iinc (v := nI (k + 1)) (lv' := [(9, .int (nI (k + 1))), (10, .int (nI (sup f k t p a b))), (7, .int ((bst f t p (cb f (t % 3) x) a b k).1)), (8, .int ((bst f t p (cb f (t % 3) x) a b k).2)), (6, .int (cb f (t % 3) x)), (0, .ref (w.2.2.2 2)), (1, .int (nI t)), (2, .int (nI p)), (3, .int x), (4, .int a), (5, .int b)]) hx hb dX1_useOf_88 hl (k := 3) rfl (g_inc k 1) (by decide) rfl (fun ls hl => ?_)
            refine lv_goto (tgt := 37) hx hb dX1_useOf_91 (by decide) ?_
            refine ih ls ?_
            rw [(show (bst f t p (cb f (t % 3) x) a b (k + 1)).1 = (bst f t p (cb f (t % 3) x) a b k).1 from by first | (show Prod.fst (if _ then _ else _ : Int32 × Int32) = _; rw [if_neg (fun q => c56 q.1)]) | (show Prod.fst (if _ then _ else _ : Int32 × Int32) = _; rw [if_neg (fun q => absurd q.2 (Int32.not_lt.mpr c77))]) | (show Prod.fst (if _ then _ else _ : Int32 × Int32) = _; rw [if_pos ⟨c56, Int32.not_le.mp c77⟩])), (show (bst f t p (cb f (t % 3) x) a b (k + 1)).2 = (bst f t p (cb f (t % 3) x) a b k).2 from by first | (show Prod.snd (if _ then _ else _ : Int32 × Int32) = _; rw [if_neg (fun q => c56 q.1)]) | (show Prod.snd (if _ then _ else _ : Int32 × Int32) = _; rw [if_neg (fun q => absurd q.2 (Int32.not_lt.mpr c77))]) | (show Prod.snd (if _ then _ else _ : Int32 × Int32) = _; rw [if_pos ⟨c56, Int32.not_le.mp c77⟩]))]
            exact lv_sub hl [2, 3, 0, 4, 5, 6, 7, 8, 9, 10] rfl
          · skip
            refine lv_iload hx hb dX1_useOf_80 (lv_at hl 3 rfl) ?_
            refine lv_istore (lv' := [(7, .int (nI k)), (10, .int (nI (sup f k t p a b))), (8, .int ((bst f t p (cb f (t % 3) x) a b k).2)), (9, .int (nI k)), (6, .int (cb f (t % 3) x)), (0, .ref (w.2.2.2 2)), (1, .int (nI t)), (2, .int (nI p)), (3, .int x), (4, .int a), (5, .int b)]) hx hb dX1_useOf_82 hl (by decide) rfl (fun ls hl => ?_)
            refine lv_iload hx hb dX1_useOf_84 (lv_at hl 1 rfl) ?_
            refine lv_istore (lv' := [(8, .int (nI (sup f k t p a b))), (7, .int (nI k)), (10, .int (nI (sup f k t p a b))), (9, .int (nI k)), (6, .int (cb f (t % 3) x)), (0, .ref (w.2.2.2 2)), (1, .int (nI t)), (2, .int (nI p)), (3, .int x), (4, .int a), (5, .int b)]) hx hb dX1_useOf_86 hl (by decide) rfl (fun ls hl => ?_)
            refine lv_iinc (v := nI (k + 1)) (lv' := [(9, .int (nI (k + 1))), (8, .int (nI (sup f k t p a b))), (7, .int (nI k)), (10, .int (nI (sup f k t p a b))), (6, .int (cb f (t % 3) x)), (0, .ref (w.2.2.2 2)), (1, .int (nI t)), (2, .int (nI p)), (3, .int x), (4, .int a), (5, .int b)]) hx hb dX1_useOf_88 hl (k := 3) rfl (g_inc k 1) (by decide) rfl (fun ls hl => ?_)
            refine lv_goto (tgt := 37) hx hb dX1_useOf_91 (by decide) ?_
            refine ih ls ?_
            rw [(show (bst f t p (cb f (t % 3) x) a b (k + 1)).1 = nI k from by first | (show Prod.fst (if _ then _ else _ : Int32 × Int32) = _; rw [if_neg (fun q => c56 q.1)]) | (show Prod.fst (if _ then _ else _ : Int32 × Int32) = _; rw [if_neg (fun q => absurd q.2 (Int32.not_lt.mpr c77))]) | (show Prod.fst (if _ then _ else _ : Int32 × Int32) = _; rw [if_pos ⟨c56, Int32.not_le.mp c77⟩])), (show (bst f t p (cb f (t % 3) x) a b (k + 1)).2 = nI (sup f k t p a b) from by first | (show Prod.snd (if _ then _ else _ : Int32 × Int32) = _; rw [if_neg (fun q => c56 q.1)]) | (show Prod.snd (if _ then _ else _ : Int32 × Int32) = _; rw [if_neg (fun q => absurd q.2 (Int32.not_lt.mpr c77))]) | (show Prod.snd (if _ then _ else _ : Int32 × Int32) = _; rw [if_pos ⟨c56, Int32.not_le.mp c77⟩]))]
            exact lv_sub hl [2, 1, 0, 4, 5, 6, 7, 8, 9, 10] rfl
    · intro ls hl
      refine lv_iload hx hb dX1_useOf_37 (lv_at hl 2 rfl) ?_
      refine lv_aload_n hx hb dX1_useOf_39 rfl (lv_at hl 4 rfl) ?_
      refine g_get hx hb hts hown hV 2 0 (by decide) (v := .ref (w.2.2.2 1)) rfl rfl gin1 (by decide) gm_70 (rfl) dX1_useOf_40 ?_
      refine g_get hx hb hts hown hV 1 1 (by decide) (v := .int (nI (nT f))) rfl rfl gin0 (by decide) gm_89 (by rw [← hT]; rfl) dX1_useOf_43 ?_
      refine lv_icmp_ge (tgt := 94) hx hb dX1_useOf_46 (by decide) (fun c46 => ?_) (fun c46 => ?_)
      · skip
        have c46 : (nT f) ≤ (nT f) := (g_le (by omega) (by omega)).mp c46
        refine lv_iload hx hb dX1_useOf_94 (lv_at hl 0 rfl) ?_
        exact g_iret G (by unfold useF; rw [if_neg (by omega)]) dX1_useOf_96
      · skip
        have c46 : ¬ ((nT f) ≤ (nT f)) := fun q => c46 ((g_le (by omega) (by omega)).mpr q)
        exact absurd c46 (by omega)
  · skip
    have c19 : ¬ (2 ≤ (pcn (cb f (t % 3) x))) := fun q => c19 ((g_le (by omega) pcn_lt).mpr q)
    refine lv_iload hx hb dX1_useOf_22 (lv_at hl 0 rfl) ?_
    refine g_callS (As := [.int (cb f (t % 3) x)]) (rest := []) G.1 hV ok_X1_onlyOneOf gm_85 gm_84 (c_X1_onlyOneOf l w f (cb f (t % 3) x)  ) ⟨rfl, rfl⟩ ⟨Nat.le_of_ble_eq_true rfl, Nat.le_of_ble_eq_true rfl⟩ rfl hl.1 rfl (Nat.le_of_ble_eq_true rfl) ⟨Nat.zero_le _, Nat.zero_le _⟩ dX1_useOf_24 ?_
    exact g_iret G (by unfold useF; rw [if_pos (by omega)]) dX1_useOf_27
theorem ok_X1_usesChangedByMoving : gOK yX1_usesChangedByMoving cX1_usesChangedByMoving 6 (some .int) 2 := ⟨gm_353, gm_86, by decide +kernel⟩
set_option maxRecDepth 100000 in
set_option maxHeartbeats 4000000 in
theorem c_X1_usesChangedByMoving (l : Launch) (w : GP) (f : CS) (a : Int32) (b : Int32) (hI : gI f)  : Met l yX1_usesChangedByMoving (gws yX1_usesChangedByMoving cX1_usesChangedByMoving 6 (some .int)) ({ frames := 4, cells := 0, slots := 0, locals := 105 }) (gPc w f [.ref (w.2.2.2 2), .int a, .int b]) (gRd (.int (nI (chN f a b)))) 0 0 (fun _ => False) := by
  refine g_read (by decide) (Nat.le_of_ble_eq_true rfl) ?_
  intro P_ E_ S_ M_ B_ T_ C_ ls G hV hl
  obtain ⟨hx, hb, hml, hown, hts⟩ := id G.1
  obtain ⟨⟨hT, hT24⟩, ⟨hC, hC12⟩, ⟨hD, hD6⟩, hLn⟩ := id hI
  have hl : lv_has ls 6 [(0, .ref (w.2.2.2 2)), (1, .int a), (2, .int b)] := hl
  refine lv_iconst (v := nI 0) hx hb dX1_usesChangedByMoving_0 (by decide) ?_
  refine lv_istore_n (lv' := [(3, .int (nI 0)), (0, .ref (w.2.2.2 2)), (1, .int a), (2, .int b)]) hx hb dX1_usesChangedByMoving_1 rfl hl (by decide) rfl (fun ls hl => ?_)
  refine lv_iconst (v := nI 0) hx hb dX1_usesChangedByMoving_2 (by decide) ?_
  refine lv_istore (lv' := [(4, .int (nI 0)), (3, .int (nI 0)), (0, .ref (w.2.2.2 2)), (1, .int a), (2, .int b)]) hx hb dX1_usesChangedByMoving_3 hl (by decide) rfl (fun ls hl => ?_)
  refine g_for (P := fun t => ∀ (ls : Array Slot), lv_has ls 6 [(3, .int (nI (sm (fun t => ct (chP f a b t) (nL f t)) t))), (4, .int (nI t)), (0, .ref (w.2.2.2 2)), (1, .int a), (2, .int b)] → W P_ l E_ _ S_ M_ _ B_ T_ C_ S_.heap [] 0 0 _ (F0 M_ 5 ls [])) (nD f * 3) ?_ ?_ 0 (Nat.zero_le _) ls (lv_sub hl [1, 0, 2, 3, 4] rfl)
  · intro t ht ih ls hl
    refine lv_iload hx hb dX1_usesChangedByMoving_5 (lv_at hl 1 rfl) ?_
    refine lv_aload_n hx hb dX1_usesChangedByMoving_7 rfl (lv_at hl 2 rfl) ?_
    refine g_callV (As := []) (rest := [.int (nI t)]) G.1 hV 2 (by decide) rfl rfl ok_X1_textCount gm_103 gm_104 gm_102 (c_X1_textCount l w f  hI ) ⟨rfl, rfl⟩ ⟨Nat.le_of_ble_eq_true rfl, Nat.le_of_ble_eq_true rfl⟩ rfl hl.1 rfl (Nat.le_of_ble_eq_true rfl) ⟨Nat.zero_le _, Nat.zero_le _⟩ dX1_usesChangedByMoving_8 ?_
    refine lv_icmp_ge (tgt := 77) hx hb dX1_usesChangedByMoving_11 (by decide) (fun c11 => ?_) (fun c11 => ?_)
    · skip
      have c11 : (nD f * 3) ≤ t := (g_le (by omega) (by omega)).mp c11
      exact absurd c11 (by omega)
    · skip
      have c11 : ¬ ((nD f * 3) ≤ t) := fun q => c11 ((g_le (by omega) (by omega)).mpr q)
      have hLt := hLn t (by omega)
      refine lv_iconst (v := nI 0) hx hb dX1_usesChangedByMoving_14 (by decide) ?_
      refine lv_istore (lv' := [(5, .int (nI 0)), (3, .int (nI (sm (fun t => ct (chP f a b t) (nL f t)) t))), (4, .int (nI t)), (0, .ref (w.2.2.2 2)), (1, .int a), (2, .int b)]) hx hb dX1_usesChangedByMoving_15 hl (by decide) rfl (fun ls hl => ?_)
      refine g_for (P := fun k => ∀ (ls : Array Slot), lv_has ls 6 [(3, .int (nI (sm (fun t => ct (chP f a b t) (nL f t)) t + ct (chP f a b t) k))), (5, .int (nI k)), (4, .int (nI t)), (0, .ref (w.2.2.2 2)), (1, .int a), (2, .int b)] → W P_ l E_ _ S_ M_ _ B_ T_ C_ S_.heap [] 0 0 _ (F0 M_ 17 ls [])) (nL f t) ?_ ?_ 0 (Nat.zero_le _) ls (lv_sub hl [1, 0, 2, 3, 4, 5] rfl)
      · intro k hk ih ls hl
        refine lv_iload hx hb dX1_usesChangedByMoving_17 (lv_at hl 1 rfl) ?_
        refine lv_aload_n hx hb dX1_usesChangedByMoving_19 rfl (lv_at hl 3 rfl) ?_
        refine g_get hx hb hts hown hV 2 2 (by decide) (v := .ref (w.2.2.2 16)) rfl rfl gin1 (by decide) gm_65 (rfl) dX1_usesChangedByMoving_20 ?_
        refine lv_iload hx hb dX1_usesChangedByMoving_23 (lv_at hl 2 rfl) ?_
        refine g_ialn (a := 11) (n := 18) hx hb hV 16 (by decide) (by decide) rfl rfl (i := t) (by omega) dX1_usesChangedByMoving_25 ?_
        rw [(hLn t (by omega)).1]
        refine lv_icmp_ge (tgt := 71) hx hb dX1_usesChangedByMoving_26 (by decide) (fun c26 => ?_) (fun c26 => ?_)
        · skip
          have c26 : (nL f t) ≤ k := (g_le (by omega) (by omega)).mp c26
          exact absurd c26 (by omega)
        · skip
          have c26 : ¬ ((nL f t) ≤ k) := fun q => c26 ((g_le (by omega) (by omega)).mpr q)
          refine lv_aload_n hx hb dX1_usesChangedByMoving_29 rfl (lv_at hl 3 rfl) ?_
          refine lv_iload hx hb dX1_usesChangedByMoving_30 (lv_at hl 2 rfl) ?_
          refine lv_iload hx hb dX1_usesChangedByMoving_32 (lv_at hl 1 rfl) ?_
          refine lv_aload_n hx hb dX1_usesChangedByMoving_34 rfl (lv_at hl 3 rfl) ?_
          refine g_get hx hb hts hown hV 2 4 (by decide) (v := .ref (w.2.2.2 18)) rfl rfl gin1 (by decide) gm_68 (rfl) dX1_usesChangedByMoving_35 ?_
          refine lv_iload hx hb dX1_usesChangedByMoving_38 (lv_at hl 2 rfl) ?_
          refine g_row (n := 18) (b := 19) hx hb hV 18 (by decide) rfl (i := t) (by omega) (by decide) dX1_usesChangedByMoving_40 ?_
          refine lv_iload hx hb dX1_usesChangedByMoving_41 (lv_at hl 1 rfl) ?_
          refine g_ialn (a := 20 + t) (n := 12) hx hb hV (19 + t) (by omega) (by omega) (gid_19 (by omega)) (gn_19 (by omega)) (i := k) (by omega) dX1_usesChangedByMoving_43 ?_
          refine lv_iload_n hx hb dX1_usesChangedByMoving_44 rfl (lv_at hl 4 rfl) ?_
          refine lv_iload_n hx hb dX1_usesChangedByMoving_45 rfl (lv_at hl 5 rfl) ?_
          refine g_callV (As := [.int (nI t), .int (nI k), .int (f (20 + t) k), .int a, .int b]) (rest := []) G.1 hV 2 (by decide) rfl rfl ok_X1_useOf gm_95 gm_96 gm_94 (c_X1_useOf l w f t k (f (20 + t) k) a b hI (by omega) (by omega)) ⟨rfl, rfl⟩ ⟨Nat.le_of_ble_eq_true rfl, Nat.le_of_ble_eq_true rfl⟩ rfl hl.1 rfl (Nat.le_of_ble_eq_true rfl) ⟨Nat.zero_le _, Nat.zero_le _⟩ dX1_usesChangedByMoving_46 ?_
          refine lv_aload_n hx hb dX1_usesChangedByMoving_49 rfl (lv_at hl 3 rfl) ?_
          refine g_get hx hb hts hown hV 2 5 (by decide) (v := .ref (w.2.2.2 37)) rfl rfl gin1 (by decide) gm_69 (rfl) dX1_usesChangedByMoving_50 ?_
          refine lv_iload hx hb dX1_usesChangedByMoving_53 (lv_at hl 2 rfl) ?_
          refine g_row (n := 18) (b := 38) hx hb hV 37 (by decide) rfl (i := t) (by omega) (by decide) dX1_usesChangedByMoving_55 ?_
          refine lv_iload hx hb dX1_usesChangedByMoving_56 (lv_at hl 1 rfl) ?_
          refine g_ialn (a := 40 + t) (n := 12) hx hb hV (38 + t) (by omega) (by omega) (gid_38 (by omega)) (gn_38 (by omega)) (i := k) (by omega) dX1_usesChangedByMoving_58 ?_
          refine lv_icmp_eq (tgt := 65) hx hb dX1_usesChangedByMoving_59 (by decide) (fun c59 => ?_) (fun c59 => ?_)
          · skip
            refine lv_iinc (v := nI (k + 1)) (lv' := [(5, .int (nI (k + 1))), (3, .int (nI (sm (fun t => ct (chP f a b t) (nL f t)) t + ct (chP f a b t) k))), (4, .int (nI t)), (0, .ref (w.2.2.2 2)), (1, .int a), (2, .int b)]) hx hb dX1_usesChangedByMoving_65 hl (k := 1) rfl (g_inc k 1) (by decide) rfl (fun ls hl => ?_)
            refine lv_goto (tgt := 17) hx hb dX1_usesChangedByMoving_68 (by decide) ?_
            refine ih ls ?_
            rw [(show sm (fun t => ct (chP f a b t) (nL f t)) t + ct (chP f a b t) (k + 1) = sm (fun t => ct (chP f a b t) (nL f t)) t + ct (chP f a b t) k from by first | (rw [ct_n (by simp [chP, c59])]; done) | (rw [ct_y (by simp [chP, c59])]; rfl))]
            exact lv_sub hl [1, 0, 2, 3, 4, 5] rfl
          · skip
            refine lv_iinc (v := nI (sm (fun t => ct (chP f a b t) (nL f t)) t + ct (chP f a b t) k + 1)) (lv' := [(3, .int (nI (sm (fun t => ct (chP f a b t) (nL f t)) t + ct (chP f a b t) k + 1))), (5, .int (nI k)), (4, .int (nI t)), (0, .ref (w.2.2.2 2)), (1, .int a), (2, .int b)]) hx hb dX1_usesChangedByMoving_62 hl (k := 0) rfl (g_inc (sm (fun t => ct (chP f a b t) (nL f t)) t + ct (chP f a b t) k) 1) (by decide) rfl (fun ls hl => ?_)
            refine lv_iinc (v := nI (k + 1)) (lv' := [(5, .int (nI (k + 1))), (3, .int (nI (sm (fun t => ct (chP f a b t) (nL f t)) t + ct (chP f a b t) k + 1))), (4, .int (nI t)), (0, .ref (w.2.2.2 2)), (1, .int a), (2, .int b)]) hx hb dX1_usesChangedByMoving_65 hl (k := 1) rfl (g_inc k 1) (by decide) rfl (fun ls hl => ?_)
            refine lv_goto (tgt := 17) hx hb dX1_usesChangedByMoving_68 (by decide) ?_
            refine ih ls ?_
            rw [(show sm (fun t => ct (chP f a b t) (nL f t)) t + ct (chP f a b t) (k + 1) = sm (fun t => ct (chP f a b t) (nL f t)) t + ct (chP f a b t) k + 1 from by first | (rw [ct_n (by simp [chP, c59])]; done) | (rw [ct_y (by simp [chP, c59])]; rfl))]
            exact lv_sub hl [1, 0, 2, 3, 4, 5] rfl
      · intro ls hl
        refine lv_iload hx hb dX1_usesChangedByMoving_17 (lv_at hl 1 rfl) ?_
        refine lv_aload_n hx hb dX1_usesChangedByMoving_19 rfl (lv_at hl 3 rfl) ?_
        refine g_get hx hb hts hown hV 2 2 (by decide) (v := .ref (w.2.2.2 16)) rfl rfl gin1 (by decide) gm_65 (rfl) dX1_usesChangedByMoving_20 ?_
        refine lv_iload hx hb dX1_usesChangedByMoving_23 (lv_at hl 2 rfl) ?_
        refine g_ialn (a := 11) (n := 18) hx hb hV 16 (by decide) (by decide) rfl rfl (i := t) (by omega) dX1_usesChangedByMoving_25 ?_
        rw [(hLn t (by omega)).1]
        refine lv_icmp_ge (tgt := 71) hx hb dX1_usesChangedByMoving_26 (by decide) (fun c26 => ?_) (fun c26 => ?_)
        · skip
          have c26 : (nL f t) ≤ (nL f t) := (g_le (by omega) (by omega)).mp c26
          refine lv_iinc (v := nI (t + 1)) (lv' := [(4, .int (nI (t + 1))), (3, .int (nI (sm (fun t => ct (chP f a b t) (nL f t)) t + ct (chP f a b t) (nL f t)))), (5, .int (nI (nL f t))), (0, .ref (w.2.2.2 2)), (1, .int a), (2, .int b)]) hx hb dX1_usesChangedByMoving_71 hl (k := 2) rfl (g_inc t 1) (by decide) rfl (fun ls hl => ?_)
          refine lv_goto (tgt := 5) hx hb dX1_usesChangedByMoving_74 (by decide) ?_
          refine ih ls ?_
          rw [(show sm (fun t => ct (chP f a b t) (nL f t)) (t + 1) = sm (fun t => ct (chP f a b t) (nL f t)) t + ct (chP f a b t) (nL f t) from rfl)]
          exact lv_sub hl [1, 0, 3, 4, 5] rfl
        · skip
          have c26 : ¬ ((nL f t) ≤ (nL f t)) := fun q => c26 ((g_le (by omega) (by omega)).mpr q)
          exact absurd c26 (by omega)
  · intro ls hl
    refine lv_iload hx hb dX1_usesChangedByMoving_5 (lv_at hl 1 rfl) ?_
    refine lv_aload_n hx hb dX1_usesChangedByMoving_7 rfl (lv_at hl 2 rfl) ?_
    refine g_callV (As := []) (rest := [.int (nI (nD f * 3))]) G.1 hV 2 (by decide) rfl rfl ok_X1_textCount gm_103 gm_104 gm_102 (c_X1_textCount l w f  hI ) ⟨rfl, rfl⟩ ⟨Nat.le_of_ble_eq_true rfl, Nat.le_of_ble_eq_true rfl⟩ rfl hl.1 rfl (Nat.le_of_ble_eq_true rfl) ⟨Nat.zero_le _, Nat.zero_le _⟩ dX1_usesChangedByMoving_8 ?_
    refine lv_icmp_ge (tgt := 77) hx hb dX1_usesChangedByMoving_11 (by decide) (fun c11 => ?_) (fun c11 => ?_)
    · skip
      have c11 : (nD f * 3) ≤ (nD f * 3) := (g_le (by omega) (by omega)).mp c11
      refine lv_iload_n hx hb dX1_usesChangedByMoving_77 rfl (lv_at hl 0 rfl) ?_
      exact g_iret G (rfl) dX1_usesChangedByMoving_78
    · skip
      have c11 : ¬ ((nD f * 3) ≤ (nD f * 3)) := fun q => c11 ((g_le (by omega) (by omega)).mpr q)
      exact absurd c11 (by omega)
theorem ok_X1_usesAmongIn : gOK yX1_usesAmongIn cX1_usesAmongIn 6 (some .int) 2 := ⟨gm_114, gm_86, by decide +kernel⟩
set_option maxRecDepth 100000 in
set_option maxHeartbeats 4000000 in
theorem c_X1_usesAmongIn (l : Launch) (w : GP) (f : CS) (t : Nat) (x : Int32) (hI : gI f) (ht : t < 18) : Met l yX1_usesAmongIn (gws yX1_usesAmongIn cX1_usesAmongIn 6 (some .int)) ({ frames := 1, cells := 0, slots := 0, locals := 21 }) (gPc w f [.ref (w.2.2.2 2), .int (nI t), .int x]) (gRd (.int (nI (uA f t x)))) 0 0 (fun _ => False) := by
  refine g_read (by decide) (Nat.le_of_ble_eq_true rfl) ?_
  intro P_ E_ S_ M_ B_ T_ C_ ls G hV hl
  obtain ⟨hx, hb, hml, hown, hts⟩ := id G.1
  obtain ⟨⟨hT, hT24⟩, ⟨hC, hC12⟩, ⟨hD, hD6⟩, hLn⟩ := id hI
  have hl : lv_has ls 6 [(0, .ref (w.2.2.2 2)), (1, .int (nI t)), (2, .int x)] := hl
  have hLt := hLn t ht
  refine lv_iconst (v := nI 0) hx hb dX1_usesAmongIn_0 (by decide) ?_
  refine lv_istore_n (lv' := [(3, .int (nI 0)), (0, .ref (w.2.2.2 2)), (1, .int (nI t)), (2, .int x)]) hx hb dX1_usesAmongIn_1 rfl hl (by decide) rfl (fun ls hl => ?_)
  refine lv_iconst (v := nI 0) hx hb dX1_usesAmongIn_2 (by decide) ?_
  refine lv_istore (lv' := [(4, .int (nI 0)), (3, .int (nI 0)), (0, .ref (w.2.2.2 2)), (1, .int (nI t)), (2, .int x)]) hx hb dX1_usesAmongIn_3 hl (by decide) rfl (fun ls hl => ?_)
  refine g_for (P := fun k => ∀ (ls : Array Slot), lv_has ls 6 [(3, .int (nI (ct (fun p => decide (¬ f (40 + t) p = -1 ∧ hs x (f (40 + t) p) = true)) k))), (4, .int (nI k)), (0, .ref (w.2.2.2 2)), (1, .int (nI t)), (2, .int x)] → W P_ l E_ _ S_ M_ _ B_ T_ C_ S_.heap [] 0 0 _ (F0 M_ 5 ls [])) (nL f t) ?_ ?_ 0 (Nat.zero_le _) ls (lv_sub hl [1, 0, 2, 3, 4] rfl)
  · intro k hk ih ls hl
    refine lv_iload hx hb dX1_usesAmongIn_5 (lv_at hl 1 rfl) ?_
    refine lv_aload_n hx hb dX1_usesAmongIn_7 rfl (lv_at hl 2 rfl) ?_
    refine g_get hx hb hts hown hV 2 2 (by decide) (v := .ref (w.2.2.2 16)) rfl rfl gin1 (by decide) gm_65 (rfl) dX1_usesAmongIn_8 ?_
    refine lv_iload_n hx hb dX1_usesAmongIn_11 rfl (lv_at hl 3 rfl) ?_
    refine g_ialn (a := 11) (n := 18) hx hb hV 16 (by decide) (by decide) rfl rfl (i := t) (by omega) dX1_usesAmongIn_12 ?_
    rw [(hLn t (by omega)).1]
    refine lv_icmp_ge (tgt := 51) hx hb dX1_usesAmongIn_13 (by decide) (fun c13 => ?_) (fun c13 => ?_)
    · skip
      have c13 : (nL f t) ≤ k := (g_le (by omega) (by omega)).mp c13
      exact absurd c13 (by omega)
    · skip
      have c13 : ¬ ((nL f t) ≤ k) := fun q => c13 ((g_le (by omega) (by omega)).mpr q)
      refine lv_aload_n hx hb dX1_usesAmongIn_16 rfl (lv_at hl 2 rfl) ?_
      refine g_get hx hb hts hown hV 2 5 (by decide) (v := .ref (w.2.2.2 37)) rfl rfl gin1 (by decide) gm_69 (rfl) dX1_usesAmongIn_17 ?_
      refine lv_iload_n hx hb dX1_usesAmongIn_20 rfl (lv_at hl 3 rfl) ?_
      refine g_row (n := 18) (b := 38) hx hb hV 37 (by decide) rfl (i := t) (by omega) (by decide) dX1_usesAmongIn_21 ?_
      refine lv_iload hx hb dX1_usesAmongIn_22 (lv_at hl 1 rfl) ?_
      refine g_ialn (a := 40 + t) (n := 12) hx hb hV (38 + t) (by omega) (by omega) (gid_38 (by omega)) (gn_38 (by omega)) (i := k) (by omega) dX1_usesAmongIn_24 ?_
      refine lv_istore (lv' := [(5, .int (f (40 + t) k)), (3, .int (nI (ct (fun p => decide (¬ f (40 + t) p = -1 ∧ hs x (f (40 + t) p) = true)) k))), (4, .int (nI k)), (0, .ref (w.2.2.2 2)), (1, .int (nI t)), (2, .int x)]) hx hb dX1_usesAmongIn_25 hl (by decide) rfl (fun ls hl => ?_)
      refine lv_iload hx hb dX1_usesAmongIn_27 (lv_at hl 0 rfl) ?_
      refine lv_iconst (v := -1) hx hb dX1_usesAmongIn_29 (by decide) ?_
      refine lv_icmp_eq (tgt := 45) hx hb dX1_usesAmongIn_30 (by decide) (fun c30 => ?_) (fun c30 => ?_)
      · skip
        refine lv_iinc (v := nI (k + 1)) (lv' := [(4, .int (nI (k + 1))), (5, .int (f (40 + t) k)), (3, .int (nI (ct (fun p => decide (¬ f (40 + t) p = -1 ∧ hs x (f (40 + t) p) = true)) k))), (0, .ref (w.2.2.2 2)), (1, .int (nI t)), (2, .int x)]) hx hb dX1_usesAmongIn_45 hl (k := 2) rfl (g_inc k 1) (by decide) rfl (fun ls hl => ?_)
        refine lv_goto (tgt := 5) hx hb dX1_usesAmongIn_48 (by decide) ?_
        refine ih ls ?_
        rw [(show ct (fun p => decide (¬ f (40 + t) p = -1 ∧ hs x (f (40 + t) p) = true)) (k + 1) = ct (fun p => decide (¬ f (40 + t) p = -1 ∧ hs x (f (40 + t) p) = true)) k from by simp [ct, c13, c30])]
        exact lv_sub hl [2, 0, 3, 4, 5] rfl
      · skip
        refine lv_iload_n hx hb dX1_usesAmongIn_33 rfl (lv_at hl 5 rfl) ?_
        refine lv_iload hx hb dX1_usesAmongIn_34 (lv_at hl 0 rfl) ?_
        refine g_callN (As := [.int x, .int (f (40 + t) k)]) (rest := []) G.1 hV ok_X2_has gm_17 hV.1.2.2 (c_X2_has l w f x (f (40 + t) k)  ) ⟨rfl, rfl⟩ ⟨Nat.le_of_ble_eq_true rfl, Nat.le_of_ble_eq_true rfl⟩ rfl hl.1 rfl (Nat.le_of_ble_eq_true rfl) ⟨Nat.zero_le _, Nat.zero_le _⟩ dX1_usesAmongIn_36 ?_
        refine lv_if_eq (tgt := 45) hx hb dX1_usesAmongIn_39 (by decide) (fun c39 => ?_) (fun c39 => ?_)
        · skip
          have c39 : ¬ (hs x (f (40 + t) k) = true) := g_if0.mp c39
          refine lv_iinc (v := nI (k + 1)) (lv' := [(4, .int (nI (k + 1))), (5, .int (f (40 + t) k)), (3, .int (nI (ct (fun p => decide (¬ f (40 + t) p = -1 ∧ hs x (f (40 + t) p) = true)) k))), (0, .ref (w.2.2.2 2)), (1, .int (nI t)), (2, .int x)]) hx hb dX1_usesAmongIn_45 hl (k := 2) rfl (g_inc k 1) (by decide) rfl (fun ls hl => ?_)
          refine lv_goto (tgt := 5) hx hb dX1_usesAmongIn_48 (by decide) ?_
          refine ih ls ?_
          rw [(show ct (fun p => decide (¬ f (40 + t) p = -1 ∧ hs x (f (40 + t) p) = true)) (k + 1) = ct (fun p => decide (¬ f (40 + t) p = -1 ∧ hs x (f (40 + t) p) = true)) k from by simp [ct, c13, c30, c39])]
          exact lv_sub hl [2, 0, 3, 4, 5] rfl
        · skip
          have c39 : hs x (f (40 + t) k) = true := g_if1.mp c39
          refine lv_iinc (v := nI (ct (fun p => decide (¬ f (40 + t) p = -1 ∧ hs x (f (40 + t) p) = true)) k + 1)) (lv' := [(3, .int (nI (ct (fun p => decide (¬ f (40 + t) p = -1 ∧ hs x (f (40 + t) p) = true)) k + 1))), (5, .int (f (40 + t) k)), (4, .int (nI k)), (0, .ref (w.2.2.2 2)), (1, .int (nI t)), (2, .int x)]) hx hb dX1_usesAmongIn_42 hl (k := 1) rfl (g_inc (ct (fun p => decide (¬ f (40 + t) p = -1 ∧ hs x (f (40 + t) p) = true)) k) 1) (by decide) rfl (fun ls hl => ?_)
          refine lv_iinc (v := nI (k + 1)) (lv' := [(4, .int (nI (k + 1))), (3, .int (nI (ct (fun p => decide (¬ f (40 + t) p = -1 ∧ hs x (f (40 + t) p) = true)) k + 1))), (5, .int (f (40 + t) k)), (0, .ref (w.2.2.2 2)), (1, .int (nI t)), (2, .int x)]) hx hb dX1_usesAmongIn_45 hl (k := 2) rfl (g_inc k 1) (by decide) rfl (fun ls hl => ?_)
          refine lv_goto (tgt := 5) hx hb dX1_usesAmongIn_48 (by decide) ?_
          refine ih ls ?_
          rw [(show ct (fun p => decide (¬ f (40 + t) p = -1 ∧ hs x (f (40 + t) p) = true)) (k + 1) = ct (fun p => decide (¬ f (40 + t) p = -1 ∧ hs x (f (40 + t) p) = true)) k + 1 from by simp [ct, c13, c30, c39])]
          exact lv_sub hl [1, 0, 3, 4, 5] rfl
  · intro ls hl
    refine lv_iload hx hb dX1_usesAmongIn_5 (lv_at hl 1 rfl) ?_
    refine lv_aload_n hx hb dX1_usesAmongIn_7 rfl (lv_at hl 2 rfl) ?_
    refine g_get hx hb hts hown hV 2 2 (by decide) (v := .ref (w.2.2.2 16)) rfl rfl gin1 (by decide) gm_65 (rfl) dX1_usesAmongIn_8 ?_
    refine lv_iload_n hx hb dX1_usesAmongIn_11 rfl (lv_at hl 3 rfl) ?_
    refine g_ialn (a := 11) (n := 18) hx hb hV 16 (by decide) (by decide) rfl rfl (i := t) (by omega) dX1_usesAmongIn_12 ?_
    rw [(hLn t (by omega)).1]
    refine lv_icmp_ge (tgt := 51) hx hb dX1_usesAmongIn_13 (by decide) (fun c13 => ?_) (fun c13 => ?_)
    · skip
      have c13 : (nL f t) ≤ (nL f t) := (g_le (by omega) (by omega)).mp c13
      refine lv_iload_n hx hb dX1_usesAmongIn_51 rfl (lv_at hl 0 rfl) ?_
      exact g_iret G (rfl) dX1_usesAmongIn_52
    · skip
      have c13 : ¬ ((nL f t) ≤ (nL f t)) := fun q => c13 ((g_le (by omega) (by omega)).mpr q)
      exact absurd c13 (by omega)
theorem ok_X1_isUseInState : gOK yX1_isUseInState cX1_isUseInState 5 (some .boolean) 3 := ⟨gm_110, gm_86, by decide +kernel⟩
set_option maxRecDepth 100000 in
set_option maxHeartbeats 4000000 in
theorem c_X1_isUseInState (l : Launch) (w : GP) (f : CS) (t : Nat) (p : Nat) (x : Int32) (hI : gI f) (ht : t < 18) (hp : p < 12) : Met l yX1_isUseInState (gws yX1_isUseInState cX1_isUseInState 5 (some .boolean)) ({ frames := 1, cells := 0, slots := 0, locals := 21 }) (gPc w f [.ref (w.2.2.2 2), .int (nI t), .int (nI p), .int x]) (gRd (.int (if uS f t p x then 1 else 0))) 0 0 (fun _ => False) := by
  refine g_read (by decide) (Nat.le_of_ble_eq_true rfl) ?_
  intro P_ E_ S_ M_ B_ T_ C_ ls G hV hl
  obtain ⟨hx, hb, hml, hown, hts⟩ := id G.1
  obtain ⟨⟨hT, hT24⟩, ⟨hC, hC12⟩, ⟨hD, hD6⟩, hLn⟩ := id hI
  have hl : lv_has ls 5 [(0, .ref (w.2.2.2 2)), (1, .int (nI t)), (2, .int (nI p)), (3, .int x)] := hl
  refine lv_aload_n hx hb dX1_isUseInState_0 rfl (lv_at hl 0 rfl) ?_
  refine g_get hx hb hts hown hV 2 5 (by decide) (v := .ref (w.2.2.2 37)) rfl rfl gin1 (by decide) gm_69 (rfl) dX1_isUseInState_1 ?_
  refine lv_iload_n hx hb dX1_isUseInState_4 rfl (lv_at hl 1 rfl) ?_
  refine g_row (n := 18) (b := 38) hx hb hV 37 (by decide) rfl (i := t) (by omega) (by decide) dX1_isUseInState_5 ?_
  refine lv_iload_n hx hb dX1_isUseInState_6 rfl (lv_at hl 2 rfl) ?_
  refine g_ialn (a := 40 + t) (n := 12) hx hb hV (38 + t) (by omega) (by omega) (gid_38 (by omega)) (gn_38 (by omega)) (i := p) (by omega) dX1_isUseInState_7 ?_
  refine lv_istore (lv' := [(4, .int (f (40 + t) p)), (0, .ref (w.2.2.2 2)), (1, .int (nI t)), (2, .int (nI p)), (3, .int x)]) hx hb dX1_isUseInState_8 hl (by decide) rfl (fun ls hl => ?_)
  refine lv_aload_n hx hb dX1_isUseInState_10 rfl (lv_at hl 1 rfl) ?_
  refine g_get hx hb hts hown hV 2 0 (by decide) (v := .ref (w.2.2.2 1)) rfl rfl gin1 (by decide) gm_70 (rfl) dX1_isUseInState_11 ?_
  refine lv_iload hx hb dX1_isUseInState_14 (lv_at hl 0 rfl) ?_
  refine g_callV (As := [.int (f (40 + t) p)]) (rest := []) G.1 hV 1 (by decide) rfl rfl ok_X0_isTerm gm_40 gm_41 gm_88 (c_X0_isTerm l w f (f (40 + t) p) hI ) ⟨rfl, rfl⟩ ⟨Nat.le_of_ble_eq_true rfl, Nat.le_of_ble_eq_true rfl⟩ rfl hl.1 rfl (Nat.le_of_ble_eq_true rfl) ⟨Nat.zero_le _, Nat.zero_le _⟩ dX1_isUseInState_16 ?_
  refine lv_if_eq (tgt := 40) hx hb dX1_isUseInState_19 (by decide) (fun c19 => ?_) (fun c19 => ?_)
  · skip
    have c19 : ¬ (0 ≤ (f (40 + t) p) ∧ (f (40 + t) p) < nI (nT f)) := g_if0.mp c19
    refine lv_iconst (v := nI 0) hx hb dX1_isUseInState_40 (by decide) ?_
    exact g_zret G (gz0 (fun q => c19 q.1)) (by decide) dX1_isUseInState_41
  · skip
    have c19 : 0 ≤ (f (40 + t) p) ∧ (f (40 + t) p) < nI (nT f) := g_if1.mp c19
    obtain ⟨u, hu, eu⟩ : ∃ u : Nat, u < nT f ∧ f (40 + t) p = nI u := nz c19.1 c19.2 (by omega)
    rw [eu] at hl
    refine lv_aload_n hx hb dX1_isUseInState_22 rfl (lv_at hl 1 rfl) ?_
    refine g_get hx hb hts hown hV 2 0 (by decide) (v := .ref (w.2.2.2 1)) rfl rfl gin1 (by decide) gm_70 (rfl) dX1_isUseInState_23 ?_
    refine g_get hx hb hts hown hV 1 6 (by decide) (v := .ref (w.2.2.2 7)) rfl rfl gin0 (by decide) gm_106 (rfl) dX1_isUseInState_26 ?_
    refine lv_iload hx hb dX1_isUseInState_29 (lv_at hl 0 rfl) ?_
    refine g_ialn (a := 5) (n := 24) hx hb hV 7 (by decide) (by decide) rfl rfl (i := u) (by omega) dX1_isUseInState_31 ?_
    refine lv_iload_n hx hb dX1_isUseInState_32 rfl (lv_at hl 4 rfl) ?_
    refine lv_icmp_ne (tgt := 40) hx hb dX1_isUseInState_33 (by decide) (fun c33 => ?_) (fun c33 => ?_)
    · skip
      refine lv_iconst (v := nI 0) hx hb dX1_isUseInState_40 (by decide) ?_
      exact g_zret G (gz0 (fun q => c33 (by have := q.2; rwa [eu, nI_clamp (by omega)] at this))) (by decide) dX1_isUseInState_41
    · skip
      refine lv_iconst (v := nI 1) hx hb dX1_isUseInState_36 (by decide) ?_
      refine lv_goto (tgt := 41) hx hb dX1_isUseInState_37 (by decide) ?_
      exact g_zret G (gz1 ⟨c19, by rw [eu, nI_clamp (by omega)]; exact c33⟩) (by decide) dX1_isUseInState_41
theorem ok_X1_usesInState : gOK yX1_usesInState cX1_usesInState 5 (some .int) 2 := ⟨gm_118, gm_86, by decide +kernel⟩
set_option maxRecDepth 100000 in
set_option maxHeartbeats 4000000 in
theorem c_X1_usesInState (l : Launch) (w : GP) (f : CS) (t : Nat) (x : Int32) (hI : gI f) (ht : t < 18) : Met l yX1_usesInState (gws yX1_usesInState cX1_usesInState 5 (some .int)) ({ frames := 2, cells := 0, slots := 0, locals := 45 }) (gPc w f [.ref (w.2.2.2 2), .int (nI t), .int x]) (gRd (.int (nI (uI f t x)))) 0 0 (fun _ => False) := by
  refine g_read (by decide) (Nat.le_of_ble_eq_true rfl) ?_
  intro P_ E_ S_ M_ B_ T_ C_ ls G hV hl
  obtain ⟨hx, hb, hml, hown, hts⟩ := id G.1
  obtain ⟨⟨hT, hT24⟩, ⟨hC, hC12⟩, ⟨hD, hD6⟩, hLn⟩ := id hI
  have hl : lv_has ls 5 [(0, .ref (w.2.2.2 2)), (1, .int (nI t)), (2, .int x)] := hl
  have hLt := hLn t ht
  refine lv_iconst (v := nI 0) hx hb dX1_usesInState_0 (by decide) ?_
  refine lv_istore_n (lv' := [(3, .int (nI 0)), (0, .ref (w.2.2.2 2)), (1, .int (nI t)), (2, .int x)]) hx hb dX1_usesInState_1 rfl hl (by decide) rfl (fun ls hl => ?_)
  refine lv_iconst (v := nI 0) hx hb dX1_usesInState_2 (by decide) ?_
  refine lv_istore (lv' := [(4, .int (nI 0)), (3, .int (nI 0)), (0, .ref (w.2.2.2 2)), (1, .int (nI t)), (2, .int x)]) hx hb dX1_usesInState_3 hl (by decide) rfl (fun ls hl => ?_)
  refine g_for (P := fun k => ∀ (ls : Array Slot), lv_has ls 5 [(3, .int (nI (ct (fun p => decide (uS f t p x)) k))), (4, .int (nI k)), (0, .ref (w.2.2.2 2)), (1, .int (nI t)), (2, .int x)] → W P_ l E_ _ S_ M_ _ B_ T_ C_ S_.heap [] 0 0 _ (F0 M_ 5 ls [])) (nL f t) ?_ ?_ 0 (Nat.zero_le _) ls (lv_sub hl [1, 0, 2, 3, 4] rfl)
  · intro k hk ih ls hl
    refine lv_iload hx hb dX1_usesInState_5 (lv_at hl 1 rfl) ?_
    refine lv_aload_n hx hb dX1_usesInState_7 rfl (lv_at hl 2 rfl) ?_
    refine g_get hx hb hts hown hV 2 2 (by decide) (v := .ref (w.2.2.2 16)) rfl rfl gin1 (by decide) gm_65 (rfl) dX1_usesInState_8 ?_
    refine lv_iload_n hx hb dX1_usesInState_11 rfl (lv_at hl 3 rfl) ?_
    refine g_ialn (a := 11) (n := 18) hx hb hV 16 (by decide) (by decide) rfl rfl (i := t) (by omega) dX1_usesInState_12 ?_
    rw [(hLn t (by omega)).1]
    refine lv_icmp_ge (tgt := 36) hx hb dX1_usesInState_13 (by decide) (fun c13 => ?_) (fun c13 => ?_)
    · skip
      have c13 : (nL f t) ≤ k := (g_le (by omega) (by omega)).mp c13
      exact absurd c13 (by omega)
    · skip
      have c13 : ¬ ((nL f t) ≤ k) := fun q => c13 ((g_le (by omega) (by omega)).mpr q)
      refine lv_aload_n hx hb dX1_usesInState_16 rfl (lv_at hl 2 rfl) ?_
      refine lv_iload_n hx hb dX1_usesInState_17 rfl (lv_at hl 3 rfl) ?_
      refine lv_iload hx hb dX1_usesInState_18 (lv_at hl 1 rfl) ?_
      refine lv_iload_n hx hb dX1_usesInState_20 rfl (lv_at hl 4 rfl) ?_
      refine g_callV (As := [.int (nI t), .int (nI k), .int x]) (rest := []) G.1 hV 2 (by decide) rfl rfl ok_X1_isUseInState gm_108 gm_109 gm_107 (c_X1_isUseInState l w f t k x hI (by omega) (by omega)) ⟨rfl, rfl⟩ ⟨Nat.le_of_ble_eq_true rfl, Nat.le_of_ble_eq_true rfl⟩ rfl hl.1 rfl (Nat.le_of_ble_eq_true rfl) ⟨Nat.zero_le _, Nat.zero_le _⟩ dX1_usesInState_21 ?_
      refine lv_if_eq (tgt := 30) hx hb dX1_usesInState_24 (by decide) (fun c24 => ?_) (fun c24 => ?_)
      · skip
        have c24 : ¬ (uS f t k x) := g_if0.mp c24
        refine lv_iinc (v := nI (k + 1)) (lv' := [(4, .int (nI (k + 1))), (3, .int (nI (ct (fun p => decide (uS f t p x)) k))), (0, .ref (w.2.2.2 2)), (1, .int (nI t)), (2, .int x)]) hx hb dX1_usesInState_30 hl (k := 1) rfl (g_inc k 1) (by decide) rfl (fun ls hl => ?_)
        refine lv_goto (tgt := 5) hx hb dX1_usesInState_33 (by decide) ?_
        refine ih ls ?_
        rw [(show ct (fun p => decide (uS f t p x)) (k + 1) = ct (fun p => decide (uS f t p x)) k from by first | exact ct_n (fun q => c24 (of_decide_eq_true q)) | exact ct_y (decide_eq_true c24))]
        exact lv_sub hl [1, 0, 2, 3, 4] rfl
      · skip
        have c24 : uS f t k x := g_if1.mp c24
        refine lv_iinc (v := nI (ct (fun p => decide (uS f t p x)) k + 1)) (lv' := [(3, .int (nI (ct (fun p => decide (uS f t p x)) k + 1))), (4, .int (nI k)), (0, .ref (w.2.2.2 2)), (1, .int (nI t)), (2, .int x)]) hx hb dX1_usesInState_27 hl (k := 0) rfl (g_inc (ct (fun p => decide (uS f t p x)) k) 1) (by decide) rfl (fun ls hl => ?_)
        refine lv_iinc (v := nI (k + 1)) (lv' := [(4, .int (nI (k + 1))), (3, .int (nI (ct (fun p => decide (uS f t p x)) k + 1))), (0, .ref (w.2.2.2 2)), (1, .int (nI t)), (2, .int x)]) hx hb dX1_usesInState_30 hl (k := 1) rfl (g_inc k 1) (by decide) rfl (fun ls hl => ?_)
        refine lv_goto (tgt := 5) hx hb dX1_usesInState_33 (by decide) ?_
        refine ih ls ?_
        rw [(show ct (fun p => decide (uS f t p x)) (k + 1) = ct (fun p => decide (uS f t p x)) k + 1 from by first | exact ct_n (fun q => c24 (of_decide_eq_true q)) | exact ct_y (decide_eq_true c24))]
        exact lv_sub hl [1, 0, 2, 3, 4] rfl
  · intro ls hl
    refine lv_iload hx hb dX1_usesInState_5 (lv_at hl 1 rfl) ?_
    refine lv_aload_n hx hb dX1_usesInState_7 rfl (lv_at hl 2 rfl) ?_
    refine g_get hx hb hts hown hV 2 2 (by decide) (v := .ref (w.2.2.2 16)) rfl rfl gin1 (by decide) gm_65 (rfl) dX1_usesInState_8 ?_
    refine lv_iload_n hx hb dX1_usesInState_11 rfl (lv_at hl 3 rfl) ?_
    refine g_ialn (a := 11) (n := 18) hx hb hV 16 (by decide) (by decide) rfl rfl (i := t) (by omega) dX1_usesInState_12 ?_
    rw [(hLn t (by omega)).1]
    refine lv_icmp_ge (tgt := 36) hx hb dX1_usesInState_13 (by decide) (fun c13 => ?_) (fun c13 => ?_)
    · skip
      have c13 : (nL f t) ≤ (nL f t) := (g_le (by omega) (by omega)).mp c13
      refine lv_iload_n hx hb dX1_usesInState_36 rfl (lv_at hl 0 rfl) ?_
      exact g_iret G (rfl) dX1_usesInState_37
    · skip
      have c13 : ¬ ((nL f t) ≤ (nL f t)) := fun q => c13 ((g_le (by omega) (by omega)).mpr q)
      exact absurd c13 (by omega)
theorem ok_X1_firstBanned : gOK yX1_firstBanned cX1_firstBanned 3 (some .int) 1 := ⟨gm_122, gm_86, by decide +kernel⟩
set_option maxRecDepth 100000 in
set_option maxHeartbeats 4000000 in
theorem c_X1_firstBanned (l : Launch) (w : GP) (f : CS) (t : Nat) (hI : gI f) (ht : t < 18) : Met l yX1_firstBanned (gws yX1_firstBanned cX1_firstBanned 3 (some .int)) ({ frames := 2, cells := 0, slots := 0, locals := 45 }) (gPc w f [.ref (w.2.2.2 2), .int (nI t)]) (gRd (.int (fbI f t))) 0 0 (fun _ => False) := by
  refine g_read (by decide) (Nat.le_of_ble_eq_true rfl) ?_
  intro P_ E_ S_ M_ B_ T_ C_ ls G hV hl
  obtain ⟨hx, hb, hml, hown, hts⟩ := id G.1
  obtain ⟨⟨hT, hT24⟩, ⟨hC, hC12⟩, ⟨hD, hD6⟩, hLn⟩ := id hI
  have hl : lv_has ls 3 [(0, .ref (w.2.2.2 2)), (1, .int (nI t))] := hl
  have hLt := hLn t ht
  refine lv_iconst (v := nI 0) hx hb dX1_firstBanned_0 (by decide) ?_
  refine lv_istore_n (lv' := [(2, .int (nI 0)), (0, .ref (w.2.2.2 2)), (1, .int (nI t))]) hx hb dX1_firstBanned_1 rfl hl (by decide) rfl (fun ls hl => ?_)
  refine g_for (P := fun k => ∀ (ls : Array Slot), lv_has ls 3 [(2, .int (nI k)), (0, .ref (w.2.2.2 2)), (1, .int (nI t))] → (∀ q, q < k → ¬ (fun p => decide (uS f t p (nI 3))) q = true) → W P_ l E_ _ S_ M_ _ B_ T_ C_ S_.heap [] 0 0 _ (F0 M_ 2 ls [])) (nL f t) ?_ ?_ 0 (Nat.zero_le _) ls (lv_sub hl [0, 1, 2] rfl) (fun t ht => absurd ht (Nat.not_lt_zero t))
  · intro k hk ih ls hl hik
    refine lv_iload_n hx hb dX1_firstBanned_2 rfl (lv_at hl 0 rfl) ?_
    refine lv_aload_n hx hb dX1_firstBanned_3 rfl (lv_at hl 1 rfl) ?_
    refine g_get hx hb hts hown hV 2 2 (by decide) (v := .ref (w.2.2.2 16)) rfl rfl gin1 (by decide) gm_65 (rfl) dX1_firstBanned_4 ?_
    refine lv_iload_n hx hb dX1_firstBanned_7 rfl (lv_at hl 2 rfl) ?_
    refine g_ialn (a := 11) (n := 18) hx hb hV 16 (by decide) (by decide) rfl rfl (i := t) (by omega) dX1_firstBanned_8 ?_
    rw [(hLn t (by omega)).1]
    refine lv_icmp_ge (tgt := 30) hx hb dX1_firstBanned_9 (by decide) (fun c9 => ?_) (fun c9 => ?_)
    · skip
      have c9 : (nL f t) ≤ k := (g_le (by omega) (by omega)).mp c9
      exact absurd c9 (by omega)
    · skip
      have c9 : ¬ ((nL f t) ≤ k) := fun q => c9 ((g_le (by omega) (by omega)).mpr q)
      refine lv_aload_n hx hb dX1_firstBanned_12 rfl (lv_at hl 1 rfl) ?_
      refine lv_iload_n hx hb dX1_firstBanned_13 rfl (lv_at hl 2 rfl) ?_
      refine lv_iload_n hx hb dX1_firstBanned_14 rfl (lv_at hl 0 rfl) ?_
      refine lv_iconst (v := nI 3) hx hb dX1_firstBanned_15 (by decide) ?_
      refine g_callV (As := [.int (nI t), .int (nI k), .int (nI 3)]) (rest := []) G.1 hV 2 (by decide) rfl rfl ok_X1_isUseInState gm_108 gm_109 gm_107 (c_X1_isUseInState l w f t k (nI 3) hI (by omega) (by omega)) ⟨rfl, rfl⟩ ⟨Nat.le_of_ble_eq_true rfl, Nat.le_of_ble_eq_true rfl⟩ rfl hl.1 rfl (Nat.le_of_ble_eq_true rfl) ⟨Nat.zero_le _, Nat.zero_le _⟩ dX1_firstBanned_16 ?_
      refine lv_if_eq (tgt := 24) hx hb dX1_firstBanned_19 (by decide) (fun c19 => ?_) (fun c19 => ?_)
      · skip
        have c19 : ¬ (uS f t k (nI 3)) := g_if0.mp c19
        refine lv_iinc (v := nI (k + 1)) (lv' := [(2, .int (nI (k + 1))), (0, .ref (w.2.2.2 2)), (1, .int (nI t))]) hx hb dX1_firstBanned_24 hl (k := 0) rfl (g_inc k 1) (by decide) rfl (fun ls hl => ?_)
        refine lv_goto (tgt := 2) hx hb dX1_firstBanned_27 (by decide) ?_
        refine ih ls ?_ (fun q hq z => by rcases Nat.lt_succ_iff_lt_or_eq.mp hq with h | h; exact hik q h z; subst h; exact c19 (of_decide_eq_true z))
        exact lv_sub hl [0, 1, 2] rfl
      · skip
        have c19 : uS f t k (nI 3) := g_if1.mp c19
        refine lv_iload_n hx hb dX1_firstBanned_22 rfl (lv_at hl 0 rfl) ?_
        exact g_iret G (by unfold fbI fbN; rw [fst_ex hk (decide_eq_true c19) hik, if_pos hk]) dX1_firstBanned_23
  · intro ls hl hik
    refine lv_iload_n hx hb dX1_firstBanned_2 rfl (lv_at hl 0 rfl) ?_
    refine lv_aload_n hx hb dX1_firstBanned_3 rfl (lv_at hl 1 rfl) ?_
    refine g_get hx hb hts hown hV 2 2 (by decide) (v := .ref (w.2.2.2 16)) rfl rfl gin1 (by decide) gm_65 (rfl) dX1_firstBanned_4 ?_
    refine lv_iload_n hx hb dX1_firstBanned_7 rfl (lv_at hl 2 rfl) ?_
    refine g_ialn (a := 11) (n := 18) hx hb hV 16 (by decide) (by decide) rfl rfl (i := t) (by omega) dX1_firstBanned_8 ?_
    rw [(hLn t (by omega)).1]
    refine lv_icmp_ge (tgt := 30) hx hb dX1_firstBanned_9 (by decide) (fun c9 => ?_) (fun c9 => ?_)
    · skip
      have c9 : (nL f t) ≤ (nL f t) := (g_le (by omega) (by omega)).mp c9
      refine lv_iconst (v := -1) hx hb dX1_firstBanned_30 (by decide) ?_
      exact g_iret G (by unfold fbI fbN; rw [fst_no hik, if_neg (Nat.lt_irrefl _)]) dX1_firstBanned_31
    · skip
      have c9 : ¬ ((nL f t) ≤ (nL f t)) := fun q => c9 ((g_le (by omega) (by omega)).mpr q)
      exact absurd c9 (by omega)
theorem ok_X1_consistency : gOK yX1_consistency cX1_consistency 3 (some .int) 1 := ⟨gm_151, gm_86, by decide +kernel⟩
set_option maxRecDepth 100000 in
set_option maxHeartbeats 4000000 in
theorem c_X1_consistency (l : Launch) (w : GP) (f : CS) (t : Nat) (hI : gI f) (ht : t < 18) : Met l yX1_consistency (gws yX1_consistency cX1_consistency 3 (some .int)) ({ frames := 3, cells := 0, slots := 0, locals := 69 }) (gPc w f [.ref (w.2.2.2 2), .int (nI t)]) (gRd (.int (nI (csN f t)))) 0 0 (fun _ => False) := by
  refine g_read (by decide) (Nat.le_of_ble_eq_true rfl) ?_
  intro P_ E_ S_ M_ B_ T_ C_ ls G hV hl
  obtain ⟨hx, hb, hml, hown, hts⟩ := id G.1
  obtain ⟨⟨hT, hT24⟩, ⟨hC, hC12⟩, ⟨hD, hD6⟩, hLn⟩ := id hI
  have hl : lv_has ls 3 [(0, .ref (w.2.2.2 2)), (1, .int (nI t))] := hl
  have hLt := hLn t ht
  have hu1 := uA_le f t (-1)
  have hu2 := uI_le f t (nI 2)
  refine lv_aload_n hx hb dX1_consistency_0 rfl (lv_at hl 0 rfl) ?_
  refine lv_iload_n hx hb dX1_consistency_1 rfl (lv_at hl 1 rfl) ?_
  refine lv_iconst (v := -1) hx hb dX1_consistency_2 (by decide) ?_
  refine g_callV (As := [.int (nI t), .int (-1)]) (rest := []) G.1 hV 2 (by decide) rfl rfl ok_X1_usesAmongIn gm_112 gm_113 gm_111 (c_X1_usesAmongIn l w f t (-1) hI (by omega)) ⟨rfl, rfl⟩ ⟨Nat.le_of_ble_eq_true rfl, Nat.le_of_ble_eq_true rfl⟩ rfl hl.1 rfl (Nat.le_of_ble_eq_true rfl) ⟨Nat.zero_le _, Nat.zero_le _⟩ dX1_consistency_3 ?_
  refine lv_istore_n (lv' := [(2, .int (nI (uA f t (-1)))), (0, .ref (w.2.2.2 2)), (1, .int (nI t))]) hx hb dX1_consistency_6 rfl hl (by decide) rfl (fun ls hl => ?_)
  refine lv_iload_n hx hb dX1_consistency_7 rfl (lv_at hl 0 rfl) ?_
  refine lv_if_ne (tgt := 16) hx hb dX1_consistency_8 (by decide) (fun c8 => ?_) (fun c8 => ?_)
  · skip
    have c8 : ¬ (nI (uA f t (-1)) = nI 0) := c8
    have c8 : ¬ ((uA f t (-1)) = 0) := fun q => c8 ((g_eq (Nat.lt_of_le_of_lt (uA_le _ _ _) (by omega)) (by omega)).mpr q)
    refine lv_bipush (v := nI 100) hx hb dX1_consistency_16 (by decide) ?_
    refine lv_aload_n hx hb dX1_consistency_18 rfl (lv_at hl 1 rfl) ?_
    refine lv_iload_n hx hb dX1_consistency_19 rfl (lv_at hl 2 rfl) ?_
    refine lv_iconst (v := nI 2) hx hb dX1_consistency_20 (by decide) ?_
    refine g_callV (As := [.int (nI t), .int (nI 2)]) (rest := [.int (nI 100)]) G.1 hV 2 (by decide) rfl rfl ok_X1_usesInState gm_116 gm_117 gm_115 (c_X1_usesInState l w f t (nI 2) hI (by omega)) ⟨rfl, rfl⟩ ⟨Nat.le_of_ble_eq_true rfl, Nat.le_of_ble_eq_true rfl⟩ rfl hl.1 rfl (Nat.le_of_ble_eq_true rfl) ⟨Nat.zero_le _, Nat.zero_le _⟩ dX1_consistency_21 ?_
    refine g_imuln hx hb dX1_consistency_24 ?_
    refine lv_iload_n hx hb dX1_consistency_25 rfl (lv_at hl 0 rfl) ?_
    refine g_idivn hx hb (by omega) (by omega) (by omega) dX1_consistency_26 ?_
    exact g_iret G (by unfold csN; rw [if_neg c8]) dX1_consistency_27
  · skip
    have c8 : nI (uA f t (-1)) = nI 0 := c8
    have c8 : (uA f t (-1)) = 0 := (g_eq (Nat.lt_of_le_of_lt (uA_le _ _ _) (by omega)) (by omega)).mp c8
    refine lv_bipush (v := nI 100) hx hb dX1_consistency_11 (by decide) ?_
    refine lv_goto (tgt := 27) hx hb dX1_consistency_13 (by decide) ?_
    exact g_iret G (by unfold csN; rw [if_pos c8]) dX1_consistency_27
theorem ok_X1_ambiguousForms : gOK yX1_ambiguousForms cX1_ambiguousForms 4 (some .int) 1 := ⟨gm_319, gm_86, by decide +kernel⟩
set_option maxRecDepth 100000 in
set_option maxHeartbeats 4000000 in
theorem c_X1_ambiguousForms (l : Launch) (w : GP) (f : CS) (t : Nat) (hI : gI f) (ht : t < 18) : Met l yX1_ambiguousForms (gws yX1_ambiguousForms cX1_ambiguousForms 4 (some .int)) ({ frames := 2, cells := 0, slots := 0, locals := 44 }) (gPc w f [.ref (w.2.2.2 2), .int (nI t)]) (gRd (.int (nI (amN f t)))) 0 0 (fun _ => False) := by
  refine g_read (by decide) (Nat.le_of_ble_eq_true rfl) ?_
  intro P_ E_ S_ M_ B_ T_ C_ ls G hV hl
  obtain ⟨hx, hb, hml, hown, hts⟩ := id G.1
  obtain ⟨⟨hT, hT24⟩, ⟨hC, hC12⟩, ⟨hD, hD6⟩, hLn⟩ := id hI
  have hl : lv_has ls 4 [(0, .ref (w.2.2.2 2)), (1, .int (nI t))] := hl
  have hLt := hLn t ht
  refine lv_iconst (v := nI 0) hx hb dX1_ambiguousForms_0 (by decide) ?_
  refine lv_istore_n (lv' := [(2, .int (nI 0)), (0, .ref (w.2.2.2 2)), (1, .int (nI t))]) hx hb dX1_ambiguousForms_1 rfl hl (by decide) rfl (fun ls hl => ?_)
  refine lv_iconst (v := nI 0) hx hb dX1_ambiguousForms_2 (by decide) ?_
  refine lv_istore_n (lv' := [(3, .int (nI 0)), (2, .int (nI 0)), (0, .ref (w.2.2.2 2)), (1, .int (nI t))]) hx hb dX1_ambiguousForms_3 rfl hl (by decide) rfl (fun ls hl => ?_)
  refine g_for (P := fun k => ∀ (ls : Array Slot), lv_has ls 4 [(2, .int (nI (ct (fun p => decide (1 < pcn (cb f (t % 3) (f (20 + t) p)))) k))), (3, .int (nI k)), (0, .ref (w.2.2.2 2)), (1, .int (nI t))] → W P_ l E_ _ S_ M_ _ B_ T_ C_ S_.heap [] 0 0 _ (F0 M_ 4 ls [])) (nL f t) ?_ ?_ 0 (Nat.zero_le _) ls (lv_sub hl [1, 0, 2, 3] rfl)
  · intro k hk ih ls hl
    refine lv_iload_n hx hb dX1_ambiguousForms_4 rfl (lv_at hl 1 rfl) ?_
    refine lv_aload_n hx hb dX1_ambiguousForms_5 rfl (lv_at hl 2 rfl) ?_
    refine g_get hx hb hts hown hV 2 2 (by decide) (v := .ref (w.2.2.2 16)) rfl rfl gin1 (by decide) gm_65 (rfl) dX1_ambiguousForms_6 ?_
    refine lv_iload_n hx hb dX1_ambiguousForms_9 rfl (lv_at hl 3 rfl) ?_
    refine g_ialn (a := 11) (n := 18) hx hb hV 16 (by decide) (by decide) rfl rfl (i := t) (by omega) dX1_ambiguousForms_10 ?_
    rw [(hLn t (by omega)).1]
    refine lv_icmp_ge (tgt := 48) hx hb dX1_ambiguousForms_11 (by decide) (fun c11 => ?_) (fun c11 => ?_)
    · skip
      have c11 : (nL f t) ≤ k := (g_le (by omega) (by omega)).mp c11
      exact absurd c11 (by omega)
    · skip
      have c11 : ¬ ((nL f t) ≤ k) := fun q => c11 ((g_le (by omega) (by omega)).mpr q)
      refine lv_aload_n hx hb dX1_ambiguousForms_14 rfl (lv_at hl 2 rfl) ?_
      refine g_get hx hb hts hown hV 2 0 (by decide) (v := .ref (w.2.2.2 1)) rfl rfl gin1 (by decide) gm_70 (rfl) dX1_ambiguousForms_15 ?_
      refine lv_iload_n hx hb dX1_ambiguousForms_18 rfl (lv_at hl 3 rfl) ?_
      refine lv_iconst (v := nI 3) hx hb dX1_ambiguousForms_19 (by decide) ?_
      refine g_iremn hx hb (by omega) (by omega) (by omega) dX1_ambiguousForms_20 ?_
      refine lv_aload_n hx hb dX1_ambiguousForms_21 rfl (lv_at hl 2 rfl) ?_
      refine g_get hx hb hts hown hV 2 4 (by decide) (v := .ref (w.2.2.2 18)) rfl rfl gin1 (by decide) gm_68 (rfl) dX1_ambiguousForms_22 ?_
      refine lv_iload_n hx hb dX1_ambiguousForms_25 rfl (lv_at hl 3 rfl) ?_
      refine g_row (n := 18) (b := 19) hx hb hV 18 (by decide) rfl (i := t) (by omega) (by decide) dX1_ambiguousForms_26 ?_
      refine lv_iload_n hx hb dX1_ambiguousForms_27 rfl (lv_at hl 1 rfl) ?_
      refine g_ialn (a := 20 + t) (n := 12) hx hb hV (19 + t) (by omega) (by omega) (gid_19 (by omega)) (gn_19 (by omega)) (i := k) (by omega) dX1_ambiguousForms_28 ?_
      refine g_callV (As := [.int (nI (t % 3)), .int (f (20 + t) k)]) (rest := []) G.1 hV 1 (by decide) rfl rfl ok_X0_canBe gm_81 gm_82 gm_80 (c_X0_canBe l w f (t % 3) (f (20 + t) k) hI (by omega)) ⟨rfl, rfl⟩ ⟨Nat.le_of_ble_eq_true rfl, Nat.le_of_ble_eq_true rfl⟩ rfl hl.1 rfl (Nat.le_of_ble_eq_true rfl) ⟨Nat.zero_le _, Nat.zero_le _⟩ dX1_ambiguousForms_29 ?_
      refine g_callS (As := [.int (cb f (t % 3) (f (20 + t) k))]) (rest := []) G.1 hV ok_J6_bitCount_0f7a4 gm_28 gm_74 (c_J6_bitCount_0f7a4 l w f (cb f (t % 3) (f (20 + t) k))  ) ⟨rfl, rfl⟩ ⟨Nat.le_of_ble_eq_true rfl, Nat.le_of_ble_eq_true rfl⟩ rfl hl.1 rfl (Nat.le_of_ble_eq_true rfl) ⟨Nat.zero_le _, Nat.zero_le _⟩ dX1_ambiguousForms_32 ?_
      refine lv_iconst (v := nI 1) hx hb dX1_ambiguousForms_35 (by decide) ?_
      refine lv_icmp_le (tgt := 42) hx hb dX1_ambiguousForms_36 (by decide) (fun c36 => ?_) (fun c36 => ?_)
      · skip
        have c36 : (pcn (cb f (t % 3) (f (20 + t) k))) ≤ 1 := (g_le pcn_lt (by omega)).mp c36
        refine lv_iinc (v := nI (k + 1)) (lv' := [(3, .int (nI (k + 1))), (2, .int (nI (ct (fun p => decide (1 < pcn (cb f (t % 3) (f (20 + t) p)))) k))), (0, .ref (w.2.2.2 2)), (1, .int (nI t))]) hx hb dX1_ambiguousForms_42 hl (k := 1) rfl (g_inc k 1) (by decide) rfl (fun ls hl => ?_)
        refine lv_goto (tgt := 4) hx hb dX1_ambiguousForms_45 (by decide) ?_
        refine ih ls ?_
        rw [(show ct (fun p => decide (1 < pcn (cb f (t % 3) (f (20 + t) p)))) (k + 1) = ct (fun p => decide (1 < pcn (cb f (t % 3) (f (20 + t) p)))) k from by first | (rw [ct_n (by simpa using c36)]; done) | (rw [ct_y (by simpa using c36)]; done))]
        exact lv_sub hl [1, 0, 2, 3] rfl
      · skip
        have c36 : ¬ ((pcn (cb f (t % 3) (f (20 + t) k))) ≤ 1) := fun q => c36 ((g_le pcn_lt (by omega)).mpr q)
        refine lv_iinc (v := nI (ct (fun p => decide (1 < pcn (cb f (t % 3) (f (20 + t) p)))) k + 1)) (lv' := [(2, .int (nI (ct (fun p => decide (1 < pcn (cb f (t % 3) (f (20 + t) p)))) k + 1))), (3, .int (nI k)), (0, .ref (w.2.2.2 2)), (1, .int (nI t))]) hx hb dX1_ambiguousForms_39 hl (k := 0) rfl (g_inc (ct (fun p => decide (1 < pcn (cb f (t % 3) (f (20 + t) p)))) k) 1) (by decide) rfl (fun ls hl => ?_)
        refine lv_iinc (v := nI (k + 1)) (lv' := [(3, .int (nI (k + 1))), (2, .int (nI (ct (fun p => decide (1 < pcn (cb f (t % 3) (f (20 + t) p)))) k + 1))), (0, .ref (w.2.2.2 2)), (1, .int (nI t))]) hx hb dX1_ambiguousForms_42 hl (k := 1) rfl (g_inc k 1) (by decide) rfl (fun ls hl => ?_)
        refine lv_goto (tgt := 4) hx hb dX1_ambiguousForms_45 (by decide) ?_
        refine ih ls ?_
        rw [(show ct (fun p => decide (1 < pcn (cb f (t % 3) (f (20 + t) p)))) (k + 1) = ct (fun p => decide (1 < pcn (cb f (t % 3) (f (20 + t) p)))) k + 1 from by first | (rw [ct_n (by simpa using c36)]; done) | (rw [ct_y (by simpa using c36)]; done))]
        exact lv_sub hl [1, 0, 2, 3] rfl
  · intro ls hl
    refine lv_iload_n hx hb dX1_ambiguousForms_4 rfl (lv_at hl 1 rfl) ?_
    refine lv_aload_n hx hb dX1_ambiguousForms_5 rfl (lv_at hl 2 rfl) ?_
    refine g_get hx hb hts hown hV 2 2 (by decide) (v := .ref (w.2.2.2 16)) rfl rfl gin1 (by decide) gm_65 (rfl) dX1_ambiguousForms_6 ?_
    refine lv_iload_n hx hb dX1_ambiguousForms_9 rfl (lv_at hl 3 rfl) ?_
    refine g_ialn (a := 11) (n := 18) hx hb hV 16 (by decide) (by decide) rfl rfl (i := t) (by omega) dX1_ambiguousForms_10 ?_
    rw [(hLn t (by omega)).1]
    refine lv_icmp_ge (tgt := 48) hx hb dX1_ambiguousForms_11 (by decide) (fun c11 => ?_) (fun c11 => ?_)
    · skip
      have c11 : (nL f t) ≤ (nL f t) := (g_le (by omega) (by omega)).mp c11
      refine lv_iload_n hx hb dX1_ambiguousForms_48 rfl (lv_at hl 0 rfl) ?_
      exact g_iret G (rfl) dX1_ambiguousForms_49
    · skip
      have c11 : ¬ ((nL f t) ≤ (nL f t)) := fun q => c11 ((g_le (by omega) (by omega)).mpr q)
      exact absurd c11 (by omega)
theorem ok_X1_canBeApproved : gOK yX1_canBeApproved cX1_canBeApproved 2 (some .boolean) 1 := ⟨gm_310, gm_86, by decide +kernel⟩
set_option maxRecDepth 100000 in
set_option maxHeartbeats 4000000 in
theorem c_X1_canBeApproved (l : Launch) (w : GP) (f : CS) (t : Nat) (hI : gI f) (ht : t < 18) : Met l yX1_canBeApproved (gws yX1_canBeApproved cX1_canBeApproved 2 (some .boolean)) ({ frames := 3, cells := 0, slots := 0, locals := 67 }) (gPc w f [.ref (w.2.2.2 2), .int (nI t)]) (gRd (.int (if 0 < nL f t ∧ ¬ f 12 t = nI 1 ∧ fbI f t = -1 then 1 else 0))) 0 0 (fun _ => False) := by
  refine g_read (by decide) (Nat.le_of_ble_eq_true rfl) ?_
  intro P_ E_ S_ M_ B_ T_ C_ ls G hV hl
  obtain ⟨hx, hb, hml, hown, hts⟩ := id G.1
  obtain ⟨⟨hT, hT24⟩, ⟨hC, hC12⟩, ⟨hD, hD6⟩, hLn⟩ := id hI
  have hl : lv_has ls 2 [(0, .ref (w.2.2.2 2)), (1, .int (nI t))] := hl
  have hLt := hLn t ht
  refine lv_aload_n hx hb dX1_canBeApproved_0 rfl (lv_at hl 0 rfl) ?_
  refine g_get hx hb hts hown hV 2 2 (by decide) (v := .ref (w.2.2.2 16)) rfl rfl gin1 (by decide) gm_65 (rfl) dX1_canBeApproved_1 ?_
  refine lv_iload_n hx hb dX1_canBeApproved_4 rfl (lv_at hl 1 rfl) ?_
  refine g_ialn (a := 11) (n := 18) hx hb hV 16 (by decide) (by decide) rfl rfl (i := t) (by omega) dX1_canBeApproved_5 ?_
  rw [(hLn t (by omega)).1]
  refine lv_if_le (tgt := 32) hx hb dX1_canBeApproved_6 (by decide) (fun c6 => ?_) (fun c6 => ?_)
  · skip
    have c6 : nI (nL f t) ≤ nI 0 := c6
    have c6 : (nL f t) ≤ 0 := (g_le (by omega) (by omega)).mp c6
    refine lv_iconst (v := nI 0) hx hb dX1_canBeApproved_32 (by decide) ?_
    exact g_zret G (gz0 (fun q => by omega)) (by decide) dX1_canBeApproved_33
  · skip
    have c6 : ¬ (nI (nL f t) ≤ nI 0) := c6
    have c6 : ¬ ((nL f t) ≤ 0) := fun q => c6 ((g_le (by omega) (by omega)).mpr q)
    refine lv_aload_n hx hb dX1_canBeApproved_9 rfl (lv_at hl 0 rfl) ?_
    refine g_get hx hb hts hown hV 2 3 (by decide) (v := .ref (w.2.2.2 17)) rfl rfl gin1 (by decide) gm_66 (rfl) dX1_canBeApproved_10 ?_
    refine lv_iload_n hx hb dX1_canBeApproved_13 rfl (lv_at hl 1 rfl) ?_
    refine g_ialn (a := 12) (n := 18) hx hb hV 17 (by decide) (by decide) rfl rfl (i := t) (by omega) dX1_canBeApproved_14 ?_
    refine lv_iconst (v := nI 1) hx hb dX1_canBeApproved_15 (by decide) ?_
    refine lv_icmp_eq (tgt := 32) hx hb dX1_canBeApproved_16 (by decide) (fun c16 => ?_) (fun c16 => ?_)
    · skip
      refine lv_iconst (v := nI 0) hx hb dX1_canBeApproved_32 (by decide) ?_
      exact g_zret G (gz0 (fun q => q.2.1 c16)) (by decide) dX1_canBeApproved_33
    · skip
      refine lv_aload_n hx hb dX1_canBeApproved_19 rfl (lv_at hl 0 rfl) ?_
      refine lv_iload_n hx hb dX1_canBeApproved_20 rfl (lv_at hl 1 rfl) ?_
      refine g_callV (As := [.int (nI t)]) (rest := []) G.1 hV 2 (by decide) rfl rfl ok_X1_firstBanned gm_120 gm_121 gm_119 (c_X1_firstBanned l w f t hI (by omega)) ⟨rfl, rfl⟩ ⟨Nat.le_of_ble_eq_true rfl, Nat.le_of_ble_eq_true rfl⟩ rfl hl.1 rfl (Nat.le_of_ble_eq_true rfl) ⟨Nat.zero_le _, Nat.zero_le _⟩ dX1_canBeApproved_21 ?_
      refine lv_iconst (v := -1) hx hb dX1_canBeApproved_24 (by decide) ?_
      refine lv_icmp_ne (tgt := 32) hx hb dX1_canBeApproved_25 (by decide) (fun c25 => ?_) (fun c25 => ?_)
      · skip
        refine lv_iconst (v := nI 0) hx hb dX1_canBeApproved_32 (by decide) ?_
        exact g_zret G (gz0 (fun q => c25 q.2.2)) (by decide) dX1_canBeApproved_33
      · skip
        refine lv_iconst (v := nI 1) hx hb dX1_canBeApproved_28 (by decide) ?_
        refine lv_goto (tgt := 33) hx hb dX1_canBeApproved_29 (by decide) ?_
        exact g_zret G (gz1 ⟨by omega, c16, c25⟩) (by decide) dX1_canBeApproved_33
theorem ok_X1_conceptsIn : gOK yX1_conceptsIn cX1_conceptsIn 5 (some .int) 1 := ⟨gm_127, gm_86, by decide +kernel⟩
set_option maxRecDepth 100000 in
set_option maxHeartbeats 4000000 in
theorem c_X1_conceptsIn (l : Launch) (w : GP) (f : CS) (t : Nat) (hI : gI f) (ht : t < 18) : Met l yX1_conceptsIn (gws yX1_conceptsIn cX1_conceptsIn 5 (some .int)) ({ frames := 1, cells := 0, slots := 0, locals := 21 }) (gPc w f [.ref (w.2.2.2 2), .int (nI t)]) (gRd (.int (cIn f t (nL f t)))) 0 0 (fun _ => False) := by
  refine g_read (by decide) (Nat.le_of_ble_eq_true rfl) ?_
  intro P_ E_ S_ M_ B_ T_ C_ ls G hV hl
  obtain ⟨hx, hb, hml, hown, hts⟩ := id G.1
  obtain ⟨⟨hT, hT24⟩, ⟨hC, hC12⟩, ⟨hD, hD6⟩, hLn⟩ := id hI
  have hl : lv_has ls 5 [(0, .ref (w.2.2.2 2)), (1, .int (nI t))] := hl
  have hLt := hLn t ht
  refine lv_iconst (v := nI 0) hx hb dX1_conceptsIn_0 (by decide) ?_
  refine lv_istore_n (lv' := [(2, .int (nI 0)), (0, .ref (w.2.2.2 2)), (1, .int (nI t))]) hx hb dX1_conceptsIn_1 rfl hl (by decide) rfl (fun ls hl => ?_)
  refine lv_iconst (v := nI 0) hx hb dX1_conceptsIn_2 (by decide) ?_
  refine lv_istore_n (lv' := [(3, .int (nI 0)), (2, .int (nI 0)), (0, .ref (w.2.2.2 2)), (1, .int (nI t))]) hx hb dX1_conceptsIn_3 rfl hl (by decide) rfl (fun ls hl => ?_)
  refine g_for (P := fun k => ∀ (ls : Array Slot), lv_has ls 5 [(2, .int (cIn f t k)), (3, .int (nI k)), (0, .ref (w.2.2.2 2)), (1, .int (nI t))] → W P_ l E_ _ S_ M_ _ B_ T_ C_ S_.heap [] 0 0 _ (F0 M_ 4 ls [])) (nL f t) ?_ ?_ 0 (Nat.zero_le _) ls (lv_sub hl [1, 0, 2, 3] rfl)
  · intro k hk ih ls hl
    refine lv_iload_n hx hb dX1_conceptsIn_4 rfl (lv_at hl 1 rfl) ?_
    refine lv_aload_n hx hb dX1_conceptsIn_5 rfl (lv_at hl 2 rfl) ?_
    refine g_get hx hb hts hown hV 2 2 (by decide) (v := .ref (w.2.2.2 16)) rfl rfl gin1 (by decide) gm_65 (rfl) dX1_conceptsIn_6 ?_
    refine lv_iload_n hx hb dX1_conceptsIn_9 rfl (lv_at hl 3 rfl) ?_
    refine g_ialn (a := 11) (n := 18) hx hb hV 16 (by decide) (by decide) rfl rfl (i := t) (by omega) dX1_conceptsIn_10 ?_
    rw [(hLn t (by omega)).1]
    refine lv_icmp_ge (tgt := 57) hx hb dX1_conceptsIn_11 (by decide) (fun c11 => ?_) (fun c11 => ?_)
    · skip
      have c11 : (nL f t) ≤ k := (g_le (by omega) (by omega)).mp c11
      exact absurd c11 (by omega)
    · skip
      have c11 : ¬ ((nL f t) ≤ k) := fun q => c11 ((g_le (by omega) (by omega)).mpr q)
      refine lv_aload_n hx hb dX1_conceptsIn_14 rfl (lv_at hl 2 rfl) ?_
      refine g_get hx hb hts hown hV 2 5 (by decide) (v := .ref (w.2.2.2 37)) rfl rfl gin1 (by decide) gm_69 (rfl) dX1_conceptsIn_15 ?_
      refine lv_iload_n hx hb dX1_conceptsIn_18 rfl (lv_at hl 3 rfl) ?_
      refine g_row (n := 18) (b := 38) hx hb hV 37 (by decide) rfl (i := t) (by omega) (by decide) dX1_conceptsIn_19 ?_
      refine lv_iload_n hx hb dX1_conceptsIn_20 rfl (lv_at hl 1 rfl) ?_
      refine g_ialn (a := 40 + t) (n := 12) hx hb hV (38 + t) (by omega) (by omega) (gid_38 (by omega)) (gn_38 (by omega)) (i := k) (by omega) dX1_conceptsIn_21 ?_
      refine lv_istore (lv' := [(4, .int (f (40 + t) k)), (2, .int (cIn f t k)), (3, .int (nI k)), (0, .ref (w.2.2.2 2)), (1, .int (nI t))]) hx hb dX1_conceptsIn_22 hl (by decide) rfl (fun ls hl => ?_)
      refine lv_aload_n hx hb dX1_conceptsIn_24 rfl (lv_at hl 3 rfl) ?_
      refine g_get hx hb hts hown hV 2 0 (by decide) (v := .ref (w.2.2.2 1)) rfl rfl gin1 (by decide) gm_70 (rfl) dX1_conceptsIn_25 ?_
      refine lv_iload hx hb dX1_conceptsIn_28 (lv_at hl 0 rfl) ?_
      refine g_callV (As := [.int (f (40 + t) k)]) (rest := []) G.1 hV 1 (by decide) rfl rfl ok_X0_isTerm gm_40 gm_41 gm_88 (c_X0_isTerm l w f (f (40 + t) k) hI ) ⟨rfl, rfl⟩ ⟨Nat.le_of_ble_eq_true rfl, Nat.le_of_ble_eq_true rfl⟩ rfl hl.1 rfl (Nat.le_of_ble_eq_true rfl) ⟨Nat.zero_le _, Nat.zero_le _⟩ dX1_conceptsIn_30 ?_
      refine lv_if_eq (tgt := 51) hx hb dX1_conceptsIn_33 (by decide) (fun c33 => ?_) (fun c33 => ?_)
      · skip
        have c33 : ¬ (0 ≤ (f (40 + t) k) ∧ (f (40 + t) k) < nI (nT f)) := g_if0.mp c33
        refine lv_iinc (v := nI (k + 1)) (lv' := [(3, .int (nI (k + 1))), (4, .int (f (40 + t) k)), (2, .int (cIn f t k)), (0, .ref (w.2.2.2 2)), (1, .int (nI t))]) hx hb dX1_conceptsIn_51 hl (k := 2) rfl (g_inc k 1) (by decide) rfl (fun ls hl => ?_)
        refine lv_goto (tgt := 4) hx hb dX1_conceptsIn_54 (by decide) ?_
        refine ih ls ?_
        rw [(show cIn f t (k + 1) = cIn f t k from by first | (rw [cIn, if_neg c33]; done) | (rw [cIn, if_pos c33, eu, nI_clamp (by omega)]; done))]
        exact lv_sub hl [2, 0, 3, 4] rfl
      · skip
        have c33 : 0 ≤ (f (40 + t) k) ∧ (f (40 + t) k) < nI (nT f) := g_if1.mp c33
        obtain ⟨u, hu, eu⟩ : ∃ u : Nat, u < nT f ∧ f (40 + t) k = nI u := nz c33.1 c33.2 (by omega)
        rw [eu] at hl
        refine lv_iload_n hx hb dX1_conceptsIn_36 rfl (lv_at hl 1 rfl) ?_
        refine lv_iconst (v := nI 1) hx hb dX1_conceptsIn_37 (by decide) ?_
        refine lv_aload_n hx hb dX1_conceptsIn_38 rfl (lv_at hl 3 rfl) ?_
        refine g_get hx hb hts hown hV 2 0 (by decide) (v := .ref (w.2.2.2 1)) rfl rfl gin1 (by decide) gm_70 (rfl) dX1_conceptsIn_39 ?_
        refine g_get hx hb hts hown hV 1 3 (by decide) (v := .ref (w.2.2.2 4)) rfl rfl gin0 (by decide) gm_123 (rfl) dX1_conceptsIn_42 ?_
        refine lv_iload hx hb dX1_conceptsIn_45 (lv_at hl 0 rfl) ?_
        refine g_ialn (a := 2) (n := 24) hx hb hV 4 (by decide) (by decide) rfl rfl (i := u) (by omega) dX1_conceptsIn_47 ?_
        refine lv_ishl hx hb dX1_conceptsIn_48 ?_
        refine lv_ior hx hb dX1_conceptsIn_49 ?_
        refine lv_istore_n (lv' := [(2, .int ((cIn f t k) ||| ((nI 1) <<< ((f 2 u) &&& 31)))), (4, .int (nI u)), (3, .int (nI k)), (0, .ref (w.2.2.2 2)), (1, .int (nI t))]) hx hb dX1_conceptsIn_50 rfl hl (by decide) rfl (fun ls hl => ?_)
        refine lv_iinc (v := nI (k + 1)) (lv' := [(3, .int (nI (k + 1))), (2, .int ((cIn f t k) ||| ((nI 1) <<< ((f 2 u) &&& 31)))), (4, .int (nI u)), (0, .ref (w.2.2.2 2)), (1, .int (nI t))]) hx hb dX1_conceptsIn_51 hl (k := 2) rfl (g_inc k 1) (by decide) rfl (fun ls hl => ?_)
        refine lv_goto (tgt := 4) hx hb dX1_conceptsIn_54 (by decide) ?_
        refine ih ls ?_
        rw [(show cIn f t (k + 1) = (cIn f t k) ||| ((nI 1) <<< ((f 2 u) &&& 31)) from by first | (rw [cIn, if_neg c33]; done) | (rw [cIn, if_pos c33, eu, nI_clamp (by omega)]; done))]
        exact lv_sub hl [1, 0, 3, 4] rfl
  · intro ls hl
    refine lv_iload_n hx hb dX1_conceptsIn_4 rfl (lv_at hl 1 rfl) ?_
    refine lv_aload_n hx hb dX1_conceptsIn_5 rfl (lv_at hl 2 rfl) ?_
    refine g_get hx hb hts hown hV 2 2 (by decide) (v := .ref (w.2.2.2 16)) rfl rfl gin1 (by decide) gm_65 (rfl) dX1_conceptsIn_6 ?_
    refine lv_iload_n hx hb dX1_conceptsIn_9 rfl (lv_at hl 3 rfl) ?_
    refine g_ialn (a := 11) (n := 18) hx hb hV 16 (by decide) (by decide) rfl rfl (i := t) (by omega) dX1_conceptsIn_10 ?_
    rw [(hLn t (by omega)).1]
    refine lv_icmp_ge (tgt := 57) hx hb dX1_conceptsIn_11 (by decide) (fun c11 => ?_) (fun c11 => ?_)
    · skip
      have c11 : (nL f t) ≤ (nL f t) := (g_le (by omega) (by omega)).mp c11
      refine lv_iload_n hx hb dX1_conceptsIn_57 rfl (lv_at hl 0 rfl) ?_
      exact g_iret G (rfl) dX1_conceptsIn_58
    · skip
      have c11 : ¬ ((nL f t) ≤ (nL f t)) := fun q => c11 ((g_le (by omega) (by omega)).mpr q)
      exact absurd c11 (by omega)
theorem ok_X1_agreementOf : gOK yX1_agreementOf cX1_agreementOf 7 (some .int) 1 := ⟨gm_323, gm_86, by decide +kernel⟩
set_option maxRecDepth 100000 in
set_option maxHeartbeats 4000000 in
theorem c_X1_agreementOf (l : Launch) (w : GP) (f : CS) (d : Nat) (hI : gI f) (hd : d < 6) : Met l yX1_agreementOf (gws yX1_agreementOf cX1_agreementOf 7 (some .int)) ({ frames := 2, cells := 0, slots := 0, locals := 45 }) (gPc w f [.ref (w.2.2.2 2), .int (nI d)]) (gRd (.int (nI (agN f d)))) 0 0 (fun _ => False) := by
  refine g_read (by decide) (Nat.le_of_ble_eq_true rfl) ?_
  intro P_ E_ S_ M_ B_ T_ C_ ls G hV hl
  obtain ⟨hx, hb, hml, hown, hts⟩ := id G.1
  obtain ⟨⟨hT, hT24⟩, ⟨hC, hC12⟩, ⟨hD, hD6⟩, hLn⟩ := id hI
  have hl : lv_has ls 7 [(0, .ref (w.2.2.2 2)), (1, .int (nI d))] := hl
  refine lv_iconst (v := nI 0) hx hb dX1_agreementOf_0 (by decide) ?_
  refine lv_istore_n (lv' := [(2, .int (nI 0)), (0, .ref (w.2.2.2 2)), (1, .int (nI d))]) hx hb dX1_agreementOf_1 rfl hl (by decide) rfl (fun ls hl => ?_)
  refine lv_iconst (v := -1) hx hb dX1_agreementOf_2 (by decide) ?_
  refine lv_istore_n (lv' := [(3, .int (-1)), (2, .int (nI 0)), (0, .ref (w.2.2.2 2)), (1, .int (nI d))]) hx hb dX1_agreementOf_3 rfl hl (by decide) rfl (fun ls hl => ?_)
  refine lv_iconst (v := nI 0) hx hb dX1_agreementOf_4 (by decide) ?_
  refine lv_istore (lv' := [(4, .int (nI 0)), (3, .int (-1)), (2, .int (nI 0)), (0, .ref (w.2.2.2 2)), (1, .int (nI d))]) hx hb dX1_agreementOf_5 hl (by decide) rfl (fun ls hl => ?_)
  refine g_for (P := fun k => ∀ (ls : Array Slot), lv_has ls 7 [(2, .int ((agS f d k).1)), (3, .int ((agS f d k).2)), (4, .int (nI k)), (0, .ref (w.2.2.2 2)), (1, .int (nI d))] → W P_ l E_ _ S_ M_ _ B_ T_ C_ S_.heap [] 0 0 _ (F0 M_ 7 ls [])) (3) ?_ ?_ 0 (Nat.zero_le _) ls (lv_sub hl [2, 1, 0, 3, 4] rfl)
  · intro k hk ih ls hl
    refine lv_iload hx hb dX1_agreementOf_7 (lv_at hl 2 rfl) ?_
    refine lv_iconst (v := nI 3) hx hb dX1_agreementOf_9 (by decide) ?_
    refine lv_icmp_ge (tgt := 55) hx hb dX1_agreementOf_10 (by decide) (fun c10 => ?_) (fun c10 => ?_)
    · skip
      have c10 : 3 ≤ k := (g_le (by omega) (by omega)).mp c10
      exact absurd c10 (by omega)
    · skip
      have c10 : ¬ (3 ≤ k) := fun q => c10 ((g_le (by omega) (by omega)).mpr q)
      refine lv_iload_n hx hb dX1_agreementOf_13 rfl (lv_at hl 4 rfl) ?_
      refine lv_iconst (v := nI 3) hx hb dX1_agreementOf_14 (by decide) ?_
      refine g_imuln hx hb dX1_agreementOf_15 ?_
      refine lv_iload hx hb dX1_agreementOf_16 (lv_at hl 2 rfl) ?_
      refine g_iaddn hx hb dX1_agreementOf_18 ?_
      refine lv_istore (lv' := [(5, .int (nI ((d * 3) + k))), (2, .int ((agS f d k).1)), (3, .int ((agS f d k).2)), (4, .int (nI k)), (0, .ref (w.2.2.2 2)), (1, .int (nI d))]) hx hb dX1_agreementOf_19 hl (by decide) rfl (fun ls hl => ?_)
      have hLt := hLn (d * 3 + k) (by omega)
      refine lv_aload_n hx hb dX1_agreementOf_21 rfl (lv_at hl 4 rfl) ?_
      refine g_get hx hb hts hown hV 2 2 (by decide) (v := .ref (w.2.2.2 16)) rfl rfl gin1 (by decide) gm_65 (rfl) dX1_agreementOf_22 ?_
      refine lv_iload hx hb dX1_agreementOf_25 (lv_at hl 0 rfl) ?_
      refine g_ialn (a := 11) (n := 18) hx hb hV 16 (by decide) (by decide) rfl rfl (i := (d * 3) + k) (by omega) dX1_agreementOf_27 ?_
      rw [(hLn ((d * 3) + k) (by omega)).1]
      refine lv_if_le (tgt := 49) hx hb dX1_agreementOf_28 (by decide) (fun c28 => ?_) (fun c28 => ?_)
      · skip
        have c28 : nI (nL f ((d * 3) + k)) ≤ nI 0 := c28
        have c28 : (nL f ((d * 3) + k)) ≤ 0 := (g_le (by omega) (by omega)).mp c28
        refine lv_iinc (v := nI (k + 1)) (lv' := [(4, .int (nI (k + 1))), (5, .int (nI ((d * 3) + k))), (2, .int ((agS f d k).1)), (3, .int ((agS f d k).2)), (0, .ref (w.2.2.2 2)), (1, .int (nI d))]) hx hb dX1_agreementOf_49 hl (k := 3) rfl (g_inc k 1) (by decide) rfl (fun ls hl => ?_)
        refine lv_goto (tgt := 7) hx hb dX1_agreementOf_52 (by decide) ?_
        refine ih ls ?_
        rw [(show (agS f d (k + 1)).1 = (agS f d k).1 from by first | (show Prod.fst (if _ then _ else _ : Int32 × Int32) = _; rw [if_neg (by omega)]; done) | (show Prod.fst (if _ then _ else _ : Int32 × Int32) = _; rw [if_pos (by omega)]; done)), (show (agS f d (k + 1)).2 = (agS f d k).2 from by first | (show Prod.snd (if _ then _ else _ : Int32 × Int32) = _; rw [if_neg (by omega)]; done) | (show Prod.snd (if _ then _ else _ : Int32 × Int32) = _; rw [if_pos (by omega)]; done))]
        exact lv_sub hl [2, 3, 0, 4, 5] rfl
      · skip
        have c28 : ¬ (nI (nL f ((d * 3) + k)) ≤ nI 0) := c28
        have c28 : ¬ ((nL f ((d * 3) + k)) ≤ 0) := fun q => c28 ((g_le (by omega) (by omega)).mpr q)
        refine lv_aload_n hx hb dX1_agreementOf_31 rfl (lv_at hl 4 rfl) ?_
        refine lv_iload hx hb dX1_agreementOf_32 (lv_at hl 0 rfl) ?_
        refine g_callV (As := [.int (nI ((d * 3) + k))]) (rest := []) G.1 hV 2 (by decide) rfl rfl ok_X1_conceptsIn gm_125 gm_126 gm_124 (c_X1_conceptsIn l w f ((d * 3) + k) hI (by omega)) ⟨rfl, rfl⟩ ⟨Nat.le_of_ble_eq_true rfl, Nat.le_of_ble_eq_true rfl⟩ rfl hl.1 rfl (Nat.le_of_ble_eq_true rfl) ⟨Nat.zero_le _, Nat.zero_le _⟩ dX1_agreementOf_34 ?_
        refine lv_istore (lv' := [(6, .int (cIn f ((d * 3) + k) (nL f ((d * 3) + k)))), (5, .int (nI ((d * 3) + k))), (2, .int ((agS f d k).1)), (3, .int ((agS f d k).2)), (4, .int (nI k)), (0, .ref (w.2.2.2 2)), (1, .int (nI d))]) hx hb dX1_agreementOf_37 hl (by decide) rfl (fun ls hl => ?_)
        refine lv_iload_n hx hb dX1_agreementOf_39 rfl (lv_at hl 2 rfl) ?_
        refine lv_iload hx hb dX1_agreementOf_40 (lv_at hl 0 rfl) ?_
        refine lv_ior hx hb dX1_agreementOf_42 ?_
        refine lv_istore_n (lv' := [(2, .int (((agS f d k).1) ||| (cIn f ((d * 3) + k) (nL f ((d * 3) + k))))), (6, .int (cIn f ((d * 3) + k) (nL f ((d * 3) + k)))), (5, .int (nI ((d * 3) + k))), (3, .int ((agS f d k).2)), (4, .int (nI k)), (0, .ref (w.2.2.2 2)), (1, .int (nI d))]) hx hb dX1_agreementOf_43 rfl hl (by decide) rfl (fun ls hl => ?_)
        refine lv_iload_n hx hb dX1_agreementOf_44 rfl (lv_at hl 3 rfl) ?_
        refine lv_iload hx hb dX1_agreementOf_45 (lv_at hl 1 rfl) ?_
        refine lv_iand hx hb dX1_agreementOf_47 ?_
        refine lv_istore_n (lv' := [(3, .int (((agS f d k).2) &&& (cIn f ((d * 3) + k) (nL f ((d * 3) + k))))), (2, .int (((agS f d k).1) ||| (cIn f ((d * 3) + k) (nL f ((d * 3) + k))))), (6, .int (cIn f ((d * 3) + k) (nL f ((d * 3) + k)))), (5, .int (nI ((d * 3) + k))), (4, .int (nI k)), (0, .ref (w.2.2.2 2)), (1, .int (nI d))]) hx hb dX1_agreementOf_48 rfl hl (by decide) rfl (fun ls hl => ?_)
        refine lv_iinc (v := nI (k + 1)) (lv' := [(4, .int (nI (k + 1))), (3, .int (((agS f d k).2) &&& (cIn f ((d * 3) + k) (nL f ((d * 3) + k))))), (2, .int (((agS f d k).1) ||| (cIn f ((d * 3) + k) (nL f ((d * 3) + k))))), (6, .int (cIn f ((d * 3) + k) (nL f ((d * 3) + k)))), (5, .int (nI ((d * 3) + k))), (0, .ref (w.2.2.2 2)), (1, .int (nI d))]) hx hb dX1_agreementOf_49 hl (k := 4) rfl (g_inc k 1) (by decide) rfl (fun ls hl => ?_)
        refine lv_goto (tgt := 7) hx hb dX1_agreementOf_52 (by decide) ?_
        refine ih ls ?_
        rw [(show (agS f d (k + 1)).1 = ((agS f d k).1) ||| (cIn f ((d * 3) + k) (nL f ((d * 3) + k))) from by first | (show Prod.fst (if _ then _ else _ : Int32 × Int32) = _; rw [if_neg (by omega)]; done) | (show Prod.fst (if _ then _ else _ : Int32 × Int32) = _; rw [if_pos (by omega)]; done)), (show (agS f d (k + 1)).2 = ((agS f d k).2) &&& (cIn f ((d * 3) + k) (nL f ((d * 3) + k))) from by first | (show Prod.snd (if _ then _ else _ : Int32 × Int32) = _; rw [if_neg (by omega)]; done) | (show Prod.snd (if _ then _ else _ : Int32 × Int32) = _; rw [if_pos (by omega)]; done))]
        exact lv_sub hl [2, 1, 0, 5, 6] rfl
  · intro ls hl
    refine lv_iload hx hb dX1_agreementOf_7 (lv_at hl 2 rfl) ?_
    refine lv_iconst (v := nI 3) hx hb dX1_agreementOf_9 (by decide) ?_
    refine lv_icmp_ge (tgt := 55) hx hb dX1_agreementOf_10 (by decide) (fun c10 => ?_) (fun c10 => ?_)
    · skip
      have c10 : 3 ≤ 3 := (g_le (by omega) (by omega)).mp c10
      refine lv_iload_n hx hb dX1_agreementOf_55 rfl (lv_at hl 0 rfl) ?_
      refine g_callS (As := [.int ((agS f d 3).1)]) (rest := []) G.1 hV ok_J6_bitCount_0f7a4 gm_28 gm_74 (c_J6_bitCount_0f7a4 l w f ((agS f d 3).1)  ) ⟨rfl, rfl⟩ ⟨Nat.le_of_ble_eq_true rfl, Nat.le_of_ble_eq_true rfl⟩ rfl hl.1 rfl (Nat.le_of_ble_eq_true rfl) ⟨Nat.zero_le _, Nat.zero_le _⟩ dX1_agreementOf_56 ?_
      refine lv_istore (lv' := [(4, .int (nI (pcn ((agS f d 3).1)))), (2, .int ((agS f d 3).1)), (3, .int ((agS f d 3).2)), (0, .ref (w.2.2.2 2)), (1, .int (nI d))]) hx hb dX1_agreementOf_59 hl (by decide) rfl (fun ls hl => ?_)
      refine lv_iload hx hb dX1_agreementOf_61 (lv_at hl 0 rfl) ?_
      refine lv_if_ne (tgt := 71) hx hb dX1_agreementOf_63 (by decide) (fun c63 => ?_) (fun c63 => ?_)
      · skip
        have c63 : ¬ (nI (pcn ((agS f d 3).1)) = nI 0) := c63
        have c63 : ¬ ((pcn ((agS f d 3).1)) = 0) := fun q => c63 ((g_eq pcn_lt (by omega)).mpr q)
        refine lv_bipush (v := nI 100) hx hb dX1_agreementOf_71 (by decide) ?_
        refine lv_iload_n hx hb dX1_agreementOf_73 rfl (lv_at hl 1 rfl) ?_
        refine lv_iload_n hx hb dX1_agreementOf_74 rfl (lv_at hl 2 rfl) ?_
        refine lv_iand hx hb dX1_agreementOf_75 ?_
        refine g_callS (As := [.int (((agS f d 3).1) &&& ((agS f d 3).2))]) (rest := [.int (nI 100)]) G.1 hV ok_J6_bitCount_0f7a4 gm_28 gm_74 (c_J6_bitCount_0f7a4 l w f (((agS f d 3).1) &&& ((agS f d 3).2))  ) ⟨rfl, rfl⟩ ⟨Nat.le_of_ble_eq_true rfl, Nat.le_of_ble_eq_true rfl⟩ rfl hl.1 rfl (Nat.le_of_ble_eq_true rfl) ⟨Nat.zero_le _, Nat.zero_le _⟩ dX1_agreementOf_76 ?_
        refine g_imuln hx hb dX1_agreementOf_79 ?_
        refine lv_iload hx hb dX1_agreementOf_80 (lv_at hl 0 rfl) ?_
        refine g_idivn hx hb (Nat.lt_of_le_of_lt (Nat.mul_le_mul_left 100 (pcn_le _)) (by decide)) pcn_lt (Nat.pos_of_ne_zero c63) dX1_agreementOf_82 ?_
        exact g_iret G (by unfold agN; rw [if_neg c63]) dX1_agreementOf_83
      · skip
        have c63 : nI (pcn ((agS f d 3).1)) = nI 0 := c63
        have c63 : (pcn ((agS f d 3).1)) = 0 := (g_eq pcn_lt (by omega)).mp c63
        refine lv_bipush (v := nI 100) hx hb dX1_agreementOf_66 (by decide) ?_
        refine lv_goto (tgt := 83) hx hb dX1_agreementOf_68 (by decide) ?_
        exact g_iret G (by unfold agN; rw [if_pos c63]) dX1_agreementOf_83
    · skip
      have c10 : ¬ (3 ≤ 3) := fun q => c10 ((g_le (by omega) (by omega)).mpr q)
      exact absurd c10 (by omega)
theorem ok_X1_approvedIn : gOK yX1_approvedIn cX1_approvedIn 4 (some .int) 1 := ⟨gm_135, gm_86, by decide +kernel⟩
set_option maxRecDepth 100000 in
set_option maxHeartbeats 4000000 in
theorem c_X1_approvedIn (l : Launch) (w : GP) (f : CS) (d : Nat) (hI : gI f) (hd : d < 6) : Met l yX1_approvedIn (gws yX1_approvedIn cX1_approvedIn 4 (some .int)) ({ frames := 0, cells := 0, slots := 0, locals := 0 }) (gPc w f [.ref (w.2.2.2 2), .int (nI d)]) (gRd (.int (nI (apN f d)))) 0 0 (fun _ => False) := by
  refine g_read (by decide) (Nat.le_of_ble_eq_true rfl) ?_
  intro P_ E_ S_ M_ B_ T_ C_ ls G hV hl
  obtain ⟨hx, hb, hml, hown, hts⟩ := id G.1
  obtain ⟨⟨hT, hT24⟩, ⟨hC, hC12⟩, ⟨hD, hD6⟩, hLn⟩ := id hI
  have hl : lv_has ls 4 [(0, .ref (w.2.2.2 2)), (1, .int (nI d))] := hl
  refine lv_iconst (v := nI 0) hx hb dX1_approvedIn_0 (by decide) ?_
  refine lv_istore_n (lv' := [(2, .int (nI 0)), (0, .ref (w.2.2.2 2)), (1, .int (nI d))]) hx hb dX1_approvedIn_1 rfl hl (by decide) rfl (fun ls hl => ?_)
  refine lv_iconst (v := nI 0) hx hb dX1_approvedIn_2 (by decide) ?_
  refine lv_istore_n (lv' := [(3, .int (nI 0)), (2, .int (nI 0)), (0, .ref (w.2.2.2 2)), (1, .int (nI d))]) hx hb dX1_approvedIn_3 rfl hl (by decide) rfl (fun ls hl => ?_)
  refine g_for (P := fun k => ∀ (ls : Array Slot), lv_has ls 4 [(2, .int (nI (ct (fun l => decide (f 12 (d * 3 + l) = nI 1)) k))), (3, .int (nI k)), (0, .ref (w.2.2.2 2)), (1, .int (nI d))] → W P_ l E_ _ S_ M_ _ B_ T_ C_ S_.heap [] 0 0 _ (F0 M_ 4 ls [])) (3) ?_ ?_ 0 (Nat.zero_le _) ls (lv_sub hl [1, 0, 2, 3] rfl)
  · intro k hk ih ls hl
    refine lv_iload_n hx hb dX1_approvedIn_4 rfl (lv_at hl 1 rfl) ?_
    refine lv_iconst (v := nI 3) hx hb dX1_approvedIn_5 (by decide) ?_
    refine lv_icmp_ge (tgt := 32) hx hb dX1_approvedIn_6 (by decide) (fun c6 => ?_) (fun c6 => ?_)
    · skip
      have c6 : 3 ≤ k := (g_le (by omega) (by omega)).mp c6
      exact absurd c6 (by omega)
    · skip
      have c6 : ¬ (3 ≤ k) := fun q => c6 ((g_le (by omega) (by omega)).mpr q)
      refine lv_aload_n hx hb dX1_approvedIn_9 rfl (lv_at hl 2 rfl) ?_
      refine g_get hx hb hts hown hV 2 3 (by decide) (v := .ref (w.2.2.2 17)) rfl rfl gin1 (by decide) gm_66 (rfl) dX1_approvedIn_10 ?_
      refine lv_iload_n hx hb dX1_approvedIn_13 rfl (lv_at hl 3 rfl) ?_
      refine lv_iconst (v := nI 3) hx hb dX1_approvedIn_14 (by decide) ?_
      refine g_imuln hx hb dX1_approvedIn_15 ?_
      refine lv_iload_n hx hb dX1_approvedIn_16 rfl (lv_at hl 1 rfl) ?_
      refine g_iaddn hx hb dX1_approvedIn_17 ?_
      refine g_ialn (a := 12) (n := 18) hx hb hV 17 (by decide) (by decide) rfl rfl (i := (d * 3) + k) (by omega) dX1_approvedIn_18 ?_
      refine lv_iconst (v := nI 1) hx hb dX1_approvedIn_19 (by decide) ?_
      refine lv_icmp_ne (tgt := 26) hx hb dX1_approvedIn_20 (by decide) (fun c20 => ?_) (fun c20 => ?_)
      · skip
        refine lv_iinc (v := nI (k + 1)) (lv' := [(3, .int (nI (k + 1))), (2, .int (nI (ct (fun l => decide (f 12 (d * 3 + l) = nI 1)) k))), (0, .ref (w.2.2.2 2)), (1, .int (nI d))]) hx hb dX1_approvedIn_26 hl (k := 1) rfl (g_inc k 1) (by decide) rfl (fun ls hl => ?_)
        refine lv_goto (tgt := 4) hx hb dX1_approvedIn_29 (by decide) ?_
        refine ih ls ?_
        rw [(show ct (fun l => decide (f 12 (d * 3 + l) = nI 1)) (k + 1) = ct (fun l => decide (f 12 (d * 3 + l) = nI 1)) k from by simp [ct, c6, c20])]
        exact lv_sub hl [1, 0, 2, 3] rfl
      · skip
        refine lv_iinc (v := nI (ct (fun l => decide (f 12 (d * 3 + l) = nI 1)) k + 1)) (lv' := [(2, .int (nI (ct (fun l => decide (f 12 (d * 3 + l) = nI 1)) k + 1))), (3, .int (nI k)), (0, .ref (w.2.2.2 2)), (1, .int (nI d))]) hx hb dX1_approvedIn_23 hl (k := 0) rfl (g_inc (ct (fun l => decide (f 12 (d * 3 + l) = nI 1)) k) 1) (by decide) rfl (fun ls hl => ?_)
        refine lv_iinc (v := nI (k + 1)) (lv' := [(3, .int (nI (k + 1))), (2, .int (nI (ct (fun l => decide (f 12 (d * 3 + l) = nI 1)) k + 1))), (0, .ref (w.2.2.2 2)), (1, .int (nI d))]) hx hb dX1_approvedIn_26 hl (k := 1) rfl (g_inc k 1) (by decide) rfl (fun ls hl => ?_)
        refine lv_goto (tgt := 4) hx hb dX1_approvedIn_29 (by decide) ?_
        refine ih ls ?_
        rw [(show ct (fun l => decide (f 12 (d * 3 + l) = nI 1)) (k + 1) = ct (fun l => decide (f 12 (d * 3 + l) = nI 1)) k + 1 from by simp [ct, c6, c20])]
        exact lv_sub hl [1, 0, 2, 3] rfl
  · intro ls hl
    refine lv_iload_n hx hb dX1_approvedIn_4 rfl (lv_at hl 1 rfl) ?_
    refine lv_iconst (v := nI 3) hx hb dX1_approvedIn_5 (by decide) ?_
    refine lv_icmp_ge (tgt := 32) hx hb dX1_approvedIn_6 (by decide) (fun c6 => ?_) (fun c6 => ?_)
    · skip
      have c6 : 3 ≤ 3 := (g_le (by omega) (by omega)).mp c6
      refine lv_iload_n hx hb dX1_approvedIn_32 rfl (lv_at hl 0 rfl) ?_
      exact g_iret G (rfl) dX1_approvedIn_33
    · skip
      have c6 : ¬ (3 ≤ 3) := fun q => c6 ((g_le (by omega) (by omega)).mpr q)
      exact absurd c6 (by omega)
theorem ok_X1_hasApprovedUseOf : gOK yX1_hasApprovedUseOf cX1_hasApprovedUseOf 5 (some .boolean) 2 := ⟨gm_131, gm_86, by decide +kernel⟩
set_option maxRecDepth 100000 in
set_option maxHeartbeats 4000000 in
theorem c_X1_hasApprovedUseOf (l : Launch) (w : GP) (f : CS) (d : Nat) (x : Int32) (hI : gI f) (hd : d < 6) : Met l yX1_hasApprovedUseOf (gws yX1_hasApprovedUseOf cX1_hasApprovedUseOf 5 (some .boolean)) ({ frames := 2, cells := 0, slots := 0, locals := 46 }) (gPc w f [.ref (w.2.2.2 2), .int (nI d), .int x]) (gRd (.int (if hasA f d x = true then 1 else 0))) 0 0 (fun _ => False) := by
  refine g_read (by decide) (Nat.le_of_ble_eq_true rfl) ?_
  intro P_ E_ S_ M_ B_ T_ C_ ls G hV hl
  obtain ⟨hx, hb, hml, hown, hts⟩ := id G.1
  obtain ⟨⟨hT, hT24⟩, ⟨hC, hC12⟩, ⟨hD, hD6⟩, hLn⟩ := id hI
  have hl : lv_has ls 5 [(0, .ref (w.2.2.2 2)), (1, .int (nI d)), (2, .int x)] := hl
  have hLall := hLn
  refine lv_iconst (v := nI 0) hx hb dX1_hasApprovedUseOf_0 (by decide) ?_
  refine lv_istore_n (lv' := [(3, .int (nI 0)), (0, .ref (w.2.2.2 2)), (1, .int (nI d)), (2, .int x)]) hx hb dX1_hasApprovedUseOf_1 rfl hl (by decide) rfl (fun ls hl => ?_)
  refine g_for (P := fun k => ∀ (ls : Array Slot), lv_has ls 5 [(3, .int (nI k)), (0, .ref (w.2.2.2 2)), (1, .int (nI d)), (2, .int x)] → (∀ q, q < k → ¬ (fun l => decide (f 12 (d * 3 + l) = nI 1 ∧ 0 < uA f (d * 3 + l) x)) q = true) → W P_ l E_ _ S_ M_ _ B_ T_ C_ S_.heap [] 0 0 _ (F0 M_ 2 ls [])) (3) ?_ ?_ 0 (Nat.zero_le _) ls (lv_sub hl [0, 1, 2, 3] rfl) (fun t ht => absurd ht (Nat.not_lt_zero t))
  · intro k hk ih ls hl hik
    refine lv_iload_n hx hb dX1_hasApprovedUseOf_2 rfl (lv_at hl 0 rfl) ?_
    refine lv_iconst (v := nI 3) hx hb dX1_hasApprovedUseOf_3 (by decide) ?_
    refine lv_icmp_ge (tgt := 43) hx hb dX1_hasApprovedUseOf_4 (by decide) (fun c4 => ?_) (fun c4 => ?_)
    · skip
      have c4 : 3 ≤ k := (g_le (by omega) (by omega)).mp c4
      exact absurd c4 (by omega)
    · skip
      have c4 : ¬ (3 ≤ k) := fun q => c4 ((g_le (by omega) (by omega)).mpr q)
      refine lv_iload_n hx hb dX1_hasApprovedUseOf_7 rfl (lv_at hl 2 rfl) ?_
      refine lv_iconst (v := nI 3) hx hb dX1_hasApprovedUseOf_8 (by decide) ?_
      refine g_imuln hx hb dX1_hasApprovedUseOf_9 ?_
      refine lv_iload_n hx hb dX1_hasApprovedUseOf_10 rfl (lv_at hl 0 rfl) ?_
      refine g_iaddn hx hb dX1_hasApprovedUseOf_11 ?_
      refine lv_istore (lv' := [(4, .int (nI ((d * 3) + k))), (3, .int (nI k)), (0, .ref (w.2.2.2 2)), (1, .int (nI d)), (2, .int x)]) hx hb dX1_hasApprovedUseOf_12 hl (by decide) rfl (fun ls hl => ?_)
      have hLt := hLn (d * 3 + k) (by omega)
      refine lv_aload_n hx hb dX1_hasApprovedUseOf_14 rfl (lv_at hl 2 rfl) ?_
      refine g_get hx hb hts hown hV 2 3 (by decide) (v := .ref (w.2.2.2 17)) rfl rfl gin1 (by decide) gm_66 (rfl) dX1_hasApprovedUseOf_15 ?_
      refine lv_iload hx hb dX1_hasApprovedUseOf_18 (lv_at hl 0 rfl) ?_
      refine g_ialn (a := 12) (n := 18) hx hb hV 17 (by decide) (by decide) rfl rfl (i := (d * 3) + k) (by omega) dX1_hasApprovedUseOf_20 ?_
      refine lv_iconst (v := nI 1) hx hb dX1_hasApprovedUseOf_21 (by decide) ?_
      refine lv_icmp_ne (tgt := 37) hx hb dX1_hasApprovedUseOf_22 (by decide) (fun c22 => ?_) (fun c22 => ?_)
      · skip
        refine lv_iinc (v := nI (k + 1)) (lv' := [(3, .int (nI (k + 1))), (4, .int (nI ((d * 3) + k))), (0, .ref (w.2.2.2 2)), (1, .int (nI d)), (2, .int x)]) hx hb dX1_hasApprovedUseOf_37 hl (k := 1) rfl (g_inc k 1) (by decide) rfl (fun ls hl => ?_)
        refine lv_goto (tgt := 2) hx hb dX1_hasApprovedUseOf_40 (by decide) ?_
        refine ih ls ?_ (fun q hq z => by rcases Nat.lt_succ_iff_lt_or_eq.mp hq with h | h; exact hik q h z; subst h; have := of_decide_eq_true z; first | exact c22 this.1 | omega)
        exact lv_sub hl [0, 2, 3, 4] rfl
      · skip
        refine lv_aload_n hx hb dX1_hasApprovedUseOf_25 rfl (lv_at hl 2 rfl) ?_
        refine lv_iload hx hb dX1_hasApprovedUseOf_26 (lv_at hl 0 rfl) ?_
        refine lv_iload_n hx hb dX1_hasApprovedUseOf_28 rfl (lv_at hl 4 rfl) ?_
        refine g_callV (As := [.int (nI ((d * 3) + k)), .int x]) (rest := []) G.1 hV 2 (by decide) rfl rfl ok_X1_usesAmongIn gm_112 gm_113 gm_111 (c_X1_usesAmongIn l w f ((d * 3) + k) x hI (by omega)) ⟨rfl, rfl⟩ ⟨Nat.le_of_ble_eq_true rfl, Nat.le_of_ble_eq_true rfl⟩ rfl hl.1 rfl (Nat.le_of_ble_eq_true rfl) ⟨Nat.zero_le _, Nat.zero_le _⟩ dX1_hasApprovedUseOf_29 ?_
        refine lv_if_le (tgt := 37) hx hb dX1_hasApprovedUseOf_32 (by decide) (fun c32 => ?_) (fun c32 => ?_)
        · skip
          have c32 : nI (uA f ((d * 3) + k) x) ≤ nI 0 := c32
          have c32 : (uA f ((d * 3) + k) x) ≤ 0 := (g_le (Nat.lt_of_le_of_lt (uA_le _ _ _) (by omega)) (by omega)).mp c32
          refine lv_iinc (v := nI (k + 1)) (lv' := [(3, .int (nI (k + 1))), (4, .int (nI ((d * 3) + k))), (0, .ref (w.2.2.2 2)), (1, .int (nI d)), (2, .int x)]) hx hb dX1_hasApprovedUseOf_37 hl (k := 1) rfl (g_inc k 1) (by decide) rfl (fun ls hl => ?_)
          refine lv_goto (tgt := 2) hx hb dX1_hasApprovedUseOf_40 (by decide) ?_
          refine ih ls ?_ (fun q hq z => by rcases Nat.lt_succ_iff_lt_or_eq.mp hq with h | h; exact hik q h z; subst h; have := of_decide_eq_true z; first | exact c22 this.1 | omega)
          exact lv_sub hl [0, 2, 3, 4] rfl
        · skip
          have c32 : ¬ (nI (uA f ((d * 3) + k) x) ≤ nI 0) := c32
          have c32 : ¬ ((uA f ((d * 3) + k) x) ≤ 0) := fun q => c32 ((g_le (Nat.lt_of_le_of_lt (uA_le _ _ _) (by omega)) (by omega)).mpr q)
          refine lv_iconst (v := nI 1) hx hb dX1_hasApprovedUseOf_35 (by decide) ?_
          exact g_zret G (gz1 (aT_iff.mpr ⟨k, hk, decide_eq_true ⟨c22, by omega⟩⟩)) (by decide) dX1_hasApprovedUseOf_36
  · intro ls hl hik
    refine lv_iload_n hx hb dX1_hasApprovedUseOf_2 rfl (lv_at hl 0 rfl) ?_
    refine lv_iconst (v := nI 3) hx hb dX1_hasApprovedUseOf_3 (by decide) ?_
    refine lv_icmp_ge (tgt := 43) hx hb dX1_hasApprovedUseOf_4 (by decide) (fun c4 => ?_) (fun c4 => ?_)
    · skip
      have c4 : 3 ≤ 3 := (g_le (by omega) (by omega)).mp c4
      refine lv_iconst (v := nI 0) hx hb dX1_hasApprovedUseOf_43 (by decide) ?_
      exact g_zret G (gz0 (fun q => by obtain ⟨t, h1, h2⟩ := aT_iff.mp q; exact hik t h1 h2)) (by decide) dX1_hasApprovedUseOf_44
    · skip
      have c4 : ¬ (3 ≤ 3) := fun q => c4 ((g_le (by omega) (by omega)).mpr q)
      exact absurd c4 (by omega)
theorem ok_X1_reopenedByOverdue : gOK yX1_reopenedByOverdue cX1_reopenedByOverdue 4 (some .int) 1 := ⟨gm_143, gm_86, by decide +kernel⟩
set_option maxRecDepth 100000 in
set_option maxHeartbeats 4000000 in
theorem c_X1_reopenedByOverdue (l : Launch) (w : GP) (f : CS) (x : Int32) (hI : gI f)  : Met l yX1_reopenedByOverdue (gws yX1_reopenedByOverdue cX1_reopenedByOverdue 4 (some .int)) ({ frames := 3, cells := 0, slots := 0, locals := 70 }) (gPc w f [.ref (w.2.2.2 2), .int x]) (gRd (.int (nI (roN f x)))) 0 0 (fun _ => False) := by
  refine g_read (by decide) (Nat.le_of_ble_eq_true rfl) ?_
  intro P_ E_ S_ M_ B_ T_ C_ ls G hV hl
  obtain ⟨hx, hb, hml, hown, hts⟩ := id G.1
  obtain ⟨⟨hT, hT24⟩, ⟨hC, hC12⟩, ⟨hD, hD6⟩, hLn⟩ := id hI
  have hl : lv_has ls 4 [(0, .ref (w.2.2.2 2)), (1, .int x)] := hl
  refine lv_iconst (v := nI 0) hx hb dX1_reopenedByOverdue_0 (by decide) ?_
  refine lv_istore_n (lv' := [(2, .int (nI 0)), (0, .ref (w.2.2.2 2)), (1, .int x)]) hx hb dX1_reopenedByOverdue_1 rfl hl (by decide) rfl (fun ls hl => ?_)
  refine lv_iconst (v := nI 0) hx hb dX1_reopenedByOverdue_2 (by decide) ?_
  refine lv_istore_n (lv' := [(3, .int (nI 0)), (2, .int (nI 0)), (0, .ref (w.2.2.2 2)), (1, .int x)]) hx hb dX1_reopenedByOverdue_3 rfl hl (by decide) rfl (fun ls hl => ?_)
  refine g_for (P := fun k => ∀ (ls : Array Slot), lv_has ls 4 [(2, .int (nI (sm (fun d => if hasA f d x = true then apN f d else 0) k))), (3, .int (nI k)), (0, .ref (w.2.2.2 2)), (1, .int x)] → W P_ l E_ _ S_ M_ _ B_ T_ C_ S_.heap [] 0 0 _ (F0 M_ 4 ls [])) (nD f) ?_ ?_ 0 (Nat.zero_le _) ls (lv_sub hl [1, 0, 2, 3] rfl)
  · intro k hk ih ls hl
    refine lv_iload_n hx hb dX1_reopenedByOverdue_4 rfl (lv_at hl 1 rfl) ?_
    refine lv_aload_n hx hb dX1_reopenedByOverdue_5 rfl (lv_at hl 2 rfl) ?_
    refine g_get hx hb hts hown hV 2 1 (by decide) (v := .int (nI (nD f))) rfl rfl gin1 (by decide) gm_64 (by rw [← hD]; rfl) dX1_reopenedByOverdue_6 ?_
    refine lv_icmp_ge (tgt := 35) hx hb dX1_reopenedByOverdue_9 (by decide) (fun c9 => ?_) (fun c9 => ?_)
    · skip
      have c9 : (nD f) ≤ k := (g_le (by omega) (by omega)).mp c9
      exact absurd c9 (by omega)
    · skip
      have c9 : ¬ ((nD f) ≤ k) := fun q => c9 ((g_le (by omega) (by omega)).mpr q)
      refine lv_aload_n hx hb dX1_reopenedByOverdue_12 rfl (lv_at hl 2 rfl) ?_
      refine lv_iload_n hx hb dX1_reopenedByOverdue_13 rfl (lv_at hl 1 rfl) ?_
      refine lv_iload_n hx hb dX1_reopenedByOverdue_14 rfl (lv_at hl 3 rfl) ?_
      refine g_callV (As := [.int (nI k), .int x]) (rest := []) G.1 hV 2 (by decide) rfl rfl ok_X1_hasApprovedUseOf gm_129 gm_130 gm_128 (c_X1_hasApprovedUseOf l w f k x hI (by omega)) ⟨rfl, rfl⟩ ⟨Nat.le_of_ble_eq_true rfl, Nat.le_of_ble_eq_true rfl⟩ rfl hl.1 rfl (Nat.le_of_ble_eq_true rfl) ⟨Nat.zero_le _, Nat.zero_le _⟩ dX1_reopenedByOverdue_15 ?_
      refine lv_if_eq (tgt := 29) hx hb dX1_reopenedByOverdue_18 (by decide) (fun c18 => ?_) (fun c18 => ?_)
      · skip
        have c18 : ¬ (hasA f k x = true) := g_if0.mp c18
        refine lv_iinc (v := nI (k + 1)) (lv' := [(3, .int (nI (k + 1))), (2, .int (nI (sm (fun d => if hasA f d x = true then apN f d else 0) k))), (0, .ref (w.2.2.2 2)), (1, .int x)]) hx hb dX1_reopenedByOverdue_29 hl (k := 1) rfl (g_inc k 1) (by decide) rfl (fun ls hl => ?_)
        refine lv_goto (tgt := 4) hx hb dX1_reopenedByOverdue_32 (by decide) ?_
        refine ih ls ?_
        rw [(show sm (fun d => if hasA f d x = true then apN f d else 0) (k + 1) = sm (fun d => if hasA f d x = true then apN f d else 0) k from by simp [sm, c9, c18])]
        exact lv_sub hl [1, 0, 2, 3] rfl
      · skip
        have c18 : hasA f k x = true := g_if1.mp c18
        refine lv_iload_n hx hb dX1_reopenedByOverdue_21 rfl (lv_at hl 0 rfl) ?_
        refine lv_aload_n hx hb dX1_reopenedByOverdue_22 rfl (lv_at hl 2 rfl) ?_
        refine lv_iload_n hx hb dX1_reopenedByOverdue_23 rfl (lv_at hl 1 rfl) ?_
        refine g_callV (As := [.int (nI k)]) (rest := [.int (nI (sm (fun d => if hasA f d x = true then apN f d else 0) k))]) G.1 hV 2 (by decide) rfl rfl ok_X1_approvedIn gm_133 gm_134 gm_132 (c_X1_approvedIn l w f k hI (by omega)) ⟨rfl, rfl⟩ ⟨Nat.le_of_ble_eq_true rfl, Nat.le_of_ble_eq_true rfl⟩ rfl hl.1 rfl (Nat.le_of_ble_eq_true rfl) ⟨Nat.zero_le _, Nat.zero_le _⟩ dX1_reopenedByOverdue_24 ?_
        refine g_iaddn hx hb dX1_reopenedByOverdue_27 ?_
        refine lv_istore_n (lv' := [(2, .int (nI ((sm (fun d => if hasA f d x = true then apN f d else 0) k) + (apN f k)))), (3, .int (nI k)), (0, .ref (w.2.2.2 2)), (1, .int x)]) hx hb dX1_reopenedByOverdue_28 rfl hl (by decide) rfl (fun ls hl => ?_)
        refine lv_iinc (v := nI (k + 1)) (lv' := [(3, .int (nI (k + 1))), (2, .int (nI ((sm (fun d => if hasA f d x = true then apN f d else 0) k) + (apN f k)))), (0, .ref (w.2.2.2 2)), (1, .int x)]) hx hb dX1_reopenedByOverdue_29 hl (k := 1) rfl (g_inc k 1) (by decide) rfl (fun ls hl => ?_)
        refine lv_goto (tgt := 4) hx hb dX1_reopenedByOverdue_32 (by decide) ?_
        refine ih ls ?_
        rw [(show sm (fun d => if hasA f d x = true then apN f d else 0) (k + 1) = (sm (fun d => if hasA f d x = true then apN f d else 0) k) + (apN f k) from by simp [sm, c9, c18])]
        exact lv_sub hl [1, 0, 2, 3] rfl
  · intro ls hl
    refine lv_iload_n hx hb dX1_reopenedByOverdue_4 rfl (lv_at hl 1 rfl) ?_
    refine lv_aload_n hx hb dX1_reopenedByOverdue_5 rfl (lv_at hl 2 rfl) ?_
    refine g_get hx hb hts hown hV 2 1 (by decide) (v := .int (nI (nD f))) rfl rfl gin1 (by decide) gm_64 (by rw [← hD]; rfl) dX1_reopenedByOverdue_6 ?_
    refine lv_icmp_ge (tgt := 35) hx hb dX1_reopenedByOverdue_9 (by decide) (fun c9 => ?_) (fun c9 => ?_)
    · skip
      have c9 : (nD f) ≤ (nD f) := (g_le (by omega) (by omega)).mp c9
      refine lv_iload_n hx hb dX1_reopenedByOverdue_35 rfl (lv_at hl 0 rfl) ?_
      exact g_iret G (rfl) dX1_reopenedByOverdue_36
    · skip
      have c9 : ¬ ((nD f) ≤ (nD f)) := fun q => c9 ((g_le (by omega) (by omega)).mpr q)
      exact absurd c9 (by omega)
theorem ok_X1_usesAmong : gOK yX1_usesAmong cX1_usesAmong 4 (some .int) 1 := ⟨gm_253, gm_86, by decide +kernel⟩
set_option maxRecDepth 100000 in
set_option maxHeartbeats 4000000 in
theorem c_X1_usesAmong (l : Launch) (w : GP) (f : CS) (x : Int32) (hI : gI f)  : Met l yX1_usesAmong (gws yX1_usesAmong cX1_usesAmong 4 (some .int)) ({ frames := 2, cells := 0, slots := 0, locals := 46 }) (gPc w f [.ref (w.2.2.2 2), .int x]) (gRd (.int (nI (usN f x)))) 0 0 (fun _ => False) := by
  refine g_read (by decide) (Nat.le_of_ble_eq_true rfl) ?_
  intro P_ E_ S_ M_ B_ T_ C_ ls G hV hl
  obtain ⟨hx, hb, hml, hown, hts⟩ := id G.1
  obtain ⟨⟨hT, hT24⟩, ⟨hC, hC12⟩, ⟨hD, hD6⟩, hLn⟩ := id hI
  have hl : lv_has ls 4 [(0, .ref (w.2.2.2 2)), (1, .int x)] := hl
  refine lv_iconst (v := nI 0) hx hb dX1_usesAmong_0 (by decide) ?_
  refine lv_istore_n (lv' := [(2, .int (nI 0)), (0, .ref (w.2.2.2 2)), (1, .int x)]) hx hb dX1_usesAmong_1 rfl hl (by decide) rfl (fun ls hl => ?_)
  refine lv_iconst (v := nI 0) hx hb dX1_usesAmong_2 (by decide) ?_
  refine lv_istore_n (lv' := [(3, .int (nI 0)), (2, .int (nI 0)), (0, .ref (w.2.2.2 2)), (1, .int x)]) hx hb dX1_usesAmong_3 rfl hl (by decide) rfl (fun ls hl => ?_)
  refine g_for (P := fun k => ∀ (ls : Array Slot), lv_has ls 4 [(2, .int (nI (sm (fun t => uA f t x) k))), (3, .int (nI k)), (0, .ref (w.2.2.2 2)), (1, .int x)] → W P_ l E_ _ S_ M_ _ B_ T_ C_ S_.heap [] 0 0 _ (F0 M_ 4 ls [])) (nD f * 3) ?_ ?_ 0 (Nat.zero_le _) ls (lv_sub hl [1, 0, 2, 3] rfl)
  · intro k hk ih ls hl
    refine lv_iload_n hx hb dX1_usesAmong_4 rfl (lv_at hl 1 rfl) ?_
    refine lv_aload_n hx hb dX1_usesAmong_5 rfl (lv_at hl 2 rfl) ?_
    refine g_callV (As := []) (rest := [.int (nI k)]) G.1 hV 2 (by decide) rfl rfl ok_X1_textCount gm_103 gm_104 gm_102 (c_X1_textCount l w f  hI ) ⟨rfl, rfl⟩ ⟨Nat.le_of_ble_eq_true rfl, Nat.le_of_ble_eq_true rfl⟩ rfl hl.1 rfl (Nat.le_of_ble_eq_true rfl) ⟨Nat.zero_le _, Nat.zero_le _⟩ dX1_usesAmong_6 ?_
    refine lv_icmp_ge (tgt := 27) hx hb dX1_usesAmong_9 (by decide) (fun c9 => ?_) (fun c9 => ?_)
    · skip
      have c9 : (nD f * 3) ≤ k := (g_le (by omega) (by omega)).mp c9
      exact absurd c9 (by omega)
    · skip
      have c9 : ¬ ((nD f * 3) ≤ k) := fun q => c9 ((g_le (by omega) (by omega)).mpr q)
      refine lv_iload_n hx hb dX1_usesAmong_12 rfl (lv_at hl 0 rfl) ?_
      refine lv_aload_n hx hb dX1_usesAmong_13 rfl (lv_at hl 2 rfl) ?_
      refine lv_iload_n hx hb dX1_usesAmong_14 rfl (lv_at hl 1 rfl) ?_
      refine lv_iload_n hx hb dX1_usesAmong_15 rfl (lv_at hl 3 rfl) ?_
      refine g_callV (As := [.int (nI k), .int x]) (rest := [.int (nI (sm (fun t => uA f t x) k))]) G.1 hV 2 (by decide) rfl rfl ok_X1_usesAmongIn gm_112 gm_113 gm_111 (c_X1_usesAmongIn l w f k x hI (by omega)) ⟨rfl, rfl⟩ ⟨Nat.le_of_ble_eq_true rfl, Nat.le_of_ble_eq_true rfl⟩ rfl hl.1 rfl (Nat.le_of_ble_eq_true rfl) ⟨Nat.zero_le _, Nat.zero_le _⟩ dX1_usesAmong_16 ?_
      refine g_iaddn hx hb dX1_usesAmong_19 ?_
      refine lv_istore_n (lv' := [(2, .int (nI ((sm (fun t => uA f t x) k) + (uA f k x)))), (3, .int (nI k)), (0, .ref (w.2.2.2 2)), (1, .int x)]) hx hb dX1_usesAmong_20 rfl hl (by decide) rfl (fun ls hl => ?_)
      refine lv_iinc (v := nI (k + 1)) (lv' := [(3, .int (nI (k + 1))), (2, .int (nI ((sm (fun t => uA f t x) k) + (uA f k x)))), (0, .ref (w.2.2.2 2)), (1, .int x)]) hx hb dX1_usesAmong_21 hl (k := 1) rfl (g_inc k 1) (by decide) rfl (fun ls hl => ?_)
      refine lv_goto (tgt := 4) hx hb dX1_usesAmong_24 (by decide) ?_
      refine ih ls ?_
      rw [(show sm (fun t => uA f t x) (k + 1) = (sm (fun t => uA f t x) k) + (uA f k x) from rfl)]
      exact lv_sub hl [1, 0, 2, 3] rfl
  · intro ls hl
    refine lv_iload_n hx hb dX1_usesAmong_4 rfl (lv_at hl 1 rfl) ?_
    refine lv_aload_n hx hb dX1_usesAmong_5 rfl (lv_at hl 2 rfl) ?_
    refine g_callV (As := []) (rest := [.int (nI (nD f * 3))]) G.1 hV 2 (by decide) rfl rfl ok_X1_textCount gm_103 gm_104 gm_102 (c_X1_textCount l w f  hI ) ⟨rfl, rfl⟩ ⟨Nat.le_of_ble_eq_true rfl, Nat.le_of_ble_eq_true rfl⟩ rfl hl.1 rfl (Nat.le_of_ble_eq_true rfl) ⟨Nat.zero_le _, Nat.zero_le _⟩ dX1_usesAmong_6 ?_
    refine lv_icmp_ge (tgt := 27) hx hb dX1_usesAmong_9 (by decide) (fun c9 => ?_) (fun c9 => ?_)
    · skip
      have c9 : (nD f * 3) ≤ (nD f * 3) := (g_le (by omega) (by omega)).mp c9
      refine lv_iload_n hx hb dX1_usesAmong_27 rfl (lv_at hl 0 rfl) ?_
      exact g_iret G (rfl) dX1_usesAmong_28
    · skip
      have c9 : ¬ ((nD f * 3) ≤ (nD f * 3)) := fun q => c9 ((g_le (by omega) (by omega)).mpr q)
      exact absurd c9 (by omega)
theorem ok_X1_documentsWith : gOK yX1_documentsWith cX1_documentsWith 6 (some .int) 1 := ⟨gm_259, gm_86, by decide +kernel⟩
set_option maxRecDepth 100000 in
set_option maxHeartbeats 4000000 in
theorem c_X1_documentsWith (l : Launch) (w : GP) (f : CS) (x : Int32) (hI : gI f)  : Met l yX1_documentsWith (gws yX1_documentsWith cX1_documentsWith 6 (some .int)) ({ frames := 2, cells := 0, slots := 0, locals := 46 }) (gPc w f [.ref (w.2.2.2 2), .int x]) (gRd (.int (nI (dwN f x)))) 0 0 (fun _ => False) := by
  refine g_read (by decide) (Nat.le_of_ble_eq_true rfl) ?_
  intro P_ E_ S_ M_ B_ T_ C_ ls G hV hl
  obtain ⟨hx, hb, hml, hown, hts⟩ := id G.1
  obtain ⟨⟨hT, hT24⟩, ⟨hC, hC12⟩, ⟨hD, hD6⟩, hLn⟩ := id hI
  have hl : lv_has ls 6 [(0, .ref (w.2.2.2 2)), (1, .int x)] := hl
  refine lv_iconst (v := nI 0) hx hb dX1_documentsWith_0 (by decide) ?_
  refine lv_istore_n (lv' := [(2, .int (nI 0)), (0, .ref (w.2.2.2 2)), (1, .int x)]) hx hb dX1_documentsWith_1 rfl hl (by decide) rfl (fun ls hl => ?_)
  refine lv_iconst (v := nI 0) hx hb dX1_documentsWith_2 (by decide) ?_
  refine lv_istore_n (lv' := [(3, .int (nI 0)), (2, .int (nI 0)), (0, .ref (w.2.2.2 2)), (1, .int x)]) hx hb dX1_documentsWith_3 rfl hl (by decide) rfl (fun ls hl => ?_)
  refine g_for (P := fun d => ∀ (ls : Array Slot), lv_has ls 6 [(2, .int (nI (ct (fun d => decide (0 < sm (fun l => uA f (d * 3 + l) x) 3)) d))), (3, .int (nI d)), (0, .ref (w.2.2.2 2)), (1, .int x)] → W P_ l E_ _ S_ M_ _ B_ T_ C_ S_.heap [] 0 0 _ (F0 M_ 4 ls [])) (nD f) ?_ ?_ 0 (Nat.zero_le _) ls (lv_sub hl [1, 0, 2, 3] rfl)
  · intro d hd ih ls hl
    refine lv_iload_n hx hb dX1_documentsWith_4 rfl (lv_at hl 1 rfl) ?_
    refine lv_aload_n hx hb dX1_documentsWith_5 rfl (lv_at hl 2 rfl) ?_
    refine g_get hx hb hts hown hV 2 1 (by decide) (v := .int (nI (nD f))) rfl rfl gin1 (by decide) gm_64 (by rw [← hD]; rfl) dX1_documentsWith_6 ?_
    refine lv_icmp_ge (tgt := 60) hx hb dX1_documentsWith_9 (by decide) (fun c9 => ?_) (fun c9 => ?_)
    · skip
      have c9 : (nD f) ≤ d := (g_le (by omega) (by omega)).mp c9
      exact absurd c9 (by omega)
    · skip
      have c9 : ¬ ((nD f) ≤ d) := fun q => c9 ((g_le (by omega) (by omega)).mpr q)
      refine lv_iconst (v := nI 0) hx hb dX1_documentsWith_12 (by decide) ?_
      refine lv_istore (lv' := [(4, .int (nI 0)), (2, .int (nI (ct (fun d => decide (0 < sm (fun l => uA f (d * 3 + l) x) 3)) d))), (3, .int (nI d)), (0, .ref (w.2.2.2 2)), (1, .int x)]) hx hb dX1_documentsWith_13 hl (by decide) rfl (fun ls hl => ?_)
      refine lv_iconst (v := nI 0) hx hb dX1_documentsWith_15 (by decide) ?_
      refine lv_istore (lv' := [(5, .int (nI 0)), (4, .int (nI 0)), (2, .int (nI (ct (fun d => decide (0 < sm (fun l => uA f (d * 3 + l) x) 3)) d))), (3, .int (nI d)), (0, .ref (w.2.2.2 2)), (1, .int x)]) hx hb dX1_documentsWith_16 hl (by decide) rfl (fun ls hl => ?_)
      refine g_for (P := fun k => ∀ (ls : Array Slot), lv_has ls 6 [(4, .int (nI (sm (fun l => uA f (d * 3 + l) x) k))), (5, .int (nI k)), (2, .int (nI (ct (fun d => decide (0 < sm (fun l => uA f (d * 3 + l) x) 3)) d))), (3, .int (nI d)), (0, .ref (w.2.2.2 2)), (1, .int x)] → W P_ l E_ _ S_ M_ _ B_ T_ C_ S_.heap [] 0 0 _ (F0 M_ 18 ls [])) (3) ?_ ?_ 0 (Nat.zero_le _) ls (lv_sub hl [1, 0, 2, 3, 4, 5] rfl)
      · intro k hk ih ls hl
        refine lv_iload hx hb dX1_documentsWith_18 (lv_at hl 1 rfl) ?_
        refine lv_iconst (v := nI 3) hx hb dX1_documentsWith_20 (by decide) ?_
        refine lv_icmp_ge (tgt := 46) hx hb dX1_documentsWith_21 (by decide) (fun c21 => ?_) (fun c21 => ?_)
        · skip
          have c21 : 3 ≤ k := (g_le (by omega) (by omega)).mp c21
          exact absurd c21 (by omega)
        · skip
          have c21 : ¬ (3 ≤ k) := fun q => c21 ((g_le (by omega) (by omega)).mpr q)
          refine lv_iload hx hb dX1_documentsWith_24 (lv_at hl 0 rfl) ?_
          refine lv_aload_n hx hb dX1_documentsWith_26 rfl (lv_at hl 4 rfl) ?_
          refine lv_iload_n hx hb dX1_documentsWith_27 rfl (lv_at hl 3 rfl) ?_
          refine lv_iconst (v := nI 3) hx hb dX1_documentsWith_28 (by decide) ?_
          refine g_imuln hx hb dX1_documentsWith_29 ?_
          refine lv_iload hx hb dX1_documentsWith_30 (lv_at hl 1 rfl) ?_
          refine g_iaddn hx hb dX1_documentsWith_32 ?_
          refine lv_iload_n hx hb dX1_documentsWith_33 rfl (lv_at hl 5 rfl) ?_
          refine g_callV (As := [.int (nI ((d * 3) + k)), .int x]) (rest := [.int (nI (sm (fun l => uA f (d * 3 + l) x) k))]) G.1 hV 2 (by decide) rfl rfl ok_X1_usesAmongIn gm_112 gm_113 gm_111 (c_X1_usesAmongIn l w f ((d * 3) + k) x hI (by omega)) ⟨rfl, rfl⟩ ⟨Nat.le_of_ble_eq_true rfl, Nat.le_of_ble_eq_true rfl⟩ rfl hl.1 rfl (Nat.le_of_ble_eq_true rfl) ⟨Nat.zero_le _, Nat.zero_le _⟩ dX1_documentsWith_34 ?_
          refine g_iaddn hx hb dX1_documentsWith_37 ?_
          refine lv_istore (lv' := [(4, .int (nI ((sm (fun l => uA f (d * 3 + l) x) k) + (uA f ((d * 3) + k) x)))), (5, .int (nI k)), (2, .int (nI (ct (fun d => decide (0 < sm (fun l => uA f (d * 3 + l) x) 3)) d))), (3, .int (nI d)), (0, .ref (w.2.2.2 2)), (1, .int x)]) hx hb dX1_documentsWith_38 hl (by decide) rfl (fun ls hl => ?_)
          refine lv_iinc (v := nI (k + 1)) (lv' := [(5, .int (nI (k + 1))), (4, .int (nI ((sm (fun l => uA f (d * 3 + l) x) k) + (uA f ((d * 3) + k) x)))), (2, .int (nI (ct (fun d => decide (0 < sm (fun l => uA f (d * 3 + l) x) 3)) d))), (3, .int (nI d)), (0, .ref (w.2.2.2 2)), (1, .int x)]) hx hb dX1_documentsWith_40 hl (k := 1) rfl (g_inc k 1) (by decide) rfl (fun ls hl => ?_)
          refine lv_goto (tgt := 18) hx hb dX1_documentsWith_43 (by decide) ?_
          refine ih ls ?_
          rw [(show sm (fun l => uA f (d * 3 + l) x) (k + 1) = (sm (fun l => uA f (d * 3 + l) x) k) + (uA f ((d * 3) + k) x) from rfl)]
          exact lv_sub hl [1, 0, 2, 3, 4, 5] rfl
      · intro ls hl
        refine lv_iload hx hb dX1_documentsWith_18 (lv_at hl 1 rfl) ?_
        refine lv_iconst (v := nI 3) hx hb dX1_documentsWith_20 (by decide) ?_
        refine lv_icmp_ge (tgt := 46) hx hb dX1_documentsWith_21 (by decide) (fun c21 => ?_) (fun c21 => ?_)
        · skip
          have c21 : 3 ≤ 3 := (g_le (by omega) (by omega)).mp c21
          refine lv_iload hx hb dX1_documentsWith_46 (lv_at hl 0 rfl) ?_
          refine lv_if_le (tgt := 54) hx hb dX1_documentsWith_48 (by decide) (fun c48 => ?_) (fun c48 => ?_)
          · skip
            have c48 : nI (sm (fun l => uA f (d * 3 + l) x) 3) ≤ nI 0 := c48
            have c48 : (sm (fun l => uA f (d * 3 + l) x) 3) ≤ 0 := (g_le (sm3 (fun l hl3 => Nat.le_trans (uA_le _ _ _) (hLn _ (by omega)).2)) (by omega)).mp c48
            refine lv_iinc (v := nI (d + 1)) (lv' := [(3, .int (nI (d + 1))), (4, .int (nI (sm (fun l => uA f (d * 3 + l) x) 3))), (5, .int (nI 3)), (2, .int (nI (ct (fun d => decide (0 < sm (fun l => uA f (d * 3 + l) x) 3)) d))), (0, .ref (w.2.2.2 2)), (1, .int x)]) hx hb dX1_documentsWith_54 hl (k := 3) rfl (g_inc d 1) (by decide) rfl (fun ls hl => ?_)
            refine lv_goto (tgt := 4) hx hb dX1_documentsWith_57 (by decide) ?_
            refine ih ls ?_
            rw [(show ct (fun d => decide (0 < sm (fun l => uA f (d * 3 + l) x) 3)) (d + 1) = ct (fun d => decide (0 < sm (fun l => uA f (d * 3 + l) x) 3)) d from by first | exact ct_n (by simp; omega) | exact ct_y (by simp; omega))]
            exact lv_sub hl [3, 0, 4, 5] rfl
          · skip
            have c48 : ¬ (nI (sm (fun l => uA f (d * 3 + l) x) 3) ≤ nI 0) := c48
            have c48 : ¬ ((sm (fun l => uA f (d * 3 + l) x) 3) ≤ 0) := fun q => c48 ((g_le (sm3 (fun l hl3 => Nat.le_trans (uA_le _ _ _) (hLn _ (by omega)).2)) (by omega)).mpr q)
            refine lv_iinc (v := nI (ct (fun d => decide (0 < sm (fun l => uA f (d * 3 + l) x) 3)) d + 1)) (lv' := [(2, .int (nI (ct (fun d => decide (0 < sm (fun l => uA f (d * 3 + l) x) 3)) d + 1))), (4, .int (nI (sm (fun l => uA f (d * 3 + l) x) 3))), (5, .int (nI 3)), (3, .int (nI d)), (0, .ref (w.2.2.2 2)), (1, .int x)]) hx hb dX1_documentsWith_51 hl (k := 2) rfl (g_inc (ct (fun d => decide (0 < sm (fun l => uA f (d * 3 + l) x) 3)) d) 1) (by decide) rfl (fun ls hl => ?_)
            refine lv_iinc (v := nI (d + 1)) (lv' := [(3, .int (nI (d + 1))), (2, .int (nI (ct (fun d => decide (0 < sm (fun l => uA f (d * 3 + l) x) 3)) d + 1))), (4, .int (nI (sm (fun l => uA f (d * 3 + l) x) 3))), (5, .int (nI 3)), (0, .ref (w.2.2.2 2)), (1, .int x)]) hx hb dX1_documentsWith_54 hl (k := 3) rfl (g_inc d 1) (by decide) rfl (fun ls hl => ?_)
            refine lv_goto (tgt := 4) hx hb dX1_documentsWith_57 (by decide) ?_
            refine ih ls ?_
            rw [(show ct (fun d => decide (0 < sm (fun l => uA f (d * 3 + l) x) 3)) (d + 1) = ct (fun d => decide (0 < sm (fun l => uA f (d * 3 + l) x) 3)) d + 1 from by first | exact ct_n (by simp; omega) | exact ct_y (by simp; omega))]
            exact lv_sub hl [1, 0, 4, 5] rfl
        · skip
          have c21 : ¬ (3 ≤ 3) := fun q => c21 ((g_le (by omega) (by omega)).mpr q)
          exact absurd c21 (by omega)
  · intro ls hl
    refine lv_iload_n hx hb dX1_documentsWith_4 rfl (lv_at hl 1 rfl) ?_
    refine lv_aload_n hx hb dX1_documentsWith_5 rfl (lv_at hl 2 rfl) ?_
    refine g_get hx hb hts hown hV 2 1 (by decide) (v := .int (nI (nD f))) rfl rfl gin1 (by decide) gm_64 (by rw [← hD]; rfl) dX1_documentsWith_6 ?_
    refine lv_icmp_ge (tgt := 60) hx hb dX1_documentsWith_9 (by decide) (fun c9 => ?_) (fun c9 => ?_)
    · skip
      have c9 : (nD f) ≤ (nD f) := (g_le (by omega) (by omega)).mp c9
      refine lv_iload_n hx hb dX1_documentsWith_60 rfl (lv_at hl 0 rfl) ?_
      exact g_iret G (rfl) dX1_documentsWith_61
    · skip
      have c9 : ¬ ((nD f) ≤ (nD f)) := fun q => c9 ((g_le (by omega) (by omega)).mpr q)
      exact absurd c9 (by omega)
theorem ok_X1_textsInState : gOK yX1_textsInState cX1_textsInState 4 (some .int) 1 := ⟨gm_339, gm_86, by decide +kernel⟩
set_option maxRecDepth 100000 in
set_option maxHeartbeats 4000000 in
theorem c_X1_textsInState (l : Launch) (w : GP) (f : CS) (x : Int32) (hI : gI f)  : Met l yX1_textsInState (gws yX1_textsInState cX1_textsInState 4 (some .int)) ({ frames := 1, cells := 0, slots := 0, locals := 20 }) (gPc w f [.ref (w.2.2.2 2), .int x]) (gRd (.int (nI (tsN f x)))) 0 0 (fun _ => False) := by
  refine g_read (by decide) (Nat.le_of_ble_eq_true rfl) ?_
  intro P_ E_ S_ M_ B_ T_ C_ ls G hV hl
  obtain ⟨hx, hb, hml, hown, hts⟩ := id G.1
  obtain ⟨⟨hT, hT24⟩, ⟨hC, hC12⟩, ⟨hD, hD6⟩, hLn⟩ := id hI
  have hl : lv_has ls 4 [(0, .ref (w.2.2.2 2)), (1, .int x)] := hl
  refine lv_iconst (v := nI 0) hx hb dX1_textsInState_0 (by decide) ?_
  refine lv_istore_n (lv' := [(2, .int (nI 0)), (0, .ref (w.2.2.2 2)), (1, .int x)]) hx hb dX1_textsInState_1 rfl hl (by decide) rfl (fun ls hl => ?_)
  refine lv_iconst (v := nI 0) hx hb dX1_textsInState_2 (by decide) ?_
  refine lv_istore_n (lv' := [(3, .int (nI 0)), (2, .int (nI 0)), (0, .ref (w.2.2.2 2)), (1, .int x)]) hx hb dX1_textsInState_3 rfl hl (by decide) rfl (fun ls hl => ?_)
  refine g_for (P := fun k => ∀ (ls : Array Slot), lv_has ls 4 [(2, .int (nI (ct (fun t => decide (0 < nL f t ∧ f 12 t = x)) k))), (3, .int (nI k)), (0, .ref (w.2.2.2 2)), (1, .int x)] → W P_ l E_ _ S_ M_ _ B_ T_ C_ S_.heap [] 0 0 _ (F0 M_ 4 ls [])) (nD f * 3) ?_ ?_ 0 (Nat.zero_le _) ls (lv_sub hl [1, 0, 2, 3] rfl)
  · intro k hk ih ls hl
    refine lv_iload_n hx hb dX1_textsInState_4 rfl (lv_at hl 1 rfl) ?_
    refine lv_aload_n hx hb dX1_textsInState_5 rfl (lv_at hl 2 rfl) ?_
    refine g_callV (As := []) (rest := [.int (nI k)]) G.1 hV 2 (by decide) rfl rfl ok_X1_textCount gm_103 gm_104 gm_102 (c_X1_textCount l w f  hI ) ⟨rfl, rfl⟩ ⟨Nat.le_of_ble_eq_true rfl, Nat.le_of_ble_eq_true rfl⟩ rfl hl.1 rfl (Nat.le_of_ble_eq_true rfl) ⟨Nat.zero_le _, Nat.zero_le _⟩ dX1_textsInState_6 ?_
    refine lv_icmp_ge (tgt := 40) hx hb dX1_textsInState_9 (by decide) (fun c9 => ?_) (fun c9 => ?_)
    · skip
      have c9 : (nD f * 3) ≤ k := (g_le (by omega) (by omega)).mp c9
      exact absurd c9 (by omega)
    · skip
      have c9 : ¬ ((nD f * 3) ≤ k) := fun q => c9 ((g_le (by omega) (by omega)).mpr q)
      have hLt := hLn k (by omega)
      refine lv_aload_n hx hb dX1_textsInState_12 rfl (lv_at hl 2 rfl) ?_
      refine g_get hx hb hts hown hV 2 2 (by decide) (v := .ref (w.2.2.2 16)) rfl rfl gin1 (by decide) gm_65 (rfl) dX1_textsInState_13 ?_
      refine lv_iload_n hx hb dX1_textsInState_16 rfl (lv_at hl 1 rfl) ?_
      refine g_ialn (a := 11) (n := 18) hx hb hV 16 (by decide) (by decide) rfl rfl (i := k) (by omega) dX1_textsInState_17 ?_
      rw [(hLn k (by omega)).1]
      refine lv_if_le (tgt := 34) hx hb dX1_textsInState_18 (by decide) (fun c18 => ?_) (fun c18 => ?_)
      · skip
        have c18 : nI (nL f k) ≤ nI 0 := c18
        have c18 : (nL f k) ≤ 0 := (g_le (by omega) (by omega)).mp c18
        refine lv_iinc (v := nI (k + 1)) (lv' := [(3, .int (nI (k + 1))), (2, .int (nI (ct (fun t => decide (0 < nL f t ∧ f 12 t = x)) k))), (0, .ref (w.2.2.2 2)), (1, .int x)]) hx hb dX1_textsInState_34 hl (k := 1) rfl (g_inc k 1) (by decide) rfl (fun ls hl => ?_)
        refine lv_goto (tgt := 4) hx hb dX1_textsInState_37 (by decide) ?_
        refine ih ls ?_
        rw [(show ct (fun t => decide (0 < nL f t ∧ f 12 t = x)) (k + 1) = ct (fun t => decide (0 < nL f t ∧ f 12 t = x)) k from by first | exact ct_n (fun q => by have := of_decide_eq_true q; omega) | exact ct_n (fun q => c28 (of_decide_eq_true q).2) | exact ct_y (decide_eq_true ⟨by omega, c28⟩))]
        exact lv_sub hl [1, 0, 2, 3] rfl
      · skip
        have c18 : ¬ (nI (nL f k) ≤ nI 0) := c18
        have c18 : ¬ ((nL f k) ≤ 0) := fun q => c18 ((g_le (by omega) (by omega)).mpr q)
        refine lv_aload_n hx hb dX1_textsInState_21 rfl (lv_at hl 2 rfl) ?_
        refine g_get hx hb hts hown hV 2 3 (by decide) (v := .ref (w.2.2.2 17)) rfl rfl gin1 (by decide) gm_66 (rfl) dX1_textsInState_22 ?_
        refine lv_iload_n hx hb dX1_textsInState_25 rfl (lv_at hl 1 rfl) ?_
        refine g_ialn (a := 12) (n := 18) hx hb hV 17 (by decide) (by decide) rfl rfl (i := k) (by omega) dX1_textsInState_26 ?_
        refine lv_iload_n hx hb dX1_textsInState_27 rfl (lv_at hl 3 rfl) ?_
        refine lv_icmp_ne (tgt := 34) hx hb dX1_textsInState_28 (by decide) (fun c28 => ?_) (fun c28 => ?_)
        · skip
          refine lv_iinc (v := nI (k + 1)) (lv' := [(3, .int (nI (k + 1))), (2, .int (nI (ct (fun t => decide (0 < nL f t ∧ f 12 t = x)) k))), (0, .ref (w.2.2.2 2)), (1, .int x)]) hx hb dX1_textsInState_34 hl (k := 1) rfl (g_inc k 1) (by decide) rfl (fun ls hl => ?_)
          refine lv_goto (tgt := 4) hx hb dX1_textsInState_37 (by decide) ?_
          refine ih ls ?_
          rw [(show ct (fun t => decide (0 < nL f t ∧ f 12 t = x)) (k + 1) = ct (fun t => decide (0 < nL f t ∧ f 12 t = x)) k from by first | exact ct_n (fun q => by have := of_decide_eq_true q; omega) | exact ct_n (fun q => c28 (of_decide_eq_true q).2) | exact ct_y (decide_eq_true ⟨by omega, c28⟩))]
          exact lv_sub hl [1, 0, 2, 3] rfl
        · skip
          refine lv_iinc (v := nI (ct (fun t => decide (0 < nL f t ∧ f 12 t = x)) k + 1)) (lv' := [(2, .int (nI (ct (fun t => decide (0 < nL f t ∧ f 12 t = x)) k + 1))), (3, .int (nI k)), (0, .ref (w.2.2.2 2)), (1, .int x)]) hx hb dX1_textsInState_31 hl (k := 0) rfl (g_inc (ct (fun t => decide (0 < nL f t ∧ f 12 t = x)) k) 1) (by decide) rfl (fun ls hl => ?_)
          refine lv_iinc (v := nI (k + 1)) (lv' := [(3, .int (nI (k + 1))), (2, .int (nI (ct (fun t => decide (0 < nL f t ∧ f 12 t = x)) k + 1))), (0, .ref (w.2.2.2 2)), (1, .int x)]) hx hb dX1_textsInState_34 hl (k := 1) rfl (g_inc k 1) (by decide) rfl (fun ls hl => ?_)
          refine lv_goto (tgt := 4) hx hb dX1_textsInState_37 (by decide) ?_
          refine ih ls ?_
          rw [(show ct (fun t => decide (0 < nL f t ∧ f 12 t = x)) (k + 1) = ct (fun t => decide (0 < nL f t ∧ f 12 t = x)) k + 1 from by first | exact ct_n (fun q => by have := of_decide_eq_true q; omega) | exact ct_n (fun q => c28 (of_decide_eq_true q).2) | exact ct_y (decide_eq_true ⟨by omega, c28⟩))]
          exact lv_sub hl [1, 0, 2, 3] rfl
  · intro ls hl
    refine lv_iload_n hx hb dX1_textsInState_4 rfl (lv_at hl 1 rfl) ?_
    refine lv_aload_n hx hb dX1_textsInState_5 rfl (lv_at hl 2 rfl) ?_
    refine g_callV (As := []) (rest := [.int (nI (nD f * 3))]) G.1 hV 2 (by decide) rfl rfl ok_X1_textCount gm_103 gm_104 gm_102 (c_X1_textCount l w f  hI ) ⟨rfl, rfl⟩ ⟨Nat.le_of_ble_eq_true rfl, Nat.le_of_ble_eq_true rfl⟩ rfl hl.1 rfl (Nat.le_of_ble_eq_true rfl) ⟨Nat.zero_le _, Nat.zero_le _⟩ dX1_textsInState_6 ?_
    refine lv_icmp_ge (tgt := 40) hx hb dX1_textsInState_9 (by decide) (fun c9 => ?_) (fun c9 => ?_)
    · skip
      have c9 : (nD f * 3) ≤ (nD f * 3) := (g_le (by omega) (by omega)).mp c9
      refine lv_iload_n hx hb dX1_textsInState_40 rfl (lv_at hl 0 rfl) ?_
      exact g_iret G (rfl) dX1_textsInState_41
    · skip
      have c9 : ¬ ((nD f * 3) ≤ (nD f * 3)) := fun q => c9 ((g_le (by omega) (by omega)).mpr q)
      exact absurd c9 (by omega)
theorem ok_X1_textsWithForms : gOK yX1_textsWithForms cX1_textsWithForms 3 (some .int) 0 := ⟨gm_343, gm_86, by decide +kernel⟩
set_option maxRecDepth 100000 in
set_option maxHeartbeats 4000000 in
theorem c_X1_textsWithForms (l : Launch) (w : GP) (f : CS)  (hI : gI f)  : Met l yX1_textsWithForms (gws yX1_textsWithForms cX1_textsWithForms 3 (some .int)) ({ frames := 1, cells := 0, slots := 0, locals := 20 }) (gPc w f [.ref (w.2.2.2 2)]) (gRd (.int (nI (twN f)))) 0 0 (fun _ => False) := by
  refine g_read (by decide) (Nat.le_of_ble_eq_true rfl) ?_
  intro P_ E_ S_ M_ B_ T_ C_ ls G hV hl
  obtain ⟨hx, hb, hml, hown, hts⟩ := id G.1
  obtain ⟨⟨hT, hT24⟩, ⟨hC, hC12⟩, ⟨hD, hD6⟩, hLn⟩ := id hI
  have hl : lv_has ls 3 [(0, .ref (w.2.2.2 2))] := hl
  refine lv_iconst (v := nI 0) hx hb dX1_textsWithForms_0 (by decide) ?_
  refine lv_istore_n (lv' := [(1, .int (nI 0)), (0, .ref (w.2.2.2 2))]) hx hb dX1_textsWithForms_1 rfl hl (by decide) rfl (fun ls hl => ?_)
  refine lv_iconst (v := nI 0) hx hb dX1_textsWithForms_2 (by decide) ?_
  refine lv_istore_n (lv' := [(2, .int (nI 0)), (1, .int (nI 0)), (0, .ref (w.2.2.2 2))]) hx hb dX1_textsWithForms_3 rfl hl (by decide) rfl (fun ls hl => ?_)
  refine g_for (P := fun k => ∀ (ls : Array Slot), lv_has ls 3 [(1, .int (nI (ct (fun t => decide (0 < nL f t)) k))), (2, .int (nI k)), (0, .ref (w.2.2.2 2))] → W P_ l E_ _ S_ M_ _ B_ T_ C_ S_.heap [] 0 0 _ (F0 M_ 4 ls [])) (nD f * 3) ?_ ?_ 0 (Nat.zero_le _) ls (lv_sub hl [1, 0, 2] rfl)
  · intro k hk ih ls hl
    refine lv_iload_n hx hb dX1_textsWithForms_4 rfl (lv_at hl 1 rfl) ?_
    refine lv_aload_n hx hb dX1_textsWithForms_5 rfl (lv_at hl 2 rfl) ?_
    refine g_callV (As := []) (rest := [.int (nI k)]) G.1 hV 2 (by decide) rfl rfl ok_X1_textCount gm_103 gm_104 gm_102 (c_X1_textCount l w f  hI ) ⟨rfl, rfl⟩ ⟨Nat.le_of_ble_eq_true rfl, Nat.le_of_ble_eq_true rfl⟩ rfl hl.1 rfl (Nat.le_of_ble_eq_true rfl) ⟨Nat.zero_le _, Nat.zero_le _⟩ dX1_textsWithForms_6 ?_
    refine lv_icmp_ge (tgt := 30) hx hb dX1_textsWithForms_9 (by decide) (fun c9 => ?_) (fun c9 => ?_)
    · skip
      have c9 : (nD f * 3) ≤ k := (g_le (by omega) (by omega)).mp c9
      exact absurd c9 (by omega)
    · skip
      have c9 : ¬ ((nD f * 3) ≤ k) := fun q => c9 ((g_le (by omega) (by omega)).mpr q)
      have hLt := hLn k (by omega)
      refine lv_aload_n hx hb dX1_textsWithForms_12 rfl (lv_at hl 2 rfl) ?_
      refine g_get hx hb hts hown hV 2 2 (by decide) (v := .ref (w.2.2.2 16)) rfl rfl gin1 (by decide) gm_65 (rfl) dX1_textsWithForms_13 ?_
      refine lv_iload_n hx hb dX1_textsWithForms_16 rfl (lv_at hl 1 rfl) ?_
      refine g_ialn (a := 11) (n := 18) hx hb hV 16 (by decide) (by decide) rfl rfl (i := k) (by omega) dX1_textsWithForms_17 ?_
      rw [(hLn k (by omega)).1]
      refine lv_if_le (tgt := 24) hx hb dX1_textsWithForms_18 (by decide) (fun c18 => ?_) (fun c18 => ?_)
      · skip
        have c18 : nI (nL f k) ≤ nI 0 := c18
        have c18 : (nL f k) ≤ 0 := (g_le (by omega) (by omega)).mp c18
        refine lv_iinc (v := nI (k + 1)) (lv' := [(2, .int (nI (k + 1))), (1, .int (nI (ct (fun t => decide (0 < nL f t)) k))), (0, .ref (w.2.2.2 2))]) hx hb dX1_textsWithForms_24 hl (k := 1) rfl (g_inc k 1) (by decide) rfl (fun ls hl => ?_)
        refine lv_goto (tgt := 4) hx hb dX1_textsWithForms_27 (by decide) ?_
        refine ih ls ?_
        rw [(show ct (fun t => decide (0 < nL f t)) (k + 1) = ct (fun t => decide (0 < nL f t)) k from by first | (rw [ct_n (by simp; omega)]; done) | (rw [ct_y (by simp; omega)]; done))]
        exact lv_sub hl [1, 0, 2] rfl
      · skip
        have c18 : ¬ (nI (nL f k) ≤ nI 0) := c18
        have c18 : ¬ ((nL f k) ≤ 0) := fun q => c18 ((g_le (by omega) (by omega)).mpr q)
        refine lv_iinc (v := nI (ct (fun t => decide (0 < nL f t)) k + 1)) (lv' := [(1, .int (nI (ct (fun t => decide (0 < nL f t)) k + 1))), (2, .int (nI k)), (0, .ref (w.2.2.2 2))]) hx hb dX1_textsWithForms_21 hl (k := 0) rfl (g_inc (ct (fun t => decide (0 < nL f t)) k) 1) (by decide) rfl (fun ls hl => ?_)
        refine lv_iinc (v := nI (k + 1)) (lv' := [(2, .int (nI (k + 1))), (1, .int (nI (ct (fun t => decide (0 < nL f t)) k + 1))), (0, .ref (w.2.2.2 2))]) hx hb dX1_textsWithForms_24 hl (k := 1) rfl (g_inc k 1) (by decide) rfl (fun ls hl => ?_)
        refine lv_goto (tgt := 4) hx hb dX1_textsWithForms_27 (by decide) ?_
        refine ih ls ?_
        rw [(show ct (fun t => decide (0 < nL f t)) (k + 1) = ct (fun t => decide (0 < nL f t)) k + 1 from by first | (rw [ct_n (by simp; omega)]; done) | (rw [ct_y (by simp; omega)]; done))]
        exact lv_sub hl [1, 0, 2] rfl
  · intro ls hl
    refine lv_iload_n hx hb dX1_textsWithForms_4 rfl (lv_at hl 1 rfl) ?_
    refine lv_aload_n hx hb dX1_textsWithForms_5 rfl (lv_at hl 2 rfl) ?_
    refine g_callV (As := []) (rest := [.int (nI (nD f * 3))]) G.1 hV 2 (by decide) rfl rfl ok_X1_textCount gm_103 gm_104 gm_102 (c_X1_textCount l w f  hI ) ⟨rfl, rfl⟩ ⟨Nat.le_of_ble_eq_true rfl, Nat.le_of_ble_eq_true rfl⟩ rfl hl.1 rfl (Nat.le_of_ble_eq_true rfl) ⟨Nat.zero_le _, Nat.zero_le _⟩ dX1_textsWithForms_6 ?_
    refine lv_icmp_ge (tgt := 30) hx hb dX1_textsWithForms_9 (by decide) (fun c9 => ?_) (fun c9 => ?_)
    · skip
      have c9 : (nD f * 3) ≤ (nD f * 3) := (g_le (by omega) (by omega)).mp c9
      refine lv_iload_n hx hb dX1_textsWithForms_30 rfl (lv_at hl 0 rfl) ?_
      exact g_iret G (rfl) dX1_textsWithForms_31
    · skip
      have c9 : ¬ ((nD f * 3) ≤ (nD f * 3)) := fun q => c9 ((g_le (by omega) (by omega)).mpr q)
      exact absurd c9 (by omega)
theorem ok_X1_sumOfConsistencies : gOK yX1_sumOfConsistencies cX1_sumOfConsistencies 3 (some .int) 0 := ⟨gm_347, gm_86, by decide +kernel⟩
set_option maxRecDepth 100000 in
set_option maxHeartbeats 4000000 in
theorem c_X1_sumOfConsistencies (l : Launch) (w : GP) (f : CS)  (hI : gI f)  : Met l yX1_sumOfConsistencies (gws yX1_sumOfConsistencies cX1_sumOfConsistencies 3 (some .int)) ({ frames := 4, cells := 0, slots := 0, locals := 91 }) (gPc w f [.ref (w.2.2.2 2)]) (gRd (.int (nI (scN f)))) 0 0 (fun _ => False) := by
  refine g_read (by decide) (Nat.le_of_ble_eq_true rfl) ?_
  intro P_ E_ S_ M_ B_ T_ C_ ls G hV hl
  obtain ⟨hx, hb, hml, hown, hts⟩ := id G.1
  obtain ⟨⟨hT, hT24⟩, ⟨hC, hC12⟩, ⟨hD, hD6⟩, hLn⟩ := id hI
  have hl : lv_has ls 3 [(0, .ref (w.2.2.2 2))] := hl
  refine lv_iconst (v := nI 0) hx hb dX1_sumOfConsistencies_0 (by decide) ?_
  refine lv_istore_n (lv' := [(1, .int (nI 0)), (0, .ref (w.2.2.2 2))]) hx hb dX1_sumOfConsistencies_1 rfl hl (by decide) rfl (fun ls hl => ?_)
  refine lv_iconst (v := nI 0) hx hb dX1_sumOfConsistencies_2 (by decide) ?_
  refine lv_istore_n (lv' := [(2, .int (nI 0)), (1, .int (nI 0)), (0, .ref (w.2.2.2 2))]) hx hb dX1_sumOfConsistencies_3 rfl hl (by decide) rfl (fun ls hl => ?_)
  refine g_for (P := fun k => ∀ (ls : Array Slot), lv_has ls 3 [(1, .int (nI (sm (fun t => if 0 < nL f t then csN f t else 0) k))), (2, .int (nI k)), (0, .ref (w.2.2.2 2))] → W P_ l E_ _ S_ M_ _ B_ T_ C_ S_.heap [] 0 0 _ (F0 M_ 4 ls [])) (nD f * 3) ?_ ?_ 0 (Nat.zero_le _) ls (lv_sub hl [1, 0, 2] rfl)
  · intro k hk ih ls hl
    refine lv_iload_n hx hb dX1_sumOfConsistencies_4 rfl (lv_at hl 1 rfl) ?_
    refine lv_aload_n hx hb dX1_sumOfConsistencies_5 rfl (lv_at hl 2 rfl) ?_
    refine g_callV (As := []) (rest := [.int (nI k)]) G.1 hV 2 (by decide) rfl rfl ok_X1_textCount gm_103 gm_104 gm_102 (c_X1_textCount l w f  hI ) ⟨rfl, rfl⟩ ⟨Nat.le_of_ble_eq_true rfl, Nat.le_of_ble_eq_true rfl⟩ rfl hl.1 rfl (Nat.le_of_ble_eq_true rfl) ⟨Nat.zero_le _, Nat.zero_le _⟩ dX1_sumOfConsistencies_6 ?_
    refine lv_icmp_ge (tgt := 35) hx hb dX1_sumOfConsistencies_9 (by decide) (fun c9 => ?_) (fun c9 => ?_)
    · skip
      have c9 : (nD f * 3) ≤ k := (g_le (by omega) (by omega)).mp c9
      exact absurd c9 (by omega)
    · skip
      have c9 : ¬ ((nD f * 3) ≤ k) := fun q => c9 ((g_le (by omega) (by omega)).mpr q)
      have hLt := hLn k (by omega)
      refine lv_aload_n hx hb dX1_sumOfConsistencies_12 rfl (lv_at hl 2 rfl) ?_
      refine g_get hx hb hts hown hV 2 2 (by decide) (v := .ref (w.2.2.2 16)) rfl rfl gin1 (by decide) gm_65 (rfl) dX1_sumOfConsistencies_13 ?_
      refine lv_iload_n hx hb dX1_sumOfConsistencies_16 rfl (lv_at hl 1 rfl) ?_
      refine g_ialn (a := 11) (n := 18) hx hb hV 16 (by decide) (by decide) rfl rfl (i := k) (by omega) dX1_sumOfConsistencies_17 ?_
      rw [(hLn k (by omega)).1]
      refine lv_if_le (tgt := 29) hx hb dX1_sumOfConsistencies_18 (by decide) (fun c18 => ?_) (fun c18 => ?_)
      · skip
        have c18 : nI (nL f k) ≤ nI 0 := c18
        have c18 : (nL f k) ≤ 0 := (g_le (by omega) (by omega)).mp c18
        refine lv_iinc (v := nI (k + 1)) (lv' := [(2, .int (nI (k + 1))), (1, .int (nI (sm (fun t => if 0 < nL f t then csN f t else 0) k))), (0, .ref (w.2.2.2 2))]) hx hb dX1_sumOfConsistencies_29 hl (k := 1) rfl (g_inc k 1) (by decide) rfl (fun ls hl => ?_)
        refine lv_goto (tgt := 4) hx hb dX1_sumOfConsistencies_32 (by decide) ?_
        refine ih ls ?_
        rw [(show sm (fun t => if 0 < nL f t then csN f t else 0) (k + 1) = sm (fun t => if 0 < nL f t then csN f t else 0) k from by first | exact congrArg (sm _ k + ·) (if_neg (by omega)) | exact congrArg (sm _ k + ·) (if_pos (by omega)))]
        exact lv_sub hl [1, 0, 2] rfl
      · skip
        have c18 : ¬ (nI (nL f k) ≤ nI 0) := c18
        have c18 : ¬ ((nL f k) ≤ 0) := fun q => c18 ((g_le (by omega) (by omega)).mpr q)
        refine lv_iload_n hx hb dX1_sumOfConsistencies_21 rfl (lv_at hl 0 rfl) ?_
        refine lv_aload_n hx hb dX1_sumOfConsistencies_22 rfl (lv_at hl 2 rfl) ?_
        refine lv_iload_n hx hb dX1_sumOfConsistencies_23 rfl (lv_at hl 1 rfl) ?_
        refine g_callV (As := [.int (nI k)]) (rest := [.int (nI (sm (fun t => if 0 < nL f t then csN f t else 0) k))]) G.1 hV 2 (by decide) rfl rfl ok_X1_consistency gm_149 gm_150 gm_148 (c_X1_consistency l w f k hI (by omega)) ⟨rfl, rfl⟩ ⟨Nat.le_of_ble_eq_true rfl, Nat.le_of_ble_eq_true rfl⟩ rfl hl.1 rfl (Nat.le_of_ble_eq_true rfl) ⟨Nat.zero_le _, Nat.zero_le _⟩ dX1_sumOfConsistencies_24 ?_
        refine g_iaddn hx hb dX1_sumOfConsistencies_27 ?_
        refine lv_istore_n (lv' := [(1, .int (nI ((sm (fun t => if 0 < nL f t then csN f t else 0) k) + (csN f k)))), (2, .int (nI k)), (0, .ref (w.2.2.2 2))]) hx hb dX1_sumOfConsistencies_28 rfl hl (by decide) rfl (fun ls hl => ?_)
        refine lv_iinc (v := nI (k + 1)) (lv' := [(2, .int (nI (k + 1))), (1, .int (nI ((sm (fun t => if 0 < nL f t then csN f t else 0) k) + (csN f k)))), (0, .ref (w.2.2.2 2))]) hx hb dX1_sumOfConsistencies_29 hl (k := 1) rfl (g_inc k 1) (by decide) rfl (fun ls hl => ?_)
        refine lv_goto (tgt := 4) hx hb dX1_sumOfConsistencies_32 (by decide) ?_
        refine ih ls ?_
        rw [(show sm (fun t => if 0 < nL f t then csN f t else 0) (k + 1) = (sm (fun t => if 0 < nL f t then csN f t else 0) k) + (csN f k) from by first | exact congrArg (sm _ k + ·) (if_neg (by omega)) | exact congrArg (sm _ k + ·) (if_pos (by omega)))]
        exact lv_sub hl [1, 0, 2] rfl
  · intro ls hl
    refine lv_iload_n hx hb dX1_sumOfConsistencies_4 rfl (lv_at hl 1 rfl) ?_
    refine lv_aload_n hx hb dX1_sumOfConsistencies_5 rfl (lv_at hl 2 rfl) ?_
    refine g_callV (As := []) (rest := [.int (nI (nD f * 3))]) G.1 hV 2 (by decide) rfl rfl ok_X1_textCount gm_103 gm_104 gm_102 (c_X1_textCount l w f  hI ) ⟨rfl, rfl⟩ ⟨Nat.le_of_ble_eq_true rfl, Nat.le_of_ble_eq_true rfl⟩ rfl hl.1 rfl (Nat.le_of_ble_eq_true rfl) ⟨Nat.zero_le _, Nat.zero_le _⟩ dX1_sumOfConsistencies_6 ?_
    refine lv_icmp_ge (tgt := 35) hx hb dX1_sumOfConsistencies_9 (by decide) (fun c9 => ?_) (fun c9 => ?_)
    · skip
      have c9 : (nD f * 3) ≤ (nD f * 3) := (g_le (by omega) (by omega)).mp c9
      refine lv_iload_n hx hb dX1_sumOfConsistencies_35 rfl (lv_at hl 0 rfl) ?_
      exact g_iret G (rfl) dX1_sumOfConsistencies_36
    · skip
      have c9 : ¬ ((nD f * 3) ≤ (nD f * 3)) := fun q => c9 ((g_le (by omega) (by omega)).mpr q)
      exact absurd c9 (by omega)
