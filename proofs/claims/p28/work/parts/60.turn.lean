/-! The law's loop. -/
set_option maxRecDepth 100000 in
set_option maxHeartbeats 4000000 in
theorem law_turn {p : Program} {e : Env} {S_ : State} {M_ : MethodId} {below : List Frame} {meth : Method} {c : Code} {l : Launch} (hfl : l.stackTraces = false) {q L : Nat} {xs : Nat → Int32} (hL : L ≤ 260) (G : CallFix p M_ c cL_law 7 S_ #[Value.ref q] gw RL ∧ True) (hall : ∀ v ∈ gwx, v.before #[Value.ref q] S_ = true) (hLB : LB S_) (hN : GNc S_) (hXs : va_X q L xs S_ S_.heap) {w : GP} {f : CS} {dy t : Nat} (ht : t < 80) (hJ : J f dy) {Q : State → Prop} {H : Heap} {locs : List Loc} {ls : Array Slot} {cells slots : Nat} (hc9 : cells + 7 ≤ 600104) (hs9 : slots + 121 ≤ 7301313) (hG : GS w (nA S_) S_ H locs f) (hl : lv_has ls 7 [(0, .ref q), (1, .ref (w.2.2.2 0)), (2, .int (nI t))]) (kk : ∀ (f1 : CS) (dy1 : Nat) (H1 : Heap) (locs1 : List Loc) (ls1 : Array Slot), J f1 dy1 → GS w (nA S_) S_ H1 locs1 f1 → lv_has ls1 7 [(0, .ref q), (1, .ref (w.2.2.2 0)), (2, .int (nI (t + 1)))] → W p l e room_1 S_ M_ #[Value.ref q] below meth c H1 locs1 (cells + 7) (slots + 121) Q (F0 M_ 84 ls1 [])) : W p l e room_1 S_ M_ #[Value.ref q] below meth c H locs cells slots Q (F0 M_ 84 ls []) := by
  obtain ⟨hx, hb, hml, hown, hts⟩ := id G.1
  have hI := hJ.hI
  obtain ⟨⟨hT, hT24⟩, ⟨hC, hC12⟩, ⟨hD, hD6⟩, hLn⟩ := id hI
  have hz2 : tsN f (nI 2) < 2 ^ 31 := ts_lt hI
  refine lv_iload_n hx hb dL_law_84 rfl (lv_at hl 2 rfl) ?_
  refine lv_bipush (v := nI 80) hx hb dL_law_85 (by decide) ?_
  refine lv_icmp_ge (tgt := 204) hx hb dL_law_87 (by decide) (fun c87 => ?_) (fun c87 => ?_)
  · skip
    have c87 : 80 ≤ t := (g_le (by omega) (by omega)).mp c87
    omega
  · skip
    have c87 : ¬ (80 ≤ t) := fun q => c87 ((g_le (by omega) (by omega)).mpr q)
    refine lv_aload_n hx hb dL_law_90 rfl (lv_at hl 0 rfl) ?_
    refine lv_iload_n hx hb dL_law_91 rfl (lv_at hl 2 rfl) ?_
    refine lv_bipush (v := nI 29) hx hb dL_law_92 (by decide) ?_
    refine g_iremn hx hb (by omega) (by omega) (by omega) dL_law_94 ?_
    refine l_cell (rest := []) G.1 hG hXs hL (by omega) ⟨Nat.le_of_ble_eq_true rfl, Nat.le_of_ble_eq_true rfl⟩ hl.1 (Nat.le_of_ble_eq_true rfl) ⟨by show _ ≤ 600104; omega, by show _ ≤ 7301313; omega⟩ dL_law_95 (fun v9 => ?_)
    refine lv_iload_n hx hb dL_law_98 rfl (lv_at hl 2 rfl) ?_
    refine lv_bipush (v := nI 29) hx hb dL_law_99 (by decide) ?_
    refine g_idivn hx hb (by omega) (by omega) (by omega) dL_law_101 ?_
    refine lv_bipush (v := nI 6) hx hb dL_law_102 (by decide) ?_
    refine g_imuln hx hb dL_law_104 ?_
    refine lv_ishr hx hb dL_law_105 ?_
    refine lv_istore_n (lv' := [(3, .int (v9 >>> ((nI ((t / 29) * 6)) &&& 31))), (0, .ref q), (1, .ref (w.2.2.2 0)), (2, .int (nI t))]) hx hb dL_law_106 rfl hl (by decide) rfl (fun ls hl => ?_)
    obtain ⟨x, ex⟩ : ∃ x, x = v9 >>> ((nI ((t / 29) * 6)) &&& 31) := ⟨_, rfl⟩
    rw [← ex] at hl
    refine lv_aload_n hx hb dL_law_107 rfl (lv_at hl 2 rfl) ?_
    refine lv_bipush (v := nI 10) hx hb dL_law_108 (by decide) ?_
    refine g_callV (v := .int (nI (tsN f (nI 2)))) (As := [.int (nI 10)]) (rest := []) G.1 hG.1 0 (by decide) rfl rfl ok_X2_many gm_378 gm_379 gm_477 (by have q9 := (c_X2_many l w f 10 hI (by omega)); rw [show gRd (.int (maF f 10)) = gRd (.int (nI (tsN f (nI 2)))) from congrArg (fun z => gRd (.int z)) (show maF f 10 = nI (tsN f (nI 2)) from rfl)] at q9; exact q9) ⟨rfl, rfl⟩ ⟨Nat.le_of_ble_eq_true rfl, Nat.le_of_ble_eq_true rfl⟩ rfl hl.1 rfl (Nat.le_of_ble_eq_true rfl) ⟨by show _ ≤ 600104; omega, by show _ ≤ 7301313; omega⟩ dL_law_110 ?_
    refine lv_istore (lv' := [(4, .int (nI (tsN f (nI 2)))), (3, .int x), (0, .ref q), (1, .ref (w.2.2.2 0)), (2, .int (nI t))]) hx hb dL_law_113 hl (by decide) rfl (fun ls hl => ?_)
    refine lv_aload_n hx hb dL_law_115 rfl (lv_at hl 3 rfl) ?_
    refine lv_iload_n hx hb dL_law_116 rfl (lv_at hl 1 rfl) ?_
    refine l_act (rest := []) G.1 hall hLB hN hfl hG hJ ⟨Nat.le_of_ble_eq_true rfl, Nat.le_of_ble_eq_true rfl⟩ hl.1 (Nat.le_of_ble_eq_true rfl) ⟨by show _ ≤ 600104; omega, by show _ ≤ 7301313; omega⟩ dL_law_117 (fun f1 dy1 H locs J1 h2 hG => ?_)
    have hI := J1.hI
    obtain ⟨⟨hT, hT24⟩, ⟨hC, hC12⟩, ⟨hD, hD6⟩, hLn⟩ := id hI
    refine lv_if_eq (tgt := 145) hx hb dL_law_120 (by decide) (fun c120 => ?_) (fun c120 => ?_)
    · skip
      have c120 : nI 1 = nI 0 := c120
      have c120 : 1 = 0 := (g_eq (by omega) (by omega)).mp c120
      omega
    · skip
      have c120 : ¬ (nI 1 = nI 0) := c120
      have c120 : ¬ (1 = 0) := fun q => c120 ((g_eq (by omega) (by omega)).mpr q)
      refine lv_aload_n hx hb dL_law_123 rfl (lv_at hl 3 rfl) ?_
      refine lv_bipush (v := nI 10) hx hb dL_law_124 (by decide) ?_
      refine g_callV (v := .int (nI (tsN f1 (nI 2)))) (As := [.int (nI 10)]) (rest := []) G.1 hG.1 0 (by decide) rfl rfl ok_X2_many gm_378 gm_379 gm_477 (by have q9 := (c_X2_many l w f1 10 hI (by omega)); rw [show gRd (.int (maF f1 10)) = gRd (.int (nI (tsN f1 (nI 2)))) from congrArg (fun z => gRd (.int z)) (show maF f1 10 = nI (tsN f1 (nI 2)) from rfl)] at q9; exact q9) ⟨rfl, rfl⟩ ⟨Nat.le_of_ble_eq_true rfl, Nat.le_of_ble_eq_true rfl⟩ rfl hl.1 rfl (Nat.le_of_ble_eq_true rfl) ⟨by show _ ≤ 600104; omega, by show _ ≤ 7301313; omega⟩ dL_law_126 ?_
      refine lv_iload hx hb dL_law_129 (lv_at hl 0 rfl) ?_
      refine lv_icmp_ge (tgt := 147) hx hb dL_law_131 (by decide) (fun c131 => ?_) (fun c131 => ?_)
      · skip
        have c131 : (tsN f (nI 2)) ≤ (tsN f1 (nI 2)) := (g_le hz2 (ts_lt hI)).mp c131
        refine lv_iload_n hx hb dL_law_147 rfl (lv_at hl 4 rfl) ?_
        refine lv_bipush (v := nI 8) hx hb dL_law_148 (by decide) ?_
        refine g_iremn hx hb (by omega) (by omega) (by omega) dL_law_150 ?_
        refine lv_bipush (v := nI 7) hx hb dL_law_151 (by decide) ?_
        refine lv_icmp_eq (tgt := 159) hx hb dL_law_153 (by decide) (fun c153 => ?_) (fun c153 => ?_)
        · skip
          have c153 : (t % 8) = 7 := (g_eq (by omega) (by omega)).mp c153
          refine lv_aload_n hx hb dL_law_159 rfl (lv_at hl 3 rfl) ?_
          refine g_callV (As := []) (rest := []) G.1 hG.1 0 (by decide) rfl rfl ok_X2_digest gm_452 gm_453 gm_513 (c_X2_digest l w f1  hI ) ⟨rfl, rfl⟩ ⟨Nat.le_of_ble_eq_true rfl, Nat.le_of_ble_eq_true rfl⟩ rfl hl.1 rfl (Nat.le_of_ble_eq_true rfl) ⟨by show _ ≤ 600104; omega, by show _ ≤ 7301313; omega⟩ dL_law_160 ?_
          refine lv_lstore (lv' := [(5, .long (dig f1)), (4, .int (nI (tsN f (nI 2)))), (3, .int x), (0, .ref q), (1, .ref (w.2.2.2 0)), (2, .int (nI t))]) hx hb dL_law_163 hl (by decide) rfl (fun ls hl => ?_)
          refine lv_aload_n hx hb dL_law_165 rfl (lv_at hl 4 rfl) ?_
          refine l_chk (As := [.ref (w.2.2.2 0)]) (rest := []) G.1 hG ok_L_areUsesRight gm_515 gm_514 (c_L_areUsesRight l w f1 hI J1.use J1.co J1.D2) ⟨rfl, rfl⟩ ⟨Nat.le_of_ble_eq_true rfl, Nat.le_of_ble_eq_true rfl⟩ rfl hl.1 rfl (Nat.le_of_ble_eq_true rfl) ⟨by show _ ≤ 600104; omega, by show _ ≤ 7301313; omega⟩ dL_law_166 (fun H hG => ?_)
          refine lv_if_eq (tgt := 196) hx hb dL_law_169 (by decide) (fun c169 => ?_) (fun c169 => ?_)
          · skip
            have c169 : nI 1 = nI 0 := c169
            have c169 : 1 = 0 := (g_eq (by omega) (by omega)).mp c169
            omega
          · skip
            have c169 : ¬ (nI 1 = nI 0) := c169
            have c169 : ¬ (1 = 0) := fun q => c169 ((g_eq (by omega) (by omega)).mpr q)
            refine lv_aload_n hx hb dL_law_172 rfl (lv_at hl 4 rfl) ?_
            refine l_chk (As := [.ref (w.2.2.2 0)]) (rest := []) G.1 hG ok_L_areTermsRight gm_518 gm_517 (c_L_areTermsRight l w f1 hI dy1 J1.day J1.d199 J1.tm J1.1.2.2.2.1 J1.1.2.2.2.2.1 J1.ap) ⟨rfl, rfl⟩ ⟨Nat.le_of_ble_eq_true rfl, Nat.le_of_ble_eq_true rfl⟩ rfl hl.1 rfl (Nat.le_of_ble_eq_true rfl) ⟨by show _ ≤ 600104; omega, by show _ ≤ 7301313; omega⟩ dL_law_173 (fun H hG => ?_)
            refine lv_if_eq (tgt := 196) hx hb dL_law_176 (by decide) (fun c176 => ?_) (fun c176 => ?_)
            · skip
              have c176 : nI 1 = nI 0 := c176
              have c176 : 1 = 0 := (g_eq (by omega) (by omega)).mp c176
              omega
            · skip
              have c176 : ¬ (nI 1 = nI 0) := c176
              have c176 : ¬ (1 = 0) := fun q => c176 ((g_eq (by omega) (by omega)).mpr q)
              refine lv_aload_n hx hb dL_law_179 rfl (lv_at hl 4 rfl) ?_
              refine l_chk (As := [.ref (w.2.2.2 0)]) (rest := []) G.1 hG ok_L_areTextsRight gm_521 gm_520 (c_L_areTextsRight l w f1 hI dy1 J1.day J1.d199 J1.tm J1.use J1.D2 (fun t ht => (J1.1.2.2.2.2.2.2 t ht).1) (fun t ht => (J1.1.2.2.2.2.2.2 t ht).2.1) J1.gr) ⟨rfl, rfl⟩ ⟨Nat.le_of_ble_eq_true rfl, Nat.le_of_ble_eq_true rfl⟩ rfl hl.1 rfl (Nat.le_of_ble_eq_true rfl) ⟨by show _ ≤ 600104; omega, by show _ ≤ 7301313; omega⟩ dL_law_180 (fun H hG => ?_)
              refine lv_if_eq (tgt := 196) hx hb dL_law_183 (by decide) (fun c183 => ?_) (fun c183 => ?_)
              · skip
                have c183 : nI 1 = nI 0 := c183
                have c183 : 1 = 0 := (g_eq (by omega) (by omega)).mp c183
                omega
              · skip
                have c183 : ¬ (nI 1 = nI 0) := c183
                have c183 : ¬ (1 = 0) := fun q => c183 ((g_eq (by omega) (by omega)).mpr q)
                refine lv_aload_n hx hb dL_law_186 rfl (lv_at hl 4 rfl) ?_
                refine g_callV (As := []) (rest := []) G.1 hG.1 0 (by decide) rfl rfl ok_X2_digest gm_452 gm_453 gm_513 (c_X2_digest l w f1  hI ) ⟨rfl, rfl⟩ ⟨Nat.le_of_ble_eq_true rfl, Nat.le_of_ble_eq_true rfl⟩ rfl hl.1 rfl (Nat.le_of_ble_eq_true rfl) ⟨by show _ ≤ 600104; omega, by show _ ≤ 7301313; omega⟩ dL_law_187 ?_
                refine lv_lload hx hb dL_law_190 (lv_at hl 0 rfl) ?_
                refine W.lcmp hx hb dL_law_192 ?_
                refine W.eq (g2 := F0 M_ _ ls [.int (nI 0)]) (by rw [show lg_cmp (dig f1) (dig f1) = nI 0 from by unfold lg_cmp; rw [if_neg (by simp), if_pos rfl]; rfl]) ?_
                refine lv_if_eq (tgt := 198) hx hb dL_law_193 (by decide) (fun c193 => ?_) (fun c193 => ?_)
                · skip
                  have c193 : nI 0 = nI 0 := c193
                  have c193 : 0 = 0 := (g_eq (by omega) (by omega)).mp c193
                  refine lv_iinc (v := nI (t + 1)) (lv' := [(2, .int (nI (t + 1))), (5, .long (dig f1)), (4, .int (nI (tsN f (nI 2)))), (3, .int x), (0, .ref q), (1, .ref (w.2.2.2 0))]) hx hb dL_law_198 hl (k := 5) rfl (g_inc t 1) (by decide) rfl (fun ls hl => ?_)
                  refine lv_goto (tgt := 84) hx hb dL_law_201 (by decide) ?_
                  refine W.widen (k := cells + 7) (n := slots + 121) (by omega) (by omega) ?_
                  exact kk f1 dy1 H locs ls J1 hG (lv_sub hl [4, 5, 0] rfl)
                · skip
                  have c193 : ¬ (nI 0 = nI 0) := c193
                  have c193 : ¬ (0 = 0) := fun q => c193 ((g_eq (by omega) (by omega)).mpr q)
                  omega
        · skip
          have c153 : ¬ ((t % 8) = 7) := fun q => c153 ((g_eq (by omega) (by omega)).mpr q)
          refine lv_goto (tgt := 198) hx hb dL_law_156 (by decide) ?_
          refine lv_iinc (v := nI (t + 1)) (lv' := [(2, .int (nI (t + 1))), (4, .int (nI (tsN f (nI 2)))), (3, .int x), (0, .ref q), (1, .ref (w.2.2.2 0))]) hx hb dL_law_198 hl (k := 4) rfl (g_inc t 1) (by decide) rfl (fun ls hl => ?_)
          refine lv_goto (tgt := 84) hx hb dL_law_201 (by decide) ?_
          refine W.widen (k := cells + 7) (n := slots + 121) (by omega) (by omega) ?_
          exact kk f1 dy1 H locs ls J1 hG (lv_sub hl [3, 4, 0] rfl)
      · skip
        have c131 : ¬ ((tsN f (nI 2)) ≤ (tsN f1 (nI 2))) := fun q => c131 ((g_le hz2 (ts_lt hI)).mpr q)
        refine lv_iload_n hx hb dL_law_134 rfl (lv_at hl 1 rfl) ?_
        refine lv_bipush (v := nI 20) hx hb dL_law_135 (by decide) ?_
        refine g_callS (As := [.int x, .int (nI 20)]) (rest := []) G.1 hG.1 ok_L_below gm_467 gm_466 (c_L_below l w f1 x 20  (by omega) (by omega)) ⟨rfl, rfl⟩ ⟨Nat.le_of_ble_eq_true rfl, Nat.le_of_ble_eq_true rfl⟩ rfl hl.1 rfl (Nat.le_of_ble_eq_true rfl) ⟨by show _ ≤ 600104; omega, by show _ ≤ 7301313; omega⟩ dL_law_137 ?_
        refine lv_bipush (v := nI 13) hx hb dL_law_140 (by decide) ?_
        refine lv_icmp_ge (tgt := 147) hx hb dL_law_142 (by decide) (fun c142 => ?_) (fun c142 => ?_)
        · skip
          have c142 : 13 ≤ (blN x 20) := (g_le (by omega) (Nat.lt_trans (bl_lt _ (by omega)) (by omega))).mp c142
          refine lv_iload_n hx hb dL_law_147 rfl (lv_at hl 4 rfl) ?_
          refine lv_bipush (v := nI 8) hx hb dL_law_148 (by decide) ?_
          refine g_iremn hx hb (by omega) (by omega) (by omega) dL_law_150 ?_
          refine lv_bipush (v := nI 7) hx hb dL_law_151 (by decide) ?_
          refine lv_icmp_eq (tgt := 159) hx hb dL_law_153 (by decide) (fun c153 => ?_) (fun c153 => ?_)
          · skip
            have c153 : (t % 8) = 7 := (g_eq (by omega) (by omega)).mp c153
            refine lv_aload_n hx hb dL_law_159 rfl (lv_at hl 3 rfl) ?_
            refine g_callV (As := []) (rest := []) G.1 hG.1 0 (by decide) rfl rfl ok_X2_digest gm_452 gm_453 gm_513 (c_X2_digest l w f1  hI ) ⟨rfl, rfl⟩ ⟨Nat.le_of_ble_eq_true rfl, Nat.le_of_ble_eq_true rfl⟩ rfl hl.1 rfl (Nat.le_of_ble_eq_true rfl) ⟨by show _ ≤ 600104; omega, by show _ ≤ 7301313; omega⟩ dL_law_160 ?_
            refine lv_lstore (lv' := [(5, .long (dig f1)), (4, .int (nI (tsN f (nI 2)))), (3, .int x), (0, .ref q), (1, .ref (w.2.2.2 0)), (2, .int (nI t))]) hx hb dL_law_163 hl (by decide) rfl (fun ls hl => ?_)
            refine lv_aload_n hx hb dL_law_165 rfl (lv_at hl 4 rfl) ?_
            refine l_chk (As := [.ref (w.2.2.2 0)]) (rest := []) G.1 hG ok_L_areUsesRight gm_515 gm_514 (c_L_areUsesRight l w f1 hI J1.use J1.co J1.D2) ⟨rfl, rfl⟩ ⟨Nat.le_of_ble_eq_true rfl, Nat.le_of_ble_eq_true rfl⟩ rfl hl.1 rfl (Nat.le_of_ble_eq_true rfl) ⟨by show _ ≤ 600104; omega, by show _ ≤ 7301313; omega⟩ dL_law_166 (fun H hG => ?_)
            refine lv_if_eq (tgt := 196) hx hb dL_law_169 (by decide) (fun c169 => ?_) (fun c169 => ?_)
            · skip
              have c169 : nI 1 = nI 0 := c169
              have c169 : 1 = 0 := (g_eq (by omega) (by omega)).mp c169
              omega
            · skip
              have c169 : ¬ (nI 1 = nI 0) := c169
              have c169 : ¬ (1 = 0) := fun q => c169 ((g_eq (by omega) (by omega)).mpr q)
              refine lv_aload_n hx hb dL_law_172 rfl (lv_at hl 4 rfl) ?_
              refine l_chk (As := [.ref (w.2.2.2 0)]) (rest := []) G.1 hG ok_L_areTermsRight gm_518 gm_517 (c_L_areTermsRight l w f1 hI dy1 J1.day J1.d199 J1.tm J1.1.2.2.2.1 J1.1.2.2.2.2.1 J1.ap) ⟨rfl, rfl⟩ ⟨Nat.le_of_ble_eq_true rfl, Nat.le_of_ble_eq_true rfl⟩ rfl hl.1 rfl (Nat.le_of_ble_eq_true rfl) ⟨by show _ ≤ 600104; omega, by show _ ≤ 7301313; omega⟩ dL_law_173 (fun H hG => ?_)
              refine lv_if_eq (tgt := 196) hx hb dL_law_176 (by decide) (fun c176 => ?_) (fun c176 => ?_)
              · skip
                have c176 : nI 1 = nI 0 := c176
                have c176 : 1 = 0 := (g_eq (by omega) (by omega)).mp c176
                omega
              · skip
                have c176 : ¬ (nI 1 = nI 0) := c176
                have c176 : ¬ (1 = 0) := fun q => c176 ((g_eq (by omega) (by omega)).mpr q)
                refine lv_aload_n hx hb dL_law_179 rfl (lv_at hl 4 rfl) ?_
                refine l_chk (As := [.ref (w.2.2.2 0)]) (rest := []) G.1 hG ok_L_areTextsRight gm_521 gm_520 (c_L_areTextsRight l w f1 hI dy1 J1.day J1.d199 J1.tm J1.use J1.D2 (fun t ht => (J1.1.2.2.2.2.2.2 t ht).1) (fun t ht => (J1.1.2.2.2.2.2.2 t ht).2.1) J1.gr) ⟨rfl, rfl⟩ ⟨Nat.le_of_ble_eq_true rfl, Nat.le_of_ble_eq_true rfl⟩ rfl hl.1 rfl (Nat.le_of_ble_eq_true rfl) ⟨by show _ ≤ 600104; omega, by show _ ≤ 7301313; omega⟩ dL_law_180 (fun H hG => ?_)
                refine lv_if_eq (tgt := 196) hx hb dL_law_183 (by decide) (fun c183 => ?_) (fun c183 => ?_)
                · skip
                  have c183 : nI 1 = nI 0 := c183
                  have c183 : 1 = 0 := (g_eq (by omega) (by omega)).mp c183
                  omega
                · skip
                  have c183 : ¬ (nI 1 = nI 0) := c183
                  have c183 : ¬ (1 = 0) := fun q => c183 ((g_eq (by omega) (by omega)).mpr q)
                  refine lv_aload_n hx hb dL_law_186 rfl (lv_at hl 4 rfl) ?_
                  refine g_callV (As := []) (rest := []) G.1 hG.1 0 (by decide) rfl rfl ok_X2_digest gm_452 gm_453 gm_513 (c_X2_digest l w f1  hI ) ⟨rfl, rfl⟩ ⟨Nat.le_of_ble_eq_true rfl, Nat.le_of_ble_eq_true rfl⟩ rfl hl.1 rfl (Nat.le_of_ble_eq_true rfl) ⟨by show _ ≤ 600104; omega, by show _ ≤ 7301313; omega⟩ dL_law_187 ?_
                  refine lv_lload hx hb dL_law_190 (lv_at hl 0 rfl) ?_
                  refine W.lcmp hx hb dL_law_192 ?_
                  refine W.eq (g2 := F0 M_ _ ls [.int (nI 0)]) (by rw [show lg_cmp (dig f1) (dig f1) = nI 0 from by unfold lg_cmp; rw [if_neg (by simp), if_pos rfl]; rfl]) ?_
                  refine lv_if_eq (tgt := 198) hx hb dL_law_193 (by decide) (fun c193 => ?_) (fun c193 => ?_)
                  · skip
                    have c193 : nI 0 = nI 0 := c193
                    have c193 : 0 = 0 := (g_eq (by omega) (by omega)).mp c193
                    refine lv_iinc (v := nI (t + 1)) (lv' := [(2, .int (nI (t + 1))), (5, .long (dig f1)), (4, .int (nI (tsN f (nI 2)))), (3, .int x), (0, .ref q), (1, .ref (w.2.2.2 0))]) hx hb dL_law_198 hl (k := 5) rfl (g_inc t 1) (by decide) rfl (fun ls hl => ?_)
                    refine lv_goto (tgt := 84) hx hb dL_law_201 (by decide) ?_
                    refine W.widen (k := cells + 7) (n := slots + 121) (by omega) (by omega) ?_
                    exact kk f1 dy1 H locs ls J1 hG (lv_sub hl [4, 5, 0] rfl)
                  · skip
                    have c193 : ¬ (nI 0 = nI 0) := c193
                    have c193 : ¬ (0 = 0) := fun q => c193 ((g_eq (by omega) (by omega)).mpr q)
                    omega
          · skip
            have c153 : ¬ ((t % 8) = 7) := fun q => c153 ((g_eq (by omega) (by omega)).mpr q)
            refine lv_goto (tgt := 198) hx hb dL_law_156 (by decide) ?_
            refine lv_iinc (v := nI (t + 1)) (lv' := [(2, .int (nI (t + 1))), (4, .int (nI (tsN f (nI 2)))), (3, .int x), (0, .ref q), (1, .ref (w.2.2.2 0))]) hx hb dL_law_198 hl (k := 4) rfl (g_inc t 1) (by decide) rfl (fun ls hl => ?_)
            refine lv_goto (tgt := 84) hx hb dL_law_201 (by decide) ?_
            refine W.widen (k := cells + 7) (n := slots + 121) (by omega) (by omega) ?_
            exact kk f1 dy1 H locs ls J1 hG (lv_sub hl [3, 4, 0] rfl)
        · skip
          have c142 : ¬ (13 ≤ (blN x 20)) := fun q => c142 ((g_le (by omega) (Nat.lt_trans (bl_lt _ (by omega)) (by omega))).mpr q)
          exact absurd (h2 (by omega)) (by omega)
