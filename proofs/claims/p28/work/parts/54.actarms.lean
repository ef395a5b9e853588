/-! act: terms and votes. -/
set_option maxRecDepth 100000 in
set_option maxHeartbeats 4000000 in
theorem a_140 {l : Launch} (hfl : l.stackTraces = false) {w : GP} {f : CS} {x : Int32} {dy k d g : Nat} (hJ : J f dy) (hk : k < nT f) (hd : d < 2) (hg : g < 2) (hz9 : tsN f (nI 1) < 2 ^ 31) (hz : blN x 20 = 0) {P_ : Program} {E_ : Env} {S_ : State} {M_ : MethodId} {B_ : List Frame} {T_ : Method} {C_ : Code} {ls : Array Slot} {H : Heap} {locs : List Loc} (G : Gx P_ C_ cL_act 16 S_ (aV w x) RL M_ T_ (some .boolean)) (hall : ∀ v ∈ gwx, v.before (aV w x) S_ = true) (hxt : C_.exceptionTable.toList = tableOf actH) (hX : GX w S_ S_.heap) (hN : GNc S_) (hG : GS w (gA w) S_ H locs f) (hl : lv_has ls 16 [(0, .ref (w.2.2.2 0)), (1, .int x), (2, .int (nI (nT f))), (3, .int (nI k)), (4, .int (nI d)), (5, .int (nI g)), (6, .int (nI (nC f))), (7, .int (nI (tsN f (nI 1))))]) : W P_ l E_ aR S_ M_ (aV w x) B_ T_ C_ H locs 0 0 (MQ B_ (gWr w (aPost f x)) (aV w x) S_ 1 6 (gA w)) (F0 M_ 140 ls []) := by
  obtain ⟨hx, hb, hml, hown, hts⟩ := id G.1
  have hI := hJ.hI
  obtain ⟨⟨hT, hT24⟩, ⟨hC, hC12⟩, ⟨hD, hD6⟩, hLn⟩ := id hI
  have hT6 := hJ.T6
  have hC3 := hJ.C3
  have hD2 := hJ.D2
  have hdy := hJ.day
  have hdl := hJ.d199
  refine lv_aload_n hx hb dL_act_140 rfl (lv_at hl 0 rfl) ?_
  refine lv_iload_n hx hb dL_act_141 rfl (lv_at hl 1 rfl) ?_
  refine lv_iconst (v := nI 3) hx hb dL_act_142 (by decide) ?_
  refine lv_ishr hx hb dL_act_143 ?_
  refine lv_iload hx hb dL_act_144 (lv_at hl 6 rfl) ?_
  refine g_callS (As := [.int (x >>> ((nI 3) &&& 31)), .int (nI (nC f))]) (rest := [.ref (w.2.2.2 0)]) G.1 hG.1 ok_L_below gm_467 gm_466 (c_L_below l w f (x >>> ((nI 3) &&& 31)) (nC f)  (by omega) (by omega)) ⟨rfl, rfl⟩ ⟨Nat.le_of_ble_eq_true rfl, Nat.le_of_ble_eq_true rfl⟩ rfl hl.1 rfl (Nat.le_of_ble_eq_true rfl) ⟨Nat.le_of_ble_eq_true rfl, Nat.le_of_ble_eq_true rfl⟩ dL_act_146 ?_
  obtain ⟨c, hc, ec⟩ : ∃ z9, z9 < nC f ∧ blN (x >>> ((nI 3) &&& 31)) (nC f) = z9 := ⟨_, bl_lt _ (by omega), rfl⟩
  refine W.eq (g2 := F0 M_ _ ls [.int (nI c), .ref (w.2.2.2 0)]) (by first | (rw [ec]; done) | (rw [ec]; rfl)) ?_
  refine lv_iload hx hb dL_act_149 (lv_at hl 5 rfl) ?_
  refine lv_iload_n hx hb dL_act_151 rfl (lv_at hl 1 rfl) ?_
  refine lv_bipush (v := nI 7) hx hb dL_act_152 (by decide) ?_
  refine lv_ishr hx hb dL_act_154 ?_
  refine lv_iconst (v := nI 4) hx hb dL_act_155 (by decide) ?_
  refine g_callS (As := [.int (x >>> ((nI 7) &&& 31)), .int (nI 4)]) (rest := [.int (nI g), .int (nI c), .ref (w.2.2.2 0)]) G.1 hG.1 ok_L_below gm_467 gm_466 (c_L_below l w f (x >>> ((nI 7) &&& 31)) 4  (by omega) (by omega)) ⟨rfl, rfl⟩ ⟨Nat.le_of_ble_eq_true rfl, Nat.le_of_ble_eq_true rfl⟩ rfl hl.1 rfl (Nat.le_of_ble_eq_true rfl) ⟨Nat.le_of_ble_eq_true rfl, Nat.le_of_ble_eq_true rfl⟩ dL_act_156 ?_
  obtain ⟨y, hy, ey⟩ : ∃ z9, z9 < 4 ∧ blN (x >>> ((nI 7) &&& 31)) 4 = z9 := ⟨_, bl_lt _ (by omega), rfl⟩
  refine W.eq (g2 := F0 M_ _ ls [.int (nI y), .int (nI g), .int (nI c), .ref (w.2.2.2 0)]) (by first | (rw [ey]; done) | (rw [ey]; rfl)) ?_
  by_cases hq : 24 ≤ nT f ∨ hasT f (nI c) (nI g) (nI y) = true
  · skip
    exact a_724s hown hts hxt hX hN hG 24 rfl (by decide +kernel) (by decide +kernel) (a_runX (As := [.int (nI c), .int (nI g), .int (nI y)]) (rest := []) G.1 hall hG.1 (hX.at hG) 0 (by decide) rfl rfl ok_X2_term gm_407 gm_408 gm_478 (x_X2_term l hfl w f c g y hI (by omega) (by omega) (by omega) (hq)) ⟨rfl, rfl⟩ ⟨Nat.le_of_ble_eq_true rfl, Nat.le_of_ble_eq_true rfl⟩ rfl hl.1 rfl (Nat.le_of_ble_eq_true rfl) ⟨Nat.le_of_ble_eq_true rfl, Nat.le_of_ble_eq_true rfl⟩ dL_act_159) (fun q H1 hG1 => a_724 (f := f) (fc := f) hJ (Nat.le_refl _) (Nat.le_refl _) hz9 (by omega) G hG1 (lv_sub hl [0, 1, 7] rfl))
  · skip
    have hq2 : ¬ hasT f (nI c) (nI g) (nI y) = true := fun q => hq (Or.inr q)
    have hq1 : nT f < 24 := Nat.not_le.mp (fun q => hq (Or.inl q))
    refine g_callW (As := [.int (nI c), .int (nI g), .int (nI y)]) (rest := []) G.1 hG 0 (by decide) rfl rfl ok_X2_term gm_407 gm_408 gm_478 (c_X2_term l w f c g y hI (by omega) (by omega) (by omega) (by omega) (hq2)) ⟨rfl, rfl⟩ ⟨Nat.le_of_ble_eq_true rfl, Nat.le_of_ble_eq_true rfl⟩ rfl hl.1 rfl (Nat.le_of_ble_eq_true rfl) ⟨Nat.le_of_ble_eq_true rfl, Nat.le_of_ble_eq_true rfl⟩ dL_act_159 (fun v f159 H locs hp hG => ?_)
    obtain ⟨rfl, rfl⟩ := hp
    obtain ⟨f1, ef, J1, bT, b5, b2⟩ := am_term hJ hc (show g < 3 by omega) (show y < 20 by omega) hq1 hq2
    rw [← ef] at hG
    have hI := J1.hI
    obtain ⟨⟨hT, hT24⟩, ⟨hC, hC12⟩, ⟨hD, hD6⟩, hLn⟩ := id hI
    refine lv_iload_n hx hb dL_act_162 rfl (lv_at hl 2 rfl) ?_
    refine lv_icmp_ne (tgt := 179) hx hb dL_act_163 (by decide) (fun c163 => ?_) (fun c163 => ?_)
    · skip
      have c163 : ¬ ((nT f) = (nT f)) := fun q => c163 ((g_eq (by omega) (by omega)).mpr q)
      exact absurd rfl c163
    · skip
      have c163 : (nT f) = (nT f) := (g_eq (by omega) (by omega)).mp c163
      refine lv_aload_n hx hb dL_act_166 rfl (lv_at hl 0 rfl) ?_
      refine lv_iload_n hx hb dL_act_167 rfl (lv_at hl 2 rfl) ?_
      refine lv_iconst (v := nI 3) hx hb dL_act_168 (by decide) ?_
      refine g_callV (v := .int (nI 0)) (As := [.int (nI (nT f)), .int (nI 3)]) (rest := []) G.1 hG.1 0 (by decide) rfl rfl ok_X2_ofTerm gm_357 gm_358 gm_479 (by have q9 := (c_X2_ofTerm l w f1 (nT f) 3 hI (by omega) (by omega)); rw [show gRd (.int (otF f1 (nT f) 3)) = gRd (.int (nI 0)) from congrArg (fun z => gRd (.int z)) (show otF f1 (nT f) 3 = nI 0 from b5)] at q9; exact q9) ⟨rfl, rfl⟩ ⟨Nat.le_of_ble_eq_true rfl, Nat.le_of_ble_eq_true rfl⟩ rfl hl.1 rfl (Nat.le_of_ble_eq_true rfl) ⟨Nat.le_of_ble_eq_true rfl, Nat.le_of_ble_eq_true rfl⟩ dL_act_169 ?_
      refine lv_if_ne (tgt := 179) hx hb dL_act_172 (by decide) (fun c172 => ?_) (fun c172 => ?_)
      · skip
        have c172 : ¬ (nI 0 = nI 0) := c172
        have c172 : ¬ (0 = 0) := fun q => c172 ((g_eq (by omega) (by omega)).mpr q)
        omega
      · skip
        have c172 : nI 0 = nI 0 := c172
        have c172 : 0 = 0 := (g_eq (by omega) (by omega)).mp c172
        refine lv_iconst (v := nI 1) hx hb dL_act_175 (by decide) ?_
        refine lv_goto (tgt := 180) hx hb dL_act_176 (by decide) ?_
        exact a_zret G hG (⟨rfl, _, J1, fun _ => b2⟩) (Or.inr rfl) (by decide) (by decide) dL_act_180
set_option maxRecDepth 100000 in
set_option maxHeartbeats 4000000 in
theorem a_181 {l : Launch} (hfl : l.stackTraces = false) {w : GP} {f : CS} {x : Int32} {dy k d g : Nat} (hJ : J f dy) (hk : k < nT f) (hd : d < 2) (hg : g < 2) (hz9 : tsN f (nI 1) < 2 ^ 31) (hz : 1 ≤ blN x 20 ∧ blN x 20 ≤ 4) {P_ : Program} {E_ : Env} {S_ : State} {M_ : MethodId} {B_ : List Frame} {T_ : Method} {C_ : Code} {ls : Array Slot} {H : Heap} {locs : List Loc} (G : Gx P_ C_ cL_act 16 S_ (aV w x) RL M_ T_ (some .boolean)) (hall : ∀ v ∈ gwx, v.before (aV w x) S_ = true) (hxt : C_.exceptionTable.toList = tableOf actH) (hX : GX w S_ S_.heap) (hN : GNc S_) (hG : GS w (gA w) S_ H locs f) (hl : lv_has ls 16 [(0, .ref (w.2.2.2 0)), (1, .int x), (2, .int (nI (nT f))), (3, .int (nI k)), (4, .int (nI d)), (5, .int (nI g)), (6, .int (nI (nC f))), (7, .int (nI (tsN f (nI 1))))]) : W P_ l E_ aR S_ M_ (aV w x) B_ T_ C_ H locs 0 0 (MQ B_ (gWr w (aPost f x)) (aV w x) S_ 1 6 (gA w)) (F0 M_ 181 ls []) := by
  obtain ⟨hx, hb, hml, hown, hts⟩ := id G.1
  have hI := hJ.hI
  obtain ⟨⟨hT, hT24⟩, ⟨hC, hC12⟩, ⟨hD, hD6⟩, hLn⟩ := id hI
  have hT6 := hJ.T6
  have hC3 := hJ.C3
  have hD2 := hJ.D2
  have hdy := hJ.day
  have hdl := hJ.d199
  refine lv_iconst (v := nI 0) hx hb dL_act_181 (by decide) ?_
  refine lv_istore (lv' := [(8, .int (nI 0)), (0, .ref (w.2.2.2 0)), (1, .int x), (2, .int (nI (nT f))), (3, .int (nI k)), (4, .int (nI d)), (5, .int (nI g)), (6, .int (nI (nC f))), (7, .int (nI (tsN f (nI 1))))]) hx hb dL_act_182 hl (by decide) rfl (fun ls hl => ?_)
  refine lv_iload hx hb dL_act_184 (lv_at hl 0 rfl) ?_
  refine lv_iconst (v := nI 3) hx hb dL_act_186 (by decide) ?_
  refine lv_icmp_ge (tgt := 205) hx hb dL_act_187 (by decide) (fun c187 => ?_) (fun c187 => ?_)
  · skip
    have c187 : 3 ≤ 0 := (g_le (by omega) (by omega)).mp c187
    omega
  · skip
    have c187 : ¬ (3 ≤ 0) := fun q => c187 ((g_le (by omega) (by omega)).mpr q)
    refine lv_aload_n hx hb dL_act_190 rfl (lv_at hl 1 rfl) ?_
    refine lv_iload_n hx hb dL_act_191 rfl (lv_at hl 4 rfl) ?_
    refine lv_iload hx hb dL_act_192 (lv_at hl 0 rfl) ?_
    refine lv_iconst (v := nI 1) hx hb dL_act_194 (by decide) ?_
    by_cases hq : ¬ f 5 k = nI 0 ∨ hs (f 6 k ||| f 7 k) (nI 0) = true
    · skip
      exact a_724s hown hts hxt hX hN hG 25 rfl (by decide +kernel) (by decide +kernel) (a_runX (As := [.int (nI k), .int (nI 0), .int (nI 1)]) (rest := []) G.1 hall hG.1 (hX.at hG) 0 (by decide) rfl rfl ok_X2_vote gm_410 gm_411 gm_480 (x_X2_vote l hfl w f k 0 True hI (by omega) (by omega) (hq)) ⟨rfl, rfl⟩ ⟨Nat.le_of_ble_eq_true rfl, Nat.le_of_ble_eq_true rfl⟩ rfl hl.1 rfl (Nat.le_of_ble_eq_true rfl) ⟨Nat.le_of_ble_eq_true rfl, Nat.le_of_ble_eq_true rfl⟩ dL_act_195) (fun q H1 hG1 => a_724 (f := f) (fc := f) hJ (Nat.le_refl _) (Nat.le_refl _) hz9 (by omega) G hG1 (lv_sub hl [1, 2, 8] rfl))
    · skip
      have hq1 : f 5 k = nI 0 := Decidable.of_not_not (fun q => hq (Or.inl q))
      have hq2 : ¬ hs (f 6 k ||| f 7 k) (nI 0) = true := fun q => hq (Or.inr q)
      refine g_callW (As := [.int (nI k), .int (nI 0), .int (nI 1)]) (rest := []) G.1 hG 0 (by decide) rfl rfl ok_X2_vote gm_410 gm_411 gm_480 (c_X2_vote l w f k 0 True hI (by omega) (by omega) (hq1) (hq2)) ⟨rfl, rfl⟩ ⟨Nat.le_of_ble_eq_true rfl, Nat.le_of_ble_eq_true rfl⟩ rfl hl.1 rfl (Nat.le_of_ble_eq_true rfl) ⟨Nat.le_of_ble_eq_true rfl, Nat.le_of_ble_eq_true rfl⟩ dL_act_195 (fun v f195 H locs hp hG => ?_)
      obtain ⟨rfl, rfl⟩ := hp
      obtain ⟨f1, ef, J1, bT, b1, b2, b19⟩ := am_vote (v := 0) hJ hk hq1
      rw [← ef] at hG
      have k1 : k < nT f1 := by omega
      have m1 := b1; have m2 := b2
      have hI := J1.hI
      obtain ⟨⟨hT, hT24⟩, ⟨hC, hC12⟩, ⟨hD, hD6⟩, hLn⟩ := id hI
      refine lv_pop hx hb dL_act_198 rfl ?_
      refine lv_iinc (v := nI 1) (lv' := [(8, .int (nI 1)), (0, .ref (w.2.2.2 0)), (1, .int x), (2, .int (nI (nT f))), (3, .int (nI k)), (4, .int (nI d)), (5, .int (nI g)), (6, .int (nI (nC f))), (7, .int (nI (tsN f (nI 1))))]) hx hb dL_act_199 hl (k := 0) rfl (g_inc 0 1) (by decide) rfl (fun ls hl => ?_)
      refine lv_goto (tgt := 184) hx hb dL_act_202 (by decide) ?_
      refine lv_iload hx hb dL_act_184 (lv_at hl 0 rfl) ?_
      refine lv_iconst (v := nI 3) hx hb dL_act_186 (by decide) ?_
      refine lv_icmp_ge (tgt := 205) hx hb dL_act_187 (by decide) (fun c187 => ?_) (fun c187 => ?_)
      · skip
        have c187 : 3 ≤ 1 := (g_le (by omega) (by omega)).mp c187
        omega
      · skip
        have c187 : ¬ (3 ≤ 1) := fun q => c187 ((g_le (by omega) (by omega)).mpr q)
        refine lv_aload_n hx hb dL_act_190 rfl (lv_at hl 1 rfl) ?_
        refine lv_iload_n hx hb dL_act_191 rfl (lv_at hl 4 rfl) ?_
        refine lv_iload hx hb dL_act_192 (lv_at hl 0 rfl) ?_
        refine lv_iconst (v := nI 1) hx hb dL_act_194 (by decide) ?_
        have hs1 := b19
        by_cases hq : ¬ f1 5 k = nI 0 ∨ hs (f1 6 k ||| f1 7 k) (nI 1) = true
        · skip
          exact a_724s hown hts hxt hX hN hG 25 rfl (by decide +kernel) (by decide +kernel) (a_runX (As := [.int (nI k), .int (nI 1), .int (nI 1)]) (rest := []) G.1 hall hG.1 (hX.at hG) 0 (by decide) rfl rfl ok_X2_vote gm_410 gm_411 gm_480 (x_X2_vote l hfl w f1 k 1 True hI (by omega) (by omega) (hq)) ⟨rfl, rfl⟩ ⟨Nat.le_of_ble_eq_true rfl, Nat.le_of_ble_eq_true rfl⟩ rfl hl.1 rfl (Nat.le_of_ble_eq_true rfl) ⟨Nat.le_of_ble_eq_true rfl, Nat.le_of_ble_eq_true rfl⟩ dL_act_195) (fun q H1 hG1 => a_724 (f := f) (fc := f1) J1 m1 m2 hz9 (by omega) G hG1 (lv_sub hl [1, 2, 8] rfl))
        · skip
          have hq1 : f1 5 k = nI 0 := Decidable.of_not_not (fun q => hq (Or.inl q))
          have hq2 : ¬ hs (f1 6 k ||| f1 7 k) (nI 1) = true := fun q => hq (Or.inr q)
          have w1 : f1 6 k = f 6 k ||| bit 0 := (hs1.resolve_left (fun q => by rw [hq1] at q; exact absurd q (by decide))).2.1
          refine g_callW (As := [.int (nI k), .int (nI 1), .int (nI 1)]) (rest := []) G.1 hG 0 (by decide) rfl rfl ok_X2_vote gm_410 gm_411 gm_480 (c_X2_vote l w f1 k 1 True hI (by omega) (by omega) (hq1) (hq2)) ⟨rfl, rfl⟩ ⟨Nat.le_of_ble_eq_true rfl, Nat.le_of_ble_eq_true rfl⟩ rfl hl.1 rfl (Nat.le_of_ble_eq_true rfl) ⟨Nat.le_of_ble_eq_true rfl, Nat.le_of_ble_eq_true rfl⟩ dL_act_195 (fun v f195 H locs hp hG => ?_)
          obtain ⟨rfl, rfl⟩ := hp
          obtain ⟨f2, ef, J2, bT, b1, b2, b29⟩ := am_vote (v := 1) J1 k1 hq1
          rw [← ef] at hG
          have k2 : k < nT f2 := by omega
          have m1 := Nat.le_trans b1 m1; have m2 := Nat.le_trans m2 b2
          have hI := J2.hI
          obtain ⟨⟨hT, hT24⟩, ⟨hC, hC12⟩, ⟨hD, hD6⟩, hLn⟩ := id hI
          refine lv_pop hx hb dL_act_198 rfl ?_
          refine lv_iinc (v := nI 2) (lv' := [(8, .int (nI 2)), (0, .ref (w.2.2.2 0)), (1, .int x), (2, .int (nI (nT f))), (3, .int (nI k)), (4, .int (nI d)), (5, .int (nI g)), (6, .int (nI (nC f))), (7, .int (nI (tsN f (nI 1))))]) hx hb dL_act_199 hl (k := 0) rfl (g_inc 1 1) (by decide) rfl (fun ls hl => ?_)
          refine lv_goto (tgt := 184) hx hb dL_act_202 (by decide) ?_
          refine lv_iload hx hb dL_act_184 (lv_at hl 0 rfl) ?_
          refine lv_iconst (v := nI 3) hx hb dL_act_186 (by decide) ?_
          refine lv_icmp_ge (tgt := 205) hx hb dL_act_187 (by decide) (fun c187 => ?_) (fun c187 => ?_)
          · skip
            have c187 : 3 ≤ 2 := (g_le (by omega) (by omega)).mp c187
            omega
          · skip
            have c187 : ¬ (3 ≤ 2) := fun q => c187 ((g_le (by omega) (by omega)).mpr q)
            refine lv_aload_n hx hb dL_act_190 rfl (lv_at hl 1 rfl) ?_
            refine lv_iload_n hx hb dL_act_191 rfl (lv_at hl 4 rfl) ?_
            refine lv_iload hx hb dL_act_192 (lv_at hl 0 rfl) ?_
            refine lv_iconst (v := nI 1) hx hb dL_act_194 (by decide) ?_
            have hs2 := b29
            by_cases hq : ¬ f2 5 k = nI 0 ∨ hs (f2 6 k ||| f2 7 k) (nI 2) = true
            · skip
              exact a_724s hown hts hxt hX hN hG 25 rfl (by decide +kernel) (by decide +kernel) (a_runX (As := [.int (nI k), .int (nI 2), .int (nI 1)]) (rest := []) G.1 hall hG.1 (hX.at hG) 0 (by decide) rfl rfl ok_X2_vote gm_410 gm_411 gm_480 (x_X2_vote l hfl w f2 k 2 True hI (by omega) (by omega) (hq)) ⟨rfl, rfl⟩ ⟨Nat.le_of_ble_eq_true rfl, Nat.le_of_ble_eq_true rfl⟩ rfl hl.1 rfl (Nat.le_of_ble_eq_true rfl) ⟨Nat.le_of_ble_eq_true rfl, Nat.le_of_ble_eq_true rfl⟩ dL_act_195) (fun q H1 hG1 => a_724 (f := f) (fc := f2) J2 m1 m2 hz9 (by omega) G hG1 (lv_sub hl [1, 2, 8] rfl))
            · skip
              have hq1 : f2 5 k = nI 0 := Decidable.of_not_not (fun q => hq (Or.inl q))
              have hq2 : ¬ hs (f2 6 k ||| f2 7 k) (nI 2) = true := fun q => hq (Or.inr q)
              have w2 : f2 6 k = f1 6 k ||| bit 1 := (hs2.resolve_left (fun q => by rw [hq1] at q; exact absurd q (by decide))).2.1
              refine g_callW (As := [.int (nI k), .int (nI 2), .int (nI 1)]) (rest := []) G.1 hG 0 (by decide) rfl rfl ok_X2_vote gm_410 gm_411 gm_480 (c_X2_vote l w f2 k 2 True hI (by omega) (by omega) (hq1) (hq2)) ⟨rfl, rfl⟩ ⟨Nat.le_of_ble_eq_true rfl, Nat.le_of_ble_eq_true rfl⟩ rfl hl.1 rfl (Nat.le_of_ble_eq_true rfl) ⟨Nat.le_of_ble_eq_true rfl, Nat.le_of_ble_eq_true rfl⟩ dL_act_195 (fun v f195 H locs hp hG => ?_)
              obtain ⟨rfl, rfl⟩ := hp
              obtain ⟨f3, ef, J3, bT, b1, b2, b39⟩ := am_vote (v := 2) J2 k2 hq1
              rw [← ef] at hG
              have k3 : k < nT f3 := by omega
              have m1 := Nat.le_trans b1 m1; have m2 := Nat.le_trans m2 b2
              have hI := J3.hI
              obtain ⟨⟨hT, hT24⟩, ⟨hC, hC12⟩, ⟨hD, hD6⟩, hLn⟩ := id hI
              have b5 : f3 5 k = nI 1 := b39.resolve_right (fun q => q.2.2 (by rw [w2, w1]; exact three_votes _))
              refine lv_pop hx hb dL_act_198 rfl ?_
              refine lv_iinc (v := nI 3) (lv' := [(8, .int (nI 3)), (0, .ref (w.2.2.2 0)), (1, .int x), (2, .int (nI (nT f))), (3, .int (nI k)), (4, .int (nI d)), (5, .int (nI g)), (6, .int (nI (nC f))), (7, .int (nI (tsN f (nI 1))))]) hx hb dL_act_199 hl (k := 0) rfl (g_inc 2 1) (by decide) rfl (fun ls hl => ?_)
              refine lv_goto (tgt := 184) hx hb dL_act_202 (by decide) ?_
              refine lv_iload hx hb dL_act_184 (lv_at hl 0 rfl) ?_
              refine lv_iconst (v := nI 3) hx hb dL_act_186 (by decide) ?_
              refine lv_icmp_ge (tgt := 205) hx hb dL_act_187 (by decide) (fun c187 => ?_) (fun c187 => ?_)
              · skip
                have c187 : 3 ≤ 3 := (g_le (by omega) (by omega)).mp c187
                refine lv_aload_n hx hb dL_act_205 rfl (lv_at hl 1 rfl) ?_
                refine lv_iload_n hx hb dL_act_206 rfl (lv_at hl 4 rfl) ?_
                refine lv_iconst (v := nI 3) hx hb dL_act_207 (by decide) ?_
                refine g_callV (v := .int (nI 1)) (As := [.int (nI k), .int (nI 3)]) (rest := []) G.1 hG.1 0 (by decide) rfl rfl ok_X2_ofTerm gm_357 gm_358 gm_479 (by have q9 := (c_X2_ofTerm l w f3 k 3 hI (by omega) (by omega)); rw [show gRd (.int (otF f3 k 3)) = gRd (.int (nI 1)) from congrArg (fun z => gRd (.int z)) (show otF f3 k 3 = nI 1 from b5)] at q9; exact q9) ⟨rfl, rfl⟩ ⟨Nat.le_of_ble_eq_true rfl, Nat.le_of_ble_eq_true rfl⟩ rfl hl.1 rfl (Nat.le_of_ble_eq_true rfl) ⟨Nat.le_of_ble_eq_true rfl, Nat.le_of_ble_eq_true rfl⟩ dL_act_208 ?_
                refine lv_iconst (v := nI 1) hx hb dL_act_211 (by decide) ?_
                refine lv_icmp_ne (tgt := 219) hx hb dL_act_212 (by decide) (fun c212 => ?_) (fun c212 => ?_)
                · skip
                  have c212 : ¬ (1 = 1) := fun q => c212 ((g_eq (by omega) (by omega)).mpr q)
                  omega
                · skip
                  have c212 : 1 = 1 := (g_eq (by omega) (by omega)).mp c212
                  refine lv_iconst (v := nI 1) hx hb dL_act_215 (by decide) ?_
                  refine lv_goto (tgt := 220) hx hb dL_act_216 (by decide) ?_
                  exact a_zret G hG (⟨rfl, _, J3, fun _ => m2⟩) (Or.inr rfl) (by decide) (by decide) dL_act_220
              · skip
                have c187 : ¬ (3 ≤ 3) := fun q => c187 ((g_le (by omega) (by omega)).mpr q)
                omega
set_option maxRecDepth 100000 in
set_option maxHeartbeats 4000000 in
theorem a_221 {l : Launch} (hfl : l.stackTraces = false) {w : GP} {f : CS} {x : Int32} {dy k d g : Nat} (hJ : J f dy) (hk : k < nT f) (hd : d < 2) (hg : g < 2) (hz9 : tsN f (nI 1) < 2 ^ 31) (hz : blN x 20 = 5) {P_ : Program} {E_ : Env} {S_ : State} {M_ : MethodId} {B_ : List Frame} {T_ : Method} {C_ : Code} {ls : Array Slot} {H : Heap} {locs : List Loc} (G : Gx P_ C_ cL_act 16 S_ (aV w x) RL M_ T_ (some .boolean)) (hall : ∀ v ∈ gwx, v.before (aV w x) S_ = true) (hxt : C_.exceptionTable.toList = tableOf actH) (hX : GX w S_ S_.heap) (hN : GNc S_) (hG : GS w (gA w) S_ H locs f) (hl : lv_has ls 16 [(0, .ref (w.2.2.2 0)), (1, .int x), (2, .int (nI (nT f))), (3, .int (nI k)), (4, .int (nI d)), (5, .int (nI g)), (6, .int (nI (nC f))), (7, .int (nI (tsN f (nI 1))))]) : W P_ l E_ aR S_ M_ (aV w x) B_ T_ C_ H locs 0 0 (MQ B_ (gWr w (aPost f x)) (aV w x) S_ 1 6 (gA w)) (F0 M_ 221 ls []) := by
  obtain ⟨hx, hb, hml, hown, hts⟩ := id G.1
  have hI := hJ.hI
  obtain ⟨⟨hT, hT24⟩, ⟨hC, hC12⟩, ⟨hD, hD6⟩, hLn⟩ := id hI
  have hT6 := hJ.T6
  have hC3 := hJ.C3
  have hD2 := hJ.D2
  have hdy := hJ.day
  have hdl := hJ.d199
  refine lv_aload_n hx hb dL_act_221 rfl (lv_at hl 0 rfl) ?_
  refine lv_iload_n hx hb dL_act_222 rfl (lv_at hl 3 rfl) ?_
  by_cases hq : ¬ f 5 k = nI 1
  · skip
    exact a_724s hown hts hxt hX hN hG 26 rfl (by decide +kernel) (by decide +kernel) (a_runX (As := [.int (nI k)]) (rest := []) G.1 hall hG.1 (hX.at hG) 0 (by decide) rfl rfl ok_X2_prefer gm_413 gm_414 gm_481 (x_X2_prefer l hfl w f k hI (hk) (hq)) ⟨rfl, rfl⟩ ⟨Nat.le_of_ble_eq_true rfl, Nat.le_of_ble_eq_true rfl⟩ rfl hl.1 rfl (Nat.le_of_ble_eq_true rfl) ⟨Nat.le_of_ble_eq_true rfl, Nat.le_of_ble_eq_true rfl⟩ dL_act_223) (fun q H1 hG1 => a_724 (f := f) (fc := f) hJ (Nat.le_refl _) (Nat.le_refl _) hz9 (by omega) G hG1 (lv_sub hl [0, 1, 7] rfl))
  · skip
    have hq1 := Decidable.of_not_not hq
    refine g_callW (As := [.int (nI k)]) (rest := []) G.1 hG 0 (by decide) rfl rfl ok_X2_prefer gm_413 gm_414 gm_481 (c_X2_prefer l w f k hI (by omega) (hq1)) ⟨rfl, rfl⟩ ⟨Nat.le_of_ble_eq_true rfl, Nat.le_of_ble_eq_true rfl⟩ rfl hl.1 rfl (Nat.le_of_ble_eq_true rfl) ⟨Nat.le_of_ble_eq_true rfl, Nat.le_of_ble_eq_true rfl⟩ dL_act_223 (fun v f223 H locs hp hG => ?_)
    obtain ⟨rfl, rfl⟩ := hp
    obtain ⟨f1, c, g2, ef, J1, bT, b5, bc, hc, bg, hg2, bp, bn, b2⟩ := am_prefer hJ hk hq1
    rw [← ef] at hG
    have hI := J1.hI
    obtain ⟨⟨hT, hT24⟩, ⟨hC, hC12⟩, ⟨hD, hD6⟩, hLn⟩ := id hI
    refine lv_iload_n hx hb dL_act_226 rfl (lv_at hl 3 rfl) ?_
    refine lv_icmp_eq (tgt := 266) hx hb dL_act_227 (by decide) (fun c227 => ?_) (fun c227 => ?_)
    · skip
      exact absurd c227 bn
    · skip
      refine lv_aload_n hx hb dL_act_230 rfl (lv_at hl 0 rfl) ?_
      refine lv_iload_n hx hb dL_act_231 rfl (lv_at hl 3 rfl) ?_
      refine lv_iconst (v := nI 3) hx hb dL_act_232 (by decide) ?_
      refine g_callV (v := .int (nI 2)) (As := [.int (nI k), .int (nI 3)]) (rest := []) G.1 hG.1 0 (by decide) rfl rfl ok_X2_ofTerm gm_357 gm_358 gm_479 (by have q9 := (c_X2_ofTerm l w f1 k 3 hI (by omega) (by omega)); rw [show gRd (.int (otF f1 k 3)) = gRd (.int (nI 2)) from congrArg (fun z => gRd (.int z)) (show otF f1 k 3 = nI 2 from b5)] at q9; exact q9) ⟨rfl, rfl⟩ ⟨Nat.le_of_ble_eq_true rfl, Nat.le_of_ble_eq_true rfl⟩ rfl hl.1 rfl (Nat.le_of_ble_eq_true rfl) ⟨Nat.le_of_ble_eq_true rfl, Nat.le_of_ble_eq_true rfl⟩ dL_act_233 ?_
      refine lv_iconst (v := nI 2) hx hb dL_act_236 (by decide) ?_
      refine lv_icmp_ne (tgt := 266) hx hb dL_act_237 (by decide) (fun c237 => ?_) (fun c237 => ?_)
      · skip
        have c237 : ¬ (2 = 2) := fun q => c237 ((g_eq (by omega) (by omega)).mpr q)
        omega
      · skip
        have c237 : 2 = 2 := (g_eq (by omega) (by omega)).mp c237
        refine lv_aload_n hx hb dL_act_240 rfl (lv_at hl 0 rfl) ?_
        refine lv_aload_n hx hb dL_act_241 rfl (lv_at hl 0 rfl) ?_
        refine lv_iload_n hx hb dL_act_242 rfl (lv_at hl 3 rfl) ?_
        refine lv_iconst (v := nI 0) hx hb dL_act_243 (by decide) ?_
        refine g_callV (v := .int (nI c)) (As := [.int (nI k), .int (nI 0)]) (rest := [.ref (w.2.2.2 0)]) G.1 hG.1 0 (by decide) rfl rfl ok_X2_ofTerm gm_357 gm_358 gm_479 (by have q9 := (c_X2_ofTerm l w f1 k 0 hI (by omega) (by omega)); rw [show gRd (.int (otF f1 k 0)) = gRd (.int (nI c)) from congrArg (fun z => gRd (.int z)) (show otF f1 k 0 = nI c from bc)] at q9; exact q9) ⟨rfl, rfl⟩ ⟨Nat.le_of_ble_eq_true rfl, Nat.le_of_ble_eq_true rfl⟩ rfl hl.1 rfl (Nat.le_of_ble_eq_true rfl) ⟨Nat.le_of_ble_eq_true rfl, Nat.le_of_ble_eq_true rfl⟩ dL_act_244 ?_
        refine lv_iconst (v := nI 2) hx hb dL_act_247 (by decide) ?_
        refine lv_aload_n hx hb dL_act_248 rfl (lv_at hl 0 rfl) ?_
        refine lv_iload_n hx hb dL_act_249 rfl (lv_at hl 3 rfl) ?_
        refine lv_iconst (v := nI 1) hx hb dL_act_250 (by decide) ?_
        refine g_callV (v := .int (nI g2)) (As := [.int (nI k), .int (nI 1)]) (rest := [.int (nI 2), .int (nI c), .ref (w.2.2.2 0)]) G.1 hG.1 0 (by decide) rfl rfl ok_X2_ofTerm gm_357 gm_358 gm_479 (by have q9 := (c_X2_ofTerm l w f1 k 1 hI (by omega) (by omega)); rw [show gRd (.int (otF f1 k 1)) = gRd (.int (nI g2)) from congrArg (fun z => gRd (.int z)) (show otF f1 k 1 = nI g2 from bg)] at q9; exact q9) ⟨rfl, rfl⟩ ⟨Nat.le_of_ble_eq_true rfl, Nat.le_of_ble_eq_true rfl⟩ rfl hl.1 rfl (Nat.le_of_ble_eq_true rfl) ⟨Nat.le_of_ble_eq_true rfl, Nat.le_of_ble_eq_true rfl⟩ dL_act_251 ?_
        refine g_iaddn hx hb dL_act_254 ?_
        refine g_callV (v := .int (nI k)) (As := [.int (nI c), .int (nI (2 + g2))]) (rest := []) G.1 hG.1 0 (by decide) rfl rfl ok_X2_ofConcept gm_365 gm_366 gm_482 (by have q9 := (c_X2_ofConcept l w f1 c (2 + g2) hI (by omega) (by omega)); rw [show gRd (.int (ocF f1 c (2 + g2))) = gRd (.int (nI k)) from congrArg (fun z => gRd (.int z)) (show ocF f1 c (2 + g2) = nI k from by have hgc : g2 = 0 ∨ g2 = 1 ∨ g2 = 2 := (by omega); rcases hgc with rfl | rfl | rfl <;> exact bp)] at q9; exact q9) ⟨rfl, rfl⟩ ⟨Nat.le_of_ble_eq_true rfl, Nat.le_of_ble_eq_true rfl⟩ rfl hl.1 rfl (Nat.le_of_ble_eq_true rfl) ⟨Nat.le_of_ble_eq_true rfl, Nat.le_of_ble_eq_true rfl⟩ dL_act_255 ?_
        refine lv_iload_n hx hb dL_act_258 rfl (lv_at hl 3 rfl) ?_
        refine lv_icmp_ne (tgt := 266) hx hb dL_act_259 (by decide) (fun c259 => ?_) (fun c259 => ?_)
        · skip
          have c259 : ¬ (k = k) := fun q => c259 ((g_eq (by omega) (by omega)).mpr q)
          exact absurd rfl c259
        · skip
          have c259 : k = k := (g_eq (by omega) (by omega)).mp c259
          refine lv_iconst (v := nI 1) hx hb dL_act_262 (by decide) ?_
          refine lv_goto (tgt := 267) hx hb dL_act_263 (by decide) ?_
          exact a_zret G hG (⟨rfl, _, J1, fun _ => b2⟩) (Or.inr rfl) (by decide) (by decide) dL_act_267
set_option maxRecDepth 100000 in
set_option maxHeartbeats 4000000 in
theorem a_268 {l : Launch} (hfl : l.stackTraces = false) {w : GP} {f : CS} {x : Int32} {dy k d g : Nat} (hJ : J f dy) (hk : k < nT f) (hd : d < 2) (hg : g < 2) (hz9 : tsN f (nI 1) < 2 ^ 31) (hz : blN x 20 = 6) {P_ : Program} {E_ : Env} {S_ : State} {M_ : MethodId} {B_ : List Frame} {T_ : Method} {C_ : Code} {ls : Array Slot} {H : Heap} {locs : List Loc} (G : Gx P_ C_ cL_act 16 S_ (aV w x) RL M_ T_ (some .boolean)) (hall : ∀ v ∈ gwx, v.before (aV w x) S_ = true) (hxt : C_.exceptionTable.toList = tableOf actH) (hX : GX w S_ S_.heap) (hN : GNc S_) (hG : GS w (gA w) S_ H locs f) (hl : lv_has ls 16 [(0, .ref (w.2.2.2 0)), (1, .int x), (2, .int (nI (nT f))), (3, .int (nI k)), (4, .int (nI d)), (5, .int (nI g)), (6, .int (nI (nC f))), (7, .int (nI (tsN f (nI 1))))]) : W P_ l E_ aR S_ M_ (aV w x) B_ T_ C_ H locs 0 0 (MQ B_ (gWr w (aPost f x)) (aV w x) S_ 1 6 (gA w)) (F0 M_ 268 ls []) := by
  obtain ⟨hx, hb, hml, hown, hts⟩ := id G.1
  have hI := hJ.hI
  obtain ⟨⟨hT, hT24⟩, ⟨hC, hC12⟩, ⟨hD, hD6⟩, hLn⟩ := id hI
  have hT6 := hJ.T6
  have hC3 := hJ.C3
  have hD2 := hJ.D2
  have hdy := hJ.day
  have hdl := hJ.d199
  refine lv_aload_n hx hb dL_act_268 rfl (lv_at hl 0 rfl) ?_
  refine lv_iload_n hx hb dL_act_269 rfl (lv_at hl 3 rfl) ?_
  refine g_callV (As := [.int (nI k)]) (rest := []) G.1 hG.1 0 (by decide) rfl rfl ok_X2_reopenedBy gm_361 gm_362 gm_483 (c_X2_reopenedBy l w f k hI (by omega)) ⟨rfl, rfl⟩ ⟨Nat.le_of_ble_eq_true rfl, Nat.le_of_ble_eq_true rfl⟩ rfl hl.1 rfl (Nat.le_of_ble_eq_true rfl) ⟨Nat.le_of_ble_eq_true rfl, Nat.le_of_ble_eq_true rfl⟩ dL_act_270 ?_
  refine lv_istore (lv' := [(8, .int (rbF f k)), (0, .ref (w.2.2.2 0)), (1, .int x), (2, .int (nI (nT f))), (3, .int (nI k)), (4, .int (nI d)), (5, .int (nI g)), (6, .int (nI (nC f))), (7, .int (nI (tsN f (nI 1))))]) hx hb dL_act_273 hl (by decide) rfl (fun ls hl => ?_)
  refine lv_iload_n hx hb dL_act_275 rfl (lv_at hl 2 rfl) ?_
  refine lv_bipush (v := nI 6) hx hb dL_act_276 (by decide) ?_
  refine lv_ishr hx hb dL_act_278 ?_
  refine lv_iconst (v := nI 5) hx hb dL_act_279 (by decide) ?_
  refine g_callS (As := [.int (x >>> ((nI 6) &&& 31)), .int (nI 5)]) (rest := []) G.1 hG.1 ok_L_below gm_467 gm_466 (c_L_below l w f (x >>> ((nI 6) &&& 31)) 5  (by omega) (by omega)) ⟨rfl, rfl⟩ ⟨Nat.le_of_ble_eq_true rfl, Nat.le_of_ble_eq_true rfl⟩ rfl hl.1 rfl (Nat.le_of_ble_eq_true rfl) ⟨Nat.le_of_ble_eq_true rfl, Nat.le_of_ble_eq_true rfl⟩ dL_act_280 ?_
  obtain ⟨u, hu, eu⟩ : ∃ z9, z9 < 5 ∧ blN (x >>> ((nI 6) &&& 31)) 5 = z9 := ⟨_, bl_lt _ (by omega), rfl⟩
  refine W.eq (g2 := F0 M_ _ ls [.int (nI u)]) (by first | (rw [eu]; done) | (rw [eu]; rfl)) ?_
  refine lv_istore (lv' := [(9, .int (nI u)), (8, .int (rbF f k)), (0, .ref (w.2.2.2 0)), (1, .int x), (2, .int (nI (nT f))), (3, .int (nI k)), (4, .int (nI d)), (5, .int (nI g)), (6, .int (nI (nC f))), (7, .int (nI (tsN f (nI 1))))]) hx hb dL_act_283 hl (by decide) rfl (fun ls hl => ?_)
  refine lv_aload_n hx hb dL_act_285 rfl (lv_at hl 2 rfl) ?_
  refine lv_iload_n hx hb dL_act_286 rfl (lv_at hl 5 rfl) ?_
  refine lv_iload hx hb dL_act_287 (lv_at hl 0 rfl) ?_
  by_cases hq : ¬ canB f k
  · skip
    exact a_724s hown hts hxt hX hN hG 27 rfl (by decide +kernel) (by decide +kernel) (a_runX (As := [.int (nI k), .int (nI u)]) (rest := []) G.1 hall hG.1 (hX.at hG) 0 (by decide) rfl rfl ok_X2_ban gm_416 gm_417 gm_484 (x_X2_ban l hfl w f k u hI (hk) (by omega) (hq)) ⟨rfl, rfl⟩ ⟨Nat.le_of_ble_eq_true rfl, Nat.le_of_ble_eq_true rfl⟩ rfl hl.1 rfl (Nat.le_of_ble_eq_true rfl) ⟨Nat.le_of_ble_eq_true rfl, Nat.le_of_ble_eq_true rfl⟩ dL_act_289) (fun q H1 hG1 => a_724 (f := f) (fc := f) hJ (Nat.le_refl _) (Nat.le_refl _) hz9 (by omega) G hG1 (lv_sub hl [2, 3, 9] rfl))
  · skip
    have hq1 : canB f k := Decidable.of_not_not hq
    refine g_callW (As := [.int (nI k), .int (nI u)]) (rest := []) G.1 hG 0 (by decide) rfl rfl ok_X2_ban gm_416 gm_417 gm_484 (c_X2_ban l w f k u hI (by omega) (by omega) (hq1)) ⟨rfl, rfl⟩ ⟨Nat.le_of_ble_eq_true rfl, Nat.le_of_ble_eq_true rfl⟩ rfl hl.1 rfl (Nat.le_of_ble_eq_true rfl) ⟨Nat.le_of_ble_eq_true rfl, Nat.le_of_ble_eq_true rfl⟩ dL_act_289 (fun v f289 H locs hp hG => ?_)
    obtain ⟨rfl, rfl⟩ := hp
    obtain ⟨f1, td, ef, ed, J1, bT, bq0, bq1, b1, b5, b8, b2⟩ := am_ban hJ hk hq1 hu
    rw [← ef] at hG
    have hI := J1.hI
    obtain ⟨⟨hT, hT24⟩, ⟨hC, hC12⟩, ⟨hD, hD6⟩, hLn⟩ := id hI
    refine W.eq (g2 := F0 M_ _ ls [.int (nI td)]) (by first | (rw [ed]; done) | (rw [ed]; rfl)) ?_
    refine lv_istore (lv' := [(10, .int (nI td)), (9, .int (nI u)), (8, .int (rbF f k)), (0, .ref (w.2.2.2 0)), (1, .int x), (2, .int (nI (nT f))), (3, .int (nI k)), (4, .int (nI d)), (5, .int (nI g)), (6, .int (nI (nC f))), (7, .int (nI (tsN f (nI 1))))]) hx hb dL_act_292 hl (by decide) rfl (fun ls hl => ?_)
    refine lv_iload hx hb dL_act_294 (lv_at hl 0 rfl) ?_
    refine lv_iload hx hb dL_act_296 (lv_at hl 1 rfl) ?_
    refine lv_if_ne (tgt := 306) hx hb dL_act_298 (by decide) (fun c298 => ?_) (fun c298 => ?_)
    · skip
      have c298 : ¬ (nI u = nI 0) := c298
      have c298 : ¬ (u = 0) := fun q => c298 ((g_eq (by omega) (by omega)).mpr q)
      refine lv_iconst (v := nI 0) hx hb dL_act_306 (by decide) ?_
      refine lv_icmp_ne (tgt := 344) hx hb dL_act_307 (by decide) (fun c307 => ?_) (fun c307 => ?_)
      · skip
        have c307 : ¬ (td = 0) := fun q => c307 ((g_eq (by omega) (by omega)).mpr q)
        exact absurd (bq1 c298) c307
      · skip
        have c307 : td = 0 := (g_eq (by omega) (by omega)).mp c307
        refine lv_aload_n hx hb dL_act_310 rfl (lv_at hl 3 rfl) ?_
        refine lv_bipush (v := nI 9) hx hb dL_act_311 (by decide) ?_
        refine g_callV (v := .int (nI (tsN f1 (nI 1)))) (As := [.int (nI 9)]) (rest := []) G.1 hG.1 0 (by decide) rfl rfl ok_X2_many gm_378 gm_379 gm_477 (c_X2_many l w f1 9 hI (by omega)) ⟨rfl, rfl⟩ ⟨Nat.le_of_ble_eq_true rfl, Nat.le_of_ble_eq_true rfl⟩ rfl hl.1 rfl (Nat.le_of_ble_eq_true rfl) ⟨Nat.le_of_ble_eq_true rfl, Nat.le_of_ble_eq_true rfl⟩ dL_act_313 ?_
        refine lv_iload hx hb dL_act_316 (lv_at hl 10 rfl) ?_
        refine lv_iload hx hb dL_act_318 (lv_at hl 0 rfl) ?_
        refine g_isubn hx hb (by omega) dL_act_320 ?_
        refine lv_icmp_ne (tgt := 344) hx hb dL_act_321 (by decide) (fun c321 => ?_) (fun c321 => ?_)
        · skip
          have c321 : ¬ ((tsN f1 (nI 1)) = ((tsN f (nI 1)) - td)) := fun q => c321 ((g_eq (ts_lt hI) (by omega)).mpr q)
          omega
        · skip
          have c321 : (tsN f1 (nI 1)) = ((tsN f (nI 1)) - td) := (g_eq (ts_lt hI) (by omega)).mp c321
          refine lv_aload_n hx hb dL_act_324 rfl (lv_at hl 3 rfl) ?_
          refine lv_iload_n hx hb dL_act_325 rfl (lv_at hl 6 rfl) ?_
          refine lv_bipush (v := nI 6) hx hb dL_act_326 (by decide) ?_
          refine g_callV (v := .int (nI dy)) (As := [.int (nI k), .int (nI 6)]) (rest := []) G.1 hG.1 0 (by decide) rfl rfl ok_X2_ofTerm gm_357 gm_358 gm_479 (by have q9 := (c_X2_ofTerm l w f1 k 6 hI (by omega) (by omega)); rw [show gRd (.int (otF f1 k 6)) = gRd (.int (nI dy)) from congrArg (fun z => gRd (.int z)) (show otF f1 k 6 = nI dy from (show (if f1 5 k = nI 3 then f1 8 k else -1) = nI dy by rw [if_pos b5, b8]))] at q9; exact q9) ⟨rfl, rfl⟩ ⟨Nat.le_of_ble_eq_true rfl, Nat.le_of_ble_eq_true rfl⟩ rfl hl.1 rfl (Nat.le_of_ble_eq_true rfl) ⟨Nat.le_of_ble_eq_true rfl, Nat.le_of_ble_eq_true rfl⟩ dL_act_328 ?_
          refine lv_aload_n hx hb dL_act_331 rfl (lv_at hl 3 rfl) ?_
          refine lv_bipush (v := nI 12) hx hb dL_act_332 (by decide) ?_
          refine g_callV (v := .int (nI dy)) (As := [.int (nI 12)]) (rest := [.int (nI dy)]) G.1 hG.1 0 (by decide) rfl rfl ok_X2_many gm_378 gm_379 gm_477 (by have q9 := (c_X2_many l w f1 12 hI (by omega)); rw [show gRd (.int (maF f1 12)) = gRd (.int (nI dy)) from congrArg (fun z => gRd (.int z)) (show maF f1 12 = nI dy from J1.day)] at q9; exact q9) ⟨rfl, rfl⟩ ⟨Nat.le_of_ble_eq_true rfl, Nat.le_of_ble_eq_true rfl⟩ rfl hl.1 rfl (Nat.le_of_ble_eq_true rfl) ⟨Nat.le_of_ble_eq_true rfl, Nat.le_of_ble_eq_true rfl⟩ dL_act_334 ?_
          refine lv_icmp_ne (tgt := 344) hx hb dL_act_337 (by decide) (fun c337 => ?_) (fun c337 => ?_)
          · skip
            have c337 : ¬ (dy = dy) := fun q => c337 ((g_eq (by omega) (by omega)).mpr q)
            exact absurd rfl c337
          · skip
            have c337 : dy = dy := (g_eq (by omega) (by omega)).mp c337
            refine lv_iconst (v := nI 1) hx hb dL_act_340 (by decide) ?_
            refine lv_goto (tgt := 345) hx hb dL_act_341 (by decide) ?_
            exact a_zret G hG (⟨rfl, _, J1, fun _ => b2⟩) (Or.inr rfl) (by decide) (by decide) dL_act_345
    · skip
      have c298 : nI u = nI 0 := c298
      have c298 : u = 0 := (g_eq (by omega) (by omega)).mp c298
      refine lv_iload hx hb dL_act_301 (lv_at hl 2 rfl) ?_
      refine lv_goto (tgt := 307) hx hb dL_act_303 (by decide) ?_
      refine lv_icmp_ne (tgt := 344) hx hb dL_act_307 (by decide) (fun c307 => ?_) (fun c307 => ?_)
      · skip
        exact absurd (bq0 c298) c307
      · skip
        refine lv_aload_n hx hb dL_act_310 rfl (lv_at hl 3 rfl) ?_
        refine lv_bipush (v := nI 9) hx hb dL_act_311 (by decide) ?_
        refine g_callV (v := .int (nI (tsN f1 (nI 1)))) (As := [.int (nI 9)]) (rest := []) G.1 hG.1 0 (by decide) rfl rfl ok_X2_many gm_378 gm_379 gm_477 (c_X2_many l w f1 9 hI (by omega)) ⟨rfl, rfl⟩ ⟨Nat.le_of_ble_eq_true rfl, Nat.le_of_ble_eq_true rfl⟩ rfl hl.1 rfl (Nat.le_of_ble_eq_true rfl) ⟨Nat.le_of_ble_eq_true rfl, Nat.le_of_ble_eq_true rfl⟩ dL_act_313 ?_
        refine lv_iload hx hb dL_act_316 (lv_at hl 10 rfl) ?_
        refine lv_iload hx hb dL_act_318 (lv_at hl 0 rfl) ?_
        refine g_isubn hx hb (by omega) dL_act_320 ?_
        refine lv_icmp_ne (tgt := 344) hx hb dL_act_321 (by decide) (fun c321 => ?_) (fun c321 => ?_)
        · skip
          have c321 : ¬ ((tsN f1 (nI 1)) = ((tsN f (nI 1)) - td)) := fun q => c321 ((g_eq (ts_lt hI) (by omega)).mpr q)
          omega
        · skip
          have c321 : (tsN f1 (nI 1)) = ((tsN f (nI 1)) - td) := (g_eq (ts_lt hI) (by omega)).mp c321
          refine lv_aload_n hx hb dL_act_324 rfl (lv_at hl 3 rfl) ?_
          refine lv_iload_n hx hb dL_act_325 rfl (lv_at hl 6 rfl) ?_
          refine lv_bipush (v := nI 6) hx hb dL_act_326 (by decide) ?_
          refine g_callV (v := .int (nI dy)) (As := [.int (nI k), .int (nI 6)]) (rest := []) G.1 hG.1 0 (by decide) rfl rfl ok_X2_ofTerm gm_357 gm_358 gm_479 (by have q9 := (c_X2_ofTerm l w f1 k 6 hI (by omega) (by omega)); rw [show gRd (.int (otF f1 k 6)) = gRd (.int (nI dy)) from congrArg (fun z => gRd (.int z)) (show otF f1 k 6 = nI dy from (show (if f1 5 k = nI 3 then f1 8 k else -1) = nI dy by rw [if_pos b5, b8]))] at q9; exact q9) ⟨rfl, rfl⟩ ⟨Nat.le_of_ble_eq_true rfl, Nat.le_of_ble_eq_true rfl⟩ rfl hl.1 rfl (Nat.le_of_ble_eq_true rfl) ⟨Nat.le_of_ble_eq_true rfl, Nat.le_of_ble_eq_true rfl⟩ dL_act_328 ?_
          refine lv_aload_n hx hb dL_act_331 rfl (lv_at hl 3 rfl) ?_
          refine lv_bipush (v := nI 12) hx hb dL_act_332 (by decide) ?_
          refine g_callV (v := .int (nI dy)) (As := [.int (nI 12)]) (rest := [.int (nI dy)]) G.1 hG.1 0 (by decide) rfl rfl ok_X2_many gm_378 gm_379 gm_477 (by have q9 := (c_X2_many l w f1 12 hI (by omega)); rw [show gRd (.int (maF f1 12)) = gRd (.int (nI dy)) from congrArg (fun z => gRd (.int z)) (show maF f1 12 = nI dy from J1.day)] at q9; exact q9) ⟨rfl, rfl⟩ ⟨Nat.le_of_ble_eq_true rfl, Nat.le_of_ble_eq_true rfl⟩ rfl hl.1 rfl (Nat.le_of_ble_eq_true rfl) ⟨Nat.le_of_ble_eq_true rfl, Nat.le_of_ble_eq_true rfl⟩ dL_act_334 ?_
          refine lv_icmp_ne (tgt := 344) hx hb dL_act_337 (by decide) (fun c337 => ?_) (fun c337 => ?_)
          · skip
            have c337 : ¬ (dy = dy) := fun q => c337 ((g_eq (by omega) (by omega)).mpr q)
            exact absurd rfl c337
          · skip
            have c337 : dy = dy := (g_eq (by omega) (by omega)).mp c337
            refine lv_iconst (v := nI 1) hx hb dL_act_340 (by decide) ?_
            refine lv_goto (tgt := 345) hx hb dL_act_341 (by decide) ?_
            exact a_zret G hG (⟨rfl, _, J1, fun _ => b2⟩) (Or.inr rfl) (by decide) (by decide) dL_act_345
set_option maxRecDepth 100000 in
set_option maxHeartbeats 4000000 in
theorem a_346 {l : Launch} (hfl : l.stackTraces = false) {w : GP} {f : CS} {x : Int32} {dy k d g : Nat} (hJ : J f dy) (hk : k < nT f) (hd : d < 2) (hg : g < 2) (hz9 : tsN f (nI 1) < 2 ^ 31) (hz : blN x 20 = 7 ∨ blN x 20 = 8) {P_ : Program} {E_ : Env} {S_ : State} {M_ : MethodId} {B_ : List Frame} {T_ : Method} {C_ : Code} {ls : Array Slot} {H : Heap} {locs : List Loc} (G : Gx P_ C_ cL_act 16 S_ (aV w x) RL M_ T_ (some .boolean)) (hall : ∀ v ∈ gwx, v.before (aV w x) S_ = true) (hxt : C_.exceptionTable.toList = tableOf actH) (hX : GX w S_ S_.heap) (hN : GNc S_) (hG : GS w (gA w) S_ H locs f) (hl : lv_has ls 16 [(0, .ref (w.2.2.2 0)), (1, .int x), (2, .int (nI (nT f))), (3, .int (nI k)), (4, .int (nI d)), (5, .int (nI g)), (6, .int (nI (nC f))), (7, .int (nI (tsN f (nI 1))))]) : W P_ l E_ aR S_ M_ (aV w x) B_ T_ C_ H locs 0 0 (MQ B_ (gWr w (aPost f x)) (aV w x) S_ 1 6 (gA w)) (F0 M_ 346 ls []) := by
  obtain ⟨hx, hb, hml, hown, hts⟩ := id G.1
  have hI := hJ.hI
  obtain ⟨⟨hT, hT24⟩, ⟨hC, hC12⟩, ⟨hD, hD6⟩, hLn⟩ := id hI
  have hT6 := hJ.T6
  have hC3 := hJ.C3
  have hD2 := hJ.D2
  have hdy := hJ.day
  have hdl := hJ.d199
  refine lv_aload_n hx hb dL_act_346 rfl (lv_at hl 0 rfl) ?_
  refine lv_iload_n hx hb dL_act_347 rfl (lv_at hl 3 rfl) ?_
  by_cases hq : ¬ f 5 k = nI 3
  · skip
    exact a_724s hown hts hxt hX hN hG 28 rfl (by decide +kernel) (by decide +kernel) (a_runX (As := [.int (nI k)]) (rest := []) G.1 hall hG.1 (hX.at hG) 0 (by decide) rfl rfl ok_X2_allow gm_419 gm_420 gm_485 (x_X2_allow l hfl w f k hI (hk) (hq)) ⟨rfl, rfl⟩ ⟨Nat.le_of_ble_eq_true rfl, Nat.le_of_ble_eq_true rfl⟩ rfl hl.1 rfl (Nat.le_of_ble_eq_true rfl) ⟨Nat.le_of_ble_eq_true rfl, Nat.le_of_ble_eq_true rfl⟩ dL_act_348) (fun q H1 hG1 => a_724 (f := f) (fc := f) hJ (Nat.le_refl _) (Nat.le_refl _) hz9 (by omega) G hG1 (lv_sub hl [0, 1, 7] rfl))
  · skip
    have hq1 := Decidable.of_not_not hq
    refine g_callW (As := [.int (nI k)]) (rest := []) G.1 hG 0 (by decide) rfl rfl ok_X2_allow gm_419 gm_420 gm_485 (c_X2_allow l w f k hI (by omega) (hq1)) ⟨rfl, rfl⟩ ⟨Nat.le_of_ble_eq_true rfl, Nat.le_of_ble_eq_true rfl⟩ rfl hl.1 rfl (Nat.le_of_ble_eq_true rfl) ⟨Nat.le_of_ble_eq_true rfl, Nat.le_of_ble_eq_true rfl⟩ dL_act_348 (fun v f348 H locs hp hG => ?_)
    obtain ⟨rfl, rfl⟩ := hp
    obtain ⟨f1, r, ef, er, hr, J1, bT, b5, b2⟩ := am_allow hJ hk hq1
    rw [← ef] at hG
    have hI := J1.hI
    obtain ⟨⟨hT, hT24⟩, ⟨hC, hC12⟩, ⟨hD, hD6⟩, hLn⟩ := id hI
    refine W.eq (g2 := F0 M_ _ ls [.int (nI r)]) (by first | (rw [er]; done) | (rw [er]; rfl)) ?_
    refine lv_if_lt (tgt := 368) hx hb dL_act_351 (by decide) (fun c351 => ?_) (fun c351 => ?_)
    · skip
      have c351 : nI r < nI 0 := c351
      have c351 : r < 0 := (g_lt (by omega) (by omega)).mp c351
      omega
    · skip
      have c351 : ¬ (nI r < nI 0) := c351
      have c351 : ¬ (r < 0) := fun q => c351 ((g_lt (by omega) (by omega)).mpr q)
      refine lv_aload_n hx hb dL_act_354 rfl (lv_at hl 0 rfl) ?_
      refine lv_iload_n hx hb dL_act_355 rfl (lv_at hl 3 rfl) ?_
      refine lv_iconst (v := nI 3) hx hb dL_act_356 (by decide) ?_
      refine g_callV (v := .int (nI 1)) (As := [.int (nI k), .int (nI 3)]) (rest := []) G.1 hG.1 0 (by decide) rfl rfl ok_X2_ofTerm gm_357 gm_358 gm_479 (by have q9 := (c_X2_ofTerm l w f1 k 3 hI (by omega) (by omega)); rw [show gRd (.int (otF f1 k 3)) = gRd (.int (nI 1)) from congrArg (fun z => gRd (.int z)) (show otF f1 k 3 = nI 1 from b5)] at q9; exact q9) ⟨rfl, rfl⟩ ⟨Nat.le_of_ble_eq_true rfl, Nat.le_of_ble_eq_true rfl⟩ rfl hl.1 rfl (Nat.le_of_ble_eq_true rfl) ⟨Nat.le_of_ble_eq_true rfl, Nat.le_of_ble_eq_true rfl⟩ dL_act_357 ?_
      refine lv_iconst (v := nI 1) hx hb dL_act_360 (by decide) ?_
      refine lv_icmp_ne (tgt := 368) hx hb dL_act_361 (by decide) (fun c361 => ?_) (fun c361 => ?_)
      · skip
        have c361 : ¬ (1 = 1) := fun q => c361 ((g_eq (by omega) (by omega)).mpr q)
        omega
      · skip
        have c361 : 1 = 1 := (g_eq (by omega) (by omega)).mp c361
        refine lv_iconst (v := nI 1) hx hb dL_act_364 (by decide) ?_
        refine lv_goto (tgt := 369) hx hb dL_act_365 (by decide) ?_
        exact a_zret G hG (⟨rfl, _, J1, fun _ => b2⟩) (Or.inr rfl) (by decide) (by decide) dL_act_369
