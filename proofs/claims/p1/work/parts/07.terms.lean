theorem ok_X2_has : gOK yX2_has cX2_has 2 (some .boolean) 2 := ⟨gm_19, gm_18, by decide +kernel⟩
set_option maxRecDepth 100000 in
set_option maxHeartbeats 4000000 in
theorem c_X2_has (l : Launch) (w : GP) (f : CS) (x : Int32) (y : Int32)   : Met l yX2_has (gws yX2_has cX2_has 2 (some .boolean)) ({ frames := 0, cells := 0, slots := 0, locals := 0 }) (gPc w f [.int x, .int y]) (gRd (.int (if hs x y = true then 1 else 0))) 0 0 (fun _ => False) := by
  refine g_read (by decide) (Nat.le_of_ble_eq_true rfl) ?_
  intro P_ E_ S_ M_ B_ T_ C_ ls G hV hl
  obtain ⟨hx, hb, hml, hown, hts⟩ := id G.1
  have hl : lv_has ls 2 [(0, .int x), (1, .int y)] := hl
  refine lv_iload_n hx hb dX2_has_0 rfl (lv_at hl 0 rfl) ?_
  refine lv_iload_n hx hb dX2_has_1 rfl (lv_at hl 1 rfl) ?_
  refine lv_ishr hx hb dX2_has_2 ?_
  refine lv_iconst (v := nI 1) hx hb dX2_has_3 (by decide) ?_
  refine lv_iand hx hb dX2_has_4 ?_
  refine lv_if_eq (tgt := 12) hx hb dX2_has_5 (by decide) (fun c5 => ?_) (fun c5 => ?_)
  · skip
    refine lv_iconst (v := nI 0) hx hb dX2_has_12 (by decide) ?_
    exact g_zret G (gz0 (fun q => by have := of_decide_eq_true q; exact this c5)) (by decide) dX2_has_13
  · skip
    refine lv_iconst (v := nI 1) hx hb dX2_has_8 (by decide) ?_
    refine lv_goto (tgt := 13) hx hb dX2_has_9 (by decide) ?_
    exact g_zret G (gz1 (decide_eq_true c5)) (by decide) dX2_has_13
theorem ok_X0_isConcept : gOK yX0_isConcept cX0_isConcept 2 (some .boolean) 1 := ⟨gm_62, gm_25, by decide +kernel⟩
set_option maxRecDepth 100000 in
set_option maxHeartbeats 4000000 in
theorem c_X0_isConcept (l : Launch) (w : GP) (f : CS) (x : Int32) (hI : gI f)  : Met l yX0_isConcept (gws yX0_isConcept cX0_isConcept 2 (some .boolean)) ({ frames := 0, cells := 0, slots := 0, locals := 0 }) (gPc w f [.ref (w.2.2.2 1), .int x]) (gRd (.int (if 0 ≤ x ∧ x < nI (nC f) then 1 else 0))) 0 0 (fun _ => False) := by
  refine g_read (by decide) (Nat.le_of_ble_eq_true rfl) ?_
  intro P_ E_ S_ M_ B_ T_ C_ ls G hV hl
  obtain ⟨hx, hb, hml, hown, hts⟩ := id G.1
  obtain ⟨⟨hT, hT24⟩, ⟨hC, hC12⟩, ⟨hD, hD6⟩, hLn⟩ := id hI
  have hl : lv_has ls 2 [(0, .ref (w.2.2.2 1)), (1, .int x)] := hl
  refine lv_iload_n hx hb dX0_isConcept_0 rfl (lv_at hl 1 rfl) ?_
  refine lv_if_lt (tgt := 16) hx hb dX0_isConcept_1 (by decide) (fun c1 => ?_) (fun c1 => ?_)
  · skip
    refine lv_iconst (v := nI 0) hx hb dX0_isConcept_16 (by decide) ?_
    exact g_zret G (gz0 (fun q => absurd q.1 (Int32.not_le.mpr c1))) (by decide) dX0_isConcept_17
  · skip
    refine lv_iload_n hx hb dX0_isConcept_4 rfl (lv_at hl 1 rfl) ?_
    refine lv_aload_n hx hb dX0_isConcept_5 rfl (lv_at hl 0 rfl) ?_
    refine g_get hx hb hts hown hV 1 0 (by decide) (v := .int (nI (nC f))) rfl rfl gin0 (by decide) gm_3 (by rw [← hC]; rfl) dX0_isConcept_6 ?_
    refine lv_icmp_ge (tgt := 16) hx hb dX0_isConcept_9 (by decide) (fun c9 => ?_) (fun c9 => ?_)
    · skip
      refine lv_iconst (v := nI 0) hx hb dX0_isConcept_16 (by decide) ?_
      exact g_zret G (gz0 (fun q => absurd q.2 (Int32.not_lt.mpr c9))) (by decide) dX0_isConcept_17
    · skip
      refine lv_iconst (v := nI 1) hx hb dX0_isConcept_12 (by decide) ?_
      refine lv_goto (tgt := 17) hx hb dX0_isConcept_13 (by decide) ?_
      exact g_zret G (gz1 ⟨Int32.not_lt.mp c1, Int32.not_le.mp c9⟩) (by decide) dX0_isConcept_17
theorem ok_X0_isTerm : gOK yX0_isTerm cX0_isTerm 2 (some .boolean) 1 := ⟨gm_42, gm_25, by decide +kernel⟩
set_option maxRecDepth 100000 in
set_option maxHeartbeats 4000000 in
theorem c_X0_isTerm (l : Launch) (w : GP) (f : CS) (x : Int32) (hI : gI f)  : Met l yX0_isTerm (gws yX0_isTerm cX0_isTerm 2 (some .boolean)) ({ frames := 0, cells := 0, slots := 0, locals := 0 }) (gPc w f [.ref (w.2.2.2 1), .int x]) (gRd (.int (if 0 ≤ x ∧ x < nI (nT f) then 1 else 0))) 0 0 (fun _ => False) := by
  refine g_read (by decide) (Nat.le_of_ble_eq_true rfl) ?_
  intro P_ E_ S_ M_ B_ T_ C_ ls G hV hl
  obtain ⟨hx, hb, hml, hown, hts⟩ := id G.1
  obtain ⟨⟨hT, hT24⟩, ⟨hC, hC12⟩, ⟨hD, hD6⟩, hLn⟩ := id hI
  have hl : lv_has ls 2 [(0, .ref (w.2.2.2 1)), (1, .int x)] := hl
  refine lv_iload_n hx hb dX0_isTerm_0 rfl (lv_at hl 1 rfl) ?_
  refine lv_if_lt (tgt := 16) hx hb dX0_isTerm_1 (by decide) (fun c1 => ?_) (fun c1 => ?_)
  · skip
    refine lv_iconst (v := nI 0) hx hb dX0_isTerm_16 (by decide) ?_
    exact g_zret G (gz0 (fun q => absurd q.1 (Int32.not_le.mpr c1))) (by decide) dX0_isTerm_17
  · skip
    refine lv_iload_n hx hb dX0_isTerm_4 rfl (lv_at hl 1 rfl) ?_
    refine lv_aload_n hx hb dX0_isTerm_5 rfl (lv_at hl 0 rfl) ?_
    refine g_get hx hb hts hown hV 1 1 (by decide) (v := .int (nI (nT f))) rfl rfl gin0 (by decide) gm_4 (by rw [← hT]; rfl) dX0_isTerm_6 ?_
    refine lv_icmp_ge (tgt := 16) hx hb dX0_isTerm_9 (by decide) (fun c9 => ?_) (fun c9 => ?_)
    · skip
      refine lv_iconst (v := nI 0) hx hb dX0_isTerm_16 (by decide) ?_
      exact g_zret G (gz0 (fun q => absurd q.2 (Int32.not_lt.mpr c9))) (by decide) dX0_isTerm_17
    · skip
      refine lv_iconst (v := nI 1) hx hb dX0_isTerm_12 (by decide) ?_
      refine lv_goto (tgt := 17) hx hb dX0_isTerm_13 (by decide) ?_
      exact g_zret G (gz1 ⟨Int32.not_lt.mp c1, Int32.not_le.mp c9⟩) (by decide) dX0_isTerm_17
theorem ok_X0_isStem : gOK yX0_isStem cX0_isStem 2 (some .boolean) 2 := ⟨gm_26, gm_25, by decide +kernel⟩
set_option maxRecDepth 100000 in
set_option maxHeartbeats 4000000 in
theorem c_X0_isStem (l : Launch) (w : GP) (f : CS) (g : Int32) (x : Int32)   : Met l yX0_isStem (gws yX0_isStem cX0_isStem 2 (some .boolean)) ({ frames := 0, cells := 0, slots := 0, locals := 0 }) (gPc w f [.int g, .int x]) (gRd (.int (if isS g x then 1 else 0))) 0 0 (fun _ => False) := by
  refine g_read (by decide) (Nat.le_of_ble_eq_true rfl) ?_
  intro P_ E_ S_ M_ B_ T_ C_ ls G hV hl
  obtain ⟨hx, hb, hml, hown, hts⟩ := id G.1
  have hl : lv_has ls 2 [(0, .int g), (1, .int x)] := hl
  refine lv_iload_n hx hb dX0_isStem_0 rfl (lv_at hl 0 rfl) ?_
  refine lv_if_lt (tgt := 23) hx hb dX0_isStem_1 (by decide) (fun c1 => ?_) (fun c1 => ?_)
  · skip
    refine lv_iconst (v := nI 0) hx hb dX0_isStem_23 (by decide) ?_
    exact g_zret G (gz0 (fun q => absurd q.1.1 (Int32.not_le.mpr c1))) (by decide) dX0_isStem_24
  · skip
    refine lv_iload_n hx hb dX0_isStem_4 rfl (lv_at hl 0 rfl) ?_
    refine lv_iconst (v := nI 3) hx hb dX0_isStem_5 (by decide) ?_
    refine lv_icmp_ge (tgt := 23) hx hb dX0_isStem_6 (by decide) (fun c6 => ?_) (fun c6 => ?_)
    · skip
      refine lv_iconst (v := nI 0) hx hb dX0_isStem_23 (by decide) ?_
      exact g_zret G (gz0 (fun q => absurd q.1.2 (Int32.not_lt.mpr c6))) (by decide) dX0_isStem_24
    · skip
      refine lv_iload_n hx hb dX0_isStem_9 rfl (lv_at hl 1 rfl) ?_
      refine lv_if_lt (tgt := 23) hx hb dX0_isStem_10 (by decide) (fun c10 => ?_) (fun c10 => ?_)
      · skip
        refine lv_iconst (v := nI 0) hx hb dX0_isStem_23 (by decide) ?_
        exact g_zret G (gz0 (fun q => absurd q.2.1 (Int32.not_le.mpr c10))) (by decide) dX0_isStem_24
      · skip
        refine lv_iload_n hx hb dX0_isStem_13 rfl (lv_at hl 1 rfl) ?_
        refine lv_bipush (v := nI 20) hx hb dX0_isStem_14 (by decide) ?_
        refine lv_icmp_ge (tgt := 23) hx hb dX0_isStem_16 (by decide) (fun c16 => ?_) (fun c16 => ?_)
        · skip
          refine lv_iconst (v := nI 0) hx hb dX0_isStem_23 (by decide) ?_
          exact g_zret G (gz0 (fun q => absurd q.2.2 (Int32.not_lt.mpr c16))) (by decide) dX0_isStem_24
        · skip
          refine lv_iconst (v := nI 1) hx hb dX0_isStem_19 (by decide) ?_
          refine lv_goto (tgt := 24) hx hb dX0_isStem_20 (by decide) ?_
          exact g_zret G (gz1 ⟨⟨Int32.not_lt.mp c1, Int32.not_le.mp c6⟩, Int32.not_lt.mp c10, Int32.not_le.mp c16⟩) (by decide) dX0_isStem_24
theorem ok_X0_hasTerm : gOK yX0_hasTerm cX0_hasTerm 5 (some .boolean) 3 := ⟨gm_46, gm_25, by decide +kernel⟩
set_option maxRecDepth 100000 in
set_option maxHeartbeats 4000000 in
theorem c_X0_hasTerm (l : Launch) (w : GP) (f : CS) (c : Int32) (g : Int32) (x : Int32) (hI : gI f)  : Met l yX0_hasTerm (gws yX0_hasTerm cX0_hasTerm 5 (some .boolean)) ({ frames := 0, cells := 0, slots := 0, locals := 0 }) (gPc w f [.ref (w.2.2.2 1), .int c, .int g, .int x]) (gRd (.int (if hasT f c g x = true then 1 else 0))) 0 0 (fun _ => False) := by
  refine g_read (by decide) (Nat.le_of_ble_eq_true rfl) ?_
  intro P_ E_ S_ M_ B_ T_ C_ ls G hV hl
  obtain ⟨hx, hb, hml, hown, hts⟩ := id G.1
  obtain ⟨⟨hT, hT24⟩, ⟨hC, hC12⟩, ⟨hD, hD6⟩, hLn⟩ := id hI
  have hl : lv_has ls 5 [(0, .ref (w.2.2.2 1)), (1, .int c), (2, .int g), (3, .int x)] := hl
  refine lv_iconst (v := nI 0) hx hb dX0_hasTerm_0 (by decide) ?_
  refine lv_istore (lv' := [(4, .int (nI 0)), (0, .ref (w.2.2.2 1)), (1, .int c), (2, .int g), (3, .int x)]) hx hb dX0_hasTerm_1 hl (by decide) rfl (fun ls hl => ?_)
  refine g_for (P := fun k => ∀ (ls : Array Slot), lv_has ls 5 [(4, .int (nI k)), (0, .ref (w.2.2.2 1)), (1, .int c), (2, .int g), (3, .int x)] → (∀ t, t < k → ¬ (fun t => decide (f 2 t = c ∧ f 3 t = g ∧ f 4 t = x)) t = true) → W P_ l E_ _ S_ M_ _ B_ T_ C_ S_.heap [] 0 0 _ (F0 M_ 3 ls [])) (nT f) ?_ ?_ 0 (Nat.zero_le _) ls (lv_sub hl [0, 1, 2, 3, 4] rfl) (fun t ht => absurd ht (Nat.not_lt_zero t))
  · intro k hk ih ls hl hik
    refine lv_iload hx hb dX0_hasTerm_3 (lv_at hl 0 rfl) ?_
    refine lv_aload_n hx hb dX0_hasTerm_5 rfl (lv_at hl 1 rfl) ?_
    refine g_get hx hb hts hown hV 1 1 (by decide) (v := .int (nI (nT f))) rfl rfl gin0 (by decide) gm_4 (by rw [← hT]; rfl) dX0_hasTerm_6 ?_
    refine lv_icmp_ge (tgt := 53) hx hb dX0_hasTerm_9 (by decide) (fun c9 => ?_) (fun c9 => ?_)
    · skip
      have c9 : (nT f) ≤ k := (g_le (by omega) (by omega)).mp c9
      exact absurd c9 (by omega)
    · skip
      have c9 : ¬ ((nT f) ≤ k) := fun q => c9 ((g_le (by omega) (by omega)).mpr q)
      refine lv_aload_n hx hb dX0_hasTerm_12 rfl (lv_at hl 1 rfl) ?_
      refine g_get hx hb hts hown hV 1 3 (by decide) (v := .ref (w.2.2.2 4)) rfl rfl gin0 (by decide) gm_7 (rfl) dX0_hasTerm_13 ?_
      refine lv_iload hx hb dX0_hasTerm_16 (lv_at hl 0 rfl) ?_
      refine g_ialn (a := 2) (n := 24) hx hb hV 4 (by decide) (by decide) rfl rfl (i := k) (by omega) dX0_hasTerm_18 ?_
      refine lv_iload_n hx hb dX0_hasTerm_19 rfl (lv_at hl 2 rfl) ?_
      refine lv_icmp_ne (tgt := 47) hx hb dX0_hasTerm_20 (by decide) (fun c20 => ?_) (fun c20 => ?_)
      · skip
        refine lv_iinc (v := nI (k + 1)) (lv' := [(4, .int (nI (k + 1))), (0, .ref (w.2.2.2 1)), (1, .int c), (2, .int g), (3, .int x)]) hx hb dX0_hasTerm_47 hl (k := 0) rfl (g_inc k 1) (by decide) rfl (fun ls hl => ?_)
        refine lv_goto (tgt := 3) hx hb dX0_hasTerm_50 (by decide) ?_
        refine ih ls ?_ (fun t ht q => by rcases Nat.lt_succ_iff_lt_or_eq.mp ht with h | h; exact hik t h q; subst h; have := of_decide_eq_true q; simp_all)
        exact lv_sub hl [0, 1, 2, 3, 4] rfl
      · skip
        refine lv_aload_n hx hb dX0_hasTerm_23 rfl (lv_at hl 1 rfl) ?_
        refine g_get hx hb hts hown hV 1 4 (by decide) (v := .ref (w.2.2.2 5)) rfl rfl gin0 (by decide) gm_8 (rfl) dX0_hasTerm_24 ?_
        refine lv_iload hx hb dX0_hasTerm_27 (lv_at hl 0 rfl) ?_
        refine g_ialn (a := 3) (n := 24) hx hb hV 5 (by decide) (by decide) rfl rfl (i := k) (by omega) dX0_hasTerm_29 ?_
        refine lv_iload_n hx hb dX0_hasTerm_30 rfl (lv_at hl 3 rfl) ?_
        refine lv_icmp_ne (tgt := 47) hx hb dX0_hasTerm_31 (by decide) (fun c31 => ?_) (fun c31 => ?_)
        · skip
          refine lv_iinc (v := nI (k + 1)) (lv' := [(4, .int (nI (k + 1))), (0, .ref (w.2.2.2 1)), (1, .int c), (2, .int g), (3, .int x)]) hx hb dX0_hasTerm_47 hl (k := 0) rfl (g_inc k 1) (by decide) rfl (fun ls hl => ?_)
          refine lv_goto (tgt := 3) hx hb dX0_hasTerm_50 (by decide) ?_
          refine ih ls ?_ (fun t ht q => by rcases Nat.lt_succ_iff_lt_or_eq.mp ht with h | h; exact hik t h q; subst h; have := of_decide_eq_true q; simp_all)
          exact lv_sub hl [0, 1, 2, 3, 4] rfl
        · skip
          refine lv_aload_n hx hb dX0_hasTerm_34 rfl (lv_at hl 1 rfl) ?_
          refine g_get hx hb hts hown hV 1 5 (by decide) (v := .ref (w.2.2.2 6)) rfl rfl gin0 (by decide) gm_9 (rfl) dX0_hasTerm_35 ?_
          refine lv_iload hx hb dX0_hasTerm_38 (lv_at hl 0 rfl) ?_
          refine g_ialn (a := 4) (n := 24) hx hb hV 6 (by decide) (by decide) rfl rfl (i := k) (by omega) dX0_hasTerm_40 ?_
          refine lv_iload_n hx hb dX0_hasTerm_41 rfl (lv_at hl 4 rfl) ?_
          refine lv_icmp_ne (tgt := 47) hx hb dX0_hasTerm_42 (by decide) (fun c42 => ?_) (fun c42 => ?_)
          · skip
            refine lv_iinc (v := nI (k + 1)) (lv' := [(4, .int (nI (k + 1))), (0, .ref (w.2.2.2 1)), (1, .int c), (2, .int g), (3, .int x)]) hx hb dX0_hasTerm_47 hl (k := 0) rfl (g_inc k 1) (by decide) rfl (fun ls hl => ?_)
            refine lv_goto (tgt := 3) hx hb dX0_hasTerm_50 (by decide) ?_
            refine ih ls ?_ (fun t ht q => by rcases Nat.lt_succ_iff_lt_or_eq.mp ht with h | h; exact hik t h q; subst h; have := of_decide_eq_true q; simp_all)
            exact lv_sub hl [0, 1, 2, 3, 4] rfl
          · skip
            refine lv_iconst (v := nI 1) hx hb dX0_hasTerm_45 (by decide) ?_
            exact g_zret G (gz1 (aT_iff.mpr ⟨k, hk, decide_eq_true ⟨c20, c31, c42⟩⟩)) (by decide) dX0_hasTerm_46
  · intro ls hl hik
    refine lv_iload hx hb dX0_hasTerm_3 (lv_at hl 0 rfl) ?_
    refine lv_aload_n hx hb dX0_hasTerm_5 rfl (lv_at hl 1 rfl) ?_
    refine g_get hx hb hts hown hV 1 1 (by decide) (v := .int (nI (nT f))) rfl rfl gin0 (by decide) gm_4 (by rw [← hT]; rfl) dX0_hasTerm_6 ?_
    refine lv_icmp_ge (tgt := 53) hx hb dX0_hasTerm_9 (by decide) (fun c9 => ?_) (fun c9 => ?_)
    · skip
      have c9 : (nT f) ≤ (nT f) := (g_le (by omega) (by omega)).mp c9
      refine lv_iconst (v := nI 0) hx hb dX0_hasTerm_53 (by decide) ?_
      exact g_zret G (gz0 (fun q => by obtain ⟨t, h1, h2⟩ := aT_iff.mp q; exact hik t h1 h2)) (by decide) dX0_hasTerm_54
    · skip
      have c9 : ¬ ((nT f) ≤ (nT f)) := fun q => c9 ((g_le (by omega) (by omega)).mpr q)
      exact absurd c9 (by omega)
theorem ok_X0_preferredOf : gOK yX0_preferredOf cX0_preferredOf 4 (some .int) 2 := ⟨gm_38, gm_25, by decide +kernel⟩
set_option maxRecDepth 100000 in
set_option maxHeartbeats 4000000 in
theorem c_X0_preferredOf (l : Launch) (w : GP) (f : CS) (c : Int32) (g : Int32) (hI : gI f)  : Met l yX0_preferredOf (gws yX0_preferredOf cX0_preferredOf 4 (some .int)) ({ frames := 0, cells := 0, slots := 0, locals := 0 }) (gPc w f [.ref (w.2.2.2 1), .int c, .int g]) (gRd (.int (prI f c g))) 0 0 (fun _ => False) := by
  refine g_read (by decide) (Nat.le_of_ble_eq_true rfl) ?_
  intro P_ E_ S_ M_ B_ T_ C_ ls G hV hl
  obtain ⟨hx, hb, hml, hown, hts⟩ := id G.1
  obtain ⟨⟨hT, hT24⟩, ⟨hC, hC12⟩, ⟨hD, hD6⟩, hLn⟩ := id hI
  have hl : lv_has ls 4 [(0, .ref (w.2.2.2 1)), (1, .int c), (2, .int g)] := hl
  refine lv_iconst (v := nI 0) hx hb dX0_preferredOf_0 (by decide) ?_
  refine lv_istore_n (lv' := [(3, .int (nI 0)), (0, .ref (w.2.2.2 1)), (1, .int c), (2, .int g)]) hx hb dX0_preferredOf_1 rfl hl (by decide) rfl (fun ls hl => ?_)
  refine g_for (P := fun k => ∀ (ls : Array Slot), lv_has ls 4 [(3, .int (nI k)), (0, .ref (w.2.2.2 1)), (1, .int c), (2, .int g)] → (∀ t, t < k → ¬ (fun t => decide (f 2 t = c ∧ f 3 t = g ∧ f 5 t = nI 2)) t = true) → W P_ l E_ _ S_ M_ _ B_ T_ C_ S_.heap [] 0 0 _ (F0 M_ 2 ls [])) (nT f) ?_ ?_ 0 (Nat.zero_le _) ls (lv_sub hl [0, 1, 2, 3] rfl) (fun t ht => absurd ht (Nat.not_lt_zero t))
  · intro k hk ih ls hl hik
    refine lv_iload_n hx hb dX0_preferredOf_2 rfl (lv_at hl 0 rfl) ?_
    refine lv_aload_n hx hb dX0_preferredOf_3 rfl (lv_at hl 1 rfl) ?_
    refine g_get hx hb hts hown hV 1 1 (by decide) (v := .int (nI (nT f))) rfl rfl gin0 (by decide) gm_4 (by rw [← hT]; rfl) dX0_preferredOf_4 ?_
    refine lv_icmp_ge (tgt := 48) hx hb dX0_preferredOf_7 (by decide) (fun c7 => ?_) (fun c7 => ?_)
    · skip
      have c7 : (nT f) ≤ k := (g_le (by omega) (by omega)).mp c7
      exact absurd c7 (by omega)
    · skip
      have c7 : ¬ ((nT f) ≤ k) := fun q => c7 ((g_le (by omega) (by omega)).mpr q)
      refine lv_aload_n hx hb dX0_preferredOf_10 rfl (lv_at hl 1 rfl) ?_
      refine g_get hx hb hts hown hV 1 3 (by decide) (v := .ref (w.2.2.2 4)) rfl rfl gin0 (by decide) gm_7 (rfl) dX0_preferredOf_11 ?_
      refine lv_iload_n hx hb dX0_preferredOf_14 rfl (lv_at hl 0 rfl) ?_
      refine g_ialn (a := 2) (n := 24) hx hb hV 4 (by decide) (by decide) rfl rfl (i := k) (by omega) dX0_preferredOf_15 ?_
      refine lv_iload_n hx hb dX0_preferredOf_16 rfl (lv_at hl 2 rfl) ?_
      refine lv_icmp_ne (tgt := 42) hx hb dX0_preferredOf_17 (by decide) (fun c17 => ?_) (fun c17 => ?_)
      · skip
        refine lv_iinc (v := nI (k + 1)) (lv' := [(3, .int (nI (k + 1))), (0, .ref (w.2.2.2 1)), (1, .int c), (2, .int g)]) hx hb dX0_preferredOf_42 hl (k := 0) rfl (g_inc k 1) (by decide) rfl (fun ls hl => ?_)
        refine lv_goto (tgt := 2) hx hb dX0_preferredOf_45 (by decide) ?_
        refine ih ls ?_ (fun t ht q => by rcases Nat.lt_succ_iff_lt_or_eq.mp ht with h | h; exact hik t h q; subst h; have := of_decide_eq_true q; simp_all)
        exact lv_sub hl [0, 1, 2, 3] rfl
      · skip
        refine lv_aload_n hx hb dX0_preferredOf_20 rfl (lv_at hl 1 rfl) ?_
        refine g_get hx hb hts hown hV 1 4 (by decide) (v := .ref (w.2.2.2 5)) rfl rfl gin0 (by decide) gm_8 (rfl) dX0_preferredOf_21 ?_
        refine lv_iload_n hx hb dX0_preferredOf_24 rfl (lv_at hl 0 rfl) ?_
        refine g_ialn (a := 3) (n := 24) hx hb hV 5 (by decide) (by decide) rfl rfl (i := k) (by omega) dX0_preferredOf_25 ?_
        refine lv_iload_n hx hb dX0_preferredOf_26 rfl (lv_at hl 3 rfl) ?_
        refine lv_icmp_ne (tgt := 42) hx hb dX0_preferredOf_27 (by decide) (fun c27 => ?_) (fun c27 => ?_)
        · skip
          refine lv_iinc (v := nI (k + 1)) (lv' := [(3, .int (nI (k + 1))), (0, .ref (w.2.2.2 1)), (1, .int c), (2, .int g)]) hx hb dX0_preferredOf_42 hl (k := 0) rfl (g_inc k 1) (by decide) rfl (fun ls hl => ?_)
          refine lv_goto (tgt := 2) hx hb dX0_preferredOf_45 (by decide) ?_
          refine ih ls ?_ (fun t ht q => by rcases Nat.lt_succ_iff_lt_or_eq.mp ht with h | h; exact hik t h q; subst h; have := of_decide_eq_true q; simp_all)
          exact lv_sub hl [0, 1, 2, 3] rfl
        · skip
          refine lv_aload_n hx hb dX0_preferredOf_30 rfl (lv_at hl 1 rfl) ?_
          refine g_get hx hb hts hown hV 1 6 (by decide) (v := .ref (w.2.2.2 7)) rfl rfl gin0 (by decide) gm_10 (rfl) dX0_preferredOf_31 ?_
          refine lv_iload_n hx hb dX0_preferredOf_34 rfl (lv_at hl 0 rfl) ?_
          refine g_ialn (a := 5) (n := 24) hx hb hV 7 (by decide) (by decide) rfl rfl (i := k) (by omega) dX0_preferredOf_35 ?_
          refine lv_iconst (v := nI 2) hx hb dX0_preferredOf_36 (by decide) ?_
          refine lv_icmp_ne (tgt := 42) hx hb dX0_preferredOf_37 (by decide) (fun c37 => ?_) (fun c37 => ?_)
          · skip
            refine lv_iinc (v := nI (k + 1)) (lv' := [(3, .int (nI (k + 1))), (0, .ref (w.2.2.2 1)), (1, .int c), (2, .int g)]) hx hb dX0_preferredOf_42 hl (k := 0) rfl (g_inc k 1) (by decide) rfl (fun ls hl => ?_)
            refine lv_goto (tgt := 2) hx hb dX0_preferredOf_45 (by decide) ?_
            refine ih ls ?_ (fun t ht q => by rcases Nat.lt_succ_iff_lt_or_eq.mp ht with h | h; exact hik t h q; subst h; have := of_decide_eq_true q; simp_all)
            exact lv_sub hl [0, 1, 2, 3] rfl
          · skip
            refine lv_iload_n hx hb dX0_preferredOf_40 rfl (lv_at hl 0 rfl) ?_
            exact g_iret G (by unfold prI prT; rw [fst_ex hk (decide_eq_true ⟨c17, c27, c37⟩) hik, if_pos hk]) dX0_preferredOf_41
  · intro ls hl hik
    refine lv_iload_n hx hb dX0_preferredOf_2 rfl (lv_at hl 0 rfl) ?_
    refine lv_aload_n hx hb dX0_preferredOf_3 rfl (lv_at hl 1 rfl) ?_
    refine g_get hx hb hts hown hV 1 1 (by decide) (v := .int (nI (nT f))) rfl rfl gin0 (by decide) gm_4 (by rw [← hT]; rfl) dX0_preferredOf_4 ?_
    refine lv_icmp_ge (tgt := 48) hx hb dX0_preferredOf_7 (by decide) (fun c7 => ?_) (fun c7 => ?_)
    · skip
      have c7 : (nT f) ≤ (nT f) := (g_le (by omega) (by omega)).mp c7
      refine lv_iconst (v := -1) hx hb dX0_preferredOf_48 (by decide) ?_
      exact g_iret G (by unfold prI prT; rw [fst_no hik, if_neg (Nat.lt_irrefl _)]) dX0_preferredOf_49
    · skip
      have c7 : ¬ ((nT f) ≤ (nT f)) := fun q => c7 ((g_le (by omega) (by omega)).mpr q)
      exact absurd c7 (by omega)
theorem ok_X0_hasVoted : gOK yX0_hasVoted cX0_hasVoted 3 (some .boolean) 2 := ⟨gm_214, gm_25, by decide +kernel⟩
set_option maxRecDepth 100000 in
set_option maxHeartbeats 4000000 in
theorem c_X0_hasVoted (l : Launch) (w : GP) (f : CS) (t : Nat) (v : Int32) (hI : gI f) (ht : t < 24) : Met l yX0_hasVoted (gws yX0_hasVoted cX0_hasVoted 3 (some .boolean)) ({ frames := 1, cells := 0, slots := 0, locals := 21 }) (gPc w f [.ref (w.2.2.2 1), .int (nI t), .int v]) (gRd (.int (if hs (f 6 t ||| f 7 t) v = true then 1 else 0))) 0 0 (fun _ => False) := by
  refine g_read (by decide) (Nat.le_of_ble_eq_true rfl) ?_
  intro P_ E_ S_ M_ B_ T_ C_ ls G hV hl
  obtain ⟨hx, hb, hml, hown, hts⟩ := id G.1
  obtain ⟨⟨hT, hT24⟩, ⟨hC, hC12⟩, ⟨hD, hD6⟩, hLn⟩ := id hI
  have hl : lv_has ls 3 [(0, .ref (w.2.2.2 1)), (1, .int (nI t)), (2, .int v)] := hl
  refine lv_aload_n hx hb dX0_hasVoted_0 rfl (lv_at hl 0 rfl) ?_
  refine g_get hx hb hts hown hV 1 7 (by decide) (v := .ref (w.2.2.2 8)) rfl rfl gin0 (by decide) gm_11 (rfl) dX0_hasVoted_1 ?_
  refine lv_iload_n hx hb dX0_hasVoted_4 rfl (lv_at hl 1 rfl) ?_
  refine g_ialn (a := 6) (n := 24) hx hb hV 8 (by decide) (by decide) rfl rfl (i := t) (by omega) dX0_hasVoted_5 ?_
  refine lv_aload_n hx hb dX0_hasVoted_6 rfl (lv_at hl 0 rfl) ?_
  refine g_get hx hb hts hown hV 1 8 (by decide) (v := .ref (w.2.2.2 9)) rfl rfl gin0 (by decide) gm_12 (rfl) dX0_hasVoted_7 ?_
  refine lv_iload_n hx hb dX0_hasVoted_10 rfl (lv_at hl 1 rfl) ?_
  refine g_ialn (a := 7) (n := 24) hx hb hV 9 (by decide) (by decide) rfl rfl (i := t) (by omega) dX0_hasVoted_11 ?_
  refine lv_ior hx hb dX0_hasVoted_12 ?_
  refine lv_iload_n hx hb dX0_hasVoted_13 rfl (lv_at hl 2 rfl) ?_
  refine g_callN (As := [.int ((f 6 t) ||| (f 7 t)), .int v]) (rest := []) G.1 hV ok_X2_has gm_17 hV.1.2.1 (c_X2_has l w f ((f 6 t) ||| (f 7 t)) v  ) ⟨rfl, rfl⟩ ⟨Nat.le_of_ble_eq_true rfl, Nat.le_of_ble_eq_true rfl⟩ rfl hl.1 rfl (Nat.le_of_ble_eq_true rfl) ⟨Nat.zero_le _, Nat.zero_le _⟩ dX0_hasVoted_14 ?_
  exact g_zret G (rfl) (g_nn) dX0_hasVoted_17
theorem ok_X0_canBeBanned : gOK yX0_canBeBanned cX0_canBeBanned 2 (some .boolean) 1 := ⟨gm_230, gm_25, by decide +kernel⟩
set_option maxRecDepth 100000 in
set_option maxHeartbeats 4000000 in
theorem c_X0_canBeBanned (l : Launch) (w : GP) (f : CS) (t : Nat) (hI : gI f) (ht : t < 24) : Met l yX0_canBeBanned (gws yX0_canBeBanned cX0_canBeBanned 2 (some .boolean)) ({ frames := 0, cells := 0, slots := 0, locals := 0 }) (gPc w f [.ref (w.2.2.2 1), .int (nI t)]) (gRd (.int (if canB f t then 1 else 0))) 0 0 (fun _ => False) := by
  refine g_read (by decide) (Nat.le_of_ble_eq_true rfl) ?_
  intro P_ E_ S_ M_ B_ T_ C_ ls G hV hl
  obtain ⟨hx, hb, hml, hown, hts⟩ := id G.1
  obtain ⟨⟨hT, hT24⟩, ⟨hC, hC12⟩, ⟨hD, hD6⟩, hLn⟩ := id hI
  have hl : lv_has ls 2 [(0, .ref (w.2.2.2 1)), (1, .int (nI t))] := hl
  refine lv_aload_n hx hb dX0_canBeBanned_0 rfl (lv_at hl 0 rfl) ?_
  refine g_get hx hb hts hown hV 1 6 (by decide) (v := .ref (w.2.2.2 7)) rfl rfl gin0 (by decide) gm_10 (rfl) dX0_canBeBanned_1 ?_
  refine lv_iload_n hx hb dX0_canBeBanned_4 rfl (lv_at hl 1 rfl) ?_
  refine g_ialn (a := 5) (n := 24) hx hb hV 7 (by decide) (by decide) rfl rfl (i := t) (by omega) dX0_canBeBanned_5 ?_
  refine lv_iconst (v := nI 1) hx hb dX0_canBeBanned_6 (by decide) ?_
  refine lv_icmp_eq (tgt := 20) hx hb dX0_canBeBanned_7 (by decide) (fun c7 => ?_) (fun c7 => ?_)
  · skip
    refine lv_iconst (v := nI 1) hx hb dX0_canBeBanned_20 (by decide) ?_
    refine lv_goto (tgt := 25) hx hb dX0_canBeBanned_21 (by decide) ?_
    exact g_zret G (gz1 (Or.inl c7)) (by decide) dX0_canBeBanned_25
  · skip
    refine lv_aload_n hx hb dX0_canBeBanned_10 rfl (lv_at hl 0 rfl) ?_
    refine g_get hx hb hts hown hV 1 6 (by decide) (v := .ref (w.2.2.2 7)) rfl rfl gin0 (by decide) gm_10 (rfl) dX0_canBeBanned_11 ?_
    refine lv_iload_n hx hb dX0_canBeBanned_14 rfl (lv_at hl 1 rfl) ?_
    refine g_ialn (a := 5) (n := 24) hx hb hV 7 (by decide) (by decide) rfl rfl (i := t) (by omega) dX0_canBeBanned_15 ?_
    refine lv_iconst (v := nI 2) hx hb dX0_canBeBanned_16 (by decide) ?_
    refine lv_icmp_ne (tgt := 24) hx hb dX0_canBeBanned_17 (by decide) (fun c17 => ?_) (fun c17 => ?_)
    · skip
      refine lv_iconst (v := nI 0) hx hb dX0_canBeBanned_24 (by decide) ?_
      exact g_zret G (gz0 (fun q => q.elim c7 c17)) (by decide) dX0_canBeBanned_25
    · skip
      refine lv_iconst (v := nI 1) hx hb dX0_canBeBanned_20 (by decide) ?_
      refine lv_goto (tgt := 25) hx hb dX0_canBeBanned_21 (by decide) ?_
      exact g_zret G (gz1 (Or.inr c17)) (by decide) dX0_canBeBanned_25
theorem ok_X0_overdueOn : gOK yX0_overdueOn cX0_overdueOn 4 (some .int) 1 := ⟨gm_139, gm_25, by decide +kernel⟩
set_option maxRecDepth 100000 in
set_option maxHeartbeats 4000000 in
theorem c_X0_overdueOn (l : Launch) (w : GP) (f : CS) (d : Int32) (hI : gI f)  : Met l yX0_overdueOn (gws yX0_overdueOn cX0_overdueOn 4 (some .int)) ({ frames := 0, cells := 0, slots := 0, locals := 0 }) (gPc w f [.ref (w.2.2.2 1), .int d]) (gRd (.int (due f d))) 0 0 (fun _ => False) := by
  refine g_read (by decide) (Nat.le_of_ble_eq_true rfl) ?_
  intro P_ E_ S_ M_ B_ T_ C_ ls G hV hl
  obtain ⟨hx, hb, hml, hown, hts⟩ := id G.1
  obtain ⟨⟨hT, hT24⟩, ⟨hC, hC12⟩, ⟨hD, hD6⟩, hLn⟩ := id hI
  have hl : lv_has ls 4 [(0, .ref (w.2.2.2 1)), (1, .int d)] := hl
  refine lv_iconst (v := nI 0) hx hb dX0_overdueOn_0 (by decide) ?_
  refine lv_istore_n (lv' := [(2, .int (nI 0)), (0, .ref (w.2.2.2 1)), (1, .int d)]) hx hb dX0_overdueOn_1 rfl hl (by decide) rfl (fun ls hl => ?_)
  refine lv_iconst (v := nI 0) hx hb dX0_overdueOn_2 (by decide) ?_
  refine lv_istore_n (lv' := [(3, .int (nI 0)), (2, .int (nI 0)), (0, .ref (w.2.2.2 1)), (1, .int d)]) hx hb dX0_overdueOn_3 rfl hl (by decide) rfl (fun ls hl => ?_)
  refine g_for (P := fun k => ∀ (ls : Array Slot), lv_has ls 4 [(2, .int (mk (fun t => decide (f 5 t = nI 3 ∧ f 8 t + f 9 t ≤ d)) k)), (3, .int (nI k)), (0, .ref (w.2.2.2 1)), (1, .int d)] → W P_ l E_ _ S_ M_ _ B_ T_ C_ S_.heap [] 0 0 _ (F0 M_ 4 ls [])) (nT f) ?_ ?_ 0 (Nat.zero_le _) ls (lv_sub hl [1, 0, 2, 3] rfl)
  · intro k hk ih ls hl
    refine lv_iload_n hx hb dX0_overdueOn_4 rfl (lv_at hl 1 rfl) ?_
    refine lv_aload_n hx hb dX0_overdueOn_5 rfl (lv_at hl 2 rfl) ?_
    refine g_get hx hb hts hown hV 1 1 (by decide) (v := .int (nI (nT f))) rfl rfl gin0 (by decide) gm_4 (by rw [← hT]; rfl) dX0_overdueOn_6 ?_
    refine lv_icmp_ge (tgt := 51) hx hb dX0_overdueOn_9 (by decide) (fun c9 => ?_) (fun c9 => ?_)
    · skip
      have c9 : (nT f) ≤ k := (g_le (by omega) (by omega)).mp c9
      exact absurd c9 (by omega)
    · skip
      have c9 : ¬ ((nT f) ≤ k) := fun q => c9 ((g_le (by omega) (by omega)).mpr q)
      refine lv_aload_n hx hb dX0_overdueOn_12 rfl (lv_at hl 2 rfl) ?_
      refine g_get hx hb hts hown hV 1 6 (by decide) (v := .ref (w.2.2.2 7)) rfl rfl gin0 (by decide) gm_10 (rfl) dX0_overdueOn_13 ?_
      refine lv_iload_n hx hb dX0_overdueOn_16 rfl (lv_at hl 1 rfl) ?_
      refine g_ialn (a := 5) (n := 24) hx hb hV 7 (by decide) (by decide) rfl rfl (i := k) (by omega) dX0_overdueOn_17 ?_
      refine lv_iconst (v := nI 3) hx hb dX0_overdueOn_18 (by decide) ?_
      refine lv_icmp_ne (tgt := 45) hx hb dX0_overdueOn_19 (by decide) (fun c19 => ?_) (fun c19 => ?_)
      · skip
        refine lv_iinc (v := nI (k + 1)) (lv' := [(3, .int (nI (k + 1))), (2, .int (mk (fun t => decide (f 5 t = nI 3 ∧ f 8 t + f 9 t ≤ d)) k)), (0, .ref (w.2.2.2 1)), (1, .int d)]) hx hb dX0_overdueOn_45 hl (k := 1) rfl (g_inc k 1) (by decide) rfl (fun ls hl => ?_)
        refine lv_goto (tgt := 4) hx hb dX0_overdueOn_48 (by decide) ?_
        refine ih ls ?_
        rw [(show mk (fun t => decide (f 5 t = nI 3 ∧ f 8 t + f 9 t ≤ d)) (k + 1) = mk (fun t => decide (f 5 t = nI 3 ∧ f 8 t + f 9 t ≤ d)) k from by first | (simp [mk, bit, c9, c19]; done) | (have h9 := Int32.not_le.mpr c36; simp [mk, h9]))]
        exact lv_sub hl [1, 0, 2, 3] rfl
      · skip
        refine lv_iload_n hx hb dX0_overdueOn_22 rfl (lv_at hl 3 rfl) ?_
        refine lv_aload_n hx hb dX0_overdueOn_23 rfl (lv_at hl 2 rfl) ?_
        refine g_get hx hb hts hown hV 1 9 (by decide) (v := .ref (w.2.2.2 10)) rfl rfl gin0 (by decide) gm_13 (rfl) dX0_overdueOn_24 ?_
        refine lv_iload_n hx hb dX0_overdueOn_27 rfl (lv_at hl 1 rfl) ?_
        refine g_ialn (a := 8) (n := 24) hx hb hV 10 (by decide) (by decide) rfl rfl (i := k) (by omega) dX0_overdueOn_28 ?_
        refine lv_aload_n hx hb dX0_overdueOn_29 rfl (lv_at hl 2 rfl) ?_
        refine g_get hx hb hts hown hV 1 10 (by decide) (v := .ref (w.2.2.2 11)) rfl rfl gin0 (by decide) gm_14 (rfl) dX0_overdueOn_30 ?_
        refine lv_iload_n hx hb dX0_overdueOn_33 rfl (lv_at hl 1 rfl) ?_
        refine g_ialn (a := 9) (n := 24) hx hb hV 11 (by decide) (by decide) rfl rfl (i := k) (by omega) dX0_overdueOn_34 ?_
        refine lv_iadd hx hb dX0_overdueOn_35 ?_
        refine lv_icmp_lt (tgt := 45) hx hb dX0_overdueOn_36 (by decide) (fun c36 => ?_) (fun c36 => ?_)
        · skip
          refine lv_iinc (v := nI (k + 1)) (lv' := [(3, .int (nI (k + 1))), (2, .int (mk (fun t => decide (f 5 t = nI 3 ∧ f 8 t + f 9 t ≤ d)) k)), (0, .ref (w.2.2.2 1)), (1, .int d)]) hx hb dX0_overdueOn_45 hl (k := 1) rfl (g_inc k 1) (by decide) rfl (fun ls hl => ?_)
          refine lv_goto (tgt := 4) hx hb dX0_overdueOn_48 (by decide) ?_
          refine ih ls ?_
          rw [(show mk (fun t => decide (f 5 t = nI 3 ∧ f 8 t + f 9 t ≤ d)) (k + 1) = mk (fun t => decide (f 5 t = nI 3 ∧ f 8 t + f 9 t ≤ d)) k from by first | (simp [mk, bit, c9, c19, c36]; done) | (have h9 := Int32.not_le.mpr c36; simp [mk, h9]))]
          exact lv_sub hl [1, 0, 2, 3] rfl
        · skip
          refine lv_iload_n hx hb dX0_overdueOn_39 rfl (lv_at hl 0 rfl) ?_
          refine lv_iconst (v := nI 1) hx hb dX0_overdueOn_40 (by decide) ?_
          refine lv_iload_n hx hb dX0_overdueOn_41 rfl (lv_at hl 1 rfl) ?_
          refine lv_ishl hx hb dX0_overdueOn_42 ?_
          refine lv_ior hx hb dX0_overdueOn_43 ?_
          refine lv_istore_n (lv' := [(2, .int ((mk (fun t => decide (f 5 t = nI 3 ∧ f 8 t + f 9 t ≤ d)) k) ||| ((nI 1) <<< ((nI k) &&& 31)))), (3, .int (nI k)), (0, .ref (w.2.2.2 1)), (1, .int d)]) hx hb dX0_overdueOn_44 rfl hl (by decide) rfl (fun ls hl => ?_)
          refine lv_iinc (v := nI (k + 1)) (lv' := [(3, .int (nI (k + 1))), (2, .int ((mk (fun t => decide (f 5 t = nI 3 ∧ f 8 t + f 9 t ≤ d)) k) ||| ((nI 1) <<< ((nI k) &&& 31)))), (0, .ref (w.2.2.2 1)), (1, .int d)]) hx hb dX0_overdueOn_45 hl (k := 1) rfl (g_inc k 1) (by decide) rfl (fun ls hl => ?_)
          refine lv_goto (tgt := 4) hx hb dX0_overdueOn_48 (by decide) ?_
          refine ih ls ?_
          rw [(show mk (fun t => decide (f 5 t = nI 3 ∧ f 8 t + f 9 t ≤ d)) (k + 1) = (mk (fun t => decide (f 5 t = nI 3 ∧ f 8 t + f 9 t ≤ d)) k) ||| ((nI 1) <<< ((nI k) &&& 31)) from by first | (simp [mk, bit, c9, c19, c36]; done) | (have h9 := Int32.not_le.mpr c36; simp [mk, h9]))]
          exact lv_sub hl [1, 0, 2, 3] rfl
  · intro ls hl
    refine lv_iload_n hx hb dX0_overdueOn_4 rfl (lv_at hl 1 rfl) ?_
    refine lv_aload_n hx hb dX0_overdueOn_5 rfl (lv_at hl 2 rfl) ?_
    refine g_get hx hb hts hown hV 1 1 (by decide) (v := .int (nI (nT f))) rfl rfl gin0 (by decide) gm_4 (by rw [← hT]; rfl) dX0_overdueOn_6 ?_
    refine lv_icmp_ge (tgt := 51) hx hb dX0_overdueOn_9 (by decide) (fun c9 => ?_) (fun c9 => ?_)
    · skip
      have c9 : (nT f) ≤ (nT f) := (g_le (by omega) (by omega)).mp c9
      refine lv_iload_n hx hb dX0_overdueOn_51 rfl (lv_at hl 0 rfl) ?_
      exact g_iret G (rfl) dX0_overdueOn_52
    · skip
      have c9 : ¬ ((nT f) ≤ (nT f)) := fun q => c9 ((g_le (by omega) (by omega)).mpr q)
      exact absurd c9 (by omega)
theorem ok_X0_termsOf : gOK yX0_termsOf cX0_termsOf 4 (some .int) 1 := ⟨gm_54, gm_25, by decide +kernel⟩
set_option maxRecDepth 100000 in
set_option maxHeartbeats 4000000 in
theorem c_X0_termsOf (l : Launch) (w : GP) (f : CS) (c : Int32) (hI : gI f)  : Met l yX0_termsOf (gws yX0_termsOf cX0_termsOf 4 (some .int)) ({ frames := 0, cells := 0, slots := 0, locals := 0 }) (gPc w f [.ref (w.2.2.2 1), .int c]) (gRd (.int (ofC f c))) 0 0 (fun _ => False) := by
  refine g_read (by decide) (Nat.le_of_ble_eq_true rfl) ?_
  intro P_ E_ S_ M_ B_ T_ C_ ls G hV hl
  obtain ⟨hx, hb, hml, hown, hts⟩ := id G.1
  obtain ⟨⟨hT, hT24⟩, ⟨hC, hC12⟩, ⟨hD, hD6⟩, hLn⟩ := id hI
  have hl : lv_has ls 4 [(0, .ref (w.2.2.2 1)), (1, .int c)] := hl
  refine lv_iconst (v := nI 0) hx hb dX0_termsOf_0 (by decide) ?_
  refine lv_istore_n (lv' := [(2, .int (nI 0)), (0, .ref (w.2.2.2 1)), (1, .int c)]) hx hb dX0_termsOf_1 rfl hl (by decide) rfl (fun ls hl => ?_)
  refine lv_iconst (v := nI 0) hx hb dX0_termsOf_2 (by decide) ?_
  refine lv_istore_n (lv' := [(3, .int (nI 0)), (2, .int (nI 0)), (0, .ref (w.2.2.2 1)), (1, .int c)]) hx hb dX0_termsOf_3 rfl hl (by decide) rfl (fun ls hl => ?_)
  refine g_for (P := fun k => ∀ (ls : Array Slot), lv_has ls 4 [(2, .int (mk (fun t => decide (f 2 t = c)) k)), (3, .int (nI k)), (0, .ref (w.2.2.2 1)), (1, .int c)] → W P_ l E_ _ S_ M_ _ B_ T_ C_ S_.heap [] 0 0 _ (F0 M_ 4 ls [])) (nT f) ?_ ?_ 0 (Nat.zero_le _) ls (lv_sub hl [1, 0, 2, 3] rfl)
  · intro k hk ih ls hl
    refine lv_iload_n hx hb dX0_termsOf_4 rfl (lv_at hl 1 rfl) ?_
    refine lv_aload_n hx hb dX0_termsOf_5 rfl (lv_at hl 2 rfl) ?_
    refine g_get hx hb hts hown hV 1 1 (by decide) (v := .int (nI (nT f))) rfl rfl gin0 (by decide) gm_4 (by rw [← hT]; rfl) dX0_termsOf_6 ?_
    refine lv_icmp_ge (tgt := 34) hx hb dX0_termsOf_9 (by decide) (fun c9 => ?_) (fun c9 => ?_)
    · skip
      have c9 : (nT f) ≤ k := (g_le (by omega) (by omega)).mp c9
      exact absurd c9 (by omega)
    · skip
      have c9 : ¬ ((nT f) ≤ k) := fun q => c9 ((g_le (by omega) (by omega)).mpr q)
      refine lv_aload_n hx hb dX0_termsOf_12 rfl (lv_at hl 2 rfl) ?_
      refine g_get hx hb hts hown hV 1 3 (by decide) (v := .ref (w.2.2.2 4)) rfl rfl gin0 (by decide) gm_7 (rfl) dX0_termsOf_13 ?_
      refine lv_iload_n hx hb dX0_termsOf_16 rfl (lv_at hl 1 rfl) ?_
      refine g_ialn (a := 2) (n := 24) hx hb hV 4 (by decide) (by decide) rfl rfl (i := k) (by omega) dX0_termsOf_17 ?_
      refine lv_iload_n hx hb dX0_termsOf_18 rfl (lv_at hl 3 rfl) ?_
      refine lv_icmp_ne (tgt := 28) hx hb dX0_termsOf_19 (by decide) (fun c19 => ?_) (fun c19 => ?_)
      · skip
        refine lv_iinc (v := nI (k + 1)) (lv' := [(3, .int (nI (k + 1))), (2, .int (mk (fun t => decide (f 2 t = c)) k)), (0, .ref (w.2.2.2 1)), (1, .int c)]) hx hb dX0_termsOf_28 hl (k := 1) rfl (g_inc k 1) (by decide) rfl (fun ls hl => ?_)
        refine lv_goto (tgt := 4) hx hb dX0_termsOf_31 (by decide) ?_
        refine ih ls ?_
        rw [(show mk (fun t => decide (f 2 t = c)) (k + 1) = mk (fun t => decide (f 2 t = c)) k from by simp [mk, bit, c9, c19])]
        exact lv_sub hl [1, 0, 2, 3] rfl
      · skip
        refine lv_iload_n hx hb dX0_termsOf_22 rfl (lv_at hl 0 rfl) ?_
        refine lv_iconst (v := nI 1) hx hb dX0_termsOf_23 (by decide) ?_
        refine lv_iload_n hx hb dX0_termsOf_24 rfl (lv_at hl 1 rfl) ?_
        refine lv_ishl hx hb dX0_termsOf_25 ?_
        refine lv_ior hx hb dX0_termsOf_26 ?_
        refine lv_istore_n (lv' := [(2, .int ((mk (fun t => decide (f 2 t = c)) k) ||| ((nI 1) <<< ((nI k) &&& 31)))), (3, .int (nI k)), (0, .ref (w.2.2.2 1)), (1, .int c)]) hx hb dX0_termsOf_27 rfl hl (by decide) rfl (fun ls hl => ?_)
        refine lv_iinc (v := nI (k + 1)) (lv' := [(3, .int (nI (k + 1))), (2, .int ((mk (fun t => decide (f 2 t = c)) k) ||| ((nI 1) <<< ((nI k) &&& 31)))), (0, .ref (w.2.2.2 1)), (1, .int c)]) hx hb dX0_termsOf_28 hl (k := 1) rfl (g_inc k 1) (by decide) rfl (fun ls hl => ?_)
        refine lv_goto (tgt := 4) hx hb dX0_termsOf_31 (by decide) ?_
        refine ih ls ?_
        rw [(show mk (fun t => decide (f 2 t = c)) (k + 1) = (mk (fun t => decide (f 2 t = c)) k) ||| ((nI 1) <<< ((nI k) &&& 31)) from by simp [mk, bit, c9, c19])]
        exact lv_sub hl [1, 0, 2, 3] rfl
  · intro ls hl
    refine lv_iload_n hx hb dX0_termsOf_4 rfl (lv_at hl 1 rfl) ?_
    refine lv_aload_n hx hb dX0_termsOf_5 rfl (lv_at hl 2 rfl) ?_
    refine g_get hx hb hts hown hV 1 1 (by decide) (v := .int (nI (nT f))) rfl rfl gin0 (by decide) gm_4 (by rw [← hT]; rfl) dX0_termsOf_6 ?_
    refine lv_icmp_ge (tgt := 34) hx hb dX0_termsOf_9 (by decide) (fun c9 => ?_) (fun c9 => ?_)
    · skip
      have c9 : (nT f) ≤ (nT f) := (g_le (by omega) (by omega)).mp c9
      refine lv_iload_n hx hb dX0_termsOf_34 rfl (lv_at hl 0 rfl) ?_
      exact g_iret G (rfl) dX0_termsOf_35
    · skip
      have c9 : ¬ ((nT f) ≤ (nT f)) := fun q => c9 ((g_le (by omega) (by omega)).mpr q)
      exact absurd c9 (by omega)
theorem ok_X0_canBeJoined : gOK yX0_canBeJoined cX0_canBeJoined 4 (some .boolean) 2 := ⟨gm_271, gm_25, by decide +kernel⟩
set_option maxRecDepth 100000 in
set_option maxHeartbeats 4000000 in
theorem c_X0_canBeJoined (l : Launch) (w : GP) (f : CS) (a : Int32) (b : Int32) (hI : gI f)  : Met l yX0_canBeJoined (gws yX0_canBeJoined cX0_canBeJoined 4 (some .boolean)) ({ frames := 1, cells := 0, slots := 0, locals := 24 }) (gPc w f [.ref (w.2.2.2 1), .int a, .int b]) (gRd (.int (if canJ f a b then 1 else 0))) 0 0 (fun _ => False) := by
  refine g_read (by decide) (Nat.le_of_ble_eq_true rfl) ?_
  intro P_ E_ S_ M_ B_ T_ C_ ls G hV hl
  obtain ⟨hx, hb, hml, hown, hts⟩ := id G.1
  obtain ⟨⟨hT, hT24⟩, ⟨hC, hC12⟩, ⟨hD, hD6⟩, hLn⟩ := id hI
  have hl : lv_has ls 4 [(0, .ref (w.2.2.2 1)), (1, .int a), (2, .int b)] := hl
  refine lv_iconst (v := nI 0) hx hb dX0_canBeJoined_0 (by decide) ?_
  refine lv_istore_n (lv' := [(3, .int (nI 0)), (0, .ref (w.2.2.2 1)), (1, .int a), (2, .int b)]) hx hb dX0_canBeJoined_1 rfl hl (by decide) rfl (fun ls hl => ?_)
  refine g_for (P := fun k => ∀ (ls : Array Slot), lv_has ls 4 [(3, .int (nI k)), (0, .ref (w.2.2.2 1)), (1, .int a), (2, .int b)] → (∀ t, t < k → ¬ (decide (f 2 t = a) && hasT f b (f 3 t) (f 4 t)) = true) → W P_ l E_ _ S_ M_ _ B_ T_ C_ S_.heap [] 0 0 _ (F0 M_ 2 ls [])) (nT f) ?_ ?_ 0 (Nat.zero_le _) ls (lv_sub hl [0, 1, 2, 3] rfl) (fun t ht => absurd ht (Nat.not_lt_zero t))
  · intro k hk ih ls hl hik
    refine lv_iload_n hx hb dX0_canBeJoined_2 rfl (lv_at hl 0 rfl) ?_
    refine lv_aload_n hx hb dX0_canBeJoined_3 rfl (lv_at hl 1 rfl) ?_
    refine g_get hx hb hts hown hV 1 1 (by decide) (v := .int (nI (nT f))) rfl rfl gin0 (by decide) gm_4 (by rw [← hT]; rfl) dX0_canBeJoined_4 ?_
    refine lv_icmp_ge (tgt := 48) hx hb dX0_canBeJoined_7 (by decide) (fun c7 => ?_) (fun c7 => ?_)
    · skip
      have c7 : (nT f) ≤ k := (g_le (by omega) (by omega)).mp c7
      exact absurd c7 (by omega)
    · skip
      have c7 : ¬ ((nT f) ≤ k) := fun q => c7 ((g_le (by omega) (by omega)).mpr q)
      refine lv_aload_n hx hb dX0_canBeJoined_10 rfl (lv_at hl 1 rfl) ?_
      refine g_get hx hb hts hown hV 1 3 (by decide) (v := .ref (w.2.2.2 4)) rfl rfl gin0 (by decide) gm_7 (rfl) dX0_canBeJoined_11 ?_
      refine lv_iload_n hx hb dX0_canBeJoined_14 rfl (lv_at hl 0 rfl) ?_
      refine g_ialn (a := 2) (n := 24) hx hb hV 4 (by decide) (by decide) rfl rfl (i := k) (by omega) dX0_canBeJoined_15 ?_
      refine lv_iload_n hx hb dX0_canBeJoined_16 rfl (lv_at hl 2 rfl) ?_
      refine lv_icmp_ne (tgt := 42) hx hb dX0_canBeJoined_17 (by decide) (fun c17 => ?_) (fun c17 => ?_)
      · skip
        refine lv_iinc (v := nI (k + 1)) (lv' := [(3, .int (nI (k + 1))), (0, .ref (w.2.2.2 1)), (1, .int a), (2, .int b)]) hx hb dX0_canBeJoined_42 hl (k := 0) rfl (g_inc k 1) (by decide) rfl (fun ls hl => ?_)
        refine lv_goto (tgt := 2) hx hb dX0_canBeJoined_45 (by decide) ?_
        refine ih ls ?_ (fun t ht q => by rcases Nat.lt_succ_iff_lt_or_eq.mp ht with h | h; exact hik t h q; subst h; simp_all)
        exact lv_sub hl [0, 1, 2, 3] rfl
      · skip
        refine lv_aload_n hx hb dX0_canBeJoined_20 rfl (lv_at hl 1 rfl) ?_
        refine lv_iload_n hx hb dX0_canBeJoined_21 rfl (lv_at hl 3 rfl) ?_
        refine lv_aload_n hx hb dX0_canBeJoined_22 rfl (lv_at hl 1 rfl) ?_
        refine g_get hx hb hts hown hV 1 4 (by decide) (v := .ref (w.2.2.2 5)) rfl rfl gin0 (by decide) gm_8 (rfl) dX0_canBeJoined_23 ?_
        refine lv_iload_n hx hb dX0_canBeJoined_26 rfl (lv_at hl 0 rfl) ?_
        refine g_ialn (a := 3) (n := 24) hx hb hV 5 (by decide) (by decide) rfl rfl (i := k) (by omega) dX0_canBeJoined_27 ?_
        refine lv_aload_n hx hb dX0_canBeJoined_28 rfl (lv_at hl 1 rfl) ?_
        refine g_get hx hb hts hown hV 1 5 (by decide) (v := .ref (w.2.2.2 6)) rfl rfl gin0 (by decide) gm_9 (rfl) dX0_canBeJoined_29 ?_
        refine lv_iload_n hx hb dX0_canBeJoined_32 rfl (lv_at hl 0 rfl) ?_
        refine g_ialn (a := 4) (n := 24) hx hb hV 6 (by decide) (by decide) rfl rfl (i := k) (by omega) dX0_canBeJoined_33 ?_
        refine g_callV (As := [.int b, .int (f 3 k), .int (f 4 k)]) (rest := []) G.1 hV 1 (by decide) rfl rfl ok_X0_hasTerm gm_44 gm_45 gm_43 (c_X0_hasTerm l w f b (f 3 k) (f 4 k) hI ) ⟨rfl, rfl⟩ ⟨Nat.le_of_ble_eq_true rfl, Nat.le_of_ble_eq_true rfl⟩ rfl hl.1 rfl (Nat.le_of_ble_eq_true rfl) ⟨Nat.zero_le _, Nat.zero_le _⟩ dX0_canBeJoined_34 ?_
        refine lv_if_eq (tgt := 42) hx hb dX0_canBeJoined_37 (by decide) (fun c37 => ?_) (fun c37 => ?_)
        · skip
          have c37 : ¬ (hasT f b (f 3 k) (f 4 k) = true) := g_if0.mp c37
          refine lv_iinc (v := nI (k + 1)) (lv' := [(3, .int (nI (k + 1))), (0, .ref (w.2.2.2 1)), (1, .int a), (2, .int b)]) hx hb dX0_canBeJoined_42 hl (k := 0) rfl (g_inc k 1) (by decide) rfl (fun ls hl => ?_)
          refine lv_goto (tgt := 2) hx hb dX0_canBeJoined_45 (by decide) ?_
          refine ih ls ?_ (fun t ht q => by rcases Nat.lt_succ_iff_lt_or_eq.mp ht with h | h; exact hik t h q; subst h; simp_all)
          exact lv_sub hl [0, 1, 2, 3] rfl
        · skip
          have c37 : hasT f b (f 3 k) (f 4 k) = true := g_if1.mp c37
          refine lv_iconst (v := nI 0) hx hb dX0_canBeJoined_40 (by decide) ?_
          exact g_zret G (gz0 (fun q => by have h1 := (aT_iff (p := fun t => decide (f 2 t = a) && hasT f b (f 3 t) (f 4 t))).mpr ⟨k, hk, by simp [c17, c37]⟩; rw [q] at h1; cases h1)) (by decide) dX0_canBeJoined_41
  · intro ls hl hik
    refine lv_iload_n hx hb dX0_canBeJoined_2 rfl (lv_at hl 0 rfl) ?_
    refine lv_aload_n hx hb dX0_canBeJoined_3 rfl (lv_at hl 1 rfl) ?_
    refine g_get hx hb hts hown hV 1 1 (by decide) (v := .int (nI (nT f))) rfl rfl gin0 (by decide) gm_4 (by rw [← hT]; rfl) dX0_canBeJoined_4 ?_
    refine lv_icmp_ge (tgt := 48) hx hb dX0_canBeJoined_7 (by decide) (fun c7 => ?_) (fun c7 => ?_)
    · skip
      have c7 : (nT f) ≤ (nT f) := (g_le (by omega) (by omega)).mp c7
      refine lv_iconst (v := nI 1) hx hb dX0_canBeJoined_48 (by decide) ?_
      exact g_zret G (gz1 (Bool.eq_false_iff.mpr (fun q => by obtain ⟨t, h1, h2⟩ := aT_iff.mp q; exact hik t h1 h2))) (by decide) dX0_canBeJoined_49
    · skip
      have c7 : ¬ ((nT f) ≤ (nT f)) := fun q => c7 ((g_le (by omega) (by omega)).mpr q)
      exact absurd c7 (by omega)
theorem ok_X0_conceptsWithTerms : gOK yX0_conceptsWithTerms cX0_conceptsWithTerms 3 (some .int) 0 := ⟨gm_331, gm_25, by decide +kernel⟩
set_option maxRecDepth 100000 in
set_option maxHeartbeats 4000000 in
theorem c_X0_conceptsWithTerms (l : Launch) (w : GP) (f : CS)  (hI : gI f)  : Met l yX0_conceptsWithTerms (gws yX0_conceptsWithTerms cX0_conceptsWithTerms 3 (some .int)) ({ frames := 1, cells := 0, slots := 0, locals := 23 }) (gPc w f [.ref (w.2.2.2 1)]) (gRd (.int (nI (ct (fun c => decide (¬ ofC f (nI c) = 0)) (nC f))))) 0 0 (fun _ => False) := by
  refine g_read (by decide) (Nat.le_of_ble_eq_true rfl) ?_
  intro P_ E_ S_ M_ B_ T_ C_ ls G hV hl
  obtain ⟨hx, hb, hml, hown, hts⟩ := id G.1
  obtain ⟨⟨hT, hT24⟩, ⟨hC, hC12⟩, ⟨hD, hD6⟩, hLn⟩ := id hI
  have hl : lv_has ls 3 [(0, .ref (w.2.2.2 1))] := hl
  refine lv_iconst (v := nI 0) hx hb dX0_conceptsWithTerms_0 (by decide) ?_
  refine lv_istore_n (lv' := [(1, .int (nI 0)), (0, .ref (w.2.2.2 1))]) hx hb dX0_conceptsWithTerms_1 rfl hl (by decide) rfl (fun ls hl => ?_)
  refine lv_iconst (v := nI 0) hx hb dX0_conceptsWithTerms_2 (by decide) ?_
  refine lv_istore_n (lv' := [(2, .int (nI 0)), (1, .int (nI 0)), (0, .ref (w.2.2.2 1))]) hx hb dX0_conceptsWithTerms_3 rfl hl (by decide) rfl (fun ls hl => ?_)
  refine g_for (P := fun k => ∀ (ls : Array Slot), lv_has ls 3 [(1, .int (nI (ct (fun c => decide (¬ ofC f (nI c) = 0)) k))), (2, .int (nI k)), (0, .ref (w.2.2.2 1))] → W P_ l E_ _ S_ M_ _ B_ T_ C_ S_.heap [] 0 0 _ (F0 M_ 4 ls [])) (nC f) ?_ ?_ 0 (Nat.zero_le _) ls (lv_sub hl [1, 0, 2] rfl)
  · intro k hk ih ls hl
    refine lv_iload_n hx hb dX0_conceptsWithTerms_4 rfl (lv_at hl 1 rfl) ?_
    refine lv_aload_n hx hb dX0_conceptsWithTerms_5 rfl (lv_at hl 2 rfl) ?_
    refine g_get hx hb hts hown hV 1 0 (by decide) (v := .int (nI (nC f))) rfl rfl gin0 (by decide) gm_3 (by rw [← hC]; rfl) dX0_conceptsWithTerms_6 ?_
    refine lv_icmp_ge (tgt := 29) hx hb dX0_conceptsWithTerms_9 (by decide) (fun c9 => ?_) (fun c9 => ?_)
    · skip
      have c9 : (nC f) ≤ k := (g_le (by omega) (by omega)).mp c9
      exact absurd c9 (by omega)
    · skip
      have c9 : ¬ ((nC f) ≤ k) := fun q => c9 ((g_le (by omega) (by omega)).mpr q)
      refine lv_aload_n hx hb dX0_conceptsWithTerms_12 rfl (lv_at hl 2 rfl) ?_
      refine lv_iload_n hx hb dX0_conceptsWithTerms_13 rfl (lv_at hl 1 rfl) ?_
      refine g_callV (As := [.int (nI k)]) (rest := []) G.1 hV 1 (by decide) rfl rfl ok_X0_termsOf gm_52 gm_53 gm_51 (c_X0_termsOf l w f (nI k) hI ) ⟨rfl, rfl⟩ ⟨Nat.le_of_ble_eq_true rfl, Nat.le_of_ble_eq_true rfl⟩ rfl hl.1 rfl (Nat.le_of_ble_eq_true rfl) ⟨Nat.zero_le _, Nat.zero_le _⟩ dX0_conceptsWithTerms_14 ?_
      refine lv_if_eq (tgt := 23) hx hb dX0_conceptsWithTerms_17 (by decide) (fun c17 => ?_) (fun c17 => ?_)
      · skip
        refine lv_iinc (v := nI (k + 1)) (lv' := [(2, .int (nI (k + 1))), (1, .int (nI (ct (fun c => decide (¬ ofC f (nI c) = 0)) k))), (0, .ref (w.2.2.2 1))]) hx hb dX0_conceptsWithTerms_23 hl (k := 1) rfl (g_inc k 1) (by decide) rfl (fun ls hl => ?_)
        refine lv_goto (tgt := 4) hx hb dX0_conceptsWithTerms_26 (by decide) ?_
        refine ih ls ?_
        rw [(show ct (fun c => decide (¬ ofC f (nI c) = 0)) (k + 1) = ct (fun c => decide (¬ ofC f (nI c) = 0)) k from by simp [ct, c9, c17])]
        exact lv_sub hl [1, 0, 2] rfl
      · skip
        refine lv_iinc (v := nI (ct (fun c => decide (¬ ofC f (nI c) = 0)) k + 1)) (lv' := [(1, .int (nI (ct (fun c => decide (¬ ofC f (nI c) = 0)) k + 1))), (2, .int (nI k)), (0, .ref (w.2.2.2 1))]) hx hb dX0_conceptsWithTerms_20 hl (k := 0) rfl (g_inc (ct (fun c => decide (¬ ofC f (nI c) = 0)) k) 1) (by decide) rfl (fun ls hl => ?_)
        refine lv_iinc (v := nI (k + 1)) (lv' := [(2, .int (nI (k + 1))), (1, .int (nI (ct (fun c => decide (¬ ofC f (nI c) = 0)) k + 1))), (0, .ref (w.2.2.2 1))]) hx hb dX0_conceptsWithTerms_23 hl (k := 1) rfl (g_inc k 1) (by decide) rfl (fun ls hl => ?_)
        refine lv_goto (tgt := 4) hx hb dX0_conceptsWithTerms_26 (by decide) ?_
        refine ih ls ?_
        rw [(show ct (fun c => decide (¬ ofC f (nI c) = 0)) (k + 1) = ct (fun c => decide (¬ ofC f (nI c) = 0)) k + 1 from by simp [ct, c9, c17])]
        exact lv_sub hl [1, 0, 2] rfl
  · intro ls hl
    refine lv_iload_n hx hb dX0_conceptsWithTerms_4 rfl (lv_at hl 1 rfl) ?_
    refine lv_aload_n hx hb dX0_conceptsWithTerms_5 rfl (lv_at hl 2 rfl) ?_
    refine g_get hx hb hts hown hV 1 0 (by decide) (v := .int (nI (nC f))) rfl rfl gin0 (by decide) gm_3 (by rw [← hC]; rfl) dX0_conceptsWithTerms_6 ?_
    refine lv_icmp_ge (tgt := 29) hx hb dX0_conceptsWithTerms_9 (by decide) (fun c9 => ?_) (fun c9 => ?_)
    · skip
      have c9 : (nC f) ≤ (nC f) := (g_le (by omega) (by omega)).mp c9
      refine lv_iload_n hx hb dX0_conceptsWithTerms_29 rfl (lv_at hl 0 rfl) ?_
      exact g_iret G (rfl) dX0_conceptsWithTerms_30
    · skip
      have c9 : ¬ ((nC f) ≤ (nC f)) := fun q => c9 ((g_le (by omega) (by omega)).mpr q)
      exact absurd c9 (by omega)
theorem ok_X0_termsInState : gOK yX0_termsInState cX0_termsInState 4 (some .int) 1 := ⟨gm_335, gm_25, by decide +kernel⟩
set_option maxRecDepth 100000 in
set_option maxHeartbeats 4000000 in
theorem c_X0_termsInState (l : Launch) (w : GP) (f : CS) (x : Int32) (hI : gI f)  : Met l yX0_termsInState (gws yX0_termsInState cX0_termsInState 4 (some .int)) ({ frames := 0, cells := 0, slots := 0, locals := 0 }) (gPc w f [.ref (w.2.2.2 1), .int x]) (gRd (.int (nI (ct (fun t => decide (f 5 t = x)) (nT f))))) 0 0 (fun _ => False) := by
  refine g_read (by decide) (Nat.le_of_ble_eq_true rfl) ?_
  intro P_ E_ S_ M_ B_ T_ C_ ls G hV hl
  obtain ⟨hx, hb, hml, hown, hts⟩ := id G.1
  obtain ⟨⟨hT, hT24⟩, ⟨hC, hC12⟩, ⟨hD, hD6⟩, hLn⟩ := id hI
  have hl : lv_has ls 4 [(0, .ref (w.2.2.2 1)), (1, .int x)] := hl
  refine lv_iconst (v := nI 0) hx hb dX0_termsInState_0 (by decide) ?_
  refine lv_istore_n (lv' := [(2, .int (nI 0)), (0, .ref (w.2.2.2 1)), (1, .int x)]) hx hb dX0_termsInState_1 rfl hl (by decide) rfl (fun ls hl => ?_)
  refine lv_iconst (v := nI 0) hx hb dX0_termsInState_2 (by decide) ?_
  refine lv_istore_n (lv' := [(3, .int (nI 0)), (2, .int (nI 0)), (0, .ref (w.2.2.2 1)), (1, .int x)]) hx hb dX0_termsInState_3 rfl hl (by decide) rfl (fun ls hl => ?_)
  refine g_for (P := fun k => ∀ (ls : Array Slot), lv_has ls 4 [(2, .int (nI (ct (fun t => decide (f 5 t = x)) k))), (3, .int (nI k)), (0, .ref (w.2.2.2 1)), (1, .int x)] → W P_ l E_ _ S_ M_ _ B_ T_ C_ S_.heap [] 0 0 _ (F0 M_ 4 ls [])) (nT f) ?_ ?_ 0 (Nat.zero_le _) ls (lv_sub hl [1, 0, 2, 3] rfl)
  · intro k hk ih ls hl
    refine lv_iload_n hx hb dX0_termsInState_4 rfl (lv_at hl 1 rfl) ?_
    refine lv_aload_n hx hb dX0_termsInState_5 rfl (lv_at hl 2 rfl) ?_
    refine g_get hx hb hts hown hV 1 1 (by decide) (v := .int (nI (nT f))) rfl rfl gin0 (by decide) gm_4 (by rw [← hT]; rfl) dX0_termsInState_6 ?_
    refine lv_icmp_ge (tgt := 31) hx hb dX0_termsInState_9 (by decide) (fun c9 => ?_) (fun c9 => ?_)
    · skip
      have c9 : (nT f) ≤ k := (g_le (by omega) (by omega)).mp c9
      exact absurd c9 (by omega)
    · skip
      have c9 : ¬ ((nT f) ≤ k) := fun q => c9 ((g_le (by omega) (by omega)).mpr q)
      refine lv_aload_n hx hb dX0_termsInState_12 rfl (lv_at hl 2 rfl) ?_
      refine g_get hx hb hts hown hV 1 6 (by decide) (v := .ref (w.2.2.2 7)) rfl rfl gin0 (by decide) gm_10 (rfl) dX0_termsInState_13 ?_
      refine lv_iload_n hx hb dX0_termsInState_16 rfl (lv_at hl 1 rfl) ?_
      refine g_ialn (a := 5) (n := 24) hx hb hV 7 (by decide) (by decide) rfl rfl (i := k) (by omega) dX0_termsInState_17 ?_
      refine lv_iload_n hx hb dX0_termsInState_18 rfl (lv_at hl 3 rfl) ?_
      refine lv_icmp_ne (tgt := 25) hx hb dX0_termsInState_19 (by decide) (fun c19 => ?_) (fun c19 => ?_)
      · skip
        refine lv_iinc (v := nI (k + 1)) (lv' := [(3, .int (nI (k + 1))), (2, .int (nI (ct (fun t => decide (f 5 t = x)) k))), (0, .ref (w.2.2.2 1)), (1, .int x)]) hx hb dX0_termsInState_25 hl (k := 1) rfl (g_inc k 1) (by decide) rfl (fun ls hl => ?_)
        refine lv_goto (tgt := 4) hx hb dX0_termsInState_28 (by decide) ?_
        refine ih ls ?_
        rw [(show ct (fun t => decide (f 5 t = x)) (k + 1) = ct (fun t => decide (f 5 t = x)) k from by simp [ct, c9, c19])]
        exact lv_sub hl [1, 0, 2, 3] rfl
      · skip
        refine lv_iinc (v := nI (ct (fun t => decide (f 5 t = x)) k + 1)) (lv' := [(2, .int (nI (ct (fun t => decide (f 5 t = x)) k + 1))), (3, .int (nI k)), (0, .ref (w.2.2.2 1)), (1, .int x)]) hx hb dX0_termsInState_22 hl (k := 0) rfl (g_inc (ct (fun t => decide (f 5 t = x)) k) 1) (by decide) rfl (fun ls hl => ?_)
        refine lv_iinc (v := nI (k + 1)) (lv' := [(3, .int (nI (k + 1))), (2, .int (nI (ct (fun t => decide (f 5 t = x)) k + 1))), (0, .ref (w.2.2.2 1)), (1, .int x)]) hx hb dX0_termsInState_25 hl (k := 1) rfl (g_inc k 1) (by decide) rfl (fun ls hl => ?_)
        refine lv_goto (tgt := 4) hx hb dX0_termsInState_28 (by decide) ?_
        refine ih ls ?_
        rw [(show ct (fun t => decide (f 5 t = x)) (k + 1) = ct (fun t => decide (f 5 t = x)) k + 1 from by simp [ct, c9, c19])]
        exact lv_sub hl [1, 0, 2, 3] rfl
  · intro ls hl
    refine lv_iload_n hx hb dX0_termsInState_4 rfl (lv_at hl 1 rfl) ?_
    refine lv_aload_n hx hb dX0_termsInState_5 rfl (lv_at hl 2 rfl) ?_
    refine g_get hx hb hts hown hV 1 1 (by decide) (v := .int (nI (nT f))) rfl rfl gin0 (by decide) gm_4 (by rw [← hT]; rfl) dX0_termsInState_6 ?_
    refine lv_icmp_ge (tgt := 31) hx hb dX0_termsInState_9 (by decide) (fun c9 => ?_) (fun c9 => ?_)
    · skip
      have c9 : (nT f) ≤ (nT f) := (g_le (by omega) (by omega)).mp c9
      refine lv_iload_n hx hb dX0_termsInState_31 rfl (lv_at hl 0 rfl) ?_
      exact g_iret G (rfl) dX0_termsInState_32
    · skip
      have c9 : ¬ ((nT f) ≤ (nT f)) := fun q => c9 ((g_le (by omega) (by omega)).mpr q)
      exact absurd c9 (by omega)
theorem ok_X0_canBe : gOK yX0_canBe cX0_canBe 4 (some .int) 2 := ⟨gm_83, gm_25, by decide +kernel⟩
set_option maxRecDepth 100000 in
set_option maxHeartbeats 4000000 in
theorem c_X0_canBe (l : Launch) (w : GP) (f : CS) (g : Nat) (x : Int32) (hI : gI f) (hg : g < 3) : Met l yX0_canBe (gws yX0_canBe cX0_canBe 4 (some .int)) ({ frames := 1, cells := 0, slots := 0, locals := 21 }) (gPc w f [.ref (w.2.2.2 1), .int (nI g), .int x]) (gRd (.int (cb f g x))) 0 0 (fun _ => False) := by
  refine g_read (by decide) (Nat.le_of_ble_eq_true rfl) ?_
  intro P_ E_ S_ M_ B_ T_ C_ ls G hV hl
  obtain ⟨hx, hb, hml, hown, hts⟩ := id G.1
  obtain ⟨⟨hT, hT24⟩, ⟨hC, hC12⟩, ⟨hD, hD6⟩, hLn⟩ := id hI
  have hl : lv_has ls 4 [(0, .ref (w.2.2.2 1)), (1, .int (nI g)), (2, .int x)] := hl
  refine lv_iload_n hx hb dX0_canBe_0 rfl (lv_at hl 2 rfl) ?_
  refine lv_iconst (v := nI 4) hx hb dX0_canBe_1 (by decide) ?_
  refine lv_idiv hx hb dX0_canBe_2 (by decide) ?_
  refine lv_istore_n (lv' := [(3, .int (x / (nI 4))), (0, .ref (w.2.2.2 1)), (1, .int (nI g)), (2, .int x)]) hx hb dX0_canBe_3 rfl hl (by decide) rfl (fun ls hl => ?_)
  refine lv_iload_n hx hb dX0_canBe_4 rfl (lv_at hl 2 rfl) ?_
  refine lv_iload_n hx hb dX0_canBe_5 rfl (lv_at hl 0 rfl) ?_
  refine g_callS (As := [.int (nI g), .int (x / (nI 4))]) (rest := []) G.1 hV ok_X0_isStem gm_24 gm_23 (c_X0_isStem l w f (nI g) (x / (nI 4))  ) ⟨rfl, rfl⟩ ⟨Nat.le_of_ble_eq_true rfl, Nat.le_of_ble_eq_true rfl⟩ rfl hl.1 rfl (Nat.le_of_ble_eq_true rfl) ⟨Nat.zero_le _, Nat.zero_le _⟩ dX0_canBe_6 ?_
  refine lv_if_eq (tgt := 23) hx hb dX0_canBe_9 (by decide) (fun c9 => ?_) (fun c9 => ?_)
  · skip
    have c9 : ¬ (isS (nI g) (x / (nI 4))) := g_if0.mp c9
    refine lv_iconst (v := nI 0) hx hb dX0_canBe_23 (by decide) ?_
    exact g_iret G (by unfold cb; rw [if_neg (fun q => c9 ⟨⟨nI_pos' (by omega), (g_lt (by omega) (by omega)).mpr hg⟩, q⟩)]; rfl) dX0_canBe_24
  · skip
    have c9 : isS (nI g) (x / (nI 4)) := g_if1.mp c9
    obtain ⟨u, hu, eu⟩ : ∃ u : Nat, u < 20 ∧ x / (nI 4) = nI u := nz c9.2.1 c9.2.2 (by omega)
    rw [eu] at hl
    refine lv_aload_n hx hb dX0_canBe_12 rfl (lv_at hl 1 rfl) ?_
    refine g_get hx hb hts hown hV 1 11 (by decide) (v := .ref (w.2.2.2 12)) rfl rfl gin0 (by decide) gm_16 (rfl) dX0_canBe_13 ?_
    refine lv_iload_n hx hb dX0_canBe_16 rfl (lv_at hl 2 rfl) ?_
    refine g_row (n := 3) (b := 13) hx hb hV 12 (by decide) rfl (i := g) (by omega) (by decide) dX0_canBe_17 ?_
    refine lv_iload_n hx hb dX0_canBe_18 rfl (lv_at hl 0 rfl) ?_
    refine g_ialn (a := 60 + g) (n := 20) hx hb hV (13 + g) (by omega) (by omega) (gid_13 (by omega)) (gn_13 (by omega)) (i := u) (by omega) dX0_canBe_19 ?_
    refine lv_goto (tgt := 24) hx hb dX0_canBe_20 (by decide) ?_
    exact g_iret G (by unfold cb; rw [if_pos c9.2, eu, nI_clamp (by omega)]) dX0_canBe_24
theorem ok_X0_domainIf : gOK yX0_domainIf cX0_domainIf 5 (some .int) 3 := ⟨gm_79, gm_25, by decide +kernel⟩
set_option maxRecDepth 100000 in
set_option maxHeartbeats 4000000 in
theorem c_X0_domainIf (l : Launch) (w : GP) (f : CS) (t : Nat) (a : Int32) (b : Int32) (hI : gI f) (ht : t < 24) : Met l yX0_domainIf (gws yX0_domainIf cX0_domainIf 5 (some .int)) ({ frames := 1, cells := 0, slots := 0, locals := 21 }) (gPc w f [.ref (w.2.2.2 1), .int (nI t), .int a, .int b]) (gRd (.int (domI f t a b))) 0 0 (fun _ => False) := by
  refine g_read (by decide) (Nat.le_of_ble_eq_true rfl) ?_
  intro P_ E_ S_ M_ B_ T_ C_ ls G hV hl
  obtain ⟨hx, hb, hml, hown, hts⟩ := id G.1
  obtain ⟨⟨hT, hT24⟩, ⟨hC, hC12⟩, ⟨hD, hD6⟩, hLn⟩ := id hI
  have hl : lv_has ls 5 [(0, .ref (w.2.2.2 1)), (1, .int (nI t)), (2, .int a), (3, .int b)] := hl
  refine lv_aload_n hx hb dX0_domainIf_0 rfl (lv_at hl 0 rfl) ?_
  refine g_get hx hb hts hown hV 1 3 (by decide) (v := .ref (w.2.2.2 4)) rfl rfl gin0 (by decide) gm_7 (rfl) dX0_domainIf_1 ?_
  refine lv_iload_n hx hb dX0_domainIf_4 rfl (lv_at hl 1 rfl) ?_
  refine g_ialn (a := 2) (n := 24) hx hb hV 4 (by decide) (by decide) rfl rfl (i := t) (by omega) dX0_domainIf_5 ?_
  refine lv_iload_n hx hb dX0_domainIf_6 rfl (lv_at hl 2 rfl) ?_
  refine lv_icmp_ne (tgt := 14) hx hb dX0_domainIf_7 (by decide) (fun c7 => ?_) (fun c7 => ?_)
  · skip
    refine lv_aload_n hx hb dX0_domainIf_14 rfl (lv_at hl 0 rfl) ?_
    refine g_get hx hb hts hown hV 1 3 (by decide) (v := .ref (w.2.2.2 4)) rfl rfl gin0 (by decide) gm_7 (rfl) dX0_domainIf_15 ?_
    refine lv_iload_n hx hb dX0_domainIf_18 rfl (lv_at hl 1 rfl) ?_
    refine g_ialn (a := 2) (n := 24) hx hb hV 4 (by decide) (by decide) rfl rfl (i := t) (by omega) dX0_domainIf_19 ?_
    refine lv_istore (lv' := [(4, .int (f 2 t)), (0, .ref (w.2.2.2 1)), (1, .int (nI t)), (2, .int a), (3, .int b)]) hx hb dX0_domainIf_20 hl (by decide) rfl (fun ls hl => ?_)
    refine lv_aload_n hx hb dX0_domainIf_22 rfl (lv_at hl 1 rfl) ?_
    refine lv_iload hx hb dX0_domainIf_23 (lv_at hl 0 rfl) ?_
    refine g_callV (As := [.int (f 2 t)]) (rest := []) G.1 hV 1 (by decide) rfl rfl ok_X0_isConcept gm_60 gm_61 gm_59 (c_X0_isConcept l w f (f 2 t) hI ) ⟨rfl, rfl⟩ ⟨Nat.le_of_ble_eq_true rfl, Nat.le_of_ble_eq_true rfl⟩ rfl hl.1 rfl (Nat.le_of_ble_eq_true rfl) ⟨Nat.zero_le _, Nat.zero_le _⟩ dX0_domainIf_25 ?_
    refine lv_if_eq (tgt := 41) hx hb dX0_domainIf_28 (by decide) (fun c28 => ?_) (fun c28 => ?_)
    · skip
      have c28 : ¬ (0 ≤ (f 2 t) ∧ (f 2 t) < nI (nC f)) := g_if0.mp c28
      refine lv_iconst (v := -1) hx hb dX0_domainIf_41 (by decide) ?_
      exact g_iret G (by unfold domI own; simp only [if_neg c7]; rw [if_neg c28]) dX0_domainIf_42
    · skip
      have c28 : 0 ≤ (f 2 t) ∧ (f 2 t) < nI (nC f) := g_if1.mp c28
      obtain ⟨u, hu, eu⟩ : ∃ u : Nat, u < nC f ∧ f 2 t = nI u := nz c28.1 c28.2 (by omega)
      rw [eu] at hl
      refine lv_aload_n hx hb dX0_domainIf_31 rfl (lv_at hl 1 rfl) ?_
      refine g_get hx hb hts hown hV 1 2 (by decide) (v := .ref (w.2.2.2 3)) rfl rfl gin0 (by decide) gm_6 (rfl) dX0_domainIf_32 ?_
      refine lv_iload hx hb dX0_domainIf_35 (lv_at hl 0 rfl) ?_
      refine g_ialn (a := 1) (n := 12) hx hb hV 3 (by decide) (by decide) rfl rfl (i := u) (by omega) dX0_domainIf_37 ?_
      refine lv_goto (tgt := 42) hx hb dX0_domainIf_38 (by decide) ?_
      exact g_iret G (by unfold domI own; simp only [if_neg c7]; rw [if_pos c28, eu, nI_clamp (by omega)]) dX0_domainIf_42
  · skip
    refine lv_iload_n hx hb dX0_domainIf_10 rfl (lv_at hl 3 rfl) ?_
    refine lv_goto (tgt := 20) hx hb dX0_domainIf_11 (by decide) ?_
    refine lv_istore (lv' := [(4, .int b), (0, .ref (w.2.2.2 1)), (1, .int (nI t)), (2, .int a), (3, .int b)]) hx hb dX0_domainIf_20 hl (by decide) rfl (fun ls hl => ?_)
    refine lv_aload_n hx hb dX0_domainIf_22 rfl (lv_at hl 1 rfl) ?_
    refine lv_iload hx hb dX0_domainIf_23 (lv_at hl 0 rfl) ?_
    refine g_callV (As := [.int b]) (rest := []) G.1 hV 1 (by decide) rfl rfl ok_X0_isConcept gm_60 gm_61 gm_59 (c_X0_isConcept l w f b hI ) ⟨rfl, rfl⟩ ⟨Nat.le_of_ble_eq_true rfl, Nat.le_of_ble_eq_true rfl⟩ rfl hl.1 rfl (Nat.le_of_ble_eq_true rfl) ⟨Nat.zero_le _, Nat.zero_le _⟩ dX0_domainIf_25 ?_
    refine lv_if_eq (tgt := 41) hx hb dX0_domainIf_28 (by decide) (fun c28 => ?_) (fun c28 => ?_)
    · skip
      have c28 : ¬ (0 ≤ b ∧ b < nI (nC f)) := g_if0.mp c28
      refine lv_iconst (v := -1) hx hb dX0_domainIf_41 (by decide) ?_
      exact g_iret G (by unfold domI own; simp only [if_pos c7]; rw [if_neg c28]) dX0_domainIf_42
    · skip
      have c28 : 0 ≤ b ∧ b < nI (nC f) := g_if1.mp c28
      obtain ⟨u, hu, eu⟩ : ∃ u : Nat, u < nC f ∧ b = nI u := nz c28.1 c28.2 (by omega)
      rw [eu] at hl
      refine lv_aload_n hx hb dX0_domainIf_31 rfl (lv_at hl 1 rfl) ?_
      refine g_get hx hb hts hown hV 1 2 (by decide) (v := .ref (w.2.2.2 3)) rfl rfl gin0 (by decide) gm_6 (rfl) dX0_domainIf_32 ?_
      refine lv_iload hx hb dX0_domainIf_35 (lv_at hl 0 rfl) ?_
      refine g_ialn (a := 1) (n := 12) hx hb hV 3 (by decide) (by decide) rfl rfl (i := u) (by omega) dX0_domainIf_37 ?_
      refine lv_goto (tgt := 42) hx hb dX0_domainIf_38 (by decide) ?_
      exact g_iret G (by unfold domI own; simp only [if_pos c7]; rw [if_pos c28, eu, nI_clamp (by omega)]) dX0_domainIf_42
