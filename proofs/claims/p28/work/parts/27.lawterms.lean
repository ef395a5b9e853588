theorem ok_L_areTermsRight : gOK yL_areTermsRight cL_areTermsRight 8 (some .boolean) 1 := ⟨gm_519, gm_468, by decide +kernel⟩
set_option maxRecDepth 100000 in
set_option maxHeartbeats 4000000 in
theorem c_L_areTermsRight (l : Launch) (w : GP) (f : CS)  (hI : gI f) (dy : Nat) (hdy : f 0 3 = nI dy) (hdl : dy ≤ 199) (hM : hTm f dy) (hDi : hDis f) (hP : hPr f) (hA : ∀ t, t < 18 → f 12 t = nI 1 → 0 < nL f t) : Met l yL_areTermsRight (gws yL_areTermsRight cL_areTermsRight 8 (some .boolean)) ({ frames := 5, cells := 4, slots := 88, locals := 114 }) (gPc w f [.ref (w.2.2.2 0)]) (gRn (.int 1)) 4 88 (fun _ => False) := by
  refine n_read (by decide) (Nat.le_of_ble_eq_true rfl) ?_
  intro P_ E_ S_ M_ B_ T_ C_ ls G hV hl
  obtain ⟨hx, hb, hml, hown, hts⟩ := id G.1
  obtain ⟨⟨hT, hT24⟩, ⟨hC, hC12⟩, ⟨hD, hD6⟩, hLn⟩ := id hI
  have hl : lv_has ls 8 [(0, .ref (w.2.2.2 0))] := hl
  have hL := LV.start hV
  obtain ⟨H, hH⟩ : ∃ H, H = S_.heap := ⟨_, rfl⟩
  obtain ⟨locs, hLo⟩ : ∃ L : List Loc, L = [] := ⟨_, rfl⟩
  rw [← hH, ← hLo] at hL
  suffices K : ∀ (H : Heap) (locs : List Loc), LV w S_ H locs f [] → W P_ l E_ _ S_ M_ _ B_ T_ C_ H locs 0 0 _ (F0 M_ 0 ls []) from by have := K H locs hL; rw [hH, hLo] at this; exact this
  clear hL hH hLo hV; intro H locs hL
  refine lv_iconst (v := nI 4) hx hb dL_areTermsRight_0 (by decide) ?_
  refine l_newa hx hb hL hts (N := 4) (by decide) dL_areTermsRight_1 (Nat.le_of_ble_eq_true rfl) (Nat.le_of_ble_eq_true rfl) (fun q0 H hL => ?_)
  refine lv_astore_n (lv' := [(1, .ref q0), (0, .ref (w.2.2.2 0))]) hx hb dL_areTermsRight_3 rfl hl (by decide) rfl (fun ls hl => ?_)
  refine lv_bipush (v := nI 36) hx hb dL_areTermsRight_4 (by decide) ?_
  refine l_newa hx hb hL hts (N := 36) (by decide) dL_areTermsRight_6 (Nat.le_of_ble_eq_true rfl) (Nat.le_of_ble_eq_true rfl) (fun q1 H hL => ?_)
  refine lv_astore_n (lv' := [(2, .ref q1), (1, .ref q0), (0, .ref (w.2.2.2 0))]) hx hb dL_areTermsRight_8 rfl hl (by decide) rfl (fun ls hl => ?_)
  refine lv_bipush (v := nI 36) hx hb dL_areTermsRight_9 (by decide) ?_
  refine l_newa hx hb hL hts (N := 36) (by decide) dL_areTermsRight_11 (Nat.le_of_ble_eq_true rfl) (Nat.le_of_ble_eq_true rfl) (fun q2 H hL => ?_)
  refine lv_astore_n (lv' := [(3, .ref q2), (2, .ref q1), (1, .ref q0), (0, .ref (w.2.2.2 0))]) hx hb dL_areTermsRight_13 rfl hl (by decide) rfl (fun ls hl => ?_)
  refine lv_bipush (v := nI 12) hx hb dL_areTermsRight_14 (by decide) ?_
  refine l_newa hx hb hL hts (N := 12) (by decide) dL_areTermsRight_16 (Nat.le_of_ble_eq_true rfl) (Nat.le_of_ble_eq_true rfl) (fun q3 H hL => ?_)
  refine lv_astore (lv' := [(4, .ref q3), (3, .ref q2), (2, .ref q1), (1, .ref q0), (0, .ref (w.2.2.2 0))]) hx hb dL_areTermsRight_18 hl (by decide) rfl (fun ls hl => ?_)
  refine lv_iconst (v := nI 0) hx hb dL_areTermsRight_20 (by decide) ?_
  refine lv_istore (lv' := [(5, .int (nI 0)), (4, .ref q3), (3, .ref q2), (2, .ref q1), (1, .ref q0), (0, .ref (w.2.2.2 0))]) hx hb dL_areTermsRight_21 hl (by decide) rfl (fun ls hl => ?_)
  refine g_for (P := fun t => ∀ (H : Heap) (locs : List Loc) (ls : Array Slot), LV w S_ H locs f [(q0, .inl (w.2.1, 4, .inl (tnA f t))), (q1, .inl (w.2.1, 36, .inl (pfA f t))), (q2, .inl (w.2.1, 36, .inl (stA f t))), (q3, .inl (w.2.1, 12, .inl (ofA f t)))] → lv_has ls 8 [(5, .int (nI t)), (4, .ref q3), (3, .ref q2), (2, .ref q1), (1, .ref q0), (0, .ref (w.2.2.2 0))] → W P_ l E_ _ S_ M_ _ B_ T_ C_ H locs 4 88 _ (F0 M_ 23 ls [])) (nT f) ?_ ?_ 0 (Nat.zero_le _) H locs ls (by rw [tnA_0, pfA_0, stA_0, ofA_0]; exact hL) (lv_sub hl [0, 1, 2, 3, 4, 5] rfl)
  · intro t ht ih H locs ls hL hl
    refine lv_iload hx hb dL_areTermsRight_23 (lv_at hl 0 rfl) ?_
    refine lv_aload_n hx hb dL_areTermsRight_25 rfl (lv_at hl 5 rfl) ?_
    refine lv_iconst (v := nI 2) hx hb dL_areTermsRight_26 (by decide) ?_
    refine g_callV (v := .int (nI (nT f))) (As := [.int (nI 2)]) (rest := [.int (nI t)]) G.1 hL.1 0 (by decide) rfl rfl ok_X2_many gm_378 gm_379 gm_477 (c_X2_many l w f 2 hI (by omega)) ⟨rfl, rfl⟩ ⟨Nat.le_of_ble_eq_true rfl, Nat.le_of_ble_eq_true rfl⟩ rfl hl.1 rfl (Nat.le_of_ble_eq_true rfl) ⟨Nat.le_of_ble_eq_true rfl, Nat.le_of_ble_eq_true rfl⟩ dL_areTermsRight_27 ?_
    refine lv_icmp_ge (tgt := 236) hx hb dL_areTermsRight_30 (by decide) (fun c30 => ?_) (fun c30 => ?_)
    · skip
      have c30 : (nT f) ≤ t := (g_le (by omega) (by omega)).mp c30
      exact absurd c30 (by omega)
    · skip
      have c30 : ¬ ((nT f) ≤ t) := fun q => c30 ((g_le (by omega) (by omega)).mpr q)
      obtain ⟨c, g, x, s, hc, hg, hx2, hs4, e2, e3, e4, e5, eb, ev⟩ := hM t ht
      have hcs : s = 0 ∨ s = 1 ∨ s = 2 ∨ s = 3 := by omega
      rcases hcs with rfl | rfl | rfl | rfl
      · skip
        obtain ⟨ev1, ev2⟩ := ev rfl
        refine lv_aload_n hx hb dL_areTermsRight_33 rfl (lv_at hl 5 rfl) ?_
        refine lv_iload hx hb dL_areTermsRight_34 (lv_at hl 0 rfl) ?_
        refine lv_iconst (v := nI 3) hx hb dL_areTermsRight_36 (by decide) ?_
        refine g_callV (v := .int (nI 0)) (As := [.int (nI t), .int (nI 3)]) (rest := []) G.1 hL.1 0 (by decide) rfl rfl ok_X2_ofTerm gm_357 gm_358 gm_479 (by have q9 := (c_X2_ofTerm l w f t 3 hI (by omega) (by omega)); rw [show gRd (.int (otF f t 3)) = gRd (.int (nI 0)) from congrArg (fun z => gRd (.int z)) (show otF f t 3 = nI 0 from e5)] at q9; exact q9) ⟨rfl, rfl⟩ ⟨Nat.le_of_ble_eq_true rfl, Nat.le_of_ble_eq_true rfl⟩ rfl hl.1 rfl (Nat.le_of_ble_eq_true rfl) ⟨Nat.le_of_ble_eq_true rfl, Nat.le_of_ble_eq_true rfl⟩ dL_areTermsRight_37 ?_
        refine lv_istore (lv' := [(6, .int (nI 0)), (5, .int (nI t)), (4, .ref q3), (3, .ref q2), (2, .ref q1), (1, .ref q0), (0, .ref (w.2.2.2 0))]) hx hb dL_areTermsRight_40 hl (by decide) rfl (fun ls hl => ?_)
        refine lv_aload_n hx hb dL_areTermsRight_42 rfl (lv_at hl 6 rfl) ?_
        refine lv_iload hx hb dL_areTermsRight_43 (lv_at hl 1 rfl) ?_
        refine lv_iconst (v := nI 0) hx hb dL_areTermsRight_45 (by decide) ?_
        refine g_callV (v := .int (nI c)) (As := [.int (nI t), .int (nI 0)]) (rest := []) G.1 hL.1 0 (by decide) rfl rfl ok_X2_ofTerm gm_357 gm_358 gm_479 (by have q9 := (c_X2_ofTerm l w f t 0 hI (by omega) (by omega)); rw [show gRd (.int (otF f t 0)) = gRd (.int (nI c)) from congrArg (fun z => gRd (.int z)) (show otF f t 0 = nI c from e2)] at q9; exact q9) ⟨rfl, rfl⟩ ⟨Nat.le_of_ble_eq_true rfl, Nat.le_of_ble_eq_true rfl⟩ rfl hl.1 rfl (Nat.le_of_ble_eq_true rfl) ⟨Nat.le_of_ble_eq_true rfl, Nat.le_of_ble_eq_true rfl⟩ dL_areTermsRight_46 ?_
        refine lv_iconst (v := nI 3) hx hb dL_areTermsRight_49 (by decide) ?_
        refine g_imuln hx hb dL_areTermsRight_50 ?_
        refine lv_aload_n hx hb dL_areTermsRight_51 rfl (lv_at hl 6 rfl) ?_
        refine lv_iload hx hb dL_areTermsRight_52 (lv_at hl 1 rfl) ?_
        refine lv_iconst (v := nI 1) hx hb dL_areTermsRight_54 (by decide) ?_
        refine g_callV (v := .int (nI g)) (As := [.int (nI t), .int (nI 1)]) (rest := [.int (nI (c * 3))]) G.1 hL.1 0 (by decide) rfl rfl ok_X2_ofTerm gm_357 gm_358 gm_479 (by have q9 := (c_X2_ofTerm l w f t 1 hI (by omega) (by omega)); rw [show gRd (.int (otF f t 1)) = gRd (.int (nI g)) from congrArg (fun z => gRd (.int z)) (show otF f t 1 = nI g from e3)] at q9; exact q9) ⟨rfl, rfl⟩ ⟨Nat.le_of_ble_eq_true rfl, Nat.le_of_ble_eq_true rfl⟩ rfl hl.1 rfl (Nat.le_of_ble_eq_true rfl) ⟨Nat.le_of_ble_eq_true rfl, Nat.le_of_ble_eq_true rfl⟩ dL_areTermsRight_55 ?_
        refine g_iaddn hx hb dL_areTermsRight_58 ?_
        refine lv_istore (lv' := [(7, .int (nI ((c * 3) + g))), (6, .int (nI 0)), (5, .int (nI t)), (4, .ref q3), (3, .ref q2), (2, .ref q1), (1, .ref q0), (0, .ref (w.2.2.2 0))]) hx hb dL_areTermsRight_59 hl (by decide) rfl (fun ls hl => ?_)
        refine lv_aload_n hx hb dL_areTermsRight_61 rfl (lv_at hl 6 rfl) ?_
        refine lv_iload hx hb dL_areTermsRight_62 (lv_at hl 1 rfl) ?_
        refine lv_dup2_11 hx hb dL_areTermsRight_64 rfl rfl ?_
        refine l_iald hx hb hL 0 (u := tnA f t) rfl (i := 0) (by omega) (by decide) dL_areTermsRight_65 ?_
        refine lv_iconst (v := nI 1) hx hb dL_areTermsRight_66 (by decide) ?_
        refine lv_iadd hx hb dL_areTermsRight_67 ?_
        refine l_iast hx hb hL 0 (u := tnA f t) rfl (i := 0) (by omega) (by decide) dL_areTermsRight_68 (fun H locs hL => ?_)
        rw [← tnA_y e5 (by omega)] at hL
        refine lv_aload hx hb dL_areTermsRight_69 (lv_at hl 3 rfl) ?_
        refine lv_aload_n hx hb dL_areTermsRight_71 rfl (lv_at hl 7 rfl) ?_
        refine lv_iload hx hb dL_areTermsRight_72 (lv_at hl 2 rfl) ?_
        refine lv_iconst (v := nI 0) hx hb dL_areTermsRight_74 (by decide) ?_
        refine g_callV (v := .int (nI c)) (As := [.int (nI t), .int (nI 0)]) (rest := [.ref q3]) G.1 hL.1 0 (by decide) rfl rfl ok_X2_ofTerm gm_357 gm_358 gm_479 (by have q9 := (c_X2_ofTerm l w f t 0 hI (by omega) (by omega)); rw [show gRd (.int (otF f t 0)) = gRd (.int (nI c)) from congrArg (fun z => gRd (.int z)) (show otF f t 0 = nI c from e2)] at q9; exact q9) ⟨rfl, rfl⟩ ⟨Nat.le_of_ble_eq_true rfl, Nat.le_of_ble_eq_true rfl⟩ rfl hl.1 rfl (Nat.le_of_ble_eq_true rfl) ⟨Nat.le_of_ble_eq_true rfl, Nat.le_of_ble_eq_true rfl⟩ dL_areTermsRight_75 ?_
        refine lv_dup2_11 hx hb dL_areTermsRight_78 rfl rfl ?_
        refine l_iald hx hb hL 3 (u := ofA f t) rfl (i := c) (by omega) (by decide) dL_areTermsRight_79 ?_
        refine lv_iconst (v := nI 1) hx hb dL_areTermsRight_80 (by decide) ?_
        refine lv_iadd hx hb dL_areTermsRight_81 ?_
        refine l_iast hx hb hL 3 (u := ofA f t) rfl (i := c) (by omega) (by decide) dL_areTermsRight_82 (fun H locs hL => ?_)
        rw [← ofA_y e2 (by omega)] at hL
        refine lv_iload hx hb dL_areTermsRight_83 (lv_at hl 1 rfl) ?_
        refine lv_iconst (v := nI 2) hx hb dL_areTermsRight_85 (by decide) ?_
        refine lv_icmp_ne (tgt := 97) hx hb dL_areTermsRight_86 (by decide) (fun c86 => ?_) (fun c86 => ?_)
        · skip
          have c86 : ¬ (0 = 2) := fun q => c86 ((g_eq (by omega) (by omega)).mpr q)
          refine lv_aload_n hx hb dL_areTermsRight_97 rfl (lv_at hl 4 rfl) ?_
          refine lv_iload hx hb dL_areTermsRight_98 (lv_at hl 0 rfl) ?_
          refine l_iald hx hb hL 2 (u := stA f t) rfl (i := (c * 3) + g) (by omega) (by decide) dL_areTermsRight_100 ?_
          rw [show (stA f t) ((c * 3) + g) = stO f c g t from stA_at (by omega) hg]
          refine lv_aload_n hx hb dL_areTermsRight_101 rfl (lv_at hl 7 rfl) ?_
          refine lv_iload hx hb dL_areTermsRight_102 (lv_at hl 2 rfl) ?_
          refine lv_iconst (v := nI 2) hx hb dL_areTermsRight_104 (by decide) ?_
          refine g_callV (v := .int (nI x)) (As := [.int (nI t), .int (nI 2)]) (rest := [.int (stO f c g t)]) G.1 hL.1 0 (by decide) rfl rfl ok_X2_ofTerm gm_357 gm_358 gm_479 (by have q9 := (c_X2_ofTerm l w f t 2 hI (by omega) (by omega)); rw [show gRd (.int (otF f t 2)) = gRd (.int (nI x)) from congrArg (fun z => gRd (.int z)) (show otF f t 2 = nI x from e4)] at q9; exact q9) ⟨rfl, rfl⟩ ⟨Nat.le_of_ble_eq_true rfl, Nat.le_of_ble_eq_true rfl⟩ rfl hl.1 rfl (Nat.le_of_ble_eq_true rfl) ⟨Nat.le_of_ble_eq_true rfl, Nat.le_of_ble_eq_true rfl⟩ dL_areTermsRight_105 ?_
          refine lv_ishr hx hb dL_areTermsRight_108 ?_
          refine lv_iconst (v := nI 1) hx hb dL_areTermsRight_109 (by decide) ?_
          refine lv_iand hx hb dL_areTermsRight_110 ?_
          refine lv_iconst (v := nI 1) hx hb dL_areTermsRight_111 (by decide) ?_
          refine lv_icmp_eq (tgt := 212) hx hb dL_areTermsRight_112 (by decide) (fun c112 => ?_) (fun c112 => ?_)
          · skip
            exact absurd c112 (st_no hT24 hM hDi ht e2 e3 e4 hx2)
          · skip
            refine lv_aload_n hx hb dL_areTermsRight_115 rfl (lv_at hl 5 rfl) ?_
            refine lv_iload hx hb dL_areTermsRight_116 (lv_at hl 0 rfl) ?_
            refine l_iald hx hb hL 1 (u := pfA f t) rfl (i := (c * 3) + g) (by omega) (by decide) dL_areTermsRight_118 ?_
            rw [show (pfA f t) ((c * 3) + g) = nI (pfN f c g t) from pfA_at (by omega) hg]
            refine lv_iconst (v := nI 1) hx hb dL_areTermsRight_119 (by decide) ?_
            refine lv_icmp_gt (tgt := 212) hx hb dL_areTermsRight_120 (by decide) (fun c120 => ?_) (fun c120 => ?_)
            · skip
              have c120 : 1 < (pfN f c g t) := (g_lt (by omega) (Nat.lt_of_le_of_lt (pf_le1 hP (by omega)) (by decide))).mp c120
              exact absurd (pf_le1 hP (c := c) (g := g) (n := t) (by omega)) (by omega)
            · skip
              have c120 : ¬ (1 < (pfN f c g t)) := fun q => c120 ((g_lt (by omega) (Nat.lt_of_le_of_lt (pf_le1 hP (by omega)) (by decide))).mpr q)
              refine lv_aload_n hx hb dL_areTermsRight_123 rfl (lv_at hl 7 rfl) ?_
              refine lv_iload hx hb dL_areTermsRight_124 (lv_at hl 2 rfl) ?_
              refine lv_bipush (v := nI 6) hx hb dL_areTermsRight_126 (by decide) ?_
              refine g_callV (v := .int (-1)) (As := [.int (nI t), .int (nI 6)]) (rest := []) G.1 hL.1 0 (by decide) rfl rfl ok_X2_ofTerm gm_357 gm_358 gm_479 (by have q9 := (c_X2_ofTerm l w f t 6 hI (by omega) (by omega)); rw [show gRd (.int (otF f t 6)) = gRd (.int (-1)) from congrArg (fun z => gRd (.int z)) (show otF f t 6 = -1 from by show (if f 5 t = nI 3 then f 8 t else -1) = -1; rw [if_neg (by rw [e5]; decide)])] at q9; exact q9) ⟨rfl, rfl⟩ ⟨Nat.le_of_ble_eq_true rfl, Nat.le_of_ble_eq_true rfl⟩ rfl hl.1 rfl (Nat.le_of_ble_eq_true rfl) ⟨Nat.le_of_ble_eq_true rfl, Nat.le_of_ble_eq_true rfl⟩ dL_areTermsRight_128 ?_
              refine lv_if_lt (tgt := 138) hx hb dL_areTermsRight_131 (by decide) (fun c131 => ?_) (fun c131 => ?_)
              · skip
                refine lv_iconst (v := nI 0) hx hb dL_areTermsRight_138 (by decide) ?_
                refine lv_iload hx hb dL_areTermsRight_139 (lv_at hl 1 rfl) ?_
                refine lv_iconst (v := nI 3) hx hb dL_areTermsRight_141 (by decide) ?_
                refine lv_icmp_ne (tgt := 149) hx hb dL_areTermsRight_142 (by decide) (fun c142 => ?_) (fun c142 => ?_)
                · skip
                  have c142 : ¬ (0 = 3) := fun q => c142 ((g_eq (by omega) (by omega)).mpr q)
                  refine lv_iconst (v := nI 0) hx hb dL_areTermsRight_149 (by decide) ?_
                  refine lv_icmp_ne (tgt := 212) hx hb dL_areTermsRight_150 (by decide) (fun c150 => ?_) (fun c150 => ?_)
                  · skip
                    have c150 : ¬ (0 = 0) := fun q => c150 ((g_eq (by omega) (by omega)).mpr q)
                    omega
                  · skip
                    have c150 : 0 = 0 := (g_eq (by omega) (by omega)).mp c150
                    refine lv_aload_n hx hb dL_areTermsRight_153 rfl (lv_at hl 7 rfl) ?_
                    refine lv_iload hx hb dL_areTermsRight_154 (lv_at hl 2 rfl) ?_
                    refine lv_bipush (v := nI 6) hx hb dL_areTermsRight_156 (by decide) ?_
                    refine g_callV (v := .int (-1)) (As := [.int (nI t), .int (nI 6)]) (rest := []) G.1 hL.1 0 (by decide) rfl rfl ok_X2_ofTerm gm_357 gm_358 gm_479 (by have q9 := (c_X2_ofTerm l w f t 6 hI (by omega) (by omega)); rw [show gRd (.int (otF f t 6)) = gRd (.int (-1)) from congrArg (fun z => gRd (.int z)) (show otF f t 6 = -1 from by show (if f 5 t = nI 3 then f 8 t else -1) = -1; rw [if_neg (by rw [e5]; decide)])] at q9; exact q9) ⟨rfl, rfl⟩ ⟨Nat.le_of_ble_eq_true rfl, Nat.le_of_ble_eq_true rfl⟩ rfl hl.1 rfl (Nat.le_of_ble_eq_true rfl) ⟨Nat.le_of_ble_eq_true rfl, Nat.le_of_ble_eq_true rfl⟩ dL_areTermsRight_158 ?_
                    refine lv_aload_n hx hb dL_areTermsRight_161 rfl (lv_at hl 7 rfl) ?_
                    refine lv_bipush (v := nI 12) hx hb dL_areTermsRight_162 (by decide) ?_
                    refine g_callV (v := .int (nI dy)) (As := [.int (nI 12)]) (rest := [.int (-1)]) G.1 hL.1 0 (by decide) rfl rfl ok_X2_many gm_378 gm_379 gm_477 (by have q9 := (c_X2_many l w f 12 hI (by omega)); rw [show gRd (.int (maF f 12)) = gRd (.int (nI dy)) from congrArg (fun z => gRd (.int z)) (show maF f 12 = nI dy from hdy)] at q9; exact q9) ⟨rfl, rfl⟩ ⟨Nat.le_of_ble_eq_true rfl, Nat.le_of_ble_eq_true rfl⟩ rfl hl.1 rfl (Nat.le_of_ble_eq_true rfl) ⟨Nat.le_of_ble_eq_true rfl, Nat.le_of_ble_eq_true rfl⟩ dL_areTermsRight_164 ?_
                    refine lv_icmp_gt (tgt := 212) hx hb dL_areTermsRight_167 (by decide) (fun c167 => ?_) (fun c167 => ?_)
                    · skip
                      exact absurd c167 (Int32.not_lt.mpr (Int32.le_trans (show (-1 : Int32) ≤ nI 0 by decide) (nI_pos' (by omega))))
                    · skip
                      refine lv_iload hx hb dL_areTermsRight_170 (lv_at hl 1 rfl) ?_
                      refine lv_if_ne (tgt := 197) hx hb dL_areTermsRight_172 (by decide) (fun c172 => ?_) (fun c172 => ?_)
                      · skip
                        have c172 : ¬ (nI 0 = nI 0) := c172
                        have c172 : ¬ (0 = 0) := fun q => c172 ((g_eq (by omega) (by omega)).mpr q)
                        omega
                      · skip
                        have c172 : nI 0 = nI 0 := c172
                        have c172 : 0 = 0 := (g_eq (by omega) (by omega)).mp c172
                        refine lv_aload_n hx hb dL_areTermsRight_175 rfl (lv_at hl 7 rfl) ?_
                        refine lv_iload hx hb dL_areTermsRight_176 (lv_at hl 2 rfl) ?_
                        refine lv_iconst (v := nI 4) hx hb dL_areTermsRight_178 (by decide) ?_
                        refine g_callV (v := .int (nI (pcn (f 6 t)))) (As := [.int (nI t), .int (nI 4)]) (rest := []) G.1 hL.1 0 (by decide) rfl rfl ok_X2_ofTerm gm_357 gm_358 gm_479 (c_X2_ofTerm l w f t 4 hI (by omega) (by omega)) ⟨rfl, rfl⟩ ⟨Nat.le_of_ble_eq_true rfl, Nat.le_of_ble_eq_true rfl⟩ rfl hl.1 rfl (Nat.le_of_ble_eq_true rfl) ⟨Nat.le_of_ble_eq_true rfl, Nat.le_of_ble_eq_true rfl⟩ dL_areTermsRight_179 ?_
                        refine lv_iconst (v := nI 2) hx hb dL_areTermsRight_182 (by decide) ?_
                        refine lv_icmp_gt (tgt := 212) hx hb dL_areTermsRight_183 (by decide) (fun c183 => ?_) (fun c183 => ?_)
                        · skip
                          have c183 : 2 < (pcn (f 6 t)) := (g_lt (by omega) pcn_lt).mp c183
                          omega
                        · skip
                          have c183 : ¬ (2 < (pcn (f 6 t))) := fun q => c183 ((g_lt (by omega) pcn_lt).mpr q)
                          refine lv_aload_n hx hb dL_areTermsRight_186 rfl (lv_at hl 7 rfl) ?_
                          refine lv_iload hx hb dL_areTermsRight_187 (lv_at hl 2 rfl) ?_
                          refine lv_iconst (v := nI 5) hx hb dL_areTermsRight_189 (by decide) ?_
                          refine g_callV (v := .int (nI (pcn (f 7 t)))) (As := [.int (nI t), .int (nI 5)]) (rest := []) G.1 hL.1 0 (by decide) rfl rfl ok_X2_ofTerm gm_357 gm_358 gm_479 (c_X2_ofTerm l w f t 5 hI (by omega) (by omega)) ⟨rfl, rfl⟩ ⟨Nat.le_of_ble_eq_true rfl, Nat.le_of_ble_eq_true rfl⟩ rfl hl.1 rfl (Nat.le_of_ble_eq_true rfl) ⟨Nat.le_of_ble_eq_true rfl, Nat.le_of_ble_eq_true rfl⟩ dL_areTermsRight_190 ?_
                          refine lv_iconst (v := nI 2) hx hb dL_areTermsRight_193 (by decide) ?_
                          refine lv_icmp_gt (tgt := 212) hx hb dL_areTermsRight_194 (by decide) (fun c194 => ?_) (fun c194 => ?_)
                          · skip
                            have c194 : 2 < (pcn (f 7 t)) := (g_lt (by omega) pcn_lt).mp c194
                            omega
                          · skip
                            have c194 : ¬ (2 < (pcn (f 7 t))) := fun q => c194 ((g_lt (by omega) pcn_lt).mpr q)
                            refine lv_aload_n hx hb dL_areTermsRight_197 rfl (lv_at hl 7 rfl) ?_
                            refine lv_iload hx hb dL_areTermsRight_198 (lv_at hl 2 rfl) ?_
                            refine g_callV (v := .int (nI (rbN f t))) (As := [.int (nI t)]) (rest := []) G.1 hL.1 0 (by decide) rfl rfl ok_X2_reopenedBy gm_361 gm_362 gm_483 (by have q9 := (c_X2_reopenedBy l w f t hI (by omega)); rw [show gRd (.int (rbF f t)) = gRd (.int (nI (rbN f t))) from congrArg (fun z => gRd (.int z)) (show rbF f t = nI (rbN f t) from rb_nat f t)] at q9; exact q9) ⟨rfl, rfl⟩ ⟨Nat.le_of_ble_eq_true rfl, Nat.le_of_ble_eq_true rfl⟩ rfl hl.1 rfl (Nat.le_of_ble_eq_true rfl) ⟨Nat.le_of_ble_eq_true rfl, Nat.le_of_ble_eq_true rfl⟩ dL_areTermsRight_200 ?_
                            refine lv_aload_n hx hb dL_areTermsRight_203 rfl (lv_at hl 7 rfl) ?_
                            refine lv_bipush (v := nI 9) hx hb dL_areTermsRight_204 (by decide) ?_
                            refine g_callV (v := .int (nI (tsN f (nI 1)))) (As := [.int (nI 9)]) (rest := [.int (nI (rbN f t))]) G.1 hL.1 0 (by decide) rfl rfl ok_X2_many gm_378 gm_379 gm_477 (c_X2_many l w f 9 hI (by omega)) ⟨rfl, rfl⟩ ⟨Nat.le_of_ble_eq_true rfl, Nat.le_of_ble_eq_true rfl⟩ rfl hl.1 rfl (Nat.le_of_ble_eq_true rfl) ⟨Nat.le_of_ble_eq_true rfl, Nat.le_of_ble_eq_true rfl⟩ dL_areTermsRight_206 ?_
                            refine lv_icmp_le (tgt := 214) hx hb dL_areTermsRight_209 (by decide) (fun c209 => ?_) (fun c209 => ?_)
                            · skip
                              have c209 : (rbN f t) ≤ (tsN f (nI 1)) := (g_le (Nat.lt_of_le_of_lt (rb_le hA hD6 t) (ts_lt hI)) (ts_lt hI)).mp c209
                              refine lv_aload_n hx hb dL_areTermsRight_214 rfl (lv_at hl 4 rfl) ?_
                              refine lv_iload hx hb dL_areTermsRight_215 (lv_at hl 0 rfl) ?_
                              refine lv_dup2_11 hx hb dL_areTermsRight_217 rfl rfl ?_
                              refine l_iald hx hb hL 2 (u := stA f t) rfl (i := (c * 3) + g) (by omega) (by decide) dL_areTermsRight_218 ?_
                              refine lv_iconst (v := nI 1) hx hb dL_areTermsRight_219 (by decide) ?_
                              refine lv_aload_n hx hb dL_areTermsRight_220 rfl (lv_at hl 7 rfl) ?_
                              refine lv_iload hx hb dL_areTermsRight_221 (lv_at hl 2 rfl) ?_
                              refine lv_iconst (v := nI 2) hx hb dL_areTermsRight_223 (by decide) ?_
                              refine g_callV (v := .int (nI x)) (As := [.int (nI t), .int (nI 2)]) (rest := [.int (nI 1), .int ((stA f t) ((c * 3) + g)), .int (nI ((c * 3) + g)), .ref q2]) G.1 hL.1 0 (by decide) rfl rfl ok_X2_ofTerm gm_357 gm_358 gm_479 (by have q9 := (c_X2_ofTerm l w f t 2 hI (by omega) (by omega)); rw [show gRd (.int (otF f t 2)) = gRd (.int (nI x)) from congrArg (fun z => gRd (.int z)) (show otF f t 2 = nI x from e4)] at q9; exact q9) ⟨rfl, rfl⟩ ⟨Nat.le_of_ble_eq_true rfl, Nat.le_of_ble_eq_true rfl⟩ rfl hl.1 rfl (Nat.le_of_ble_eq_true rfl) ⟨Nat.le_of_ble_eq_true rfl, Nat.le_of_ble_eq_true rfl⟩ dL_areTermsRight_224 ?_
                              refine lv_ishl hx hb dL_areTermsRight_227 ?_
                              refine lv_ior hx hb dL_areTermsRight_228 ?_
                              refine l_iast hx hb hL 2 (u := stA f t) rfl (i := (c * 3) + g) (by omega) (by decide) dL_areTermsRight_229 (fun H locs hL => ?_)
                              rw [← stA_y e2 e3 e4 (by omega) hg] at hL
                              refine lv_iinc (v := nI (t + 1)) (lv' := [(5, .int (nI (t + 1))), (7, .int (nI ((c * 3) + g))), (6, .int (nI 0)), (4, .ref q3), (3, .ref q2), (2, .ref q1), (1, .ref q0), (0, .ref (w.2.2.2 0))]) hx hb dL_areTermsRight_230 hl (k := 2) rfl (g_inc t 1) (by decide) rfl (fun ls hl => ?_)
                              refine lv_goto (tgt := 23) hx hb dL_areTermsRight_233 (by decide) ?_
                              refine ih H locs ls (by rw [show pfA f (t + 1) = pfA f t from pfA_n (by rw [e5]; decide)]; exact hL) ?_
                              exact lv_sub hl [0, 3, 4, 5, 6, 7] rfl
                            · skip
                              have c209 : ¬ ((rbN f t) ≤ (tsN f (nI 1))) := fun q => c209 ((g_le (Nat.lt_of_le_of_lt (rb_le hA hD6 t) (ts_lt hI)) (ts_lt hI)).mpr q)
                              exact absurd (rb_le hA hD6 t) c209
                · skip
                  have c142 : 0 = 3 := (g_eq (by omega) (by omega)).mp c142
                  omega
              · skip
                exact absurd (show (-1 : Int32) < 0 by decide) c131
        · skip
          have c86 : 0 = 2 := (g_eq (by omega) (by omega)).mp c86
          omega
      · skip
        refine lv_aload_n hx hb dL_areTermsRight_33 rfl (lv_at hl 5 rfl) ?_
        refine lv_iload hx hb dL_areTermsRight_34 (lv_at hl 0 rfl) ?_
        refine lv_iconst (v := nI 3) hx hb dL_areTermsRight_36 (by decide) ?_
        refine g_callV (v := .int (nI 1)) (As := [.int (nI t), .int (nI 3)]) (rest := []) G.1 hL.1 0 (by decide) rfl rfl ok_X2_ofTerm gm_357 gm_358 gm_479 (by have q9 := (c_X2_ofTerm l w f t 3 hI (by omega) (by omega)); rw [show gRd (.int (otF f t 3)) = gRd (.int (nI 1)) from congrArg (fun z => gRd (.int z)) (show otF f t 3 = nI 1 from e5)] at q9; exact q9) ⟨rfl, rfl⟩ ⟨Nat.le_of_ble_eq_true rfl, Nat.le_of_ble_eq_true rfl⟩ rfl hl.1 rfl (Nat.le_of_ble_eq_true rfl) ⟨Nat.le_of_ble_eq_true rfl, Nat.le_of_ble_eq_true rfl⟩ dL_areTermsRight_37 ?_
        refine lv_istore (lv' := [(6, .int (nI 1)), (5, .int (nI t)), (4, .ref q3), (3, .ref q2), (2, .ref q1), (1, .ref q0), (0, .ref (w.2.2.2 0))]) hx hb dL_areTermsRight_40 hl (by decide) rfl (fun ls hl => ?_)
        refine lv_aload_n hx hb dL_areTermsRight_42 rfl (lv_at hl 6 rfl) ?_
        refine lv_iload hx hb dL_areTermsRight_43 (lv_at hl 1 rfl) ?_
        refine lv_iconst (v := nI 0) hx hb dL_areTermsRight_45 (by decide) ?_
        refine g_callV (v := .int (nI c)) (As := [.int (nI t), .int (nI 0)]) (rest := []) G.1 hL.1 0 (by decide) rfl rfl ok_X2_ofTerm gm_357 gm_358 gm_479 (by have q9 := (c_X2_ofTerm l w f t 0 hI (by omega) (by omega)); rw [show gRd (.int (otF f t 0)) = gRd (.int (nI c)) from congrArg (fun z => gRd (.int z)) (show otF f t 0 = nI c from e2)] at q9; exact q9) ⟨rfl, rfl⟩ ⟨Nat.le_of_ble_eq_true rfl, Nat.le_of_ble_eq_true rfl⟩ rfl hl.1 rfl (Nat.le_of_ble_eq_true rfl) ⟨Nat.le_of_ble_eq_true rfl, Nat.le_of_ble_eq_true rfl⟩ dL_areTermsRight_46 ?_
        refine lv_iconst (v := nI 3) hx hb dL_areTermsRight_49 (by decide) ?_
        refine g_imuln hx hb dL_areTermsRight_50 ?_
        refine lv_aload_n hx hb dL_areTermsRight_51 rfl (lv_at hl 6 rfl) ?_
        refine lv_iload hx hb dL_areTermsRight_52 (lv_at hl 1 rfl) ?_
        refine lv_iconst (v := nI 1) hx hb dL_areTermsRight_54 (by decide) ?_
        refine g_callV (v := .int (nI g)) (As := [.int (nI t), .int (nI 1)]) (rest := [.int (nI (c * 3))]) G.1 hL.1 0 (by decide) rfl rfl ok_X2_ofTerm gm_357 gm_358 gm_479 (by have q9 := (c_X2_ofTerm l w f t 1 hI (by omega) (by omega)); rw [show gRd (.int (otF f t 1)) = gRd (.int (nI g)) from congrArg (fun z => gRd (.int z)) (show otF f t 1 = nI g from e3)] at q9; exact q9) ⟨rfl, rfl⟩ ⟨Nat.le_of_ble_eq_true rfl, Nat.le_of_ble_eq_true rfl⟩ rfl hl.1 rfl (Nat.le_of_ble_eq_true rfl) ⟨Nat.le_of_ble_eq_true rfl, Nat.le_of_ble_eq_true rfl⟩ dL_areTermsRight_55 ?_
        refine g_iaddn hx hb dL_areTermsRight_58 ?_
        refine lv_istore (lv' := [(7, .int (nI ((c * 3) + g))), (6, .int (nI 1)), (5, .int (nI t)), (4, .ref q3), (3, .ref q2), (2, .ref q1), (1, .ref q0), (0, .ref (w.2.2.2 0))]) hx hb dL_areTermsRight_59 hl (by decide) rfl (fun ls hl => ?_)
        refine lv_aload_n hx hb dL_areTermsRight_61 rfl (lv_at hl 6 rfl) ?_
        refine lv_iload hx hb dL_areTermsRight_62 (lv_at hl 1 rfl) ?_
        refine lv_dup2_11 hx hb dL_areTermsRight_64 rfl rfl ?_
        refine l_iald hx hb hL 0 (u := tnA f t) rfl (i := 1) (by omega) (by decide) dL_areTermsRight_65 ?_
        refine lv_iconst (v := nI 1) hx hb dL_areTermsRight_66 (by decide) ?_
        refine lv_iadd hx hb dL_areTermsRight_67 ?_
        refine l_iast hx hb hL 0 (u := tnA f t) rfl (i := 1) (by omega) (by decide) dL_areTermsRight_68 (fun H locs hL => ?_)
        rw [← tnA_y e5 (by omega)] at hL
        refine lv_aload hx hb dL_areTermsRight_69 (lv_at hl 3 rfl) ?_
        refine lv_aload_n hx hb dL_areTermsRight_71 rfl (lv_at hl 7 rfl) ?_
        refine lv_iload hx hb dL_areTermsRight_72 (lv_at hl 2 rfl) ?_
        refine lv_iconst (v := nI 0) hx hb dL_areTermsRight_74 (by decide) ?_
        refine g_callV (v := .int (nI c)) (As := [.int (nI t), .int (nI 0)]) (rest := [.ref q3]) G.1 hL.1 0 (by decide) rfl rfl ok_X2_ofTerm gm_357 gm_358 gm_479 (by have q9 := (c_X2_ofTerm l w f t 0 hI (by omega) (by omega)); rw [show gRd (.int (otF f t 0)) = gRd (.int (nI c)) from congrArg (fun z => gRd (.int z)) (show otF f t 0 = nI c from e2)] at q9; exact q9) ⟨rfl, rfl⟩ ⟨Nat.le_of_ble_eq_true rfl, Nat.le_of_ble_eq_true rfl⟩ rfl hl.1 rfl (Nat.le_of_ble_eq_true rfl) ⟨Nat.le_of_ble_eq_true rfl, Nat.le_of_ble_eq_true rfl⟩ dL_areTermsRight_75 ?_
        refine lv_dup2_11 hx hb dL_areTermsRight_78 rfl rfl ?_
        refine l_iald hx hb hL 3 (u := ofA f t) rfl (i := c) (by omega) (by decide) dL_areTermsRight_79 ?_
        refine lv_iconst (v := nI 1) hx hb dL_areTermsRight_80 (by decide) ?_
        refine lv_iadd hx hb dL_areTermsRight_81 ?_
        refine l_iast hx hb hL 3 (u := ofA f t) rfl (i := c) (by omega) (by decide) dL_areTermsRight_82 (fun H locs hL => ?_)
        rw [← ofA_y e2 (by omega)] at hL
        refine lv_iload hx hb dL_areTermsRight_83 (lv_at hl 1 rfl) ?_
        refine lv_iconst (v := nI 2) hx hb dL_areTermsRight_85 (by decide) ?_
        refine lv_icmp_ne (tgt := 97) hx hb dL_areTermsRight_86 (by decide) (fun c86 => ?_) (fun c86 => ?_)
        · skip
          have c86 : ¬ (1 = 2) := fun q => c86 ((g_eq (by omega) (by omega)).mpr q)
          refine lv_aload_n hx hb dL_areTermsRight_97 rfl (lv_at hl 4 rfl) ?_
          refine lv_iload hx hb dL_areTermsRight_98 (lv_at hl 0 rfl) ?_
          refine l_iald hx hb hL 2 (u := stA f t) rfl (i := (c * 3) + g) (by omega) (by decide) dL_areTermsRight_100 ?_
          rw [show (stA f t) ((c * 3) + g) = stO f c g t from stA_at (by omega) hg]
          refine lv_aload_n hx hb dL_areTermsRight_101 rfl (lv_at hl 7 rfl) ?_
          refine lv_iload hx hb dL_areTermsRight_102 (lv_at hl 2 rfl) ?_
          refine lv_iconst (v := nI 2) hx hb dL_areTermsRight_104 (by decide) ?_
          refine g_callV (v := .int (nI x)) (As := [.int (nI t), .int (nI 2)]) (rest := [.int (stO f c g t)]) G.1 hL.1 0 (by decide) rfl rfl ok_X2_ofTerm gm_357 gm_358 gm_479 (by have q9 := (c_X2_ofTerm l w f t 2 hI (by omega) (by omega)); rw [show gRd (.int (otF f t 2)) = gRd (.int (nI x)) from congrArg (fun z => gRd (.int z)) (show otF f t 2 = nI x from e4)] at q9; exact q9) ⟨rfl, rfl⟩ ⟨Nat.le_of_ble_eq_true rfl, Nat.le_of_ble_eq_true rfl⟩ rfl hl.1 rfl (Nat.le_of_ble_eq_true rfl) ⟨Nat.le_of_ble_eq_true rfl, Nat.le_of_ble_eq_true rfl⟩ dL_areTermsRight_105 ?_
          refine lv_ishr hx hb dL_areTermsRight_108 ?_
          refine lv_iconst (v := nI 1) hx hb dL_areTermsRight_109 (by decide) ?_
          refine lv_iand hx hb dL_areTermsRight_110 ?_
          refine lv_iconst (v := nI 1) hx hb dL_areTermsRight_111 (by decide) ?_
          refine lv_icmp_eq (tgt := 212) hx hb dL_areTermsRight_112 (by decide) (fun c112 => ?_) (fun c112 => ?_)
          · skip
            exact absurd c112 (st_no hT24 hM hDi ht e2 e3 e4 hx2)
          · skip
            refine lv_aload_n hx hb dL_areTermsRight_115 rfl (lv_at hl 5 rfl) ?_
            refine lv_iload hx hb dL_areTermsRight_116 (lv_at hl 0 rfl) ?_
            refine l_iald hx hb hL 1 (u := pfA f t) rfl (i := (c * 3) + g) (by omega) (by decide) dL_areTermsRight_118 ?_
            rw [show (pfA f t) ((c * 3) + g) = nI (pfN f c g t) from pfA_at (by omega) hg]
            refine lv_iconst (v := nI 1) hx hb dL_areTermsRight_119 (by decide) ?_
            refine lv_icmp_gt (tgt := 212) hx hb dL_areTermsRight_120 (by decide) (fun c120 => ?_) (fun c120 => ?_)
            · skip
              have c120 : 1 < (pfN f c g t) := (g_lt (by omega) (Nat.lt_of_le_of_lt (pf_le1 hP (by omega)) (by decide))).mp c120
              exact absurd (pf_le1 hP (c := c) (g := g) (n := t) (by omega)) (by omega)
            · skip
              have c120 : ¬ (1 < (pfN f c g t)) := fun q => c120 ((g_lt (by omega) (Nat.lt_of_le_of_lt (pf_le1 hP (by omega)) (by decide))).mpr q)
              refine lv_aload_n hx hb dL_areTermsRight_123 rfl (lv_at hl 7 rfl) ?_
              refine lv_iload hx hb dL_areTermsRight_124 (lv_at hl 2 rfl) ?_
              refine lv_bipush (v := nI 6) hx hb dL_areTermsRight_126 (by decide) ?_
              refine g_callV (v := .int (-1)) (As := [.int (nI t), .int (nI 6)]) (rest := []) G.1 hL.1 0 (by decide) rfl rfl ok_X2_ofTerm gm_357 gm_358 gm_479 (by have q9 := (c_X2_ofTerm l w f t 6 hI (by omega) (by omega)); rw [show gRd (.int (otF f t 6)) = gRd (.int (-1)) from congrArg (fun z => gRd (.int z)) (show otF f t 6 = -1 from by show (if f 5 t = nI 3 then f 8 t else -1) = -1; rw [if_neg (by rw [e5]; decide)])] at q9; exact q9) ⟨rfl, rfl⟩ ⟨Nat.le_of_ble_eq_true rfl, Nat.le_of_ble_eq_true rfl⟩ rfl hl.1 rfl (Nat.le_of_ble_eq_true rfl) ⟨Nat.le_of_ble_eq_true rfl, Nat.le_of_ble_eq_true rfl⟩ dL_areTermsRight_128 ?_
              refine lv_if_lt (tgt := 138) hx hb dL_areTermsRight_131 (by decide) (fun c131 => ?_) (fun c131 => ?_)
              · skip
                refine lv_iconst (v := nI 0) hx hb dL_areTermsRight_138 (by decide) ?_
                refine lv_iload hx hb dL_areTermsRight_139 (lv_at hl 1 rfl) ?_
                refine lv_iconst (v := nI 3) hx hb dL_areTermsRight_141 (by decide) ?_
                refine lv_icmp_ne (tgt := 149) hx hb dL_areTermsRight_142 (by decide) (fun c142 => ?_) (fun c142 => ?_)
                · skip
                  have c142 : ¬ (1 = 3) := fun q => c142 ((g_eq (by omega) (by omega)).mpr q)
                  refine lv_iconst (v := nI 0) hx hb dL_areTermsRight_149 (by decide) ?_
                  refine lv_icmp_ne (tgt := 212) hx hb dL_areTermsRight_150 (by decide) (fun c150 => ?_) (fun c150 => ?_)
                  · skip
                    have c150 : ¬ (0 = 0) := fun q => c150 ((g_eq (by omega) (by omega)).mpr q)
                    omega
                  · skip
                    have c150 : 0 = 0 := (g_eq (by omega) (by omega)).mp c150
                    refine lv_aload_n hx hb dL_areTermsRight_153 rfl (lv_at hl 7 rfl) ?_
                    refine lv_iload hx hb dL_areTermsRight_154 (lv_at hl 2 rfl) ?_
                    refine lv_bipush (v := nI 6) hx hb dL_areTermsRight_156 (by decide) ?_
                    refine g_callV (v := .int (-1)) (As := [.int (nI t), .int (nI 6)]) (rest := []) G.1 hL.1 0 (by decide) rfl rfl ok_X2_ofTerm gm_357 gm_358 gm_479 (by have q9 := (c_X2_ofTerm l w f t 6 hI (by omega) (by omega)); rw [show gRd (.int (otF f t 6)) = gRd (.int (-1)) from congrArg (fun z => gRd (.int z)) (show otF f t 6 = -1 from by show (if f 5 t = nI 3 then f 8 t else -1) = -1; rw [if_neg (by rw [e5]; decide)])] at q9; exact q9) ⟨rfl, rfl⟩ ⟨Nat.le_of_ble_eq_true rfl, Nat.le_of_ble_eq_true rfl⟩ rfl hl.1 rfl (Nat.le_of_ble_eq_true rfl) ⟨Nat.le_of_ble_eq_true rfl, Nat.le_of_ble_eq_true rfl⟩ dL_areTermsRight_158 ?_
                    refine lv_aload_n hx hb dL_areTermsRight_161 rfl (lv_at hl 7 rfl) ?_
                    refine lv_bipush (v := nI 12) hx hb dL_areTermsRight_162 (by decide) ?_
                    refine g_callV (v := .int (nI dy)) (As := [.int (nI 12)]) (rest := [.int (-1)]) G.1 hL.1 0 (by decide) rfl rfl ok_X2_many gm_378 gm_379 gm_477 (by have q9 := (c_X2_many l w f 12 hI (by omega)); rw [show gRd (.int (maF f 12)) = gRd (.int (nI dy)) from congrArg (fun z => gRd (.int z)) (show maF f 12 = nI dy from hdy)] at q9; exact q9) ⟨rfl, rfl⟩ ⟨Nat.le_of_ble_eq_true rfl, Nat.le_of_ble_eq_true rfl⟩ rfl hl.1 rfl (Nat.le_of_ble_eq_true rfl) ⟨Nat.le_of_ble_eq_true rfl, Nat.le_of_ble_eq_true rfl⟩ dL_areTermsRight_164 ?_
                    refine lv_icmp_gt (tgt := 212) hx hb dL_areTermsRight_167 (by decide) (fun c167 => ?_) (fun c167 => ?_)
                    · skip
                      exact absurd c167 (Int32.not_lt.mpr (Int32.le_trans (show (-1 : Int32) ≤ nI 0 by decide) (nI_pos' (by omega))))
                    · skip
                      refine lv_iload hx hb dL_areTermsRight_170 (lv_at hl 1 rfl) ?_
                      refine lv_if_ne (tgt := 197) hx hb dL_areTermsRight_172 (by decide) (fun c172 => ?_) (fun c172 => ?_)
                      · skip
                        have c172 : ¬ (nI 1 = nI 0) := c172
                        have c172 : ¬ (1 = 0) := fun q => c172 ((g_eq (by omega) (by omega)).mpr q)
                        refine lv_aload_n hx hb dL_areTermsRight_197 rfl (lv_at hl 7 rfl) ?_
                        refine lv_iload hx hb dL_areTermsRight_198 (lv_at hl 2 rfl) ?_
                        refine g_callV (v := .int (nI (rbN f t))) (As := [.int (nI t)]) (rest := []) G.1 hL.1 0 (by decide) rfl rfl ok_X2_reopenedBy gm_361 gm_362 gm_483 (by have q9 := (c_X2_reopenedBy l w f t hI (by omega)); rw [show gRd (.int (rbF f t)) = gRd (.int (nI (rbN f t))) from congrArg (fun z => gRd (.int z)) (show rbF f t = nI (rbN f t) from rb_nat f t)] at q9; exact q9) ⟨rfl, rfl⟩ ⟨Nat.le_of_ble_eq_true rfl, Nat.le_of_ble_eq_true rfl⟩ rfl hl.1 rfl (Nat.le_of_ble_eq_true rfl) ⟨Nat.le_of_ble_eq_true rfl, Nat.le_of_ble_eq_true rfl⟩ dL_areTermsRight_200 ?_
                        refine lv_aload_n hx hb dL_areTermsRight_203 rfl (lv_at hl 7 rfl) ?_
                        refine lv_bipush (v := nI 9) hx hb dL_areTermsRight_204 (by decide) ?_
                        refine g_callV (v := .int (nI (tsN f (nI 1)))) (As := [.int (nI 9)]) (rest := [.int (nI (rbN f t))]) G.1 hL.1 0 (by decide) rfl rfl ok_X2_many gm_378 gm_379 gm_477 (c_X2_many l w f 9 hI (by omega)) ⟨rfl, rfl⟩ ⟨Nat.le_of_ble_eq_true rfl, Nat.le_of_ble_eq_true rfl⟩ rfl hl.1 rfl (Nat.le_of_ble_eq_true rfl) ⟨Nat.le_of_ble_eq_true rfl, Nat.le_of_ble_eq_true rfl⟩ dL_areTermsRight_206 ?_
                        refine lv_icmp_le (tgt := 214) hx hb dL_areTermsRight_209 (by decide) (fun c209 => ?_) (fun c209 => ?_)
                        · skip
                          have c209 : (rbN f t) ≤ (tsN f (nI 1)) := (g_le (Nat.lt_of_le_of_lt (rb_le hA hD6 t) (ts_lt hI)) (ts_lt hI)).mp c209
                          refine lv_aload_n hx hb dL_areTermsRight_214 rfl (lv_at hl 4 rfl) ?_
                          refine lv_iload hx hb dL_areTermsRight_215 (lv_at hl 0 rfl) ?_
                          refine lv_dup2_11 hx hb dL_areTermsRight_217 rfl rfl ?_
                          refine l_iald hx hb hL 2 (u := stA f t) rfl (i := (c * 3) + g) (by omega) (by decide) dL_areTermsRight_218 ?_
                          refine lv_iconst (v := nI 1) hx hb dL_areTermsRight_219 (by decide) ?_
                          refine lv_aload_n hx hb dL_areTermsRight_220 rfl (lv_at hl 7 rfl) ?_
                          refine lv_iload hx hb dL_areTermsRight_221 (lv_at hl 2 rfl) ?_
                          refine lv_iconst (v := nI 2) hx hb dL_areTermsRight_223 (by decide) ?_
                          refine g_callV (v := .int (nI x)) (As := [.int (nI t), .int (nI 2)]) (rest := [.int (nI 1), .int ((stA f t) ((c * 3) + g)), .int (nI ((c * 3) + g)), .ref q2]) G.1 hL.1 0 (by decide) rfl rfl ok_X2_ofTerm gm_357 gm_358 gm_479 (by have q9 := (c_X2_ofTerm l w f t 2 hI (by omega) (by omega)); rw [show gRd (.int (otF f t 2)) = gRd (.int (nI x)) from congrArg (fun z => gRd (.int z)) (show otF f t 2 = nI x from e4)] at q9; exact q9) ⟨rfl, rfl⟩ ⟨Nat.le_of_ble_eq_true rfl, Nat.le_of_ble_eq_true rfl⟩ rfl hl.1 rfl (Nat.le_of_ble_eq_true rfl) ⟨Nat.le_of_ble_eq_true rfl, Nat.le_of_ble_eq_true rfl⟩ dL_areTermsRight_224 ?_
                          refine lv_ishl hx hb dL_areTermsRight_227 ?_
                          refine lv_ior hx hb dL_areTermsRight_228 ?_
                          refine l_iast hx hb hL 2 (u := stA f t) rfl (i := (c * 3) + g) (by omega) (by decide) dL_areTermsRight_229 (fun H locs hL => ?_)
                          rw [← stA_y e2 e3 e4 (by omega) hg] at hL
                          refine lv_iinc (v := nI (t + 1)) (lv' := [(5, .int (nI (t + 1))), (7, .int (nI ((c * 3) + g))), (6, .int (nI 1)), (4, .ref q3), (3, .ref q2), (2, .ref q1), (1, .ref q0), (0, .ref (w.2.2.2 0))]) hx hb dL_areTermsRight_230 hl (k := 2) rfl (g_inc t 1) (by decide) rfl (fun ls hl => ?_)
                          refine lv_goto (tgt := 23) hx hb dL_areTermsRight_233 (by decide) ?_
                          refine ih H locs ls (by rw [show pfA f (t + 1) = pfA f t from pfA_n (by rw [e5]; decide)]; exact hL) ?_
                          exact lv_sub hl [0, 3, 4, 5, 6, 7] rfl
                        · skip
                          have c209 : ¬ ((rbN f t) ≤ (tsN f (nI 1))) := fun q => c209 ((g_le (Nat.lt_of_le_of_lt (rb_le hA hD6 t) (ts_lt hI)) (ts_lt hI)).mpr q)
                          exact absurd (rb_le hA hD6 t) c209
                      · skip
                        have c172 : nI 1 = nI 0 := c172
                        have c172 : 1 = 0 := (g_eq (by omega) (by omega)).mp c172
                        omega
                · skip
                  have c142 : 1 = 3 := (g_eq (by omega) (by omega)).mp c142
                  omega
              · skip
                exact absurd (show (-1 : Int32) < 0 by decide) c131
        · skip
          have c86 : 1 = 2 := (g_eq (by omega) (by omega)).mp c86
          omega
      · skip
        refine lv_aload_n hx hb dL_areTermsRight_33 rfl (lv_at hl 5 rfl) ?_
        refine lv_iload hx hb dL_areTermsRight_34 (lv_at hl 0 rfl) ?_
        refine lv_iconst (v := nI 3) hx hb dL_areTermsRight_36 (by decide) ?_
        refine g_callV (v := .int (nI 2)) (As := [.int (nI t), .int (nI 3)]) (rest := []) G.1 hL.1 0 (by decide) rfl rfl ok_X2_ofTerm gm_357 gm_358 gm_479 (by have q9 := (c_X2_ofTerm l w f t 3 hI (by omega) (by omega)); rw [show gRd (.int (otF f t 3)) = gRd (.int (nI 2)) from congrArg (fun z => gRd (.int z)) (show otF f t 3 = nI 2 from e5)] at q9; exact q9) ⟨rfl, rfl⟩ ⟨Nat.le_of_ble_eq_true rfl, Nat.le_of_ble_eq_true rfl⟩ rfl hl.1 rfl (Nat.le_of_ble_eq_true rfl) ⟨Nat.le_of_ble_eq_true rfl, Nat.le_of_ble_eq_true rfl⟩ dL_areTermsRight_37 ?_
        refine lv_istore (lv' := [(6, .int (nI 2)), (5, .int (nI t)), (4, .ref q3), (3, .ref q2), (2, .ref q1), (1, .ref q0), (0, .ref (w.2.2.2 0))]) hx hb dL_areTermsRight_40 hl (by decide) rfl (fun ls hl => ?_)
        refine lv_aload_n hx hb dL_areTermsRight_42 rfl (lv_at hl 6 rfl) ?_
        refine lv_iload hx hb dL_areTermsRight_43 (lv_at hl 1 rfl) ?_
        refine lv_iconst (v := nI 0) hx hb dL_areTermsRight_45 (by decide) ?_
        refine g_callV (v := .int (nI c)) (As := [.int (nI t), .int (nI 0)]) (rest := []) G.1 hL.1 0 (by decide) rfl rfl ok_X2_ofTerm gm_357 gm_358 gm_479 (by have q9 := (c_X2_ofTerm l w f t 0 hI (by omega) (by omega)); rw [show gRd (.int (otF f t 0)) = gRd (.int (nI c)) from congrArg (fun z => gRd (.int z)) (show otF f t 0 = nI c from e2)] at q9; exact q9) ⟨rfl, rfl⟩ ⟨Nat.le_of_ble_eq_true rfl, Nat.le_of_ble_eq_true rfl⟩ rfl hl.1 rfl (Nat.le_of_ble_eq_true rfl) ⟨Nat.le_of_ble_eq_true rfl, Nat.le_of_ble_eq_true rfl⟩ dL_areTermsRight_46 ?_
        refine lv_iconst (v := nI 3) hx hb dL_areTermsRight_49 (by decide) ?_
        refine g_imuln hx hb dL_areTermsRight_50 ?_
        refine lv_aload_n hx hb dL_areTermsRight_51 rfl (lv_at hl 6 rfl) ?_
        refine lv_iload hx hb dL_areTermsRight_52 (lv_at hl 1 rfl) ?_
        refine lv_iconst (v := nI 1) hx hb dL_areTermsRight_54 (by decide) ?_
        refine g_callV (v := .int (nI g)) (As := [.int (nI t), .int (nI 1)]) (rest := [.int (nI (c * 3))]) G.1 hL.1 0 (by decide) rfl rfl ok_X2_ofTerm gm_357 gm_358 gm_479 (by have q9 := (c_X2_ofTerm l w f t 1 hI (by omega) (by omega)); rw [show gRd (.int (otF f t 1)) = gRd (.int (nI g)) from congrArg (fun z => gRd (.int z)) (show otF f t 1 = nI g from e3)] at q9; exact q9) ⟨rfl, rfl⟩ ⟨Nat.le_of_ble_eq_true rfl, Nat.le_of_ble_eq_true rfl⟩ rfl hl.1 rfl (Nat.le_of_ble_eq_true rfl) ⟨Nat.le_of_ble_eq_true rfl, Nat.le_of_ble_eq_true rfl⟩ dL_areTermsRight_55 ?_
        refine g_iaddn hx hb dL_areTermsRight_58 ?_
        refine lv_istore (lv' := [(7, .int (nI ((c * 3) + g))), (6, .int (nI 2)), (5, .int (nI t)), (4, .ref q3), (3, .ref q2), (2, .ref q1), (1, .ref q0), (0, .ref (w.2.2.2 0))]) hx hb dL_areTermsRight_59 hl (by decide) rfl (fun ls hl => ?_)
        refine lv_aload_n hx hb dL_areTermsRight_61 rfl (lv_at hl 6 rfl) ?_
        refine lv_iload hx hb dL_areTermsRight_62 (lv_at hl 1 rfl) ?_
        refine lv_dup2_11 hx hb dL_areTermsRight_64 rfl rfl ?_
        refine l_iald hx hb hL 0 (u := tnA f t) rfl (i := 2) (by omega) (by decide) dL_areTermsRight_65 ?_
        refine lv_iconst (v := nI 1) hx hb dL_areTermsRight_66 (by decide) ?_
        refine lv_iadd hx hb dL_areTermsRight_67 ?_
        refine l_iast hx hb hL 0 (u := tnA f t) rfl (i := 2) (by omega) (by decide) dL_areTermsRight_68 (fun H locs hL => ?_)
        rw [← tnA_y e5 (by omega)] at hL
        refine lv_aload hx hb dL_areTermsRight_69 (lv_at hl 3 rfl) ?_
        refine lv_aload_n hx hb dL_areTermsRight_71 rfl (lv_at hl 7 rfl) ?_
        refine lv_iload hx hb dL_areTermsRight_72 (lv_at hl 2 rfl) ?_
        refine lv_iconst (v := nI 0) hx hb dL_areTermsRight_74 (by decide) ?_
        refine g_callV (v := .int (nI c)) (As := [.int (nI t), .int (nI 0)]) (rest := [.ref q3]) G.1 hL.1 0 (by decide) rfl rfl ok_X2_ofTerm gm_357 gm_358 gm_479 (by have q9 := (c_X2_ofTerm l w f t 0 hI (by omega) (by omega)); rw [show gRd (.int (otF f t 0)) = gRd (.int (nI c)) from congrArg (fun z => gRd (.int z)) (show otF f t 0 = nI c from e2)] at q9; exact q9) ⟨rfl, rfl⟩ ⟨Nat.le_of_ble_eq_true rfl, Nat.le_of_ble_eq_true rfl⟩ rfl hl.1 rfl (Nat.le_of_ble_eq_true rfl) ⟨Nat.le_of_ble_eq_true rfl, Nat.le_of_ble_eq_true rfl⟩ dL_areTermsRight_75 ?_
        refine lv_dup2_11 hx hb dL_areTermsRight_78 rfl rfl ?_
        refine l_iald hx hb hL 3 (u := ofA f t) rfl (i := c) (by omega) (by decide) dL_areTermsRight_79 ?_
        refine lv_iconst (v := nI 1) hx hb dL_areTermsRight_80 (by decide) ?_
        refine lv_iadd hx hb dL_areTermsRight_81 ?_
        refine l_iast hx hb hL 3 (u := ofA f t) rfl (i := c) (by omega) (by decide) dL_areTermsRight_82 (fun H locs hL => ?_)
        rw [← ofA_y e2 (by omega)] at hL
        refine lv_iload hx hb dL_areTermsRight_83 (lv_at hl 1 rfl) ?_
        refine lv_iconst (v := nI 2) hx hb dL_areTermsRight_85 (by decide) ?_
        refine lv_icmp_ne (tgt := 97) hx hb dL_areTermsRight_86 (by decide) (fun c86 => ?_) (fun c86 => ?_)
        · skip
          have c86 : ¬ (2 = 2) := fun q => c86 ((g_eq (by omega) (by omega)).mpr q)
          omega
        · skip
          have c86 : 2 = 2 := (g_eq (by omega) (by omega)).mp c86
          refine lv_aload_n hx hb dL_areTermsRight_89 rfl (lv_at hl 5 rfl) ?_
          refine lv_iload hx hb dL_areTermsRight_90 (lv_at hl 0 rfl) ?_
          refine lv_dup2_11 hx hb dL_areTermsRight_92 rfl rfl ?_
          refine l_iald hx hb hL 1 (u := pfA f t) rfl (i := (c * 3) + g) (by omega) (by decide) dL_areTermsRight_93 ?_
          refine lv_iconst (v := nI 1) hx hb dL_areTermsRight_94 (by decide) ?_
          refine lv_iadd hx hb dL_areTermsRight_95 ?_
          refine l_iast hx hb hL 1 (u := pfA f t) rfl (i := (c * 3) + g) (by omega) (by decide) dL_areTermsRight_96 (fun H locs hL => ?_)
          rw [← pfA_y e5 e2 e3 (by omega) hg] at hL
          refine lv_aload_n hx hb dL_areTermsRight_97 rfl (lv_at hl 4 rfl) ?_
          refine lv_iload hx hb dL_areTermsRight_98 (lv_at hl 0 rfl) ?_
          refine l_iald hx hb hL 2 (u := stA f t) rfl (i := (c * 3) + g) (by omega) (by decide) dL_areTermsRight_100 ?_
          rw [show (stA f t) ((c * 3) + g) = stO f c g t from stA_at (by omega) hg]
          refine lv_aload_n hx hb dL_areTermsRight_101 rfl (lv_at hl 7 rfl) ?_
          refine lv_iload hx hb dL_areTermsRight_102 (lv_at hl 2 rfl) ?_
          refine lv_iconst (v := nI 2) hx hb dL_areTermsRight_104 (by decide) ?_
          refine g_callV (v := .int (nI x)) (As := [.int (nI t), .int (nI 2)]) (rest := [.int (stO f c g t)]) G.1 hL.1 0 (by decide) rfl rfl ok_X2_ofTerm gm_357 gm_358 gm_479 (by have q9 := (c_X2_ofTerm l w f t 2 hI (by omega) (by omega)); rw [show gRd (.int (otF f t 2)) = gRd (.int (nI x)) from congrArg (fun z => gRd (.int z)) (show otF f t 2 = nI x from e4)] at q9; exact q9) ⟨rfl, rfl⟩ ⟨Nat.le_of_ble_eq_true rfl, Nat.le_of_ble_eq_true rfl⟩ rfl hl.1 rfl (Nat.le_of_ble_eq_true rfl) ⟨Nat.le_of_ble_eq_true rfl, Nat.le_of_ble_eq_true rfl⟩ dL_areTermsRight_105 ?_
          refine lv_ishr hx hb dL_areTermsRight_108 ?_
          refine lv_iconst (v := nI 1) hx hb dL_areTermsRight_109 (by decide) ?_
          refine lv_iand hx hb dL_areTermsRight_110 ?_
          refine lv_iconst (v := nI 1) hx hb dL_areTermsRight_111 (by decide) ?_
          refine lv_icmp_eq (tgt := 212) hx hb dL_areTermsRight_112 (by decide) (fun c112 => ?_) (fun c112 => ?_)
          · skip
            exact absurd c112 (st_no hT24 hM hDi ht e2 e3 e4 hx2)
          · skip
            refine lv_aload_n hx hb dL_areTermsRight_115 rfl (lv_at hl 5 rfl) ?_
            refine lv_iload hx hb dL_areTermsRight_116 (lv_at hl 0 rfl) ?_
            refine l_iald hx hb hL 1 (u := pfA f (t + 1)) rfl (i := (c * 3) + g) (by omega) (by decide) dL_areTermsRight_118 ?_
            rw [show (pfA f (t + 1)) ((c * 3) + g) = nI (pfN f c g (t + 1)) from pfA_at (by omega) hg]
            refine lv_iconst (v := nI 1) hx hb dL_areTermsRight_119 (by decide) ?_
            refine lv_icmp_gt (tgt := 212) hx hb dL_areTermsRight_120 (by decide) (fun c120 => ?_) (fun c120 => ?_)
            · skip
              have c120 : 1 < (pfN f c g (t + 1)) := (g_lt (by omega) (Nat.lt_of_le_of_lt (pf_le1 hP (by omega)) (by decide))).mp c120
              exact absurd (pf_le1 hP (c := c) (g := g) (n := t + 1) (by omega)) (by omega)
            · skip
              have c120 : ¬ (1 < (pfN f c g (t + 1))) := fun q => c120 ((g_lt (by omega) (Nat.lt_of_le_of_lt (pf_le1 hP (by omega)) (by decide))).mpr q)
              refine lv_aload_n hx hb dL_areTermsRight_123 rfl (lv_at hl 7 rfl) ?_
              refine lv_iload hx hb dL_areTermsRight_124 (lv_at hl 2 rfl) ?_
              refine lv_bipush (v := nI 6) hx hb dL_areTermsRight_126 (by decide) ?_
              refine g_callV (v := .int (-1)) (As := [.int (nI t), .int (nI 6)]) (rest := []) G.1 hL.1 0 (by decide) rfl rfl ok_X2_ofTerm gm_357 gm_358 gm_479 (by have q9 := (c_X2_ofTerm l w f t 6 hI (by omega) (by omega)); rw [show gRd (.int (otF f t 6)) = gRd (.int (-1)) from congrArg (fun z => gRd (.int z)) (show otF f t 6 = -1 from by show (if f 5 t = nI 3 then f 8 t else -1) = -1; rw [if_neg (by rw [e5]; decide)])] at q9; exact q9) ⟨rfl, rfl⟩ ⟨Nat.le_of_ble_eq_true rfl, Nat.le_of_ble_eq_true rfl⟩ rfl hl.1 rfl (Nat.le_of_ble_eq_true rfl) ⟨Nat.le_of_ble_eq_true rfl, Nat.le_of_ble_eq_true rfl⟩ dL_areTermsRight_128 ?_
              refine lv_if_lt (tgt := 138) hx hb dL_areTermsRight_131 (by decide) (fun c131 => ?_) (fun c131 => ?_)
              · skip
                refine lv_iconst (v := nI 0) hx hb dL_areTermsRight_138 (by decide) ?_
                refine lv_iload hx hb dL_areTermsRight_139 (lv_at hl 1 rfl) ?_
                refine lv_iconst (v := nI 3) hx hb dL_areTermsRight_141 (by decide) ?_
                refine lv_icmp_ne (tgt := 149) hx hb dL_areTermsRight_142 (by decide) (fun c142 => ?_) (fun c142 => ?_)
                · skip
                  have c142 : ¬ (2 = 3) := fun q => c142 ((g_eq (by omega) (by omega)).mpr q)
                  refine lv_iconst (v := nI 0) hx hb dL_areTermsRight_149 (by decide) ?_
                  refine lv_icmp_ne (tgt := 212) hx hb dL_areTermsRight_150 (by decide) (fun c150 => ?_) (fun c150 => ?_)
                  · skip
                    have c150 : ¬ (0 = 0) := fun q => c150 ((g_eq (by omega) (by omega)).mpr q)
                    omega
                  · skip
                    have c150 : 0 = 0 := (g_eq (by omega) (by omega)).mp c150
                    refine lv_aload_n hx hb dL_areTermsRight_153 rfl (lv_at hl 7 rfl) ?_
                    refine lv_iload hx hb dL_areTermsRight_154 (lv_at hl 2 rfl) ?_
                    refine lv_bipush (v := nI 6) hx hb dL_areTermsRight_156 (by decide) ?_
                    refine g_callV (v := .int (-1)) (As := [.int (nI t), .int (nI 6)]) (rest := []) G.1 hL.1 0 (by decide) rfl rfl ok_X2_ofTerm gm_357 gm_358 gm_479 (by have q9 := (c_X2_ofTerm l w f t 6 hI (by omega) (by omega)); rw [show gRd (.int (otF f t 6)) = gRd (.int (-1)) from congrArg (fun z => gRd (.int z)) (show otF f t 6 = -1 from by show (if f 5 t = nI 3 then f 8 t else -1) = -1; rw [if_neg (by rw [e5]; decide)])] at q9; exact q9) ⟨rfl, rfl⟩ ⟨Nat.le_of_ble_eq_true rfl, Nat.le_of_ble_eq_true rfl⟩ rfl hl.1 rfl (Nat.le_of_ble_eq_true rfl) ⟨Nat.le_of_ble_eq_true rfl, Nat.le_of_ble_eq_true rfl⟩ dL_areTermsRight_158 ?_
                    refine lv_aload_n hx hb dL_areTermsRight_161 rfl (lv_at hl 7 rfl) ?_
                    refine lv_bipush (v := nI 12) hx hb dL_areTermsRight_162 (by decide) ?_
                    refine g_callV (v := .int (nI dy)) (As := [.int (nI 12)]) (rest := [.int (-1)]) G.1 hL.1 0 (by decide) rfl rfl ok_X2_many gm_378 gm_379 gm_477 (by have q9 := (c_X2_many l w f 12 hI (by omega)); rw [show gRd (.int (maF f 12)) = gRd (.int (nI dy)) from congrArg (fun z => gRd (.int z)) (show maF f 12 = nI dy from hdy)] at q9; exact q9) ⟨rfl, rfl⟩ ⟨Nat.le_of_ble_eq_true rfl, Nat.le_of_ble_eq_true rfl⟩ rfl hl.1 rfl (Nat.le_of_ble_eq_true rfl) ⟨Nat.le_of_ble_eq_true rfl, Nat.le_of_ble_eq_true rfl⟩ dL_areTermsRight_164 ?_
                    refine lv_icmp_gt (tgt := 212) hx hb dL_areTermsRight_167 (by decide) (fun c167 => ?_) (fun c167 => ?_)
                    · skip
                      exact absurd c167 (Int32.not_lt.mpr (Int32.le_trans (show (-1 : Int32) ≤ nI 0 by decide) (nI_pos' (by omega))))
                    · skip
                      refine lv_iload hx hb dL_areTermsRight_170 (lv_at hl 1 rfl) ?_
                      refine lv_if_ne (tgt := 197) hx hb dL_areTermsRight_172 (by decide) (fun c172 => ?_) (fun c172 => ?_)
                      · skip
                        have c172 : ¬ (nI 2 = nI 0) := c172
                        have c172 : ¬ (2 = 0) := fun q => c172 ((g_eq (by omega) (by omega)).mpr q)
                        refine lv_aload_n hx hb dL_areTermsRight_197 rfl (lv_at hl 7 rfl) ?_
                        refine lv_iload hx hb dL_areTermsRight_198 (lv_at hl 2 rfl) ?_
                        refine g_callV (v := .int (nI (rbN f t))) (As := [.int (nI t)]) (rest := []) G.1 hL.1 0 (by decide) rfl rfl ok_X2_reopenedBy gm_361 gm_362 gm_483 (by have q9 := (c_X2_reopenedBy l w f t hI (by omega)); rw [show gRd (.int (rbF f t)) = gRd (.int (nI (rbN f t))) from congrArg (fun z => gRd (.int z)) (show rbF f t = nI (rbN f t) from rb_nat f t)] at q9; exact q9) ⟨rfl, rfl⟩ ⟨Nat.le_of_ble_eq_true rfl, Nat.le_of_ble_eq_true rfl⟩ rfl hl.1 rfl (Nat.le_of_ble_eq_true rfl) ⟨Nat.le_of_ble_eq_true rfl, Nat.le_of_ble_eq_true rfl⟩ dL_areTermsRight_200 ?_
                        refine lv_aload_n hx hb dL_areTermsRight_203 rfl (lv_at hl 7 rfl) ?_
                        refine lv_bipush (v := nI 9) hx hb dL_areTermsRight_204 (by decide) ?_
                        refine g_callV (v := .int (nI (tsN f (nI 1)))) (As := [.int (nI 9)]) (rest := [.int (nI (rbN f t))]) G.1 hL.1 0 (by decide) rfl rfl ok_X2_many gm_378 gm_379 gm_477 (c_X2_many l w f 9 hI (by omega)) ⟨rfl, rfl⟩ ⟨Nat.le_of_ble_eq_true rfl, Nat.le_of_ble_eq_true rfl⟩ rfl hl.1 rfl (Nat.le_of_ble_eq_true rfl) ⟨Nat.le_of_ble_eq_true rfl, Nat.le_of_ble_eq_true rfl⟩ dL_areTermsRight_206 ?_
                        refine lv_icmp_le (tgt := 214) hx hb dL_areTermsRight_209 (by decide) (fun c209 => ?_) (fun c209 => ?_)
                        · skip
                          have c209 : (rbN f t) ≤ (tsN f (nI 1)) := (g_le (Nat.lt_of_le_of_lt (rb_le hA hD6 t) (ts_lt hI)) (ts_lt hI)).mp c209
                          refine lv_aload_n hx hb dL_areTermsRight_214 rfl (lv_at hl 4 rfl) ?_
                          refine lv_iload hx hb dL_areTermsRight_215 (lv_at hl 0 rfl) ?_
                          refine lv_dup2_11 hx hb dL_areTermsRight_217 rfl rfl ?_
                          refine l_iald hx hb hL 2 (u := stA f t) rfl (i := (c * 3) + g) (by omega) (by decide) dL_areTermsRight_218 ?_
                          refine lv_iconst (v := nI 1) hx hb dL_areTermsRight_219 (by decide) ?_
                          refine lv_aload_n hx hb dL_areTermsRight_220 rfl (lv_at hl 7 rfl) ?_
                          refine lv_iload hx hb dL_areTermsRight_221 (lv_at hl 2 rfl) ?_
                          refine lv_iconst (v := nI 2) hx hb dL_areTermsRight_223 (by decide) ?_
                          refine g_callV (v := .int (nI x)) (As := [.int (nI t), .int (nI 2)]) (rest := [.int (nI 1), .int ((stA f t) ((c * 3) + g)), .int (nI ((c * 3) + g)), .ref q2]) G.1 hL.1 0 (by decide) rfl rfl ok_X2_ofTerm gm_357 gm_358 gm_479 (by have q9 := (c_X2_ofTerm l w f t 2 hI (by omega) (by omega)); rw [show gRd (.int (otF f t 2)) = gRd (.int (nI x)) from congrArg (fun z => gRd (.int z)) (show otF f t 2 = nI x from e4)] at q9; exact q9) ⟨rfl, rfl⟩ ⟨Nat.le_of_ble_eq_true rfl, Nat.le_of_ble_eq_true rfl⟩ rfl hl.1 rfl (Nat.le_of_ble_eq_true rfl) ⟨Nat.le_of_ble_eq_true rfl, Nat.le_of_ble_eq_true rfl⟩ dL_areTermsRight_224 ?_
                          refine lv_ishl hx hb dL_areTermsRight_227 ?_
                          refine lv_ior hx hb dL_areTermsRight_228 ?_
                          refine l_iast hx hb hL 2 (u := stA f t) rfl (i := (c * 3) + g) (by omega) (by decide) dL_areTermsRight_229 (fun H locs hL => ?_)
                          rw [← stA_y e2 e3 e4 (by omega) hg] at hL
                          refine lv_iinc (v := nI (t + 1)) (lv' := [(5, .int (nI (t + 1))), (7, .int (nI ((c * 3) + g))), (6, .int (nI 2)), (4, .ref q3), (3, .ref q2), (2, .ref q1), (1, .ref q0), (0, .ref (w.2.2.2 0))]) hx hb dL_areTermsRight_230 hl (k := 2) rfl (g_inc t 1) (by decide) rfl (fun ls hl => ?_)
                          refine lv_goto (tgt := 23) hx hb dL_areTermsRight_233 (by decide) ?_
                          refine ih H locs ls hL ?_
                          exact lv_sub hl [0, 3, 4, 5, 6, 7] rfl
                        · skip
                          have c209 : ¬ ((rbN f t) ≤ (tsN f (nI 1))) := fun q => c209 ((g_le (Nat.lt_of_le_of_lt (rb_le hA hD6 t) (ts_lt hI)) (ts_lt hI)).mpr q)
                          exact absurd (rb_le hA hD6 t) c209
                      · skip
                        have c172 : nI 2 = nI 0 := c172
                        have c172 : 2 = 0 := (g_eq (by omega) (by omega)).mp c172
                        omega
                · skip
                  have c142 : 2 = 3 := (g_eq (by omega) (by omega)).mp c142
                  omega
              · skip
                exact absurd (show (-1 : Int32) < 0 by decide) c131
      · skip
        obtain ⟨b, hbd, eb8⟩ := eb rfl
        refine lv_aload_n hx hb dL_areTermsRight_33 rfl (lv_at hl 5 rfl) ?_
        refine lv_iload hx hb dL_areTermsRight_34 (lv_at hl 0 rfl) ?_
        refine lv_iconst (v := nI 3) hx hb dL_areTermsRight_36 (by decide) ?_
        refine g_callV (v := .int (nI 3)) (As := [.int (nI t), .int (nI 3)]) (rest := []) G.1 hL.1 0 (by decide) rfl rfl ok_X2_ofTerm gm_357 gm_358 gm_479 (by have q9 := (c_X2_ofTerm l w f t 3 hI (by omega) (by omega)); rw [show gRd (.int (otF f t 3)) = gRd (.int (nI 3)) from congrArg (fun z => gRd (.int z)) (show otF f t 3 = nI 3 from e5)] at q9; exact q9) ⟨rfl, rfl⟩ ⟨Nat.le_of_ble_eq_true rfl, Nat.le_of_ble_eq_true rfl⟩ rfl hl.1 rfl (Nat.le_of_ble_eq_true rfl) ⟨Nat.le_of_ble_eq_true rfl, Nat.le_of_ble_eq_true rfl⟩ dL_areTermsRight_37 ?_
        refine lv_istore (lv' := [(6, .int (nI 3)), (5, .int (nI t)), (4, .ref q3), (3, .ref q2), (2, .ref q1), (1, .ref q0), (0, .ref (w.2.2.2 0))]) hx hb dL_areTermsRight_40 hl (by decide) rfl (fun ls hl => ?_)
        refine lv_aload_n hx hb dL_areTermsRight_42 rfl (lv_at hl 6 rfl) ?_
        refine lv_iload hx hb dL_areTermsRight_43 (lv_at hl 1 rfl) ?_
        refine lv_iconst (v := nI 0) hx hb dL_areTermsRight_45 (by decide) ?_
        refine g_callV (v := .int (nI c)) (As := [.int (nI t), .int (nI 0)]) (rest := []) G.1 hL.1 0 (by decide) rfl rfl ok_X2_ofTerm gm_357 gm_358 gm_479 (by have q9 := (c_X2_ofTerm l w f t 0 hI (by omega) (by omega)); rw [show gRd (.int (otF f t 0)) = gRd (.int (nI c)) from congrArg (fun z => gRd (.int z)) (show otF f t 0 = nI c from e2)] at q9; exact q9) ⟨rfl, rfl⟩ ⟨Nat.le_of_ble_eq_true rfl, Nat.le_of_ble_eq_true rfl⟩ rfl hl.1 rfl (Nat.le_of_ble_eq_true rfl) ⟨Nat.le_of_ble_eq_true rfl, Nat.le_of_ble_eq_true rfl⟩ dL_areTermsRight_46 ?_
        refine lv_iconst (v := nI 3) hx hb dL_areTermsRight_49 (by decide) ?_
        refine g_imuln hx hb dL_areTermsRight_50 ?_
        refine lv_aload_n hx hb dL_areTermsRight_51 rfl (lv_at hl 6 rfl) ?_
        refine lv_iload hx hb dL_areTermsRight_52 (lv_at hl 1 rfl) ?_
        refine lv_iconst (v := nI 1) hx hb dL_areTermsRight_54 (by decide) ?_
        refine g_callV (v := .int (nI g)) (As := [.int (nI t), .int (nI 1)]) (rest := [.int (nI (c * 3))]) G.1 hL.1 0 (by decide) rfl rfl ok_X2_ofTerm gm_357 gm_358 gm_479 (by have q9 := (c_X2_ofTerm l w f t 1 hI (by omega) (by omega)); rw [show gRd (.int (otF f t 1)) = gRd (.int (nI g)) from congrArg (fun z => gRd (.int z)) (show otF f t 1 = nI g from e3)] at q9; exact q9) ⟨rfl, rfl⟩ ⟨Nat.le_of_ble_eq_true rfl, Nat.le_of_ble_eq_true rfl⟩ rfl hl.1 rfl (Nat.le_of_ble_eq_true rfl) ⟨Nat.le_of_ble_eq_true rfl, Nat.le_of_ble_eq_true rfl⟩ dL_areTermsRight_55 ?_
        refine g_iaddn hx hb dL_areTermsRight_58 ?_
        refine lv_istore (lv' := [(7, .int (nI ((c * 3) + g))), (6, .int (nI 3)), (5, .int (nI t)), (4, .ref q3), (3, .ref q2), (2, .ref q1), (1, .ref q0), (0, .ref (w.2.2.2 0))]) hx hb dL_areTermsRight_59 hl (by decide) rfl (fun ls hl => ?_)
        refine lv_aload_n hx hb dL_areTermsRight_61 rfl (lv_at hl 6 rfl) ?_
        refine lv_iload hx hb dL_areTermsRight_62 (lv_at hl 1 rfl) ?_
        refine lv_dup2_11 hx hb dL_areTermsRight_64 rfl rfl ?_
        refine l_iald hx hb hL 0 (u := tnA f t) rfl (i := 3) (by omega) (by decide) dL_areTermsRight_65 ?_
        refine lv_iconst (v := nI 1) hx hb dL_areTermsRight_66 (by decide) ?_
        refine lv_iadd hx hb dL_areTermsRight_67 ?_
        refine l_iast hx hb hL 0 (u := tnA f t) rfl (i := 3) (by omega) (by decide) dL_areTermsRight_68 (fun H locs hL => ?_)
        rw [← tnA_y e5 (by omega)] at hL
        refine lv_aload hx hb dL_areTermsRight_69 (lv_at hl 3 rfl) ?_
        refine lv_aload_n hx hb dL_areTermsRight_71 rfl (lv_at hl 7 rfl) ?_
        refine lv_iload hx hb dL_areTermsRight_72 (lv_at hl 2 rfl) ?_
        refine lv_iconst (v := nI 0) hx hb dL_areTermsRight_74 (by decide) ?_
        refine g_callV (v := .int (nI c)) (As := [.int (nI t), .int (nI 0)]) (rest := [.ref q3]) G.1 hL.1 0 (by decide) rfl rfl ok_X2_ofTerm gm_357 gm_358 gm_479 (by have q9 := (c_X2_ofTerm l w f t 0 hI (by omega) (by omega)); rw [show gRd (.int (otF f t 0)) = gRd (.int (nI c)) from congrArg (fun z => gRd (.int z)) (show otF f t 0 = nI c from e2)] at q9; exact q9) ⟨rfl, rfl⟩ ⟨Nat.le_of_ble_eq_true rfl, Nat.le_of_ble_eq_true rfl⟩ rfl hl.1 rfl (Nat.le_of_ble_eq_true rfl) ⟨Nat.le_of_ble_eq_true rfl, Nat.le_of_ble_eq_true rfl⟩ dL_areTermsRight_75 ?_
        refine lv_dup2_11 hx hb dL_areTermsRight_78 rfl rfl ?_
        refine l_iald hx hb hL 3 (u := ofA f t) rfl (i := c) (by omega) (by decide) dL_areTermsRight_79 ?_
        refine lv_iconst (v := nI 1) hx hb dL_areTermsRight_80 (by decide) ?_
        refine lv_iadd hx hb dL_areTermsRight_81 ?_
        refine l_iast hx hb hL 3 (u := ofA f t) rfl (i := c) (by omega) (by decide) dL_areTermsRight_82 (fun H locs hL => ?_)
        rw [← ofA_y e2 (by omega)] at hL
        refine lv_iload hx hb dL_areTermsRight_83 (lv_at hl 1 rfl) ?_
        refine lv_iconst (v := nI 2) hx hb dL_areTermsRight_85 (by decide) ?_
        refine lv_icmp_ne (tgt := 97) hx hb dL_areTermsRight_86 (by decide) (fun c86 => ?_) (fun c86 => ?_)
        · skip
          have c86 : ¬ (3 = 2) := fun q => c86 ((g_eq (by omega) (by omega)).mpr q)
          refine lv_aload_n hx hb dL_areTermsRight_97 rfl (lv_at hl 4 rfl) ?_
          refine lv_iload hx hb dL_areTermsRight_98 (lv_at hl 0 rfl) ?_
          refine l_iald hx hb hL 2 (u := stA f t) rfl (i := (c * 3) + g) (by omega) (by decide) dL_areTermsRight_100 ?_
          rw [show (stA f t) ((c * 3) + g) = stO f c g t from stA_at (by omega) hg]
          refine lv_aload_n hx hb dL_areTermsRight_101 rfl (lv_at hl 7 rfl) ?_
          refine lv_iload hx hb dL_areTermsRight_102 (lv_at hl 2 rfl) ?_
          refine lv_iconst (v := nI 2) hx hb dL_areTermsRight_104 (by decide) ?_
          refine g_callV (v := .int (nI x)) (As := [.int (nI t), .int (nI 2)]) (rest := [.int (stO f c g t)]) G.1 hL.1 0 (by decide) rfl rfl ok_X2_ofTerm gm_357 gm_358 gm_479 (by have q9 := (c_X2_ofTerm l w f t 2 hI (by omega) (by omega)); rw [show gRd (.int (otF f t 2)) = gRd (.int (nI x)) from congrArg (fun z => gRd (.int z)) (show otF f t 2 = nI x from e4)] at q9; exact q9) ⟨rfl, rfl⟩ ⟨Nat.le_of_ble_eq_true rfl, Nat.le_of_ble_eq_true rfl⟩ rfl hl.1 rfl (Nat.le_of_ble_eq_true rfl) ⟨Nat.le_of_ble_eq_true rfl, Nat.le_of_ble_eq_true rfl⟩ dL_areTermsRight_105 ?_
          refine lv_ishr hx hb dL_areTermsRight_108 ?_
          refine lv_iconst (v := nI 1) hx hb dL_areTermsRight_109 (by decide) ?_
          refine lv_iand hx hb dL_areTermsRight_110 ?_
          refine lv_iconst (v := nI 1) hx hb dL_areTermsRight_111 (by decide) ?_
          refine lv_icmp_eq (tgt := 212) hx hb dL_areTermsRight_112 (by decide) (fun c112 => ?_) (fun c112 => ?_)
          · skip
            exact absurd c112 (st_no hT24 hM hDi ht e2 e3 e4 hx2)
          · skip
            refine lv_aload_n hx hb dL_areTermsRight_115 rfl (lv_at hl 5 rfl) ?_
            refine lv_iload hx hb dL_areTermsRight_116 (lv_at hl 0 rfl) ?_
            refine l_iald hx hb hL 1 (u := pfA f t) rfl (i := (c * 3) + g) (by omega) (by decide) dL_areTermsRight_118 ?_
            rw [show (pfA f t) ((c * 3) + g) = nI (pfN f c g t) from pfA_at (by omega) hg]
            refine lv_iconst (v := nI 1) hx hb dL_areTermsRight_119 (by decide) ?_
            refine lv_icmp_gt (tgt := 212) hx hb dL_areTermsRight_120 (by decide) (fun c120 => ?_) (fun c120 => ?_)
            · skip
              have c120 : 1 < (pfN f c g t) := (g_lt (by omega) (Nat.lt_of_le_of_lt (pf_le1 hP (by omega)) (by decide))).mp c120
              exact absurd (pf_le1 hP (c := c) (g := g) (n := t) (by omega)) (by omega)
            · skip
              have c120 : ¬ (1 < (pfN f c g t)) := fun q => c120 ((g_lt (by omega) (Nat.lt_of_le_of_lt (pf_le1 hP (by omega)) (by decide))).mpr q)
              refine lv_aload_n hx hb dL_areTermsRight_123 rfl (lv_at hl 7 rfl) ?_
              refine lv_iload hx hb dL_areTermsRight_124 (lv_at hl 2 rfl) ?_
              refine lv_bipush (v := nI 6) hx hb dL_areTermsRight_126 (by decide) ?_
              refine g_callV (v := .int (nI b)) (As := [.int (nI t), .int (nI 6)]) (rest := []) G.1 hL.1 0 (by decide) rfl rfl ok_X2_ofTerm gm_357 gm_358 gm_479 (by have q9 := (c_X2_ofTerm l w f t 6 hI (by omega) (by omega)); rw [show gRd (.int (otF f t 6)) = gRd (.int (nI b)) from congrArg (fun z => gRd (.int z)) (show otF f t 6 = nI b from by show (if f 5 t = nI 3 then f 8 t else -1) = nI b; rw [if_pos e5, eb8])] at q9; exact q9) ⟨rfl, rfl⟩ ⟨Nat.le_of_ble_eq_true rfl, Nat.le_of_ble_eq_true rfl⟩ rfl hl.1 rfl (Nat.le_of_ble_eq_true rfl) ⟨Nat.le_of_ble_eq_true rfl, Nat.le_of_ble_eq_true rfl⟩ dL_areTermsRight_128 ?_
              refine lv_if_lt (tgt := 138) hx hb dL_areTermsRight_131 (by decide) (fun c131 => ?_) (fun c131 => ?_)
              · skip
                have c131 : nI b < nI 0 := c131
                have c131 : b < 0 := (g_lt (by omega) (by omega)).mp c131
                omega
              · skip
                have c131 : ¬ (nI b < nI 0) := c131
                have c131 : ¬ (b < 0) := fun q => c131 ((g_lt (by omega) (by omega)).mpr q)
                refine lv_iconst (v := nI 1) hx hb dL_areTermsRight_134 (by decide) ?_
                refine lv_goto (tgt := 139) hx hb dL_areTermsRight_135 (by decide) ?_
                refine lv_iload hx hb dL_areTermsRight_139 (lv_at hl 1 rfl) ?_
                refine lv_iconst (v := nI 3) hx hb dL_areTermsRight_141 (by decide) ?_
                refine lv_icmp_ne (tgt := 149) hx hb dL_areTermsRight_142 (by decide) (fun c142 => ?_) (fun c142 => ?_)
                · skip
                  have c142 : ¬ (3 = 3) := fun q => c142 ((g_eq (by omega) (by omega)).mpr q)
                  omega
                · skip
                  have c142 : 3 = 3 := (g_eq (by omega) (by omega)).mp c142
                  refine lv_iconst (v := nI 1) hx hb dL_areTermsRight_145 (by decide) ?_
                  refine lv_goto (tgt := 150) hx hb dL_areTermsRight_146 (by decide) ?_
                  refine lv_icmp_ne (tgt := 212) hx hb dL_areTermsRight_150 (by decide) (fun c150 => ?_) (fun c150 => ?_)
                  · skip
                    have c150 : ¬ (1 = 1) := fun q => c150 ((g_eq (by omega) (by omega)).mpr q)
                    omega
                  · skip
                    have c150 : 1 = 1 := (g_eq (by omega) (by omega)).mp c150
                    refine lv_aload_n hx hb dL_areTermsRight_153 rfl (lv_at hl 7 rfl) ?_
                    refine lv_iload hx hb dL_areTermsRight_154 (lv_at hl 2 rfl) ?_
                    refine lv_bipush (v := nI 6) hx hb dL_areTermsRight_156 (by decide) ?_
                    refine g_callV (v := .int (nI b)) (As := [.int (nI t), .int (nI 6)]) (rest := []) G.1 hL.1 0 (by decide) rfl rfl ok_X2_ofTerm gm_357 gm_358 gm_479 (by have q9 := (c_X2_ofTerm l w f t 6 hI (by omega) (by omega)); rw [show gRd (.int (otF f t 6)) = gRd (.int (nI b)) from congrArg (fun z => gRd (.int z)) (show otF f t 6 = nI b from by show (if f 5 t = nI 3 then f 8 t else -1) = nI b; rw [if_pos e5, eb8])] at q9; exact q9) ⟨rfl, rfl⟩ ⟨Nat.le_of_ble_eq_true rfl, Nat.le_of_ble_eq_true rfl⟩ rfl hl.1 rfl (Nat.le_of_ble_eq_true rfl) ⟨Nat.le_of_ble_eq_true rfl, Nat.le_of_ble_eq_true rfl⟩ dL_areTermsRight_158 ?_
                    refine lv_aload_n hx hb dL_areTermsRight_161 rfl (lv_at hl 7 rfl) ?_
                    refine lv_bipush (v := nI 12) hx hb dL_areTermsRight_162 (by decide) ?_
                    refine g_callV (v := .int (nI dy)) (As := [.int (nI 12)]) (rest := [.int (nI b)]) G.1 hL.1 0 (by decide) rfl rfl ok_X2_many gm_378 gm_379 gm_477 (by have q9 := (c_X2_many l w f 12 hI (by omega)); rw [show gRd (.int (maF f 12)) = gRd (.int (nI dy)) from congrArg (fun z => gRd (.int z)) (show maF f 12 = nI dy from hdy)] at q9; exact q9) ⟨rfl, rfl⟩ ⟨Nat.le_of_ble_eq_true rfl, Nat.le_of_ble_eq_true rfl⟩ rfl hl.1 rfl (Nat.le_of_ble_eq_true rfl) ⟨Nat.le_of_ble_eq_true rfl, Nat.le_of_ble_eq_true rfl⟩ dL_areTermsRight_164 ?_
                    refine lv_icmp_gt (tgt := 212) hx hb dL_areTermsRight_167 (by decide) (fun c167 => ?_) (fun c167 => ?_)
                    · skip
                      have c167 : dy < b := (g_lt (by omega) (by omega)).mp c167
                      omega
                    · skip
                      have c167 : ¬ (dy < b) := fun q => c167 ((g_lt (by omega) (by omega)).mpr q)
                      refine lv_iload hx hb dL_areTermsRight_170 (lv_at hl 1 rfl) ?_
                      refine lv_if_ne (tgt := 197) hx hb dL_areTermsRight_172 (by decide) (fun c172 => ?_) (fun c172 => ?_)
                      · skip
                        have c172 : ¬ (nI 3 = nI 0) := c172
                        have c172 : ¬ (3 = 0) := fun q => c172 ((g_eq (by omega) (by omega)).mpr q)
                        refine lv_aload_n hx hb dL_areTermsRight_197 rfl (lv_at hl 7 rfl) ?_
                        refine lv_iload hx hb dL_areTermsRight_198 (lv_at hl 2 rfl) ?_
                        refine g_callV (v := .int (nI (rbN f t))) (As := [.int (nI t)]) (rest := []) G.1 hL.1 0 (by decide) rfl rfl ok_X2_reopenedBy gm_361 gm_362 gm_483 (by have q9 := (c_X2_reopenedBy l w f t hI (by omega)); rw [show gRd (.int (rbF f t)) = gRd (.int (nI (rbN f t))) from congrArg (fun z => gRd (.int z)) (show rbF f t = nI (rbN f t) from rb_nat f t)] at q9; exact q9) ⟨rfl, rfl⟩ ⟨Nat.le_of_ble_eq_true rfl, Nat.le_of_ble_eq_true rfl⟩ rfl hl.1 rfl (Nat.le_of_ble_eq_true rfl) ⟨Nat.le_of_ble_eq_true rfl, Nat.le_of_ble_eq_true rfl⟩ dL_areTermsRight_200 ?_
                        refine lv_aload_n hx hb dL_areTermsRight_203 rfl (lv_at hl 7 rfl) ?_
                        refine lv_bipush (v := nI 9) hx hb dL_areTermsRight_204 (by decide) ?_
                        refine g_callV (v := .int (nI (tsN f (nI 1)))) (As := [.int (nI 9)]) (rest := [.int (nI (rbN f t))]) G.1 hL.1 0 (by decide) rfl rfl ok_X2_many gm_378 gm_379 gm_477 (c_X2_many l w f 9 hI (by omega)) ⟨rfl, rfl⟩ ⟨Nat.le_of_ble_eq_true rfl, Nat.le_of_ble_eq_true rfl⟩ rfl hl.1 rfl (Nat.le_of_ble_eq_true rfl) ⟨Nat.le_of_ble_eq_true rfl, Nat.le_of_ble_eq_true rfl⟩ dL_areTermsRight_206 ?_
                        refine lv_icmp_le (tgt := 214) hx hb dL_areTermsRight_209 (by decide) (fun c209 => ?_) (fun c209 => ?_)
                        · skip
                          have c209 : (rbN f t) ≤ (tsN f (nI 1)) := (g_le (Nat.lt_of_le_of_lt (rb_le hA hD6 t) (ts_lt hI)) (ts_lt hI)).mp c209
                          refine lv_aload_n hx hb dL_areTermsRight_214 rfl (lv_at hl 4 rfl) ?_
                          refine lv_iload hx hb dL_areTermsRight_215 (lv_at hl 0 rfl) ?_
                          refine lv_dup2_11 hx hb dL_areTermsRight_217 rfl rfl ?_
                          refine l_iald hx hb hL 2 (u := stA f t) rfl (i := (c * 3) + g) (by omega) (by decide) dL_areTermsRight_218 ?_
                          refine lv_iconst (v := nI 1) hx hb dL_areTermsRight_219 (by decide) ?_
                          refine lv_aload_n hx hb dL_areTermsRight_220 rfl (lv_at hl 7 rfl) ?_
                          refine lv_iload hx hb dL_areTermsRight_221 (lv_at hl 2 rfl) ?_
                          refine lv_iconst (v := nI 2) hx hb dL_areTermsRight_223 (by decide) ?_
                          refine g_callV (v := .int (nI x)) (As := [.int (nI t), .int (nI 2)]) (rest := [.int (nI 1), .int ((stA f t) ((c * 3) + g)), .int (nI ((c * 3) + g)), .ref q2]) G.1 hL.1 0 (by decide) rfl rfl ok_X2_ofTerm gm_357 gm_358 gm_479 (by have q9 := (c_X2_ofTerm l w f t 2 hI (by omega) (by omega)); rw [show gRd (.int (otF f t 2)) = gRd (.int (nI x)) from congrArg (fun z => gRd (.int z)) (show otF f t 2 = nI x from e4)] at q9; exact q9) ⟨rfl, rfl⟩ ⟨Nat.le_of_ble_eq_true rfl, Nat.le_of_ble_eq_true rfl⟩ rfl hl.1 rfl (Nat.le_of_ble_eq_true rfl) ⟨Nat.le_of_ble_eq_true rfl, Nat.le_of_ble_eq_true rfl⟩ dL_areTermsRight_224 ?_
                          refine lv_ishl hx hb dL_areTermsRight_227 ?_
                          refine lv_ior hx hb dL_areTermsRight_228 ?_
                          refine l_iast hx hb hL 2 (u := stA f t) rfl (i := (c * 3) + g) (by omega) (by decide) dL_areTermsRight_229 (fun H locs hL => ?_)
                          rw [← stA_y e2 e3 e4 (by omega) hg] at hL
                          refine lv_iinc (v := nI (t + 1)) (lv' := [(5, .int (nI (t + 1))), (7, .int (nI ((c * 3) + g))), (6, .int (nI 3)), (4, .ref q3), (3, .ref q2), (2, .ref q1), (1, .ref q0), (0, .ref (w.2.2.2 0))]) hx hb dL_areTermsRight_230 hl (k := 2) rfl (g_inc t 1) (by decide) rfl (fun ls hl => ?_)
                          refine lv_goto (tgt := 23) hx hb dL_areTermsRight_233 (by decide) ?_
                          refine ih H locs ls (by rw [show pfA f (t + 1) = pfA f t from pfA_n (by rw [e5]; decide)]; exact hL) ?_
                          exact lv_sub hl [0, 3, 4, 5, 6, 7] rfl
                        · skip
                          have c209 : ¬ ((rbN f t) ≤ (tsN f (nI 1))) := fun q => c209 ((g_le (Nat.lt_of_le_of_lt (rb_le hA hD6 t) (ts_lt hI)) (ts_lt hI)).mpr q)
                          exact absurd (rb_le hA hD6 t) c209
                      · skip
                        have c172 : nI 3 = nI 0 := c172
                        have c172 : 3 = 0 := (g_eq (by omega) (by omega)).mp c172
                        omega
        · skip
          have c86 : 3 = 2 := (g_eq (by omega) (by omega)).mp c86
          omega
  · intro H locs ls hL hl
    refine lv_iload hx hb dL_areTermsRight_23 (lv_at hl 0 rfl) ?_
    refine lv_aload_n hx hb dL_areTermsRight_25 rfl (lv_at hl 5 rfl) ?_
    refine lv_iconst (v := nI 2) hx hb dL_areTermsRight_26 (by decide) ?_
    refine g_callV (v := .int (nI (nT f))) (As := [.int (nI 2)]) (rest := [.int (nI (nT f))]) G.1 hL.1 0 (by decide) rfl rfl ok_X2_many gm_378 gm_379 gm_477 (c_X2_many l w f 2 hI (by omega)) ⟨rfl, rfl⟩ ⟨Nat.le_of_ble_eq_true rfl, Nat.le_of_ble_eq_true rfl⟩ rfl hl.1 rfl (Nat.le_of_ble_eq_true rfl) ⟨Nat.le_of_ble_eq_true rfl, Nat.le_of_ble_eq_true rfl⟩ dL_areTermsRight_27 ?_
    refine lv_icmp_ge (tgt := 236) hx hb dL_areTermsRight_30 (by decide) (fun c30 => ?_) (fun c30 => ?_)
    · skip
      have c30 : (nT f) ≤ (nT f) := (g_le (by omega) (by omega)).mp c30
      refine lv_iconst (v := nI 0) hx hb dL_areTermsRight_236 (by decide) ?_
      refine lv_istore (lv' := [(5, .int (nI 0)), (4, .ref q3), (3, .ref q2), (2, .ref q1), (1, .ref q0), (0, .ref (w.2.2.2 0))]) hx hb dL_areTermsRight_237 hl (by decide) rfl (fun ls hl => ?_)
      refine lv_iconst (v := nI 0) hx hb dL_areTermsRight_239 (by decide) ?_
      refine lv_istore (lv' := [(6, .int (nI 0)), (5, .int (nI 0)), (4, .ref q3), (3, .ref q2), (2, .ref q1), (1, .ref q0), (0, .ref (w.2.2.2 0))]) hx hb dL_areTermsRight_240 hl (by decide) rfl (fun ls hl => ?_)
      refine g_for (P := fun c => ∀ (H : Heap) (locs : List Loc) (ls : Array Slot), LV w S_ H locs f [(q0, .inl (w.2.1, 4, .inl (tnA f (nT f)))), (q1, .inl (w.2.1, 36, .inl (pfA f (nT f)))), (q2, .inl (w.2.1, 36, .inl (stA f (nT f)))), (q3, .inl (w.2.1, 12, .inl (ofA f (nT f))))] → lv_has ls 8 [(5, .int (nI (ct (fun c => decide (0 < ofN f c (nT f))) c))), (6, .int (nI c)), (4, .ref q3), (3, .ref q2), (2, .ref q1), (1, .ref q0), (0, .ref (w.2.2.2 0))] → W P_ l E_ _ S_ M_ _ B_ T_ C_ H locs 4 88 _ (F0 M_ 242 ls [])) (nC f) ?_ ?_ 0 (Nat.zero_le _) H locs ls hL (lv_sub hl [1, 0, 2, 3, 4, 5, 6] rfl)
      · intro c hc ih H locs ls hL hl
        refine lv_iload hx hb dL_areTermsRight_242 (lv_at hl 1 rfl) ?_
        refine lv_aload_n hx hb dL_areTermsRight_244 rfl (lv_at hl 6 rfl) ?_
        refine lv_iconst (v := nI 0) hx hb dL_areTermsRight_245 (by decide) ?_
        refine g_callV (v := .int (nI (nC f))) (As := [.int (nI 0)]) (rest := [.int (nI c)]) G.1 hL.1 0 (by decide) rfl rfl ok_X2_many gm_378 gm_379 gm_477 (c_X2_many l w f 0 hI (by omega)) ⟨rfl, rfl⟩ ⟨Nat.le_of_ble_eq_true rfl, Nat.le_of_ble_eq_true rfl⟩ rfl hl.1 rfl (Nat.le_of_ble_eq_true rfl) ⟨Nat.le_of_ble_eq_true rfl, Nat.le_of_ble_eq_true rfl⟩ dL_areTermsRight_246 ?_
        refine lv_icmp_ge (tgt := 349) hx hb dL_areTermsRight_249 (by decide) (fun c249 => ?_) (fun c249 => ?_)
        · skip
          have c249 : (nC f) ≤ c := (g_le (by omega) (by omega)).mp c249
          exact absurd c249 (by omega)
        · skip
          have c249 : ¬ ((nC f) ≤ c) := fun q => c249 ((g_le (by omega) (by omega)).mpr q)
          refine lv_iload hx hb dL_areTermsRight_252 (lv_at hl 0 rfl) ?_
          refine lv_aload hx hb dL_areTermsRight_254 (lv_at hl 2 rfl) ?_
          refine lv_iload hx hb dL_areTermsRight_256 (lv_at hl 1 rfl) ?_
          refine l_iald hx hb hL 3 (u := ofA f (nT f)) rfl (i := c) (by omega) (by decide) dL_areTermsRight_258 ?_
          rw [show (ofA f (nT f)) c = nI (ofN f c (nT f)) from ofA_at (by omega)]
          refine lv_if_le (tgt := 266) hx hb dL_areTermsRight_259 (by decide) (fun c259 => ?_) (fun c259 => ?_)
          · skip
            have c259 : nI (ofN f c (nT f)) ≤ nI 0 := c259
            have c259 : (ofN f c (nT f)) ≤ 0 := (g_le (Nat.lt_of_le_of_lt (ct_le _ _) (by omega)) (by omega)).mp c259
            refine lv_iconst (v := nI 0) hx hb dL_areTermsRight_266 (by decide) ?_
            refine g_iaddn hx hb dL_areTermsRight_267 ?_
            refine lv_istore (lv' := [(5, .int (nI ((ct (fun c => decide (0 < ofN f c (nT f))) c) + 0))), (6, .int (nI c)), (4, .ref q3), (3, .ref q2), (2, .ref q1), (1, .ref q0), (0, .ref (w.2.2.2 0))]) hx hb dL_areTermsRight_268 hl (by decide) rfl (fun ls hl => ?_)
            refine lv_aload_n hx hb dL_areTermsRight_270 rfl (lv_at hl 6 rfl) ?_
            refine lv_iload hx hb dL_areTermsRight_271 (lv_at hl 1 rfl) ?_
            refine lv_iconst (v := nI 1) hx hb dL_areTermsRight_273 (by decide) ?_
            refine g_callV (v := .int (nI (pcn (ofC f (nI c))))) (As := [.int (nI c), .int (nI 1)]) (rest := []) G.1 hL.1 0 (by decide) rfl rfl ok_X2_ofConcept gm_365 gm_366 gm_482 (c_X2_ofConcept l w f c 1 hI (by omega) (by omega)) ⟨rfl, rfl⟩ ⟨Nat.le_of_ble_eq_true rfl, Nat.le_of_ble_eq_true rfl⟩ rfl hl.1 rfl (Nat.le_of_ble_eq_true rfl) ⟨Nat.le_of_ble_eq_true rfl, Nat.le_of_ble_eq_true rfl⟩ dL_areTermsRight_274 ?_
            refine lv_aload hx hb dL_areTermsRight_277 (lv_at hl 2 rfl) ?_
            refine lv_iload hx hb dL_areTermsRight_279 (lv_at hl 1 rfl) ?_
            refine l_iald hx hb hL 3 (u := ofA f (nT f)) rfl (i := c) (by omega) (by decide) dL_areTermsRight_281 ?_
            rw [show (ofA f (nT f)) c = nI (ofN f c (nT f)) from ofA_at (by omega)]
            refine lv_icmp_eq (tgt := 287) hx hb dL_areTermsRight_282 (by decide) (fun c282 => ?_) (fun c282 => ?_)
            · skip
              have c282 : (pcn (ofC f (nI c))) = (ofN f c (nT f)) := (g_eq pcn_lt (Nat.lt_of_le_of_lt (ct_le _ _) (by omega))).mp c282
              refine lv_iconst (v := nI 0) hx hb dL_areTermsRight_287 (by decide) ?_
              refine lv_istore (lv' := [(7, .int (nI 0)), (5, .int (nI ((ct (fun c => decide (0 < ofN f c (nT f))) c) + 0))), (6, .int (nI c)), (4, .ref q3), (3, .ref q2), (2, .ref q1), (1, .ref q0), (0, .ref (w.2.2.2 0))]) hx hb dL_areTermsRight_288 hl (by decide) rfl (fun ls hl => ?_)
              refine g_for (P := fun g => ∀ (H : Heap) (locs : List Loc) (ls : Array Slot), LV w S_ H locs f [(q0, .inl (w.2.1, 4, .inl (tnA f (nT f)))), (q1, .inl (w.2.1, 36, .inl (pfA f (nT f)))), (q2, .inl (w.2.1, 36, .inl (stA f (nT f)))), (q3, .inl (w.2.1, 12, .inl (ofA f (nT f))))] → lv_has ls 8 [(7, .int (nI g)), (5, .int (nI ((ct (fun c => decide (0 < ofN f c (nT f))) c) + 0))), (6, .int (nI c)), (4, .ref q3), (3, .ref q2), (2, .ref q1), (1, .ref q0), (0, .ref (w.2.2.2 0))] → W P_ l E_ _ S_ M_ _ B_ T_ C_ H locs 4 88 _ (F0 M_ 290 ls [])) (3) ?_ ?_ 0 (Nat.zero_le _) H locs ls hL (lv_sub hl [0, 1, 2, 3, 4, 5, 6, 7] rfl)
              · intro g hg ih H locs ls hL hl
                refine lv_iload hx hb dL_areTermsRight_290 (lv_at hl 0 rfl) ?_
                refine lv_iconst (v := nI 3) hx hb dL_areTermsRight_292 (by decide) ?_
                refine lv_icmp_ge (tgt := 343) hx hb dL_areTermsRight_293 (by decide) (fun c293 => ?_) (fun c293 => ?_)
                · skip
                  have c293 : 3 ≤ g := (g_le (by omega) (by omega)).mp c293
                  exact absurd c293 (by omega)
                · skip
                  have c293 : ¬ (3 ≤ g) := fun q => c293 ((g_le (by omega) (by omega)).mpr q)
                  refine lv_aload_n hx hb dL_areTermsRight_296 rfl (lv_at hl 7 rfl) ?_
                  refine lv_iload hx hb dL_areTermsRight_297 (lv_at hl 2 rfl) ?_
                  refine lv_iconst (v := nI 2) hx hb dL_areTermsRight_299 (by decide) ?_
                  refine lv_iload hx hb dL_areTermsRight_300 (lv_at hl 0 rfl) ?_
                  refine g_iaddn hx hb dL_areTermsRight_302 ?_
                  refine g_callV (v := .int (prI f (nI c) (nI g))) (As := [.int (nI c), .int (nI (2 + g))]) (rest := []) G.1 hL.1 0 (by decide) rfl rfl ok_X2_ofConcept gm_365 gm_366 gm_482 (by have q9 := (c_X2_ofConcept l w f c (2 + g) hI (by omega) (by omega)); rw [show gRd (.int (ocF f c (2 + g))) = gRd (.int (prI f (nI c) (nI g))) from congrArg (fun z => gRd (.int z)) (show ocF f c (2 + g) = prI f (nI c) (nI g) from by have hgc : g = 0 ∨ g = 1 ∨ g = 2 := (by omega); rcases hgc with rfl | rfl | rfl <;> rfl)] at q9; exact q9) ⟨rfl, rfl⟩ ⟨Nat.le_of_ble_eq_true rfl, Nat.le_of_ble_eq_true rfl⟩ rfl hl.1 rfl (Nat.le_of_ble_eq_true rfl) ⟨Nat.le_of_ble_eq_true rfl, Nat.le_of_ble_eq_true rfl⟩ dL_areTermsRight_303 ?_
                  refine lv_if_lt (tgt := 313) hx hb dL_areTermsRight_306 (by decide) (fun c306 => ?_) (fun c306 => ?_)
                  · skip
                    refine lv_iconst (v := nI 0) hx hb dL_areTermsRight_313 (by decide) ?_
                    refine lv_aload_n hx hb dL_areTermsRight_314 rfl (lv_at hl 5 rfl) ?_
                    refine lv_iload hx hb dL_areTermsRight_315 (lv_at hl 2 rfl) ?_
                    refine lv_iconst (v := nI 3) hx hb dL_areTermsRight_317 (by decide) ?_
                    refine g_imuln hx hb dL_areTermsRight_318 ?_
                    refine lv_iload hx hb dL_areTermsRight_319 (lv_at hl 0 rfl) ?_
                    refine g_iaddn hx hb dL_areTermsRight_321 ?_
                    refine l_iald hx hb hL 1 (u := pfA f (nT f)) rfl (i := (c * 3) + g) (by omega) (by decide) dL_areTermsRight_322 ?_
                    rw [show (pfA f (nT f)) ((c * 3) + g) = nI (pfN f c g (nT f)) from pfA_at (by omega) hg]
                    refine lv_iconst (v := nI 1) hx hb dL_areTermsRight_323 (by decide) ?_
                    refine lv_icmp_ne (tgt := 331) hx hb dL_areTermsRight_324 (by decide) (fun c324 => ?_) (fun c324 => ?_)
                    · skip
                      have c324 : ¬ ((pfN f c g (nT f)) = 1) := fun q => c324 ((g_eq (Nat.lt_of_le_of_lt (ct_le _ _) (by omega)) (by omega)).mpr q)
                      refine lv_iconst (v := nI 0) hx hb dL_areTermsRight_331 (by decide) ?_
                      refine lv_icmp_eq (tgt := 337) hx hb dL_areTermsRight_332 (by decide) (fun c332 => ?_) (fun c332 => ?_)
                      · skip
                        have c332 : 0 = 0 := (g_eq (by omega) (by omega)).mp c332
                        refine lv_iinc (v := nI (g + 1)) (lv' := [(7, .int (nI (g + 1))), (5, .int (nI ((ct (fun c => decide (0 < ofN f c (nT f))) c) + 0))), (6, .int (nI c)), (4, .ref q3), (3, .ref q2), (2, .ref q1), (1, .ref q0), (0, .ref (w.2.2.2 0))]) hx hb dL_areTermsRight_337 hl (k := 0) rfl (g_inc g 1) (by decide) rfl (fun ls hl => ?_)
                        refine lv_goto (tgt := 290) hx hb dL_areTermsRight_340 (by decide) ?_
                        refine ih H locs ls hL ?_
                        exact lv_sub hl [0, 1, 2, 3, 4, 5, 6, 7] rfl
                      · skip
                        have c332 : ¬ (0 = 0) := fun q => c332 ((g_eq (by omega) (by omega)).mpr q)
                        omega
                    · skip
                      have c324 : (pfN f c g (nT f)) = 1 := (g_eq (Nat.lt_of_le_of_lt (ct_le _ _) (by omega)) (by omega)).mp c324
                      refine lv_iconst (v := nI 1) hx hb dL_areTermsRight_327 (by decide) ?_
                      refine lv_goto (tgt := 332) hx hb dL_areTermsRight_328 (by decide) ?_
                      refine lv_icmp_eq (tgt := 337) hx hb dL_areTermsRight_332 (by decide) (fun c332 => ?_) (fun c332 => ?_)
                      · skip
                        have c332 : 0 = 1 := (g_eq (by omega) (by omega)).mp c332
                        omega
                      · skip
                        have c332 : ¬ (0 = 1) := fun q => c332 ((g_eq (by omega) (by omega)).mpr q)
                        exact absurd ((pr_iff (c := c) (g := g) hT24 hP).mpr c324) (Int32.not_le.mpr c306)
                  · skip
                    refine lv_iconst (v := nI 1) hx hb dL_areTermsRight_309 (by decide) ?_
                    refine lv_goto (tgt := 314) hx hb dL_areTermsRight_310 (by decide) ?_
                    refine lv_aload_n hx hb dL_areTermsRight_314 rfl (lv_at hl 5 rfl) ?_
                    refine lv_iload hx hb dL_areTermsRight_315 (lv_at hl 2 rfl) ?_
                    refine lv_iconst (v := nI 3) hx hb dL_areTermsRight_317 (by decide) ?_
                    refine g_imuln hx hb dL_areTermsRight_318 ?_
                    refine lv_iload hx hb dL_areTermsRight_319 (lv_at hl 0 rfl) ?_
                    refine g_iaddn hx hb dL_areTermsRight_321 ?_
                    refine l_iald hx hb hL 1 (u := pfA f (nT f)) rfl (i := (c * 3) + g) (by omega) (by decide) dL_areTermsRight_322 ?_
                    rw [show (pfA f (nT f)) ((c * 3) + g) = nI (pfN f c g (nT f)) from pfA_at (by omega) hg]
                    refine lv_iconst (v := nI 1) hx hb dL_areTermsRight_323 (by decide) ?_
                    refine lv_icmp_ne (tgt := 331) hx hb dL_areTermsRight_324 (by decide) (fun c324 => ?_) (fun c324 => ?_)
                    · skip
                      have c324 : ¬ ((pfN f c g (nT f)) = 1) := fun q => c324 ((g_eq (Nat.lt_of_le_of_lt (ct_le _ _) (by omega)) (by omega)).mpr q)
                      refine lv_iconst (v := nI 0) hx hb dL_areTermsRight_331 (by decide) ?_
                      refine lv_icmp_eq (tgt := 337) hx hb dL_areTermsRight_332 (by decide) (fun c332 => ?_) (fun c332 => ?_)
                      · skip
                        have c332 : 1 = 0 := (g_eq (by omega) (by omega)).mp c332
                        omega
                      · skip
                        have c332 : ¬ (1 = 0) := fun q => c332 ((g_eq (by omega) (by omega)).mpr q)
                        exact absurd ((pr_iff (c := c) (g := g) hT24 hP).mp (Int32.not_lt.mp c306)) c324
                    · skip
                      have c324 : (pfN f c g (nT f)) = 1 := (g_eq (Nat.lt_of_le_of_lt (ct_le _ _) (by omega)) (by omega)).mp c324
                      refine lv_iconst (v := nI 1) hx hb dL_areTermsRight_327 (by decide) ?_
                      refine lv_goto (tgt := 332) hx hb dL_areTermsRight_328 (by decide) ?_
                      refine lv_icmp_eq (tgt := 337) hx hb dL_areTermsRight_332 (by decide) (fun c332 => ?_) (fun c332 => ?_)
                      · skip
                        have c332 : 1 = 1 := (g_eq (by omega) (by omega)).mp c332
                        refine lv_iinc (v := nI (g + 1)) (lv' := [(7, .int (nI (g + 1))), (5, .int (nI ((ct (fun c => decide (0 < ofN f c (nT f))) c) + 0))), (6, .int (nI c)), (4, .ref q3), (3, .ref q2), (2, .ref q1), (1, .ref q0), (0, .ref (w.2.2.2 0))]) hx hb dL_areTermsRight_337 hl (k := 0) rfl (g_inc g 1) (by decide) rfl (fun ls hl => ?_)
                        refine lv_goto (tgt := 290) hx hb dL_areTermsRight_340 (by decide) ?_
                        refine ih H locs ls hL ?_
                        exact lv_sub hl [0, 1, 2, 3, 4, 5, 6, 7] rfl
                      · skip
                        have c332 : ¬ (1 = 1) := fun q => c332 ((g_eq (by omega) (by omega)).mpr q)
                        omega
              · intro H locs ls hL hl
                refine lv_iload hx hb dL_areTermsRight_290 (lv_at hl 0 rfl) ?_
                refine lv_iconst (v := nI 3) hx hb dL_areTermsRight_292 (by decide) ?_
                refine lv_icmp_ge (tgt := 343) hx hb dL_areTermsRight_293 (by decide) (fun c293 => ?_) (fun c293 => ?_)
                · skip
                  have c293 : 3 ≤ 3 := (g_le (by omega) (by omega)).mp c293
                  refine lv_iinc (v := nI (c + 1)) (lv' := [(6, .int (nI (c + 1))), (7, .int (nI 3)), (5, .int (nI ((ct (fun c => decide (0 < ofN f c (nT f))) c) + 0))), (4, .ref q3), (3, .ref q2), (2, .ref q1), (1, .ref q0), (0, .ref (w.2.2.2 0))]) hx hb dL_areTermsRight_343 hl (k := 2) rfl (g_inc c 1) (by decide) rfl (fun ls hl => ?_)
                  refine lv_goto (tgt := 242) hx hb dL_areTermsRight_346 (by decide) ?_
                  refine ih H locs ls hL ?_
                  rw [(show ct (fun c => decide (0 < ofN f c (nT f))) (c + 1) = (ct (fun c => decide (0 < ofN f c (nT f))) c) + 0 from by first | exact ct_y (decide_eq_true (by omega)) | exact ct_n (fun q => by have := of_decide_eq_true q; omega))]
                  exact lv_sub hl [2, 0, 3, 4, 5, 6, 7] rfl
                · skip
                  have c293 : ¬ (3 ≤ 3) := fun q => c293 ((g_le (by omega) (by omega)).mpr q)
                  exact absurd c293 (by omega)
            · skip
              have c282 : ¬ ((pcn (ofC f (nI c))) = (ofN f c (nT f))) := fun q => c282 ((g_eq pcn_lt (Nat.lt_of_le_of_lt (ct_le _ _) (by omega))).mpr q)
              exact absurd (pcn_ofC hT24 c) c282
          · skip
            have c259 : ¬ (nI (ofN f c (nT f)) ≤ nI 0) := c259
            have c259 : ¬ ((ofN f c (nT f)) ≤ 0) := fun q => c259 ((g_le (Nat.lt_of_le_of_lt (ct_le _ _) (by omega)) (by omega)).mpr q)
            refine lv_iconst (v := nI 1) hx hb dL_areTermsRight_262 (by decide) ?_
            refine lv_goto (tgt := 267) hx hb dL_areTermsRight_263 (by decide) ?_
            refine g_iaddn hx hb dL_areTermsRight_267 ?_
            refine lv_istore (lv' := [(5, .int (nI ((ct (fun c => decide (0 < ofN f c (nT f))) c) + 1))), (6, .int (nI c)), (4, .ref q3), (3, .ref q2), (2, .ref q1), (1, .ref q0), (0, .ref (w.2.2.2 0))]) hx hb dL_areTermsRight_268 hl (by decide) rfl (fun ls hl => ?_)
            refine lv_aload_n hx hb dL_areTermsRight_270 rfl (lv_at hl 6 rfl) ?_
            refine lv_iload hx hb dL_areTermsRight_271 (lv_at hl 1 rfl) ?_
            refine lv_iconst (v := nI 1) hx hb dL_areTermsRight_273 (by decide) ?_
            refine g_callV (v := .int (nI (pcn (ofC f (nI c))))) (As := [.int (nI c), .int (nI 1)]) (rest := []) G.1 hL.1 0 (by decide) rfl rfl ok_X2_ofConcept gm_365 gm_366 gm_482 (c_X2_ofConcept l w f c 1 hI (by omega) (by omega)) ⟨rfl, rfl⟩ ⟨Nat.le_of_ble_eq_true rfl, Nat.le_of_ble_eq_true rfl⟩ rfl hl.1 rfl (Nat.le_of_ble_eq_true rfl) ⟨Nat.le_of_ble_eq_true rfl, Nat.le_of_ble_eq_true rfl⟩ dL_areTermsRight_274 ?_
            refine lv_aload hx hb dL_areTermsRight_277 (lv_at hl 2 rfl) ?_
            refine lv_iload hx hb dL_areTermsRight_279 (lv_at hl 1 rfl) ?_
            refine l_iald hx hb hL 3 (u := ofA f (nT f)) rfl (i := c) (by omega) (by decide) dL_areTermsRight_281 ?_
            rw [show (ofA f (nT f)) c = nI (ofN f c (nT f)) from ofA_at (by omega)]
            refine lv_icmp_eq (tgt := 287) hx hb dL_areTermsRight_282 (by decide) (fun c282 => ?_) (fun c282 => ?_)
            · skip
              have c282 : (pcn (ofC f (nI c))) = (ofN f c (nT f)) := (g_eq pcn_lt (Nat.lt_of_le_of_lt (ct_le _ _) (by omega))).mp c282
              refine lv_iconst (v := nI 0) hx hb dL_areTermsRight_287 (by decide) ?_
              refine lv_istore (lv' := [(7, .int (nI 0)), (5, .int (nI ((ct (fun c => decide (0 < ofN f c (nT f))) c) + 1))), (6, .int (nI c)), (4, .ref q3), (3, .ref q2), (2, .ref q1), (1, .ref q0), (0, .ref (w.2.2.2 0))]) hx hb dL_areTermsRight_288 hl (by decide) rfl (fun ls hl => ?_)
              refine g_for (P := fun g => ∀ (H : Heap) (locs : List Loc) (ls : Array Slot), LV w S_ H locs f [(q0, .inl (w.2.1, 4, .inl (tnA f (nT f)))), (q1, .inl (w.2.1, 36, .inl (pfA f (nT f)))), (q2, .inl (w.2.1, 36, .inl (stA f (nT f)))), (q3, .inl (w.2.1, 12, .inl (ofA f (nT f))))] → lv_has ls 8 [(7, .int (nI g)), (5, .int (nI ((ct (fun c => decide (0 < ofN f c (nT f))) c) + 1))), (6, .int (nI c)), (4, .ref q3), (3, .ref q2), (2, .ref q1), (1, .ref q0), (0, .ref (w.2.2.2 0))] → W P_ l E_ _ S_ M_ _ B_ T_ C_ H locs 4 88 _ (F0 M_ 290 ls [])) (3) ?_ ?_ 0 (Nat.zero_le _) H locs ls hL (lv_sub hl [0, 1, 2, 3, 4, 5, 6, 7] rfl)
              · intro g hg ih H locs ls hL hl
                refine lv_iload hx hb dL_areTermsRight_290 (lv_at hl 0 rfl) ?_
                refine lv_iconst (v := nI 3) hx hb dL_areTermsRight_292 (by decide) ?_
                refine lv_icmp_ge (tgt := 343) hx hb dL_areTermsRight_293 (by decide) (fun c293 => ?_) (fun c293 => ?_)
                · skip
                  have c293 : 3 ≤ g := (g_le (by omega) (by omega)).mp c293
                  exact absurd c293 (by omega)
                · skip
                  have c293 : ¬ (3 ≤ g) := fun q => c293 ((g_le (by omega) (by omega)).mpr q)
                  refine lv_aload_n hx hb dL_areTermsRight_296 rfl (lv_at hl 7 rfl) ?_
                  refine lv_iload hx hb dL_areTermsRight_297 (lv_at hl 2 rfl) ?_
                  refine lv_iconst (v := nI 2) hx hb dL_areTermsRight_299 (by decide) ?_
                  refine lv_iload hx hb dL_areTermsRight_300 (lv_at hl 0 rfl) ?_
                  refine g_iaddn hx hb dL_areTermsRight_302 ?_
                  refine g_callV (v := .int (prI f (nI c) (nI g))) (As := [.int (nI c), .int (nI (2 + g))]) (rest := []) G.1 hL.1 0 (by decide) rfl rfl ok_X2_ofConcept gm_365 gm_366 gm_482 (by have q9 := (c_X2_ofConcept l w f c (2 + g) hI (by omega) (by omega)); rw [show gRd (.int (ocF f c (2 + g))) = gRd (.int (prI f (nI c) (nI g))) from congrArg (fun z => gRd (.int z)) (show ocF f c (2 + g) = prI f (nI c) (nI g) from by have hgc : g = 0 ∨ g = 1 ∨ g = 2 := (by omega); rcases hgc with rfl | rfl | rfl <;> rfl)] at q9; exact q9) ⟨rfl, rfl⟩ ⟨Nat.le_of_ble_eq_true rfl, Nat.le_of_ble_eq_true rfl⟩ rfl hl.1 rfl (Nat.le_of_ble_eq_true rfl) ⟨Nat.le_of_ble_eq_true rfl, Nat.le_of_ble_eq_true rfl⟩ dL_areTermsRight_303 ?_
                  refine lv_if_lt (tgt := 313) hx hb dL_areTermsRight_306 (by decide) (fun c306 => ?_) (fun c306 => ?_)
                  · skip
                    refine lv_iconst (v := nI 0) hx hb dL_areTermsRight_313 (by decide) ?_
                    refine lv_aload_n hx hb dL_areTermsRight_314 rfl (lv_at hl 5 rfl) ?_
                    refine lv_iload hx hb dL_areTermsRight_315 (lv_at hl 2 rfl) ?_
                    refine lv_iconst (v := nI 3) hx hb dL_areTermsRight_317 (by decide) ?_
                    refine g_imuln hx hb dL_areTermsRight_318 ?_
                    refine lv_iload hx hb dL_areTermsRight_319 (lv_at hl 0 rfl) ?_
                    refine g_iaddn hx hb dL_areTermsRight_321 ?_
                    refine l_iald hx hb hL 1 (u := pfA f (nT f)) rfl (i := (c * 3) + g) (by omega) (by decide) dL_areTermsRight_322 ?_
                    rw [show (pfA f (nT f)) ((c * 3) + g) = nI (pfN f c g (nT f)) from pfA_at (by omega) hg]
                    refine lv_iconst (v := nI 1) hx hb dL_areTermsRight_323 (by decide) ?_
                    refine lv_icmp_ne (tgt := 331) hx hb dL_areTermsRight_324 (by decide) (fun c324 => ?_) (fun c324 => ?_)
                    · skip
                      have c324 : ¬ ((pfN f c g (nT f)) = 1) := fun q => c324 ((g_eq (Nat.lt_of_le_of_lt (ct_le _ _) (by omega)) (by omega)).mpr q)
                      refine lv_iconst (v := nI 0) hx hb dL_areTermsRight_331 (by decide) ?_
                      refine lv_icmp_eq (tgt := 337) hx hb dL_areTermsRight_332 (by decide) (fun c332 => ?_) (fun c332 => ?_)
                      · skip
                        have c332 : 0 = 0 := (g_eq (by omega) (by omega)).mp c332
                        refine lv_iinc (v := nI (g + 1)) (lv' := [(7, .int (nI (g + 1))), (5, .int (nI ((ct (fun c => decide (0 < ofN f c (nT f))) c) + 1))), (6, .int (nI c)), (4, .ref q3), (3, .ref q2), (2, .ref q1), (1, .ref q0), (0, .ref (w.2.2.2 0))]) hx hb dL_areTermsRight_337 hl (k := 0) rfl (g_inc g 1) (by decide) rfl (fun ls hl => ?_)
                        refine lv_goto (tgt := 290) hx hb dL_areTermsRight_340 (by decide) ?_
                        refine ih H locs ls hL ?_
                        exact lv_sub hl [0, 1, 2, 3, 4, 5, 6, 7] rfl
                      · skip
                        have c332 : ¬ (0 = 0) := fun q => c332 ((g_eq (by omega) (by omega)).mpr q)
                        omega
                    · skip
                      have c324 : (pfN f c g (nT f)) = 1 := (g_eq (Nat.lt_of_le_of_lt (ct_le _ _) (by omega)) (by omega)).mp c324
                      refine lv_iconst (v := nI 1) hx hb dL_areTermsRight_327 (by decide) ?_
                      refine lv_goto (tgt := 332) hx hb dL_areTermsRight_328 (by decide) ?_
                      refine lv_icmp_eq (tgt := 337) hx hb dL_areTermsRight_332 (by decide) (fun c332 => ?_) (fun c332 => ?_)
                      · skip
                        have c332 : 0 = 1 := (g_eq (by omega) (by omega)).mp c332
                        omega
                      · skip
                        have c332 : ¬ (0 = 1) := fun q => c332 ((g_eq (by omega) (by omega)).mpr q)
                        exact absurd ((pr_iff (c := c) (g := g) hT24 hP).mpr c324) (Int32.not_le.mpr c306)
                  · skip
                    refine lv_iconst (v := nI 1) hx hb dL_areTermsRight_309 (by decide) ?_
                    refine lv_goto (tgt := 314) hx hb dL_areTermsRight_310 (by decide) ?_
                    refine lv_aload_n hx hb dL_areTermsRight_314 rfl (lv_at hl 5 rfl) ?_
                    refine lv_iload hx hb dL_areTermsRight_315 (lv_at hl 2 rfl) ?_
                    refine lv_iconst (v := nI 3) hx hb dL_areTermsRight_317 (by decide) ?_
                    refine g_imuln hx hb dL_areTermsRight_318 ?_
                    refine lv_iload hx hb dL_areTermsRight_319 (lv_at hl 0 rfl) ?_
                    refine g_iaddn hx hb dL_areTermsRight_321 ?_
                    refine l_iald hx hb hL 1 (u := pfA f (nT f)) rfl (i := (c * 3) + g) (by omega) (by decide) dL_areTermsRight_322 ?_
                    rw [show (pfA f (nT f)) ((c * 3) + g) = nI (pfN f c g (nT f)) from pfA_at (by omega) hg]
                    refine lv_iconst (v := nI 1) hx hb dL_areTermsRight_323 (by decide) ?_
                    refine lv_icmp_ne (tgt := 331) hx hb dL_areTermsRight_324 (by decide) (fun c324 => ?_) (fun c324 => ?_)
                    · skip
                      have c324 : ¬ ((pfN f c g (nT f)) = 1) := fun q => c324 ((g_eq (Nat.lt_of_le_of_lt (ct_le _ _) (by omega)) (by omega)).mpr q)
                      refine lv_iconst (v := nI 0) hx hb dL_areTermsRight_331 (by decide) ?_
                      refine lv_icmp_eq (tgt := 337) hx hb dL_areTermsRight_332 (by decide) (fun c332 => ?_) (fun c332 => ?_)
                      · skip
                        have c332 : 1 = 0 := (g_eq (by omega) (by omega)).mp c332
                        omega
                      · skip
                        have c332 : ¬ (1 = 0) := fun q => c332 ((g_eq (by omega) (by omega)).mpr q)
                        exact absurd ((pr_iff (c := c) (g := g) hT24 hP).mp (Int32.not_lt.mp c306)) c324
                    · skip
                      have c324 : (pfN f c g (nT f)) = 1 := (g_eq (Nat.lt_of_le_of_lt (ct_le _ _) (by omega)) (by omega)).mp c324
                      refine lv_iconst (v := nI 1) hx hb dL_areTermsRight_327 (by decide) ?_
                      refine lv_goto (tgt := 332) hx hb dL_areTermsRight_328 (by decide) ?_
                      refine lv_icmp_eq (tgt := 337) hx hb dL_areTermsRight_332 (by decide) (fun c332 => ?_) (fun c332 => ?_)
                      · skip
                        have c332 : 1 = 1 := (g_eq (by omega) (by omega)).mp c332
                        refine lv_iinc (v := nI (g + 1)) (lv' := [(7, .int (nI (g + 1))), (5, .int (nI ((ct (fun c => decide (0 < ofN f c (nT f))) c) + 1))), (6, .int (nI c)), (4, .ref q3), (3, .ref q2), (2, .ref q1), (1, .ref q0), (0, .ref (w.2.2.2 0))]) hx hb dL_areTermsRight_337 hl (k := 0) rfl (g_inc g 1) (by decide) rfl (fun ls hl => ?_)
                        refine lv_goto (tgt := 290) hx hb dL_areTermsRight_340 (by decide) ?_
                        refine ih H locs ls hL ?_
                        exact lv_sub hl [0, 1, 2, 3, 4, 5, 6, 7] rfl
                      · skip
                        have c332 : ¬ (1 = 1) := fun q => c332 ((g_eq (by omega) (by omega)).mpr q)
                        omega
              · intro H locs ls hL hl
                refine lv_iload hx hb dL_areTermsRight_290 (lv_at hl 0 rfl) ?_
                refine lv_iconst (v := nI 3) hx hb dL_areTermsRight_292 (by decide) ?_
                refine lv_icmp_ge (tgt := 343) hx hb dL_areTermsRight_293 (by decide) (fun c293 => ?_) (fun c293 => ?_)
                · skip
                  have c293 : 3 ≤ 3 := (g_le (by omega) (by omega)).mp c293
                  refine lv_iinc (v := nI (c + 1)) (lv' := [(6, .int (nI (c + 1))), (7, .int (nI 3)), (5, .int (nI ((ct (fun c => decide (0 < ofN f c (nT f))) c) + 1))), (4, .ref q3), (3, .ref q2), (2, .ref q1), (1, .ref q0), (0, .ref (w.2.2.2 0))]) hx hb dL_areTermsRight_343 hl (k := 2) rfl (g_inc c 1) (by decide) rfl (fun ls hl => ?_)
                  refine lv_goto (tgt := 242) hx hb dL_areTermsRight_346 (by decide) ?_
                  refine ih H locs ls hL ?_
                  rw [(show ct (fun c => decide (0 < ofN f c (nT f))) (c + 1) = (ct (fun c => decide (0 < ofN f c (nT f))) c) + 1 from by first | exact ct_y (decide_eq_true (by omega)) | exact ct_n (fun q => by have := of_decide_eq_true q; omega))]
                  exact lv_sub hl [2, 0, 3, 4, 5, 6, 7] rfl
                · skip
                  have c293 : ¬ (3 ≤ 3) := fun q => c293 ((g_le (by omega) (by omega)).mpr q)
                  exact absurd c293 (by omega)
            · skip
              have c282 : ¬ ((pcn (ofC f (nI c))) = (ofN f c (nT f))) := fun q => c282 ((g_eq pcn_lt (Nat.lt_of_le_of_lt (ct_le _ _) (by omega))).mpr q)
              exact absurd (pcn_ofC hT24 c) c282
      · intro H locs ls hL hl
        refine lv_iload hx hb dL_areTermsRight_242 (lv_at hl 1 rfl) ?_
        refine lv_aload_n hx hb dL_areTermsRight_244 rfl (lv_at hl 6 rfl) ?_
        refine lv_iconst (v := nI 0) hx hb dL_areTermsRight_245 (by decide) ?_
        refine g_callV (v := .int (nI (nC f))) (As := [.int (nI 0)]) (rest := [.int (nI (nC f))]) G.1 hL.1 0 (by decide) rfl rfl ok_X2_many gm_378 gm_379 gm_477 (c_X2_many l w f 0 hI (by omega)) ⟨rfl, rfl⟩ ⟨Nat.le_of_ble_eq_true rfl, Nat.le_of_ble_eq_true rfl⟩ rfl hl.1 rfl (Nat.le_of_ble_eq_true rfl) ⟨Nat.le_of_ble_eq_true rfl, Nat.le_of_ble_eq_true rfl⟩ dL_areTermsRight_246 ?_
        refine lv_icmp_ge (tgt := 349) hx hb dL_areTermsRight_249 (by decide) (fun c249 => ?_) (fun c249 => ?_)
        · skip
          have c249 : (nC f) ≤ (nC f) := (g_le (by omega) (by omega)).mp c249
          refine lv_iconst (v := nI 0) hx hb dL_areTermsRight_349 (by decide) ?_
          refine lv_istore (lv' := [(6, .int (nI 0)), (5, .int (nI (ct (fun c => decide (0 < ofN f c (nT f))) (nC f)))), (4, .ref q3), (3, .ref q2), (2, .ref q1), (1, .ref q0), (0, .ref (w.2.2.2 0))]) hx hb dL_areTermsRight_350 hl (by decide) rfl (fun ls hl => ?_)
          refine g_for (P := fun s => ∀ (H : Heap) (locs : List Loc) (ls : Array Slot), LV w S_ H locs f [(q0, .inl (w.2.1, 4, .inl (tnA f (nT f)))), (q1, .inl (w.2.1, 36, .inl (pfA f (nT f)))), (q2, .inl (w.2.1, 36, .inl (stA f (nT f)))), (q3, .inl (w.2.1, 12, .inl (ofA f (nT f))))] → lv_has ls 8 [(6, .int (nI s)), (5, .int (nI (ct (fun c => decide (0 < ofN f c (nT f))) (nC f)))), (4, .ref q3), (3, .ref q2), (2, .ref q1), (1, .ref q0), (0, .ref (w.2.2.2 0))] → W P_ l E_ _ S_ M_ _ B_ T_ C_ H locs 4 88 _ (F0 M_ 352 ls [])) (4) ?_ ?_ 0 (Nat.zero_le _) H locs ls hL (lv_sub hl [0, 1, 2, 3, 4, 5, 6] rfl)
          · intro s hs ih H locs ls hL hl
            refine lv_iload hx hb dL_areTermsRight_352 (lv_at hl 0 rfl) ?_
            refine lv_iconst (v := nI 4) hx hb dL_areTermsRight_354 (by decide) ?_
            refine lv_icmp_ge (tgt := 381) hx hb dL_areTermsRight_355 (by decide) (fun c355 => ?_) (fun c355 => ?_)
            · skip
              have c355 : 4 ≤ s := (g_le (by omega) (by omega)).mp c355
              exact absurd c355 (by omega)
            · skip
              have c355 : ¬ (4 ≤ s) := fun q => c355 ((g_le (by omega) (by omega)).mpr q)
              refine lv_aload_n hx hb dL_areTermsRight_358 rfl (lv_at hl 6 rfl) ?_
              refine lv_iconst (v := nI 3) hx hb dL_areTermsRight_359 (by decide) ?_
              refine lv_iload hx hb dL_areTermsRight_360 (lv_at hl 0 rfl) ?_
              refine g_iaddn hx hb dL_areTermsRight_362 ?_
              refine g_callV (v := .int (nI (ct (fun t => decide (f 5 t = nI s)) (nT f)))) (As := [.int (nI (3 + s))]) (rest := []) G.1 hL.1 0 (by decide) rfl rfl ok_X2_many gm_378 gm_379 gm_477 (by have q9 := (c_X2_many l w f (3 + s) hI (by omega)); rw [show gRd (.int (maF f (3 + s))) = gRd (.int (nI (ct (fun t => decide (f 5 t = nI s)) (nT f)))) from congrArg (fun z => gRd (.int z)) (show maF f (3 + s) = nI (ct (fun t => decide (f 5 t = nI s)) (nT f)) from by have hsc : s = 0 ∨ s = 1 ∨ s = 2 ∨ s = 3 := (by omega); rcases hsc with rfl | rfl | rfl | rfl <;> rfl)] at q9; exact q9) ⟨rfl, rfl⟩ ⟨Nat.le_of_ble_eq_true rfl, Nat.le_of_ble_eq_true rfl⟩ rfl hl.1 rfl (Nat.le_of_ble_eq_true rfl) ⟨Nat.le_of_ble_eq_true rfl, Nat.le_of_ble_eq_true rfl⟩ dL_areTermsRight_363 ?_
              refine lv_aload_n hx hb dL_areTermsRight_366 rfl (lv_at hl 5 rfl) ?_
              refine lv_iload hx hb dL_areTermsRight_367 (lv_at hl 0 rfl) ?_
              refine l_iald hx hb hL 0 (u := tnA f (nT f)) rfl (i := s) (by omega) (by decide) dL_areTermsRight_369 ?_
              rw [show (tnA f (nT f)) s = nI (ct (fun k => decide (f 5 k = nI s)) (nT f)) from tnA_at hs]
              refine lv_icmp_eq (tgt := 375) hx hb dL_areTermsRight_370 (by decide) (fun c370 => ?_) (fun c370 => ?_)
              · skip
                refine lv_iinc (v := nI (s + 1)) (lv' := [(6, .int (nI (s + 1))), (5, .int (nI (ct (fun c => decide (0 < ofN f c (nT f))) (nC f)))), (4, .ref q3), (3, .ref q2), (2, .ref q1), (1, .ref q0), (0, .ref (w.2.2.2 0))]) hx hb dL_areTermsRight_375 hl (k := 0) rfl (g_inc s 1) (by decide) rfl (fun ls hl => ?_)
                refine lv_goto (tgt := 352) hx hb dL_areTermsRight_378 (by decide) ?_
                refine ih H locs ls hL ?_
                exact lv_sub hl [0, 1, 2, 3, 4, 5, 6] rfl
              · skip
                exact absurd rfl c370
          · intro H locs ls hL hl
            refine lv_iload hx hb dL_areTermsRight_352 (lv_at hl 0 rfl) ?_
            refine lv_iconst (v := nI 4) hx hb dL_areTermsRight_354 (by decide) ?_
            refine lv_icmp_ge (tgt := 381) hx hb dL_areTermsRight_355 (by decide) (fun c355 => ?_) (fun c355 => ?_)
            · skip
              have c355 : 4 ≤ 4 := (g_le (by omega) (by omega)).mp c355
              refine lv_aload_n hx hb dL_areTermsRight_381 rfl (lv_at hl 6 rfl) ?_
              refine lv_iconst (v := nI 1) hx hb dL_areTermsRight_382 (by decide) ?_
              refine g_callV (v := .int (nI (ct (fun c => decide (¬ ofC f (nI c) = 0)) (nC f)))) (As := [.int (nI 1)]) (rest := []) G.1 hL.1 0 (by decide) rfl rfl ok_X2_many gm_378 gm_379 gm_477 (c_X2_many l w f 1 hI (by omega)) ⟨rfl, rfl⟩ ⟨Nat.le_of_ble_eq_true rfl, Nat.le_of_ble_eq_true rfl⟩ rfl hl.1 rfl (Nat.le_of_ble_eq_true rfl) ⟨Nat.le_of_ble_eq_true rfl, Nat.le_of_ble_eq_true rfl⟩ dL_areTermsRight_383 ?_
              refine lv_iload hx hb dL_areTermsRight_386 (lv_at hl 1 rfl) ?_
              refine lv_icmp_ne (tgt := 395) hx hb dL_areTermsRight_388 (by decide) (fun c388 => ?_) (fun c388 => ?_)
              · skip
                exact absurd (congrArg nI (with_ct hT24)) c388
              · skip
                refine lv_iconst (v := nI 1) hx hb dL_areTermsRight_391 (by decide) ?_
                refine lv_goto (tgt := 396) hx hb dL_areTermsRight_392 (by decide) ?_
                exact n_zret G hL (rfl) (Or.inr rfl) dL_areTermsRight_396
            · skip
              have c355 : ¬ (4 ≤ 4) := fun q => c355 ((g_le (by omega) (by omega)).mpr q)
              exact absurd c355 (by omega)
        · skip
          have c249 : ¬ ((nC f) ≤ (nC f)) := fun q => c249 ((g_le (by omega) (by omega)).mpr q)
          exact absurd c249 (by omega)
    · skip
      have c30 : ¬ ((nT f) ≤ (nT f)) := fun q => c30 ((g_le (by omega) (by omega)).mpr q)
      exact absurd c30 (by omega)
