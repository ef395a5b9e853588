theorem ok_X0_addVote : gOK yX0_addVote cX0_addVote 5 (some .int) 3 := ⟨gm_218, gm_25, by decide +kernel⟩
set_option maxRecDepth 100000 in
set_option maxHeartbeats 4000000 in
theorem c_X0_addVote (l : Launch) (w : GP) (f : CS) (t : Nat) (v : Int32) (b : Prop) [Decidable b] (hI : gI f) (ht : t < 24) : Met l yX0_addVote (gws yX0_addVote cX0_addVote 5 (some .int)) ({ frames := 2, cells := 0, slots := 0, locals := 44 }) (gPc w f [.ref (w.2.2.2 1), .int (nI t), .int v, .int (if b then 1 else 0)]) (gWr w (fun v_ f_ => v_ = some (.int (avF f t v b 5 t)) ∧ f_ = avF f t v b)) 0 0 (gA w) := by
  refine g_read (by decide) (Nat.le_of_ble_eq_true rfl) ?_
  intro P_ E_ S_ M_ B_ T_ C_ ls G hV hl
  obtain ⟨hx, hb, hml, hown, hts⟩ := id G.1
  obtain ⟨⟨hT, hT24⟩, ⟨hC, hC12⟩, ⟨hD, hD6⟩, hLn⟩ := id hI
  have hl : lv_has ls 5 [(0, .ref (w.2.2.2 1)), (1, .int (nI t)), (2, .int v), (3, .int (if b then 1 else 0))] := hl
  have hG := hV.start
  obtain ⟨H, hH⟩ : ∃ H, H = S_.heap := ⟨_, rfl⟩
  obtain ⟨locs, hL⟩ : ∃ L : List Loc, L = [] := ⟨_, rfl⟩
  rw [← hH, ← hL] at hG
  suffices K : ∀ (H : Heap) (locs : List Loc), GS w (gA w) S_ H locs f → W P_ l E_ _ S_ M_ _ B_ T_ C_ H locs 0 0 _ (F0 M_ 0 ls []) from by have := K H locs hG; rw [hH, hL] at this; exact this
  clear hG hH hL; intro H locs hG
  refine lv_iload_n hx hb dX0_addVote_0 rfl (lv_at hl 3 rfl) ?_
  refine lv_if_eq (tgt := 11) hx hb dX0_addVote_1 (by decide) (fun c1 => ?_) (fun c1 => ?_)
  · skip
    have c1 : ¬ b := g_if0.mp c1
    refine lv_aload_n hx hb dX0_addVote_11 rfl (lv_at hl 0 rfl) ?_
    refine g_get hx hb hts hown hG.1 1 8 (by decide) (v := .ref (w.2.2.2 9)) rfl rfl gin0 (by decide) gm_12 (rfl) dX0_addVote_12 ?_
    refine lv_astore (lv' := [(4, .ref (w.2.2.2 9)), (0, .ref (w.2.2.2 1)), (1, .int (nI t)), (2, .int v), (3, .int (if b then 1 else 0))]) hx hb dX0_addVote_15 hl (by decide) rfl (fun ls hl => ?_)
    refine lv_aload hx hb dX0_addVote_17 (lv_at hl 0 rfl) ?_
    refine lv_iload_n hx hb dX0_addVote_19 rfl (lv_at hl 2 rfl) ?_
    refine lv_dup2_11 hx hb dX0_addVote_20 rfl rfl ?_
    refine g_ialn (a := 7) (n := 24) hx hb hG.1 9 (by decide) (by decide) rfl rfl (i := t) (by omega) dX0_addVote_21 ?_
    refine lv_iconst (v := nI 1) hx hb dX0_addVote_22 (by decide) ?_
    refine lv_iload_n hx hb dX0_addVote_23 rfl (lv_at hl 3 rfl) ?_
    refine lv_ishl hx hb dX0_addVote_24 ?_
    refine lv_ior hx hb dX0_addVote_25 ?_
    refine g_iast (a := 7) (n := 24) hx hb hG 9 (by decide) (by decide) rfl rfl (i := t) (by omega) dX0_addVote_26 (fun H locs hG => ?_)
    refine lv_aload_n hx hb dX0_addVote_27 rfl (lv_at hl 1 rfl) ?_
    refine g_get hx hb hts hown hG.1 1 7 (by decide) (v := .ref (w.2.2.2 8)) rfl rfl gin0 (by decide) gm_11 (rfl) dX0_addVote_28 ?_
    refine lv_iload_n hx hb dX0_addVote_31 rfl (lv_at hl 2 rfl) ?_
    refine g_ialv (a := 6) (n := 24) (v := f 6 t) hx hb hG.1 8 (by decide) (by decide) rfl rfl (i := t) (by omega) (by simp [gset, ez0, ez5, ez11, ez12, eo11, eo12, eu11, eu12, eu20]) dX0_addVote_32 ?_
    refine g_callS (As := [.int (f 6 t)]) (rest := []) G.1 hG.1 ok_J6_bitCount_0f7a4 gm_28 gm_27 (c_J6_bitCount_0f7a4 l w (gset f 7 t ((f 7 t) ||| ((nI 1) <<< (v &&& 31)))) (f 6 t)  ) ⟨rfl, rfl⟩ ⟨Nat.le_of_ble_eq_true rfl, Nat.le_of_ble_eq_true rfl⟩ rfl hl.1 rfl (Nat.le_of_ble_eq_true rfl) ⟨Nat.zero_le _, Nat.zero_le _⟩ dX0_addVote_33 ?_
    refine lv_iconst (v := nI 3) hx hb dX0_addVote_36 (by decide) ?_
    refine lv_icmp_lt (tgt := 67) hx hb dX0_addVote_37 (by decide) (fun c37 => ?_) (fun c37 => ?_)
    · skip
      have c37 : (pcn (f 6 t)) < 3 := (g_lt pcn_lt (by omega)).mp c37
      refine lv_aload_n hx hb dX0_addVote_67 rfl (lv_at hl 1 rfl) ?_
      refine g_get hx hb hts hown hG.1 1 8 (by decide) (v := .ref (w.2.2.2 9)) rfl rfl gin0 (by decide) gm_12 (rfl) dX0_addVote_68 ?_
      refine lv_iload_n hx hb dX0_addVote_71 rfl (lv_at hl 2 rfl) ?_
      refine g_ialv (a := 7) (n := 24) (v := (f 7 t) ||| ((nI 1) <<< (v &&& 31))) hx hb hG.1 9 (by decide) (by decide) rfl rfl (i := t) (by omega) (by simp [gset, ez0, ez5, ez11, ez12, eo11, eo12, eu11, eu12, eu20]) dX0_addVote_72 ?_
      refine g_callS (As := [.int ((f 7 t) ||| ((nI 1) <<< (v &&& 31)))]) (rest := []) G.1 hG.1 ok_J6_bitCount_0f7a4 gm_28 gm_27 (c_J6_bitCount_0f7a4 l w (gset f 7 t ((f 7 t) ||| ((nI 1) <<< (v &&& 31)))) ((f 7 t) ||| ((nI 1) <<< (v &&& 31)))  ) ⟨rfl, rfl⟩ ⟨Nat.le_of_ble_eq_true rfl, Nat.le_of_ble_eq_true rfl⟩ rfl hl.1 rfl (Nat.le_of_ble_eq_true rfl) ⟨Nat.zero_le _, Nat.zero_le _⟩ dX0_addVote_73 ?_
      refine lv_iconst (v := nI 3) hx hb dX0_addVote_76 (by decide) ?_
      refine lv_icmp_lt (tgt := 94) hx hb dX0_addVote_77 (by decide) (fun c77 => ?_) (fun c77 => ?_)
      · skip
        have c77 : (pcn ((f 7 t) ||| ((nI 1) <<< (v &&& 31)))) < 3 := (g_lt pcn_lt (by omega)).mp c77
        refine lv_aload_n hx hb dX0_addVote_94 rfl (lv_at hl 1 rfl) ?_
        refine g_get hx hb hts hown hG.1 1 6 (by decide) (v := .ref (w.2.2.2 7)) rfl rfl gin0 (by decide) gm_10 (rfl) dX0_addVote_95 ?_
        refine lv_iload_n hx hb dX0_addVote_98 rfl (lv_at hl 2 rfl) ?_
        refine g_ialv (a := 5) (n := 24) (v := f 5 t) hx hb hG.1 7 (by decide) (by decide) rfl rfl (i := t) (by omega) (by simp [gset, ez0, ez5, ez11, ez12, eo11, eo12, eu11, eu12, eu20]) dX0_addVote_99 ?_
        exact g_iretW G hG (⟨by rw [avF_nn (f := f) (t := t) (v := v) c1 (by omega) (by omega)]; simp [gset, ez0, ez5, ez11, ez12, eo11, eo12, eu11, eu12, eu20], (avF_nn (f := f) (t := t) (v := v) c1 (by omega) (by omega)).symm⟩) dX0_addVote_100
      · skip
        have c77 : ¬ ((pcn ((f 7 t) ||| ((nI 1) <<< (v &&& 31)))) < 3) := fun q => c77 ((g_lt pcn_lt (by omega)).mpr q)
        refine lv_aload_n hx hb dX0_addVote_80 rfl (lv_at hl 1 rfl) ?_
        refine g_get hx hb hts hown hG.1 1 7 (by decide) (v := .ref (w.2.2.2 8)) rfl rfl gin0 (by decide) gm_11 (rfl) dX0_addVote_81 ?_
        refine lv_iload_n hx hb dX0_addVote_84 rfl (lv_at hl 2 rfl) ?_
        refine lv_iconst (v := nI 0) hx hb dX0_addVote_85 (by decide) ?_
        refine g_iast (a := 6) (n := 24) hx hb hG 8 (by decide) (by decide) rfl rfl (i := t) (by omega) dX0_addVote_86 (fun H locs hG => ?_)
        refine lv_aload_n hx hb dX0_addVote_87 rfl (lv_at hl 1 rfl) ?_
        refine g_get hx hb hts hown hG.1 1 8 (by decide) (v := .ref (w.2.2.2 9)) rfl rfl gin0 (by decide) gm_12 (rfl) dX0_addVote_88 ?_
        refine lv_iload_n hx hb dX0_addVote_91 rfl (lv_at hl 2 rfl) ?_
        refine lv_iconst (v := nI 0) hx hb dX0_addVote_92 (by decide) ?_
        refine g_iast (a := 7) (n := 24) hx hb hG 9 (by decide) (by decide) rfl rfl (i := t) (by omega) dX0_addVote_93 (fun H locs hG => ?_)
        refine lv_aload_n hx hb dX0_addVote_94 rfl (lv_at hl 1 rfl) ?_
        refine g_get hx hb hts hown hG.1 1 6 (by decide) (v := .ref (w.2.2.2 7)) rfl rfl gin0 (by decide) gm_10 (rfl) dX0_addVote_95 ?_
        refine lv_iload_n hx hb dX0_addVote_98 rfl (lv_at hl 2 rfl) ?_
        refine g_ialv (a := 5) (n := 24) (v := f 5 t) hx hb hG.1 7 (by decide) (by decide) rfl rfl (i := t) (by omega) (by simp [gset, ez0, ez5, ez11, ez12, eo11, eo12, eu11, eu12, eu20]) dX0_addVote_99 ?_
        exact g_iretW G hG (⟨by rw [avF_nc (f := f) (t := t) (v := v) c1 (by omega) (by omega)]; simp [gset, ez0, ez5, ez11, ez12, eo11, eo12, eu11, eu12, eu20], (avF_nc (f := f) (t := t) (v := v) c1 (by omega) (by omega)).symm⟩) dX0_addVote_100
    · skip
      have c37 : ¬ ((pcn (f 6 t)) < 3) := fun q => c37 ((g_lt pcn_lt (by omega)).mpr q)
      refine lv_aload_n hx hb dX0_addVote_40 rfl (lv_at hl 1 rfl) ?_
      refine g_get hx hb hts hown hG.1 1 6 (by decide) (v := .ref (w.2.2.2 7)) rfl rfl gin0 (by decide) gm_10 (rfl) dX0_addVote_41 ?_
      refine lv_iload_n hx hb dX0_addVote_44 rfl (lv_at hl 2 rfl) ?_
      refine lv_iconst (v := nI 1) hx hb dX0_addVote_45 (by decide) ?_
      refine g_iast (a := 5) (n := 24) hx hb hG 7 (by decide) (by decide) rfl rfl (i := t) (by omega) dX0_addVote_46 (fun H locs hG => ?_)
      have hI1 : gI (gset (gset f 7 t ((f 7 t) ||| ((nI 1) <<< (v &&& 31)))) 5 t (nI 1)) := gI_of (fun b _ => by simp [gset, ez0, ez5, ez11, ez12, eo11, eo12, eu11, eu12, eu20]) (by funext b; simp [gset, ez0, ez5, ez11, ez12, eo11, eo12, eu11, eu12, eu20]) hI
      refine lv_aload_n hx hb dX0_addVote_47 rfl (lv_at hl 1 rfl) ?_
      refine lv_iload_n hx hb dX0_addVote_48 rfl (lv_at hl 2 rfl) ?_
      refine lv_aload_n hx hb dX0_addVote_49 rfl (lv_at hl 1 rfl) ?_
      refine g_get hx hb hts hown hG.1 1 4 (by decide) (v := .ref (w.2.2.2 5)) rfl rfl gin0 (by decide) gm_8 (rfl) dX0_addVote_50 ?_
      refine lv_iload_n hx hb dX0_addVote_53 rfl (lv_at hl 2 rfl) ?_
      refine g_ialv (a := 3) (n := 24) (v := f 3 t) hx hb hG.1 5 (by decide) (by decide) rfl rfl (i := t) (by omega) (by simp [gset, ez0, ez5, ez11, ez12, eo11, eo12, eu11, eu12, eu20]) dX0_addVote_54 ?_
      refine lv_aload_n hx hb dX0_addVote_55 rfl (lv_at hl 1 rfl) ?_
      refine g_get hx hb hts hown hG.1 1 5 (by decide) (v := .ref (w.2.2.2 6)) rfl rfl gin0 (by decide) gm_9 (rfl) dX0_addVote_56 ?_
      refine lv_iload_n hx hb dX0_addVote_59 rfl (lv_at hl 2 rfl) ?_
      refine g_ialv (a := 4) (n := 24) (v := f 4 t) hx hb hG.1 6 (by decide) (by decide) rfl rfl (i := t) (by omega) (by simp [gset, ez0, ez5, ez11, ez12, eo11, eo12, eu11, eu12, eu20]) dX0_addVote_60 ?_
      refine g_callW (As := [.int (nI t), .int (f 3 t), .int (f 4 t)]) (rest := []) G.1 hG 1 (by decide) rfl rfl ok_X0_makeKnown gm_32 gm_33 gm_31 (c_X0_makeKnown l w (gset (gset f 7 t ((f 7 t) ||| ((nI 1) <<< (v &&& 31)))) 5 t (nI 1)) t (f 3 t) (f 4 t) hI1 ) ⟨rfl, rfl⟩ ⟨Nat.le_of_ble_eq_true rfl, Nat.le_of_ble_eq_true rfl⟩ rfl hl.1 rfl (Nat.le_of_ble_eq_true rfl) ⟨Nat.zero_le _, Nat.zero_le _⟩ dX0_addVote_61 (fun v f61 H locs hp hG => ?_)
      obtain ⟨rfl, rfl⟩ := hp
      refine lv_goto (tgt := 94) hx hb dX0_addVote_64 (by decide) ?_
      refine lv_aload_n hx hb dX0_addVote_94 rfl (lv_at hl 1 rfl) ?_
      refine g_get hx hb hts hown hG.1 1 6 (by decide) (v := .ref (w.2.2.2 7)) rfl rfl gin0 (by decide) gm_10 (rfl) dX0_addVote_95 ?_
      refine lv_iload_n hx hb dX0_addVote_98 rfl (lv_at hl 2 rfl) ?_
      refine g_ialn (a := 5) (n := 24) hx hb hG.1 7 (by decide) (by decide) rfl rfl (i := t) (by omega) dX0_addVote_99 ?_
      exact g_iretW G hG (⟨by rw [avF_na (f := f) (t := t) (v := v) c1 (by omega)], (avF_na (f := f) (t := t) (v := v) c1 (by omega)).symm⟩) dX0_addVote_100
  · skip
    have c1 : b := g_if1.mp c1
    refine lv_aload_n hx hb dX0_addVote_4 rfl (lv_at hl 0 rfl) ?_
    refine g_get hx hb hts hown hG.1 1 7 (by decide) (v := .ref (w.2.2.2 8)) rfl rfl gin0 (by decide) gm_11 (rfl) dX0_addVote_5 ?_
    refine lv_goto (tgt := 15) hx hb dX0_addVote_8 (by decide) ?_
    refine lv_astore (lv' := [(4, .ref (w.2.2.2 8)), (0, .ref (w.2.2.2 1)), (1, .int (nI t)), (2, .int v), (3, .int (if b then 1 else 0))]) hx hb dX0_addVote_15 hl (by decide) rfl (fun ls hl => ?_)
    refine lv_aload hx hb dX0_addVote_17 (lv_at hl 0 rfl) ?_
    refine lv_iload_n hx hb dX0_addVote_19 rfl (lv_at hl 2 rfl) ?_
    refine lv_dup2_11 hx hb dX0_addVote_20 rfl rfl ?_
    refine g_ialn (a := 6) (n := 24) hx hb hG.1 8 (by decide) (by decide) rfl rfl (i := t) (by omega) dX0_addVote_21 ?_
    refine lv_iconst (v := nI 1) hx hb dX0_addVote_22 (by decide) ?_
    refine lv_iload_n hx hb dX0_addVote_23 rfl (lv_at hl 3 rfl) ?_
    refine lv_ishl hx hb dX0_addVote_24 ?_
    refine lv_ior hx hb dX0_addVote_25 ?_
    refine g_iast (a := 6) (n := 24) hx hb hG 8 (by decide) (by decide) rfl rfl (i := t) (by omega) dX0_addVote_26 (fun H locs hG => ?_)
    refine lv_aload_n hx hb dX0_addVote_27 rfl (lv_at hl 1 rfl) ?_
    refine g_get hx hb hts hown hG.1 1 7 (by decide) (v := .ref (w.2.2.2 8)) rfl rfl gin0 (by decide) gm_11 (rfl) dX0_addVote_28 ?_
    refine lv_iload_n hx hb dX0_addVote_31 rfl (lv_at hl 2 rfl) ?_
    refine g_ialv (a := 6) (n := 24) (v := (f 6 t) ||| ((nI 1) <<< (v &&& 31))) hx hb hG.1 8 (by decide) (by decide) rfl rfl (i := t) (by omega) (by simp [gset, ez0, ez5, ez11, ez12, eo11, eo12, eu11, eu12, eu20]) dX0_addVote_32 ?_
    refine g_callS (As := [.int ((f 6 t) ||| ((nI 1) <<< (v &&& 31)))]) (rest := []) G.1 hG.1 ok_J6_bitCount_0f7a4 gm_28 gm_27 (c_J6_bitCount_0f7a4 l w (gset f 6 t ((f 6 t) ||| ((nI 1) <<< (v &&& 31)))) ((f 6 t) ||| ((nI 1) <<< (v &&& 31)))  ) ⟨rfl, rfl⟩ ⟨Nat.le_of_ble_eq_true rfl, Nat.le_of_ble_eq_true rfl⟩ rfl hl.1 rfl (Nat.le_of_ble_eq_true rfl) ⟨Nat.zero_le _, Nat.zero_le _⟩ dX0_addVote_33 ?_
    refine lv_iconst (v := nI 3) hx hb dX0_addVote_36 (by decide) ?_
    refine lv_icmp_lt (tgt := 67) hx hb dX0_addVote_37 (by decide) (fun c37 => ?_) (fun c37 => ?_)
    · skip
      have c37 : (pcn ((f 6 t) ||| ((nI 1) <<< (v &&& 31)))) < 3 := (g_lt pcn_lt (by omega)).mp c37
      refine lv_aload_n hx hb dX0_addVote_67 rfl (lv_at hl 1 rfl) ?_
      refine g_get hx hb hts hown hG.1 1 8 (by decide) (v := .ref (w.2.2.2 9)) rfl rfl gin0 (by decide) gm_12 (rfl) dX0_addVote_68 ?_
      refine lv_iload_n hx hb dX0_addVote_71 rfl (lv_at hl 2 rfl) ?_
      refine g_ialv (a := 7) (n := 24) (v := f 7 t) hx hb hG.1 9 (by decide) (by decide) rfl rfl (i := t) (by omega) (by simp [gset, ez0, ez5, ez11, ez12, eo11, eo12, eu11, eu12, eu20]) dX0_addVote_72 ?_
      refine g_callS (As := [.int (f 7 t)]) (rest := []) G.1 hG.1 ok_J6_bitCount_0f7a4 gm_28 gm_27 (c_J6_bitCount_0f7a4 l w (gset f 6 t ((f 6 t) ||| ((nI 1) <<< (v &&& 31)))) (f 7 t)  ) ⟨rfl, rfl⟩ ⟨Nat.le_of_ble_eq_true rfl, Nat.le_of_ble_eq_true rfl⟩ rfl hl.1 rfl (Nat.le_of_ble_eq_true rfl) ⟨Nat.zero_le _, Nat.zero_le _⟩ dX0_addVote_73 ?_
      refine lv_iconst (v := nI 3) hx hb dX0_addVote_76 (by decide) ?_
      refine lv_icmp_lt (tgt := 94) hx hb dX0_addVote_77 (by decide) (fun c77 => ?_) (fun c77 => ?_)
      · skip
        have c77 : (pcn (f 7 t)) < 3 := (g_lt pcn_lt (by omega)).mp c77
        refine lv_aload_n hx hb dX0_addVote_94 rfl (lv_at hl 1 rfl) ?_
        refine g_get hx hb hts hown hG.1 1 6 (by decide) (v := .ref (w.2.2.2 7)) rfl rfl gin0 (by decide) gm_10 (rfl) dX0_addVote_95 ?_
        refine lv_iload_n hx hb dX0_addVote_98 rfl (lv_at hl 2 rfl) ?_
        refine g_ialv (a := 5) (n := 24) (v := f 5 t) hx hb hG.1 7 (by decide) (by decide) rfl rfl (i := t) (by omega) (by simp [gset, ez0, ez5, ez11, ez12, eo11, eo12, eu11, eu12, eu20]) dX0_addVote_99 ?_
        exact g_iretW G hG (⟨by rw [avF_yn (f := f) (t := t) (v := v) c1 (by omega) (by omega)]; simp [gset, ez0, ez5, ez11, ez12, eo11, eo12, eu11, eu12, eu20], (avF_yn (f := f) (t := t) (v := v) c1 (by omega) (by omega)).symm⟩) dX0_addVote_100
      · skip
        have c77 : ¬ ((pcn (f 7 t)) < 3) := fun q => c77 ((g_lt pcn_lt (by omega)).mpr q)
        refine lv_aload_n hx hb dX0_addVote_80 rfl (lv_at hl 1 rfl) ?_
        refine g_get hx hb hts hown hG.1 1 7 (by decide) (v := .ref (w.2.2.2 8)) rfl rfl gin0 (by decide) gm_11 (rfl) dX0_addVote_81 ?_
        refine lv_iload_n hx hb dX0_addVote_84 rfl (lv_at hl 2 rfl) ?_
        refine lv_iconst (v := nI 0) hx hb dX0_addVote_85 (by decide) ?_
        refine g_iast (a := 6) (n := 24) hx hb hG 8 (by decide) (by decide) rfl rfl (i := t) (by omega) dX0_addVote_86 (fun H locs hG => ?_)
        refine lv_aload_n hx hb dX0_addVote_87 rfl (lv_at hl 1 rfl) ?_
        refine g_get hx hb hts hown hG.1 1 8 (by decide) (v := .ref (w.2.2.2 9)) rfl rfl gin0 (by decide) gm_12 (rfl) dX0_addVote_88 ?_
        refine lv_iload_n hx hb dX0_addVote_91 rfl (lv_at hl 2 rfl) ?_
        refine lv_iconst (v := nI 0) hx hb dX0_addVote_92 (by decide) ?_
        refine g_iast (a := 7) (n := 24) hx hb hG 9 (by decide) (by decide) rfl rfl (i := t) (by omega) dX0_addVote_93 (fun H locs hG => ?_)
        refine lv_aload_n hx hb dX0_addVote_94 rfl (lv_at hl 1 rfl) ?_
        refine g_get hx hb hts hown hG.1 1 6 (by decide) (v := .ref (w.2.2.2 7)) rfl rfl gin0 (by decide) gm_10 (rfl) dX0_addVote_95 ?_
        refine lv_iload_n hx hb dX0_addVote_98 rfl (lv_at hl 2 rfl) ?_
        refine g_ialv (a := 5) (n := 24) (v := f 5 t) hx hb hG.1 7 (by decide) (by decide) rfl rfl (i := t) (by omega) (by simp [gset, ez0, ez5, ez11, ez12, eo11, eo12, eu11, eu12, eu20]) dX0_addVote_99 ?_
        exact g_iretW G hG (⟨by rw [avF_yc (f := f) (t := t) (v := v) c1 (by omega) (by omega)]; simp [gset, ez0, ez5, ez11, ez12, eo11, eo12, eu11, eu12, eu20], (avF_yc (f := f) (t := t) (v := v) c1 (by omega) (by omega)).symm⟩) dX0_addVote_100
    · skip
      have c37 : ¬ ((pcn ((f 6 t) ||| ((nI 1) <<< (v &&& 31)))) < 3) := fun q => c37 ((g_lt pcn_lt (by omega)).mpr q)
      refine lv_aload_n hx hb dX0_addVote_40 rfl (lv_at hl 1 rfl) ?_
      refine g_get hx hb hts hown hG.1 1 6 (by decide) (v := .ref (w.2.2.2 7)) rfl rfl gin0 (by decide) gm_10 (rfl) dX0_addVote_41 ?_
      refine lv_iload_n hx hb dX0_addVote_44 rfl (lv_at hl 2 rfl) ?_
      refine lv_iconst (v := nI 1) hx hb dX0_addVote_45 (by decide) ?_
      refine g_iast (a := 5) (n := 24) hx hb hG 7 (by decide) (by decide) rfl rfl (i := t) (by omega) dX0_addVote_46 (fun H locs hG => ?_)
      have hI1 : gI (gset (gset f 6 t ((f 6 t) ||| ((nI 1) <<< (v &&& 31)))) 5 t (nI 1)) := gI_of (fun b _ => by simp [gset, ez0, ez5, ez11, ez12, eo11, eo12, eu11, eu12, eu20]) (by funext b; simp [gset, ez0, ez5, ez11, ez12, eo11, eo12, eu11, eu12, eu20]) hI
      refine lv_aload_n hx hb dX0_addVote_47 rfl (lv_at hl 1 rfl) ?_
      refine lv_iload_n hx hb dX0_addVote_48 rfl (lv_at hl 2 rfl) ?_
      refine lv_aload_n hx hb dX0_addVote_49 rfl (lv_at hl 1 rfl) ?_
      refine g_get hx hb hts hown hG.1 1 4 (by decide) (v := .ref (w.2.2.2 5)) rfl rfl gin0 (by decide) gm_8 (rfl) dX0_addVote_50 ?_
      refine lv_iload_n hx hb dX0_addVote_53 rfl (lv_at hl 2 rfl) ?_
      refine g_ialv (a := 3) (n := 24) (v := f 3 t) hx hb hG.1 5 (by decide) (by decide) rfl rfl (i := t) (by omega) (by simp [gset, ez0, ez5, ez11, ez12, eo11, eo12, eu11, eu12, eu20]) dX0_addVote_54 ?_
      refine lv_aload_n hx hb dX0_addVote_55 rfl (lv_at hl 1 rfl) ?_
      refine g_get hx hb hts hown hG.1 1 5 (by decide) (v := .ref (w.2.2.2 6)) rfl rfl gin0 (by decide) gm_9 (rfl) dX0_addVote_56 ?_
      refine lv_iload_n hx hb dX0_addVote_59 rfl (lv_at hl 2 rfl) ?_
      refine g_ialv (a := 4) (n := 24) (v := f 4 t) hx hb hG.1 6 (by decide) (by decide) rfl rfl (i := t) (by omega) (by simp [gset, ez0, ez5, ez11, ez12, eo11, eo12, eu11, eu12, eu20]) dX0_addVote_60 ?_
      refine g_callW (As := [.int (nI t), .int (f 3 t), .int (f 4 t)]) (rest := []) G.1 hG 1 (by decide) rfl rfl ok_X0_makeKnown gm_32 gm_33 gm_31 (c_X0_makeKnown l w (gset (gset f 6 t ((f 6 t) ||| ((nI 1) <<< (v &&& 31)))) 5 t (nI 1)) t (f 3 t) (f 4 t) hI1 ) ⟨rfl, rfl⟩ ⟨Nat.le_of_ble_eq_true rfl, Nat.le_of_ble_eq_true rfl⟩ rfl hl.1 rfl (Nat.le_of_ble_eq_true rfl) ⟨Nat.zero_le _, Nat.zero_le _⟩ dX0_addVote_61 (fun v f61 H locs hp hG => ?_)
      obtain ⟨rfl, rfl⟩ := hp
      refine lv_goto (tgt := 94) hx hb dX0_addVote_64 (by decide) ?_
      refine lv_aload_n hx hb dX0_addVote_94 rfl (lv_at hl 1 rfl) ?_
      refine g_get hx hb hts hown hG.1 1 6 (by decide) (v := .ref (w.2.2.2 7)) rfl rfl gin0 (by decide) gm_10 (rfl) dX0_addVote_95 ?_
      refine lv_iload_n hx hb dX0_addVote_98 rfl (lv_at hl 2 rfl) ?_
      refine g_ialn (a := 5) (n := 24) hx hb hG.1 7 (by decide) (by decide) rfl rfl (i := t) (by omega) dX0_addVote_99 ?_
      exact g_iretW G hG (⟨by rw [avF_ya (f := f) (t := t) (v := v) c1 (by omega)], (avF_ya (f := f) (t := t) (v := v) c1 (by omega)).symm⟩) dX0_addVote_100
theorem ok_X1_addDocument : gOK yX1_addDocument cX1_addDocument 2 (some .int) 0 := ⟨gm_280, gm_86, by decide +kernel⟩
set_option maxRecDepth 100000 in
set_option maxHeartbeats 4000000 in
theorem c_X1_addDocument (l : Launch) (w : GP) (f : CS)  (hI : gI f) (h : nD f < 6) : Met l yX1_addDocument (gws yX1_addDocument cX1_addDocument 2 (some .int)) ({ frames := 0, cells := 0, slots := 0, locals := 0 }) (gPc w f [.ref (w.2.2.2 2)]) (gWr w (fun v_ f_ => v_ = some (.int (nI (nD f))) ∧ f_ = gset f 0 2 (nI (nD f + 1)))) 0 0 (gA w) := by
  refine g_read (by decide) (Nat.le_of_ble_eq_true rfl) ?_
  intro P_ E_ S_ M_ B_ T_ C_ ls G hV hl
  obtain ⟨hx, hb, hml, hown, hts⟩ := id G.1
  obtain ⟨⟨hT, hT24⟩, ⟨hC, hC12⟩, ⟨hD, hD6⟩, hLn⟩ := id hI
  have hl : lv_has ls 2 [(0, .ref (w.2.2.2 2))] := hl
  have hG := hV.start
  obtain ⟨H, hH⟩ : ∃ H, H = S_.heap := ⟨_, rfl⟩
  obtain ⟨locs, hL⟩ : ∃ L : List Loc, L = [] := ⟨_, rfl⟩
  rw [← hH, ← hL] at hG
  suffices K : ∀ (H : Heap) (locs : List Loc), GS w (gA w) S_ H locs f → W P_ l E_ _ S_ M_ _ B_ T_ C_ H locs 0 0 _ (F0 M_ 0 ls []) from by have := K H locs hG; rw [hH, hL] at this; exact this
  clear hG hH hL; intro H locs hG
  refine lv_aload_n hx hb dX1_addDocument_0 rfl (lv_at hl 0 rfl) ?_
  refine g_get hx hb hts hown hG.1 2 1 (by decide) (v := .int (nI (nD f))) rfl rfl gin1 (by decide) gm_64 (by rw [← hD]; rfl) dX1_addDocument_1 ?_
  refine lv_istore_n (lv' := [(1, .int (nI (nD f))), (0, .ref (w.2.2.2 2))]) hx hb dX1_addDocument_4 rfl hl (by decide) rfl (fun ls hl => ?_)
  refine lv_aload_n hx hb dX1_addDocument_5 rfl (lv_at hl 1 rfl) ?_
  refine lv_dup hx hb dX1_addDocument_6 rfl ?_
  refine g_get hx hb hts hown hG.1 2 1 (by decide) (v := .int (nI (nD f))) rfl rfl gin1 (by decide) gm_64 (by rw [← hD]; rfl) dX1_addDocument_7 ?_
  refine lv_iconst (v := nI 1) hx hb dX1_addDocument_10 (by decide) ?_
  refine g_iaddn hx hb dX1_addDocument_11 ?_
  refine g_put (a := 2) hx hb hts hown hG 2 1 (by decide) rfl rfl gin1 tyX1_ok nmX1 (by decide) gm_64 rfl (by decide +kernel) (Nat.le_of_ble_eq_true rfl) dX1_addDocument_12 (by simp [gE, gset]) (fun i _ h => gE_num (by decide) h) (fun H locs hG => ?_)
  refine lv_iload_n hx hb dX1_addDocument_15 rfl (lv_at hl 0 rfl) ?_
  exact g_iretW G hG (⟨rfl, rfl⟩) dX1_addDocument_16
theorem ok_X1_read : gOK yX1_read cX1_read 3 none 1 := ⟨gm_101, gm_86, by decide +kernel⟩
set_option maxRecDepth 100000 in
set_option maxHeartbeats 4000000 in
theorem c_X1_read (l : Launch) (w : GP) (f : CS) (t : Nat) (hI : gI f) (ht : t < 18) : Met l yX1_read (gws yX1_read cX1_read 3 none) ({ frames := 4, cells := 0, slots := 0, locals := 105 }) (gPc w f [.ref (w.2.2.2 2), .int (nI t)]) (gWr w (fun v_ f_ => v_ = none ∧ f_ = rdF f t (nL f t))) 0 0 (gA w) := by
  refine g_read (by decide) (Nat.le_of_ble_eq_true rfl) ?_
  intro P_ E_ S_ M_ B_ T_ C_ ls G hV hl
  obtain ⟨hx, hb, hml, hown, hts⟩ := id G.1
  obtain ⟨⟨hT, hT24⟩, ⟨hC, hC12⟩, ⟨hD, hD6⟩, hLn⟩ := id hI
  have hl : lv_has ls 3 [(0, .ref (w.2.2.2 2)), (1, .int (nI t))] := hl
  have hG := hV.start
  obtain ⟨H, hH⟩ : ∃ H, H = S_.heap := ⟨_, rfl⟩
  obtain ⟨locs, hL⟩ : ∃ L : List Loc, L = [] := ⟨_, rfl⟩
  rw [← hH, ← hL] at hG
  suffices K : ∀ (H : Heap) (locs : List Loc), GS w (gA w) S_ H locs f → W P_ l E_ _ S_ M_ _ B_ T_ C_ H locs 0 0 _ (F0 M_ 0 ls []) from by have := K H locs hG; rw [hH, hL] at this; exact this
  clear hG hH hL; intro H locs hG
  have hLt := hLn t ht
  refine lv_iconst (v := nI 0) hx hb dX1_read_0 (by decide) ?_
  refine lv_istore_n (lv' := [(2, .int (nI 0)), (0, .ref (w.2.2.2 2)), (1, .int (nI t))]) hx hb dX1_read_1 rfl hl (by decide) rfl (fun ls hl => ?_)
  refine g_for (P := fun k => ∀ (H : Heap) (locs : List Loc) (ls : Array Slot), GS w (gA w) S_ H locs (rdF f t k) → lv_has ls 3 [(2, .int (nI k)), (0, .ref (w.2.2.2 2)), (1, .int (nI t))] → W P_ l E_ _ S_ M_ _ B_ T_ C_ H locs 0 0 _ (F0 M_ 2 ls [])) (nL f t) ?_ ?_ 0 (Nat.zero_le _) H locs ls (by rw [rdF_0]; exact hG) (lv_sub hl [0, 1, 2] rfl)
  · intro k hk ih H locs ls hG hl
    refine lv_iload_n hx hb dX1_read_2 rfl (lv_at hl 0 rfl) ?_
    refine lv_aload_n hx hb dX1_read_3 rfl (lv_at hl 1 rfl) ?_
    refine g_get hx hb hts hown hG.1 2 2 (by decide) (v := .ref (w.2.2.2 16)) rfl rfl gin1 (by decide) gm_65 (rfl) dX1_read_4 ?_
    refine lv_iload_n hx hb dX1_read_7 rfl (lv_at hl 2 rfl) ?_
    refine g_ialv (a := 11) (n := 18) (v := nI (nL f t)) hx hb hG.1 16 (by decide) (by decide) rfl rfl (i := t) (by omega) (by rw [rdF_row (by omega)]; exact hLt.1) dX1_read_8 ?_
    refine lv_icmp_ge (tgt := 42) hx hb dX1_read_9 (by decide) (fun c9 => ?_) (fun c9 => ?_)
    · skip
      have c9 : (nL f t) ≤ k := (g_le (by omega) (by omega)).mp c9
      exact absurd c9 (by omega)
    · skip
      have c9 : ¬ ((nL f t) ≤ k) := fun q => c9 ((g_le (by omega) (by omega)).mpr q)
      have hIk : gI (rdF f t k) := (rdF_ag ht).I hI
      refine lv_aload_n hx hb dX1_read_12 rfl (lv_at hl 1 rfl) ?_
      refine g_get hx hb hts hown hG.1 2 5 (by decide) (v := .ref (w.2.2.2 37)) rfl rfl gin1 (by decide) gm_69 (rfl) dX1_read_13 ?_
      refine lv_iload_n hx hb dX1_read_16 rfl (lv_at hl 2 rfl) ?_
      refine g_row (n := 18) (b := 38) hx hb hG.1 37 (by decide) rfl (i := t) (by omega) (by decide) dX1_read_17 ?_
      refine lv_iload_n hx hb dX1_read_18 rfl (lv_at hl 0 rfl) ?_
      refine lv_aload_n hx hb dX1_read_19 rfl (lv_at hl 1 rfl) ?_
      refine lv_iload_n hx hb dX1_read_20 rfl (lv_at hl 2 rfl) ?_
      refine lv_iload_n hx hb dX1_read_21 rfl (lv_at hl 0 rfl) ?_
      refine lv_aload_n hx hb dX1_read_22 rfl (lv_at hl 1 rfl) ?_
      refine g_get hx hb hts hown hG.1 2 4 (by decide) (v := .ref (w.2.2.2 18)) rfl rfl gin1 (by decide) gm_68 (rfl) dX1_read_23 ?_
      refine lv_iload_n hx hb dX1_read_26 rfl (lv_at hl 2 rfl) ?_
      refine g_row (n := 18) (b := 19) hx hb hG.1 18 (by decide) rfl (i := t) (by omega) (by decide) dX1_read_27 ?_
      refine lv_iload_n hx hb dX1_read_28 rfl (lv_at hl 0 rfl) ?_
      refine g_ialv (a := 20 + t) (n := 12) (v := f (20 + t) k) hx hb hG.1 (19 + t) (by omega) (by omega) (gid_19 (by omega)) (gn_19 (by omega)) (i := k) (by omega) (rdF_row (by omega)) dX1_read_29 ?_
      refine lv_iconst (v := -1) hx hb dX1_read_30 (by decide) ?_
      refine lv_iconst (v := -1) hx hb dX1_read_31 (by decide) ?_
      refine g_callV (As := [.int (nI t), .int (nI k), .int (f (20 + t) k), .int (-1), .int (-1)]) (rest := [.int (nI k), .ref (w.2.2.2 (38 + t))]) G.1 hG.1 2 (by decide) rfl rfl ok_X1_useOf gm_95 gm_96 gm_94 (c_X1_useOf l w (rdF f t k) t k (f (20 + t) k) (-1) (-1) hIk (by omega) (by omega)) ⟨rfl, rfl⟩ ⟨Nat.le_of_ble_eq_true rfl, Nat.le_of_ble_eq_true rfl⟩ rfl hl.1 rfl (Nat.le_of_ble_eq_true rfl) ⟨Nat.zero_le _, Nat.zero_le _⟩ dX1_read_32 ?_
      refine g_iast (a := 40 + t) (n := 12) hx hb hG (38 + t) (by omega) (by omega) (gid_38 (by omega)) (gn_38 (by omega)) (i := k) (by omega) dX1_read_35 (fun H locs hG => ?_)
      refine lv_iinc (v := nI (k + 1)) (lv' := [(2, .int (nI (k + 1))), (0, .ref (w.2.2.2 2)), (1, .int (nI t))]) hx hb dX1_read_36 hl (k := 0) rfl (g_inc k 1) (by decide) rfl (fun ls hl => ?_)
      refine lv_goto (tgt := 2) hx hb dX1_read_39 (by decide) ?_
      refine ih H locs ls (by rw [show rdF f t (k + 1) = gset (rdF f t k) (40 + t) k (useF (rdF f t k) t k (f (20 + t) k) (-1) (-1)) from rdF_s ht]; exact hG) ?_
      exact lv_sub hl [0, 1, 2] rfl
  · intro H locs ls hG hl
    refine lv_iload_n hx hb dX1_read_2 rfl (lv_at hl 0 rfl) ?_
    refine lv_aload_n hx hb dX1_read_3 rfl (lv_at hl 1 rfl) ?_
    refine g_get hx hb hts hown hG.1 2 2 (by decide) (v := .ref (w.2.2.2 16)) rfl rfl gin1 (by decide) gm_65 (rfl) dX1_read_4 ?_
    refine lv_iload_n hx hb dX1_read_7 rfl (lv_at hl 2 rfl) ?_
    refine g_ialv (a := 11) (n := 18) (v := nI (nL f t)) hx hb hG.1 16 (by decide) (by decide) rfl rfl (i := t) (by omega) (by rw [rdF_row (by omega)]; exact hLt.1) dX1_read_8 ?_
    refine lv_icmp_ge (tgt := 42) hx hb dX1_read_9 (by decide) (fun c9 => ?_) (fun c9 => ?_)
    · skip
      have c9 : (nL f t) ≤ (nL f t) := (g_le (by omega) (by omega)).mp c9
      exact g_vretW G hG (⟨rfl, rfl⟩) dX1_read_42
    · skip
      have c9 : ¬ ((nL f t) ≤ (nL f t)) := fun q => c9 ((g_le (by omega) (by omega)).mpr q)
      exact absurd c9 (by omega)
theorem ok_X1_put : gOK yX1_put cX1_put 4 (some .int) 3 := ⟨gm_301, gm_86, by decide +kernel⟩
theorem puI_y {f : CS} {t p : Nat} {x : Int32} (hI : gI f) (ht : t < 18) (hp : nL f t < 12) (h : p = nL f t) : gI (gset (gset (gset f (20 + t) p x) 11 t (nI (nL f t + 1))) 12 t (nI 0)) := by
  have e0 : ∀ b, gset (gset (gset f (20 + t) p x) 11 t (nI (nL f t + 1))) 12 t (nI 0) 0 b = f 0 b := fun b => by simp [gset, ez0, ez5, ez11, ez12, eo11, eo12, eu11, eu12, eu20]
  refine ⟨?_, ?_, ?_, ?_⟩
  · unfold nT; rw [e0]; exact hI.1
  · unfold nC; rw [e0]; exact hI.2.1
  · unfold nD; rw [e0]; exact hI.2.2.1
  · intro q hq
    by_cases e : q = t
    · subst e
      have e1 : gset (gset (gset f (20 + q) p x) 11 q (nI (nL f q + 1))) 12 q (nI 0) 11 q = nI (nL f q + 1) := by simp [gset, ez0, ez5, ez11, ez12, eo11, eo12, eu11, eu12, eu20]
      unfold nL at e1 ⊢
      rw [e1, nI_clamp (by unfold nL at hp; omega)]
      exact ⟨rfl, by unfold nL at hp; omega⟩
    · have e1 : gset (gset (gset f (20 + t) p x) 11 t (nI (nL f t + 1))) 12 t (nI 0) 11 q = f 11 q := by simp [gset, e, ez11, ez12, eo11, eo12]
      unfold nL at e1 ⊢
      rw [e1]
      exact hI.2.2.2 q hq
theorem puI_n {f : CS} {t p : Nat} {x : Int32} (hI : gI f) (ht : t < 18) : gI (gset (gset f (20 + t) p x) 12 t (nI 0)) := gI_of (fun b _ => by simp [gset, ez0, ez5, ez11, ez12, eo11, eo12, eu11, eu12, eu20]) (by funext b; simp [gset, ez0, ez5, ez11, ez12, eo11, eo12, eu11, eu12, eu20]) hI
set_option maxRecDepth 100000 in
set_option maxHeartbeats 4000000 in
theorem c_X1_put (l : Launch) (w : GP) (f : CS) (t : Nat) (p : Nat) (x : Int32) (hI : gI f) (ht : t < 18) (hp : p ≤ nL f t) (hp2 : p < 12) : Met l yX1_put (gws yX1_put cX1_put 4 (some .int)) ({ frames := 5, cells := 0, slots := 0, locals := 127 }) (gPc w f [.ref (w.2.2.2 2), .int (nI t), .int (nI p), .int x]) (gWr w (fun v_ f_ => v_ = some (.int (nI (puN f t p))) ∧ f_ = puF f t p x)) 0 0 (gA w) := by
  refine g_read (by decide) (Nat.le_of_ble_eq_true rfl) ?_
  intro P_ E_ S_ M_ B_ T_ C_ ls G hV hl
  obtain ⟨hx, hb, hml, hown, hts⟩ := id G.1
  obtain ⟨⟨hT, hT24⟩, ⟨hC, hC12⟩, ⟨hD, hD6⟩, hLn⟩ := id hI
  have hl : lv_has ls 4 [(0, .ref (w.2.2.2 2)), (1, .int (nI t)), (2, .int (nI p)), (3, .int x)] := hl
  have hG := hV.start
  obtain ⟨H, hH⟩ : ∃ H, H = S_.heap := ⟨_, rfl⟩
  obtain ⟨locs, hL⟩ : ∃ L : List Loc, L = [] := ⟨_, rfl⟩
  rw [← hH, ← hL] at hG
  suffices K : ∀ (H : Heap) (locs : List Loc), GS w (gA w) S_ H locs f → W P_ l E_ _ S_ M_ _ B_ T_ C_ H locs 0 0 _ (F0 M_ 0 ls []) from by have := K H locs hG; rw [hH, hL] at this; exact this
  clear hG hH hL; intro H locs hG
  have hLt := hLn t ht
  refine lv_aload_n hx hb dX1_put_0 rfl (lv_at hl 0 rfl) ?_
  refine g_get hx hb hts hown hG.1 2 4 (by decide) (v := .ref (w.2.2.2 18)) rfl rfl gin1 (by decide) gm_68 (rfl) dX1_put_1 ?_
  refine lv_iload_n hx hb dX1_put_4 rfl (lv_at hl 1 rfl) ?_
  refine g_row (n := 18) (b := 19) hx hb hG.1 18 (by decide) rfl (i := t) (by omega) (by decide) dX1_put_5 ?_
  refine lv_iload_n hx hb dX1_put_6 rfl (lv_at hl 2 rfl) ?_
  refine lv_iload_n hx hb dX1_put_7 rfl (lv_at hl 3 rfl) ?_
  refine g_iast (a := 20 + t) (n := 12) hx hb hG (19 + t) (by omega) (by omega) (gid_19 (by omega)) (gn_19 (by omega)) (i := p) (by omega) dX1_put_8 (fun H locs hG => ?_)
  refine lv_iload_n hx hb dX1_put_9 rfl (lv_at hl 2 rfl) ?_
  refine lv_aload_n hx hb dX1_put_10 rfl (lv_at hl 0 rfl) ?_
  refine g_get hx hb hts hown hG.1 2 2 (by decide) (v := .ref (w.2.2.2 16)) rfl rfl gin1 (by decide) gm_65 (rfl) dX1_put_11 ?_
  refine lv_iload_n hx hb dX1_put_14 rfl (lv_at hl 1 rfl) ?_
  refine g_ialv (a := 11) (n := 18) (v := nI (nL f t)) hx hb hG.1 16 (by decide) (by decide) rfl rfl (i := t) (by omega) (by simp [gset, ez0, ez5, ez11, ez12, eo11, eo12, eu11, eu12, eu20]; exact (hLn t (by omega)).1) dX1_put_15 ?_
  refine lv_icmp_ne (tgt := 29) hx hb dX1_put_16 (by decide) (fun c16 => ?_) (fun c16 => ?_)
  · skip
    have c16 : ¬ (p = (nL f t)) := fun q => c16 ((g_eq (by omega) (by omega)).mpr q)
    refine lv_aload_n hx hb dX1_put_29 rfl (lv_at hl 0 rfl) ?_
    refine g_get hx hb hts hown hG.1 2 3 (by decide) (v := .ref (w.2.2.2 17)) rfl rfl gin1 (by decide) gm_66 (rfl) dX1_put_30 ?_
    refine lv_iload_n hx hb dX1_put_33 rfl (lv_at hl 1 rfl) ?_
    refine lv_iconst (v := nI 0) hx hb dX1_put_34 (by decide) ?_
    refine g_iast (a := 12) (n := 18) hx hb hG 17 (by decide) (by decide) rfl rfl (i := t) (by omega) dX1_put_35 (fun H locs hG => ?_)
    have e3 : nL (gset (gset f (20 + t) p x) 12 t (nI 0)) t = nL f t := by simp [nL, gset, ez0, ez11, ez12, eo11, eo12]
    have hI3 : gI (gset (gset f (20 + t) p x) 12 t (nI 0)) := puI_n hI ht
    refine lv_aload_n hx hb dX1_put_36 rfl (lv_at hl 0 rfl) ?_
    refine lv_iload_n hx hb dX1_put_37 rfl (lv_at hl 1 rfl) ?_
    refine g_callW (As := [.int (nI t)]) (rest := []) G.1 hG 2 (by decide) rfl rfl ok_X1_read gm_99 gm_100 gm_98 (c_X1_read l w (gset (gset f (20 + t) p x) 12 t (nI 0)) t hI3 (by omega)) ⟨rfl, rfl⟩ ⟨Nat.le_of_ble_eq_true rfl, Nat.le_of_ble_eq_true rfl⟩ rfl hl.1 rfl (Nat.le_of_ble_eq_true rfl) ⟨Nat.zero_le _, Nat.zero_le _⟩ dX1_put_38 (fun v f38 H locs hp hG => ?_)
    obtain ⟨rfl, rfl⟩ := hp
    refine lv_aload_n hx hb dX1_put_41 rfl (lv_at hl 0 rfl) ?_
    refine g_get hx hb hts hown hG.1 2 2 (by decide) (v := .ref (w.2.2.2 16)) rfl rfl gin1 (by decide) gm_65 (rfl) dX1_put_42 ?_
    refine lv_iload_n hx hb dX1_put_45 rfl (lv_at hl 1 rfl) ?_
    refine g_ialv (a := 11) (n := 18) (v := nI (nL f t)) hx hb hG.1 16 (by decide) (by decide) rfl rfl (i := t) (by omega) (by rw [rdF_row (by omega)]; simp [gset, ez0, ez5, ez11, ez12, eo11, eo12, eu11, eu12, eu20]; exact hLt.1) dX1_put_46 ?_
    exact g_iretW G hG (⟨by unfold puN; rw [if_neg c16], by unfold puF pu1 puN; rw [if_neg c16, if_neg c16, e3]⟩) dX1_put_47
  · skip
    have c16 : p = (nL f t) := (g_eq (by omega) (by omega)).mp c16
    refine lv_aload_n hx hb dX1_put_19 rfl (lv_at hl 0 rfl) ?_
    refine g_get hx hb hts hown hG.1 2 2 (by decide) (v := .ref (w.2.2.2 16)) rfl rfl gin1 (by decide) gm_65 (rfl) dX1_put_20 ?_
    refine lv_iload_n hx hb dX1_put_23 rfl (lv_at hl 1 rfl) ?_
    refine lv_dup2_11 hx hb dX1_put_24 rfl rfl ?_
    refine g_ialv (a := 11) (n := 18) (v := nI (nL f t)) hx hb hG.1 16 (by decide) (by decide) rfl rfl (i := t) (by omega) (by simp [gset, ez0, ez5, ez11, ez12, eo11, eo12, eu11, eu12, eu20]; exact (hLn t (by omega)).1) dX1_put_25 ?_
    refine lv_iconst (v := nI 1) hx hb dX1_put_26 (by decide) ?_
    refine g_iaddn hx hb dX1_put_27 ?_
    refine g_iast (a := 11) (n := 18) hx hb hG 16 (by decide) (by decide) rfl rfl (i := t) (by omega) dX1_put_28 (fun H locs hG => ?_)
    refine lv_aload_n hx hb dX1_put_29 rfl (lv_at hl 0 rfl) ?_
    refine g_get hx hb hts hown hG.1 2 3 (by decide) (v := .ref (w.2.2.2 17)) rfl rfl gin1 (by decide) gm_66 (rfl) dX1_put_30 ?_
    refine lv_iload_n hx hb dX1_put_33 rfl (lv_at hl 1 rfl) ?_
    refine lv_iconst (v := nI 0) hx hb dX1_put_34 (by decide) ?_
    refine g_iast (a := 12) (n := 18) hx hb hG 17 (by decide) (by decide) rfl rfl (i := t) (by omega) dX1_put_35 (fun H locs hG => ?_)
    have e3 : nL (gset (gset (gset f (20 + t) p x) 11 t (nI ((nL f t) + 1))) 12 t (nI 0)) t = nL f t + 1 := by simp [nL, gset, ez0, ez11, ez12, eo11, eo12]; exact nI_clamp (by have := hLt.2; unfold nL at this; omega)
    have hI3 : gI (gset (gset (gset f (20 + t) p x) 11 t (nI ((nL f t) + 1))) 12 t (nI 0)) := puI_y hI ht (by omega) c16
    refine lv_aload_n hx hb dX1_put_36 rfl (lv_at hl 0 rfl) ?_
    refine lv_iload_n hx hb dX1_put_37 rfl (lv_at hl 1 rfl) ?_
    refine g_callW (As := [.int (nI t)]) (rest := []) G.1 hG 2 (by decide) rfl rfl ok_X1_read gm_99 gm_100 gm_98 (c_X1_read l w (gset (gset (gset f (20 + t) p x) 11 t (nI ((nL f t) + 1))) 12 t (nI 0)) t hI3 (by omega)) ⟨rfl, rfl⟩ ⟨Nat.le_of_ble_eq_true rfl, Nat.le_of_ble_eq_true rfl⟩ rfl hl.1 rfl (Nat.le_of_ble_eq_true rfl) ⟨Nat.zero_le _, Nat.zero_le _⟩ dX1_put_38 (fun v f38 H locs hp hG => ?_)
    obtain ⟨rfl, rfl⟩ := hp
    refine lv_aload_n hx hb dX1_put_41 rfl (lv_at hl 0 rfl) ?_
    refine g_get hx hb hts hown hG.1 2 2 (by decide) (v := .ref (w.2.2.2 16)) rfl rfl gin1 (by decide) gm_65 (rfl) dX1_put_42 ?_
    refine lv_iload_n hx hb dX1_put_45 rfl (lv_at hl 1 rfl) ?_
    refine g_ialv (a := 11) (n := 18) (v := nI (nL f t + 1)) hx hb hG.1 16 (by decide) (by decide) rfl rfl (i := t) (by omega) (by rw [rdF_row (by omega)]; simp [gset, ez0, ez5, ez11, ez12, eo11, eo12, eu11, eu12, eu20]) dX1_put_46 ?_
    exact g_iretW G hG (⟨by unfold puN; rw [if_pos c16], by unfold puF pu1 puN; rw [if_pos c16, if_pos c16, e3]⟩) dX1_put_47
theorem ok_X1_dropLast : gOK yX1_dropLast cX1_dropLast 2 (some .int) 1 := ⟨gm_306, gm_86, by decide +kernel⟩
theorem dlI {f : CS} {t : Nat} (hI : gI f) (ht : t < 18) : gI (dl1 f t) := by
  have e0 : ∀ b, dl1 f t 0 b = f 0 b := fun b => by simp [dl1, gset]
  refine ⟨?_, ?_, ?_, ?_⟩
  · unfold nT; rw [e0]; exact hI.1
  · unfold nC; rw [e0]; exact hI.2.1
  · unfold nD; rw [e0]; exact hI.2.2.1
  · intro q hq
    have hL := hI.2.2.2 q hq
    by_cases e : q = t
    · subst e
      have e1 : dl1 f q 11 q = nI (nL f q - 1) := by simp [dl1, gset]
      show dl1 f q 11 q = nI (dl1 f q 11 q).toNatClampNeg ∧ (dl1 f q 11 q).toNatClampNeg ≤ 12
      rw [e1, nI_clamp (by omega)]
      exact ⟨rfl, by omega⟩
    · have e1 : dl1 f t 11 q = f 11 q := by simp [dl1, gset, e]
      unfold nL at hL ⊢
      rw [e1]
      exact hL
set_option maxRecDepth 100000 in
set_option maxHeartbeats 4000000 in
theorem c_X1_dropLast (l : Launch) (w : GP) (f : CS) (t : Nat) (hI : gI f) (ht : t < 18) (h1 : 1 ≤ nL f t) : Met l yX1_dropLast (gws yX1_dropLast cX1_dropLast 2 (some .int)) ({ frames := 5, cells := 0, slots := 0, locals := 127 }) (gPc w f [.ref (w.2.2.2 2), .int (nI t)]) (gWr w (fun v_ f_ => v_ = some (.int (f (20 + t) (nL f t - 1))) ∧ f_ = dlF f t)) 0 0 (gA w) := by
  refine g_read (by decide) (Nat.le_of_ble_eq_true rfl) ?_
  intro P_ E_ S_ M_ B_ T_ C_ ls G hV hl
  obtain ⟨hx, hb, hml, hown, hts⟩ := id G.1
  obtain ⟨⟨hT, hT24⟩, ⟨hC, hC12⟩, ⟨hD, hD6⟩, hLn⟩ := id hI
  have hl : lv_has ls 2 [(0, .ref (w.2.2.2 2)), (1, .int (nI t))] := hl
  have hG := hV.start
  obtain ⟨H, hH⟩ : ∃ H, H = S_.heap := ⟨_, rfl⟩
  obtain ⟨locs, hL⟩ : ∃ L : List Loc, L = [] := ⟨_, rfl⟩
  rw [← hH, ← hL] at hG
  suffices K : ∀ (H : Heap) (locs : List Loc), GS w (gA w) S_ H locs f → W P_ l E_ _ S_ M_ _ B_ T_ C_ H locs 0 0 _ (F0 M_ 0 ls []) from by have := K H locs hG; rw [hH, hL] at this; exact this
  clear hG hH hL; intro H locs hG
  have hLt := hLn t ht
  refine lv_aload_n hx hb dX1_dropLast_0 rfl (lv_at hl 0 rfl) ?_
  refine g_get hx hb hts hown hG.1 2 2 (by decide) (v := .ref (w.2.2.2 16)) rfl rfl gin1 (by decide) gm_65 (rfl) dX1_dropLast_1 ?_
  refine lv_iload_n hx hb dX1_dropLast_4 rfl (lv_at hl 1 rfl) ?_
  refine lv_dup2_11 hx hb dX1_dropLast_5 rfl rfl ?_
  refine g_ialn (a := 11) (n := 18) hx hb hG.1 16 (by decide) (by decide) rfl rfl (i := t) (by omega) dX1_dropLast_6 ?_
  rw [(hLn t (by omega)).1]
  refine lv_iconst (v := nI 1) hx hb dX1_dropLast_7 (by decide) ?_
  refine g_isubn hx hb (by omega) dX1_dropLast_8 ?_
  refine g_iast (a := 11) (n := 18) hx hb hG 16 (by decide) (by decide) rfl rfl (i := t) (by omega) dX1_dropLast_9 (fun H locs hG => ?_)
  refine lv_aload_n hx hb dX1_dropLast_10 rfl (lv_at hl 0 rfl) ?_
  refine g_get hx hb hts hown hG.1 2 3 (by decide) (v := .ref (w.2.2.2 17)) rfl rfl gin1 (by decide) gm_66 (rfl) dX1_dropLast_11 ?_
  refine lv_iload_n hx hb dX1_dropLast_14 rfl (lv_at hl 1 rfl) ?_
  refine lv_iconst (v := nI 0) hx hb dX1_dropLast_15 (by decide) ?_
  refine g_iast (a := 12) (n := 18) hx hb hG 17 (by decide) (by decide) rfl rfl (i := t) (by omega) dX1_dropLast_16 (fun H locs hG => ?_)
  have e3 : nL (gset (gset f 11 t (nI ((nL f t) - 1))) 12 t (nI 0)) t = nL f t - 1 := by simp [nL, gset, ez0, ez11, ez12, eo11, eo12]; exact nI_clamp (by have := hLt.2; unfold nL at this; omega)
  have hI3 : gI (dl1 f t) := dlI hI ht
  refine lv_aload_n hx hb dX1_dropLast_17 rfl (lv_at hl 0 rfl) ?_
  refine lv_iload_n hx hb dX1_dropLast_18 rfl (lv_at hl 1 rfl) ?_
  refine g_callW (As := [.int (nI t)]) (rest := []) G.1 hG 2 (by decide) rfl rfl ok_X1_read gm_99 gm_100 gm_98 (c_X1_read l w (gset (gset f 11 t (nI ((nL f t) - 1))) 12 t (nI 0)) t hI3 (by omega)) ⟨rfl, rfl⟩ ⟨Nat.le_of_ble_eq_true rfl, Nat.le_of_ble_eq_true rfl⟩ rfl hl.1 rfl (Nat.le_of_ble_eq_true rfl) ⟨Nat.zero_le _, Nat.zero_le _⟩ dX1_dropLast_19 (fun v f19 H locs hp hG => ?_)
  obtain ⟨rfl, rfl⟩ := hp
  refine lv_aload_n hx hb dX1_dropLast_22 rfl (lv_at hl 0 rfl) ?_
  refine g_get hx hb hts hown hG.1 2 4 (by decide) (v := .ref (w.2.2.2 18)) rfl rfl gin1 (by decide) gm_68 (rfl) dX1_dropLast_23 ?_
  refine lv_iload_n hx hb dX1_dropLast_26 rfl (lv_at hl 1 rfl) ?_
  refine g_row (n := 18) (b := 19) hx hb hG.1 18 (by decide) rfl (i := t) (by omega) (by decide) dX1_dropLast_27 ?_
  refine lv_aload_n hx hb dX1_dropLast_28 rfl (lv_at hl 0 rfl) ?_
  refine g_get hx hb hts hown hG.1 2 2 (by decide) (v := .ref (w.2.2.2 16)) rfl rfl gin1 (by decide) gm_65 (rfl) dX1_dropLast_29 ?_
  refine lv_iload_n hx hb dX1_dropLast_32 rfl (lv_at hl 1 rfl) ?_
  refine g_ialv (a := 11) (n := 18) (v := nI (nL f t - 1)) hx hb hG.1 16 (by decide) (by decide) rfl rfl (i := t) (by omega) (by rw [rdF_row (by omega)]; simp [gset, ez0, ez5, ez11, ez12, eo11, eo12, eu11, eu12, eu20]) dX1_dropLast_33 ?_
  refine g_ialv (a := 20 + t) (n := 12) (v := f (20 + t) (nL f t - 1)) hx hb hG.1 (19 + t) (by omega) (by omega) (gid_19 (by omega)) (gn_19 (by omega)) (i := nL f t - 1) (by omega) (by rw [rdF_row (by omega)]; simp [gset, ez0, ez5, ez11, ez12, eo11, eo12, eu11, eu12, eu20]) dX1_dropLast_34 ?_
  exact g_iretW G hG (⟨rfl, by show rdF (dl1 f t) t (nL (dl1 f t) t) = _; unfold dlF; rw [show nL (dl1 f t) t = nL f t - 1 from e3]⟩) dX1_dropLast_35
theorem ok_X1_reopen : gOK yX1_reopen cX1_reopen 4 none 1 := ⟨gm_147, gm_86, by decide +kernel⟩
set_option maxRecDepth 100000 in
set_option maxHeartbeats 4000000 in
theorem c_X1_reopen (l : Launch) (w : GP) (f : CS) (d : Nat) (hI : gI f) (hd : d < 6) : Met l yX1_reopen (gws yX1_reopen cX1_reopen 4 none) ({ frames := 0, cells := 0, slots := 0, locals := 0 }) (gPc w f [.ref (w.2.2.2 2), .int (nI d)]) (gWr w (fun v_ f_ => v_ = none ∧ f_ = reF f d 3)) 0 0 (gA w) := by
  refine g_read (by decide) (Nat.le_of_ble_eq_true rfl) ?_
  intro P_ E_ S_ M_ B_ T_ C_ ls G hV hl
  obtain ⟨hx, hb, hml, hown, hts⟩ := id G.1
  obtain ⟨⟨hT, hT24⟩, ⟨hC, hC12⟩, ⟨hD, hD6⟩, hLn⟩ := id hI
  have hl : lv_has ls 4 [(0, .ref (w.2.2.2 2)), (1, .int (nI d))] := hl
  have hG := hV.start
  obtain ⟨H, hH⟩ : ∃ H, H = S_.heap := ⟨_, rfl⟩
  obtain ⟨locs, hL⟩ : ∃ L : List Loc, L = [] := ⟨_, rfl⟩
  rw [← hH, ← hL] at hG
  suffices K : ∀ (H : Heap) (locs : List Loc), GS w (gA w) S_ H locs f → W P_ l E_ _ S_ M_ _ B_ T_ C_ H locs 0 0 _ (F0 M_ 0 ls []) from by have := K H locs hG; rw [hH, hL] at this; exact this
  clear hG hH hL; intro H locs hG
  refine lv_iconst (v := nI 0) hx hb dX1_reopen_0 (by decide) ?_
  refine lv_istore_n (lv' := [(2, .int (nI 0)), (0, .ref (w.2.2.2 2)), (1, .int (nI d))]) hx hb dX1_reopen_1 rfl hl (by decide) rfl (fun ls hl => ?_)
  refine g_for (P := fun k => ∀ (H : Heap) (locs : List Loc) (ls : Array Slot), GS w (gA w) S_ H locs (reF f d k) → lv_has ls 4 [(2, .int (nI k)), (0, .ref (w.2.2.2 2)), (1, .int (nI d))] → W P_ l E_ _ S_ M_ _ B_ T_ C_ H locs 0 0 _ (F0 M_ 2 ls [])) (3) ?_ ?_ 0 (Nat.zero_le _) H locs ls (by rw [reF_0]; exact hG) (lv_sub hl [0, 1, 2] rfl)
  · intro k hk ih H locs ls hG hl
    refine lv_iload_n hx hb dX1_reopen_2 rfl (lv_at hl 0 rfl) ?_
    refine lv_iconst (v := nI 3) hx hb dX1_reopen_3 (by decide) ?_
    refine lv_icmp_ge (tgt := 36) hx hb dX1_reopen_4 (by decide) (fun c4 => ?_) (fun c4 => ?_)
    · skip
      have c4 : 3 ≤ k := (g_le (by omega) (by omega)).mp c4
      exact absurd c4 (by omega)
    · skip
      have c4 : ¬ (3 ≤ k) := fun q => c4 ((g_le (by omega) (by omega)).mpr q)
      refine lv_iload_n hx hb dX1_reopen_7 rfl (lv_at hl 2 rfl) ?_
      refine lv_iconst (v := nI 3) hx hb dX1_reopen_8 (by decide) ?_
      refine g_imuln hx hb dX1_reopen_9 ?_
      refine lv_iload_n hx hb dX1_reopen_10 rfl (lv_at hl 0 rfl) ?_
      refine g_iaddn hx hb dX1_reopen_11 ?_
      refine lv_istore_n (lv' := [(3, .int (nI ((d * 3) + k))), (2, .int (nI k)), (0, .ref (w.2.2.2 2)), (1, .int (nI d))]) hx hb dX1_reopen_12 rfl hl (by decide) rfl (fun ls hl => ?_)
      refine lv_aload_n hx hb dX1_reopen_13 rfl (lv_at hl 2 rfl) ?_
      refine g_get hx hb hts hown hG.1 2 3 (by decide) (v := .ref (w.2.2.2 17)) rfl rfl gin1 (by decide) gm_66 (rfl) dX1_reopen_14 ?_
      refine lv_iload_n hx hb dX1_reopen_17 rfl (lv_at hl 0 rfl) ?_
      refine g_ialv (a := 12) (n := 18) (v := f 12 (d * 3 + k)) hx hb hG.1 17 (by decide) (by decide) rfl rfl (i := (d * 3) + k) (by omega) (reF_at) dX1_reopen_18 ?_
      refine lv_iconst (v := nI 1) hx hb dX1_reopen_19 (by decide) ?_
      refine lv_icmp_ne (tgt := 30) hx hb dX1_reopen_20 (by decide) (fun c20 => ?_) (fun c20 => ?_)
      · skip
        refine lv_iinc (v := nI (k + 1)) (lv' := [(2, .int (nI (k + 1))), (3, .int (nI ((d * 3) + k))), (0, .ref (w.2.2.2 2)), (1, .int (nI d))]) hx hb dX1_reopen_30 hl (k := 1) rfl (g_inc k 1) (by decide) rfl (fun ls hl => ?_)
        refine lv_goto (tgt := 2) hx hb dX1_reopen_33 (by decide) ?_
        refine ih H locs ls (by rw [show reF f d (k + 1) = reF f d k from by first | exact reF_n c20 | exact reF_y c20]; exact hG) ?_
        exact lv_sub hl [0, 2, 3] rfl
      · skip
        refine lv_aload_n hx hb dX1_reopen_23 rfl (lv_at hl 2 rfl) ?_
        refine g_get hx hb hts hown hG.1 2 3 (by decide) (v := .ref (w.2.2.2 17)) rfl rfl gin1 (by decide) gm_66 (rfl) dX1_reopen_24 ?_
        refine lv_iload_n hx hb dX1_reopen_27 rfl (lv_at hl 0 rfl) ?_
        refine lv_iconst (v := nI 2) hx hb dX1_reopen_28 (by decide) ?_
        refine g_iast (a := 12) (n := 18) hx hb hG 17 (by decide) (by decide) rfl rfl (i := (d * 3) + k) (by omega) dX1_reopen_29 (fun H locs hG => ?_)
        refine lv_iinc (v := nI (k + 1)) (lv' := [(2, .int (nI (k + 1))), (3, .int (nI ((d * 3) + k))), (0, .ref (w.2.2.2 2)), (1, .int (nI d))]) hx hb dX1_reopen_30 hl (k := 1) rfl (g_inc k 1) (by decide) rfl (fun ls hl => ?_)
        refine lv_goto (tgt := 2) hx hb dX1_reopen_33 (by decide) ?_
        refine ih H locs ls (by rw [show reF f d (k + 1) = gset (reF f d k) 12 ((d * 3) + k) (nI 2) from by first | exact reF_n c20 | exact reF_y c20]; exact hG) ?_
        exact lv_sub hl [0, 2, 3] rfl
  · intro H locs ls hG hl
    refine lv_iload_n hx hb dX1_reopen_2 rfl (lv_at hl 0 rfl) ?_
    refine lv_iconst (v := nI 3) hx hb dX1_reopen_3 (by decide) ?_
    refine lv_icmp_ge (tgt := 36) hx hb dX1_reopen_4 (by decide) (fun c4 => ?_) (fun c4 => ?_)
    · skip
      have c4 : 3 ≤ 3 := (g_le (by omega) (by omega)).mp c4
      exact g_vretW G hG (⟨rfl, rfl⟩) dX1_reopen_36
    · skip
      have c4 : ¬ (3 ≤ 3) := fun q => c4 ((g_le (by omega) (by omega)).mpr q)
      exact absurd c4 (by omega)
theorem ok_X1_reopenDue : gOK yX1_reopenDue cX1_reopenDue 5 (some .int) 1 := ⟨gm_205, gm_86, by decide +kernel⟩
set_option maxRecDepth 100000 in
set_option maxHeartbeats 4000000 in
theorem c_X1_reopenDue (l : Launch) (w : GP) (f : CS) (d : Int32) (hI : gI f)  : Met l yX1_reopenDue (gws yX1_reopenDue cX1_reopenDue 5 (some .int)) ({ frames := 4, cells := 0, slots := 0, locals := 93 }) (gPc w f [.ref (w.2.2.2 2), .int d]) (gWr w (fun v_ f_ => v_ = some (.int (nI (roN f (due f d)))) ∧ f_ = rpF f (due f d) (nD f))) 0 0 (gA w) := by
  refine g_read (by decide) (Nat.le_of_ble_eq_true rfl) ?_
  intro P_ E_ S_ M_ B_ T_ C_ ls G hV hl
  obtain ⟨hx, hb, hml, hown, hts⟩ := id G.1
  obtain ⟨⟨hT, hT24⟩, ⟨hC, hC12⟩, ⟨hD, hD6⟩, hLn⟩ := id hI
  have hl : lv_has ls 5 [(0, .ref (w.2.2.2 2)), (1, .int d)] := hl
  have hG := hV.start
  obtain ⟨H, hH⟩ : ∃ H, H = S_.heap := ⟨_, rfl⟩
  obtain ⟨locs, hL⟩ : ∃ L : List Loc, L = [] := ⟨_, rfl⟩
  rw [← hH, ← hL] at hG
  suffices K : ∀ (H : Heap) (locs : List Loc), GS w (gA w) S_ H locs f → W P_ l E_ _ S_ M_ _ B_ T_ C_ H locs 0 0 _ (F0 M_ 0 ls []) from by have := K H locs hG; rw [hH, hL] at this; exact this
  clear hG hH hL; intro H locs hG
  refine lv_aload_n hx hb dX1_reopenDue_0 rfl (lv_at hl 0 rfl) ?_
  refine g_get hx hb hts hown hG.1 2 0 (by decide) (v := .ref (w.2.2.2 1)) rfl rfl gin1 (by decide) gm_70 (rfl) dX1_reopenDue_1 ?_
  refine lv_iload_n hx hb dX1_reopenDue_4 rfl (lv_at hl 1 rfl) ?_
  refine g_callV (As := [.int d]) (rest := []) G.1 hG.1 1 (by decide) rfl rfl ok_X0_overdueOn gm_137 gm_138 gm_136 (c_X0_overdueOn l w f d hI ) ⟨rfl, rfl⟩ ⟨Nat.le_of_ble_eq_true rfl, Nat.le_of_ble_eq_true rfl⟩ rfl hl.1 rfl (Nat.le_of_ble_eq_true rfl) ⟨Nat.zero_le _, Nat.zero_le _⟩ dX1_reopenDue_5 ?_
  refine lv_istore_n (lv' := [(2, .int (due f d)), (0, .ref (w.2.2.2 2)), (1, .int d)]) hx hb dX1_reopenDue_8 rfl hl (by decide) rfl (fun ls hl => ?_)
  refine lv_aload_n hx hb dX1_reopenDue_9 rfl (lv_at hl 1 rfl) ?_
  refine lv_iload_n hx hb dX1_reopenDue_10 rfl (lv_at hl 0 rfl) ?_
  refine g_callV (As := [.int (due f d)]) (rest := []) G.1 hG.1 2 (by decide) rfl rfl ok_X1_reopenedByOverdue gm_141 gm_142 gm_140 (c_X1_reopenedByOverdue l w f (due f d) hI ) ⟨rfl, rfl⟩ ⟨Nat.le_of_ble_eq_true rfl, Nat.le_of_ble_eq_true rfl⟩ rfl hl.1 rfl (Nat.le_of_ble_eq_true rfl) ⟨Nat.zero_le _, Nat.zero_le _⟩ dX1_reopenDue_11 ?_
  refine lv_istore_n (lv' := [(3, .int (nI (roN f (due f d)))), (2, .int (due f d)), (0, .ref (w.2.2.2 2)), (1, .int d)]) hx hb dX1_reopenDue_14 rfl hl (by decide) rfl (fun ls hl => ?_)
  refine lv_iconst (v := nI 0) hx hb dX1_reopenDue_15 (by decide) ?_
  refine lv_istore (lv' := [(4, .int (nI 0)), (3, .int (nI (roN f (due f d)))), (2, .int (due f d)), (0, .ref (w.2.2.2 2)), (1, .int d)]) hx hb dX1_reopenDue_16 hl (by decide) rfl (fun ls hl => ?_)
  refine g_for (P := fun k => ∀ (H : Heap) (locs : List Loc) (ls : Array Slot), GS w (gA w) S_ H locs (rpF f (due f d) k) → lv_has ls 5 [(4, .int (nI k)), (3, .int (nI (roN f (due f d)))), (2, .int (due f d)), (0, .ref (w.2.2.2 2)), (1, .int d)] → W P_ l E_ _ S_ M_ _ B_ T_ C_ H locs 0 0 _ (F0 M_ 18 ls [])) (nD f) ?_ ?_ 0 (Nat.zero_le _) H locs ls (by rw [rpF_0]; exact hG) (lv_sub hl [0, 1, 2, 3, 4] rfl)
  · intro k hk ih H locs ls hG hl
    refine lv_iload hx hb dX1_reopenDue_18 (lv_at hl 0 rfl) ?_
    refine lv_aload_n hx hb dX1_reopenDue_20 rfl (lv_at hl 3 rfl) ?_
    refine g_get hx hb hts hown hG.1 2 1 (by decide) (v := .int (nI (nD f))) rfl rfl gin1 (by decide) gm_64 (by show some (Value.int ((rpF f (due f d) k) 0 2)) = some (.int (nI (nD f))); rw [show (rpF f (due f d) k) 0 2 = nI (nD f) from by rw [rpF_row (by omega)]; exact hD]) dX1_reopenDue_21 ?_
    refine lv_icmp_ge (tgt := 49) hx hb dX1_reopenDue_24 (by decide) (fun c24 => ?_) (fun c24 => ?_)
    · skip
      have c24 : (nD f) ≤ k := (g_le (by omega) (by omega)).mp c24
      exact absurd c24 (by omega)
    · skip
      have c24 : ¬ ((nD f) ≤ k) := fun q => c24 ((g_le (by omega) (by omega)).mpr q)
      have hIk : gI (rpF f (due f d) k) := rpF_I hI
      refine lv_aload_n hx hb dX1_reopenDue_27 rfl (lv_at hl 3 rfl) ?_
      refine lv_iload hx hb dX1_reopenDue_28 (lv_at hl 0 rfl) ?_
      refine lv_iload_n hx hb dX1_reopenDue_30 rfl (lv_at hl 2 rfl) ?_
      refine g_callV (As := [.int (nI k), .int (due f d)]) (rest := []) G.1 hG.1 2 (by decide) rfl rfl ok_X1_hasApprovedUseOf gm_129 gm_130 gm_128 (c_X1_hasApprovedUseOf l w (rpF f (due f d) k) k (due f d) hIk (by omega)) ⟨rfl, rfl⟩ ⟨Nat.le_of_ble_eq_true rfl, Nat.le_of_ble_eq_true rfl⟩ rfl hl.1 rfl (Nat.le_of_ble_eq_true rfl) ⟨Nat.zero_le _, Nat.zero_le _⟩ dX1_reopenDue_31 ?_
      refine lv_if_eq (tgt := 43) hx hb dX1_reopenDue_34 (by decide) (fun c34 => ?_) (fun c34 => ?_)
      · skip
        have c34 : ¬ (hasA (rpF f (due f d) k) k (due f d) = true) := g_if0.mp c34
        refine lv_iinc (v := nI (k + 1)) (lv' := [(4, .int (nI (k + 1))), (3, .int (nI (roN f (due f d)))), (2, .int (due f d)), (0, .ref (w.2.2.2 2)), (1, .int d)]) hx hb dX1_reopenDue_43 hl (k := 0) rfl (g_inc k 1) (by decide) rfl (fun ls hl => ?_)
        refine lv_goto (tgt := 18) hx hb dX1_reopenDue_46 (by decide) ?_
        refine ih H locs ls (by rw [show rpF f (due f d) (k + 1) = rpF f (due f d) k from by first | exact rpF_n (by rw [← rpF_has]; exact c34) | exact rpF_y (by rw [← rpF_has]; exact c34)]; exact hG) ?_
        exact lv_sub hl [0, 1, 2, 3, 4] rfl
      · skip
        have c34 : hasA (rpF f (due f d) k) k (due f d) = true := g_if1.mp c34
        refine lv_aload_n hx hb dX1_reopenDue_37 rfl (lv_at hl 3 rfl) ?_
        refine lv_iload hx hb dX1_reopenDue_38 (lv_at hl 0 rfl) ?_
        refine g_callW (As := [.int (nI k)]) (rest := []) G.1 hG 2 (by decide) rfl rfl ok_X1_reopen gm_145 gm_146 gm_144 (c_X1_reopen l w (rpF f (due f d) k) k hIk (by omega)) ⟨rfl, rfl⟩ ⟨Nat.le_of_ble_eq_true rfl, Nat.le_of_ble_eq_true rfl⟩ rfl hl.1 rfl (Nat.le_of_ble_eq_true rfl) ⟨Nat.zero_le _, Nat.zero_le _⟩ dX1_reopenDue_40 (fun v f40 H locs hp hG => ?_)
        obtain ⟨rfl, rfl⟩ := hp
        refine lv_iinc (v := nI (k + 1)) (lv' := [(4, .int (nI (k + 1))), (3, .int (nI (roN f (due f d)))), (2, .int (due f d)), (0, .ref (w.2.2.2 2)), (1, .int d)]) hx hb dX1_reopenDue_43 hl (k := 0) rfl (g_inc k 1) (by decide) rfl (fun ls hl => ?_)
        refine lv_goto (tgt := 18) hx hb dX1_reopenDue_46 (by decide) ?_
        refine ih H locs ls (by rw [show rpF f (due f d) (k + 1) = reF (rpF f (due f d) k) k 3 from by first | exact rpF_n (by rw [← rpF_has]; exact c34) | exact rpF_y (by rw [← rpF_has]; exact c34)]; exact hG) ?_
        exact lv_sub hl [0, 1, 2, 3, 4] rfl
  · intro H locs ls hG hl
    refine lv_iload hx hb dX1_reopenDue_18 (lv_at hl 0 rfl) ?_
    refine lv_aload_n hx hb dX1_reopenDue_20 rfl (lv_at hl 3 rfl) ?_
    refine g_get hx hb hts hown hG.1 2 1 (by decide) (v := .int (nI (nD f))) rfl rfl gin1 (by decide) gm_64 (by show some (Value.int ((rpF f (due f d) (nD f)) 0 2)) = some (.int (nI (nD f))); rw [show (rpF f (due f d) (nD f)) 0 2 = nI (nD f) from by rw [rpF_row (by omega)]; exact hD]) dX1_reopenDue_21 ?_
    refine lv_icmp_ge (tgt := 49) hx hb dX1_reopenDue_24 (by decide) (fun c24 => ?_) (fun c24 => ?_)
    · skip
      have c24 : (nD f) ≤ (nD f) := (g_le (by omega) (by omega)).mp c24
      refine lv_iload_n hx hb dX1_reopenDue_49 rfl (lv_at hl 1 rfl) ?_
      exact g_iretW G hG (⟨rfl, rfl⟩) dX1_reopenDue_50
    · skip
      have c24 : ¬ ((nD f) ≤ (nD f)) := fun q => c24 ((g_le (by omega) (by omega)).mpr q)
      exact absurd c24 (by omega)
