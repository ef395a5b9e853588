/-! act: its handlers. -/
abbrev aR : Room := { frames := 8, cells := 1, slots := 6, locals := 203 }
abbrev aV (w : GP) (x : Int32) : Array Value := ([.ref (w.2.2.2 0), .int x] : List Value).toArray
def aPost (f : CS) (x : Int32) (v_ : Option Value) (f_ : CS) : Prop := v_ = some (.int 1) ∧ ∃ dy, J f_ dy ∧ (blN x 20 < 13 → tsN f (nI 2) ≤ tsN f_ (nI 2))
set_option maxRecDepth 100000 in
set_option maxHeartbeats 4000000 in
theorem a_724 {l : Launch} {w : GP} {f fc : CS} {x : Int32} {dy : Nat} (hJ : J fc dy) (h1 : tsN fc (nI 1) ≤ tsN f (nI 1)) (h2 : tsN f (nI 2) ≤ tsN fc (nI 2)) (hz9 : tsN f (nI 1) < 2 ^ 31) (hz : ¬ blN x 20 = 11 ∧ ¬ blN x 20 = 12) {P_ : Program} {E_ : Env} {S_ : State} {M_ : MethodId} {B_ : List Frame} {T_ : Method} {C_ : Code} {ls : Array Slot} {H : Heap} {locs : List Loc} {q : Nat} (G : Gx P_ C_ cL_act 16 S_ (aV w x) RL M_ T_ (some .boolean))  (hG : GS w (gA w) S_ H locs fc) (hl : lv_has ls 16 [(0, .ref (w.2.2.2 0)), (1, .int x), (7, .int (nI (tsN f (nI 1))))]) : W P_ l E_ aR S_ M_ (aV w x) B_ T_ C_ H locs 1 6 (MQ B_ (gWr w (aPost f x)) (aV w x) S_ 1 6 (gA w)) (F0 M_ 724 ls [.ref q]) := by
  obtain ⟨hx, hb, hml, hown, hts⟩ := id G.1
  have hI := hJ.hI
  obtain ⟨⟨hT, hT24⟩, ⟨hC, hC12⟩, ⟨hD, hD6⟩, hLn⟩ := id hI
  refine lv_astore (lv' := [(8, .ref q), (0, .ref (w.2.2.2 0)), (1, .int x), (7, .int (nI (tsN f (nI 1))))]) hx hb dL_act_724 hl (by decide) rfl (fun ls hl => ?_)
  refine lv_aload_n hx hb dL_act_726 rfl (lv_at hl 1 rfl) ?_
  refine lv_bipush (v := nI 9) hx hb dL_act_727 (by decide) ?_
  refine g_callV (v := .int (nI (tsN fc (nI 1)))) (As := [.int (nI 9)]) (rest := []) G.1 hG.1 0 (by decide) rfl rfl ok_X2_many gm_378 gm_379 gm_477 (c_X2_many l w fc 9 hI (by omega)) ⟨rfl, rfl⟩ ⟨Nat.le_of_ble_eq_true rfl, Nat.le_of_ble_eq_true rfl⟩ rfl hl.1 rfl (Nat.le_of_ble_eq_true rfl) ⟨Nat.le_of_ble_eq_true rfl, Nat.le_of_ble_eq_true rfl⟩ dL_act_729 ?_
  refine lv_iload hx hb dL_act_732 (lv_at hl 3 rfl) ?_
  refine lv_icmp_gt (tgt := 763) hx hb dL_act_734 (by decide) (fun c734 => ?_) (fun c734 => ?_)
  · skip
    have c734 : (tsN f (nI 1)) < (tsN fc (nI 1)) := (g_lt hz9 (ts_lt hI)).mp c734
    omega
  · skip
    have c734 : ¬ ((tsN f (nI 1)) < (tsN fc (nI 1))) := fun q => c734 ((g_lt hz9 (ts_lt hI)).mpr q)
    refine lv_iload_n hx hb dL_act_737 rfl (lv_at hl 2 rfl) ?_
    refine lv_bipush (v := nI 20) hx hb dL_act_738 (by decide) ?_
    refine g_callS (As := [.int x, .int (nI 20)]) (rest := []) G.1 hG.1 ok_L_below gm_467 gm_466 (c_L_below l w fc x 20  (by omega) (by omega)) ⟨rfl, rfl⟩ ⟨Nat.le_of_ble_eq_true rfl, Nat.le_of_ble_eq_true rfl⟩ rfl hl.1 rfl (Nat.le_of_ble_eq_true rfl) ⟨Nat.le_of_ble_eq_true rfl, Nat.le_of_ble_eq_true rfl⟩ dL_act_740 ?_
    refine lv_bipush (v := nI 11) hx hb dL_act_743 (by decide) ?_
    refine lv_icmp_eq (tgt := 763) hx hb dL_act_745 (by decide) (fun c745 => ?_) (fun c745 => ?_)
    · skip
      have c745 : (blN x 20) = 11 := (g_eq (Nat.lt_trans (bl_lt _ (by omega)) (by omega)) (by omega)).mp c745
      exact absurd c745 hz.1
    · skip
      have c745 : ¬ ((blN x 20) = 11) := fun q => c745 ((g_eq (Nat.lt_trans (bl_lt _ (by omega)) (by omega)) (by omega)).mpr q)
      refine lv_iload_n hx hb dL_act_748 rfl (lv_at hl 2 rfl) ?_
      refine lv_bipush (v := nI 20) hx hb dL_act_749 (by decide) ?_
      refine g_callS (As := [.int x, .int (nI 20)]) (rest := []) G.1 hG.1 ok_L_below gm_467 gm_466 (c_L_below l w fc x 20  (by omega) (by omega)) ⟨rfl, rfl⟩ ⟨Nat.le_of_ble_eq_true rfl, Nat.le_of_ble_eq_true rfl⟩ rfl hl.1 rfl (Nat.le_of_ble_eq_true rfl) ⟨Nat.le_of_ble_eq_true rfl, Nat.le_of_ble_eq_true rfl⟩ dL_act_751 ?_
      refine lv_bipush (v := nI 12) hx hb dL_act_754 (by decide) ?_
      refine lv_icmp_eq (tgt := 763) hx hb dL_act_756 (by decide) (fun c756 => ?_) (fun c756 => ?_)
      · skip
        have c756 : (blN x 20) = 12 := (g_eq (Nat.lt_trans (bl_lt _ (by omega)) (by omega)) (by omega)).mp c756
        exact absurd c756 hz.2
      · skip
        have c756 : ¬ ((blN x 20) = 12) := fun q => c756 ((g_eq (Nat.lt_trans (bl_lt _ (by omega)) (by omega)) (by omega)).mpr q)
        refine lv_iconst (v := nI 1) hx hb dL_act_759 (by decide) ?_
        refine lv_goto (tgt := 764) hx hb dL_act_760 (by decide) ?_
        exact a_zret G hG (⟨rfl, _, hJ, fun _ => h2⟩) (Or.inr rfl) (by decide) (by decide) dL_act_764
set_option maxRecDepth 100000 in
set_option maxHeartbeats 4000000 in
theorem a_694 {l : Launch} {w : GP} {f fc : CS} {x : Int32} {dy : Nat} (hJ : J fc dy) (h1 : tsN fc (nI 1) ≤ tsN f (nI 1)) (h2 : tsN f (nI 2) ≤ tsN fc (nI 2)) (hz9 : tsN f (nI 1) < 2 ^ 31) (hz : blN x 20 = 9 ∨ blN x 20 = 10) {P_ : Program} {E_ : Env} {S_ : State} {M_ : MethodId} {B_ : List Frame} {T_ : Method} {C_ : Code} {ls : Array Slot} {H : Heap} {locs : List Loc} {q : Nat} (G : Gx P_ C_ cL_act 16 S_ (aV w x) RL M_ T_ (some .boolean))  (hG : GS w (gA w) S_ H locs fc) (hl : lv_has ls 16 [(0, .ref (w.2.2.2 0)), (1, .int x)]) : W P_ l E_ aR S_ M_ (aV w x) B_ T_ C_ H locs 1 6 (MQ B_ (gWr w (aPost f x)) (aV w x) S_ 1 6 (gA w)) (F0 M_ 694 ls [.ref q]) := by
  obtain ⟨hx, hb, hml, hown, hts⟩ := id G.1
  have hI := hJ.hI
  obtain ⟨⟨hT, hT24⟩, ⟨hC, hC12⟩, ⟨hD, hD6⟩, hLn⟩ := id hI
  refine lv_astore (lv' := [(8, .ref q), (0, .ref (w.2.2.2 0)), (1, .int x)]) hx hb dL_act_694 hl (by decide) rfl (fun ls hl => ?_)
  refine lv_iload_n hx hb dL_act_696 rfl (lv_at hl 2 rfl) ?_
  refine lv_bipush (v := nI 20) hx hb dL_act_697 (by decide) ?_
  refine g_callS (As := [.int x, .int (nI 20)]) (rest := []) G.1 hG.1 ok_L_below gm_467 gm_466 (c_L_below l w fc x 20  (by omega) (by omega)) ⟨rfl, rfl⟩ ⟨Nat.le_of_ble_eq_true rfl, Nat.le_of_ble_eq_true rfl⟩ rfl hl.1 rfl (Nat.le_of_ble_eq_true rfl) ⟨Nat.le_of_ble_eq_true rfl, Nat.le_of_ble_eq_true rfl⟩ dL_act_699 ?_
  refine lv_bipush (v := nI 9) hx hb dL_act_702 (by decide) ?_
  refine lv_icmp_eq (tgt := 718) hx hb dL_act_704 (by decide) (fun c704 => ?_) (fun c704 => ?_)
  · skip
    have c704 : (blN x 20) = 9 := (g_eq (Nat.lt_trans (bl_lt _ (by omega)) (by omega)) (by omega)).mp c704
    refine lv_iconst (v := nI 1) hx hb dL_act_718 (by decide) ?_
    refine lv_goto (tgt := 723) hx hb dL_act_719 (by decide) ?_
    exact a_zret G hG (⟨rfl, _, hJ, fun _ => h2⟩) (Or.inr rfl) (by decide) (by decide) dL_act_723
  · skip
    have c704 : ¬ ((blN x 20) = 9) := fun q => c704 ((g_eq (Nat.lt_trans (bl_lt _ (by omega)) (by omega)) (by omega)).mpr q)
    refine lv_iload_n hx hb dL_act_707 rfl (lv_at hl 2 rfl) ?_
    refine lv_bipush (v := nI 20) hx hb dL_act_708 (by decide) ?_
    refine g_callS (As := [.int x, .int (nI 20)]) (rest := []) G.1 hG.1 ok_L_below gm_467 gm_466 (c_L_below l w fc x 20  (by omega) (by omega)) ⟨rfl, rfl⟩ ⟨Nat.le_of_ble_eq_true rfl, Nat.le_of_ble_eq_true rfl⟩ rfl hl.1 rfl (Nat.le_of_ble_eq_true rfl) ⟨Nat.le_of_ble_eq_true rfl, Nat.le_of_ble_eq_true rfl⟩ dL_act_710 ?_
    refine lv_bipush (v := nI 10) hx hb dL_act_713 (by decide) ?_
    refine lv_icmp_ne (tgt := 722) hx hb dL_act_715 (by decide) (fun c715 => ?_) (fun c715 => ?_)
    · skip
      have c715 : ¬ ((blN x 20) = 10) := fun q => c715 ((g_eq (Nat.lt_trans (bl_lt _ (by omega)) (by omega)) (by omega)).mpr q)
      omega
    · skip
      have c715 : (blN x 20) = 10 := (g_eq (Nat.lt_trans (bl_lt _ (by omega)) (by omega)) (by omega)).mp c715
      refine lv_iconst (v := nI 1) hx hb dL_act_718 (by decide) ?_
      refine lv_goto (tgt := 723) hx hb dL_act_719 (by decide) ?_
      exact a_zret G hG (⟨rfl, _, hJ, fun _ => h2⟩) (Or.inr rfl) (by decide) (by decide) dL_act_723
