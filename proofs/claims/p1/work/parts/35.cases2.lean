/-! The law's cases, more. -/
set_option maxRecDepth 100000 in
set_option maxHeartbeats 4000000 in
theorem k_split {p : Program} {e : Env} {S_ : State} {M_ : MethodId} {below : List Frame} {meth : Method} {c : Code} {l : Launch} (hfl : l.stackTraces = false) {q : Nat} {xs : Nat → Int32} (G : CallFix p M_ c cL_law 9 S_ #[Value.ref q] gw RL ∧ True) (hall : ∀ v ∈ gwx, v.before #[Value.ref q] S_ = true) (hLB : LB S_) (hXs : va_X q 5 xs S_ S_.heap) (hbl : q < S_.heap.size) {w : GP} {u : MP} {ca : Nat} {ad : Nat → Nat} {o : Nat} {cL : ClassId} {Q : State → Prop} {H : Heap} {locs : List Loc} {ls : Array Slot} (hW9 : LW w u ca ad o cL S_ H locs) (hl : lv_has ls 9 [(4, .int (nI 0)), (3, .ref o), (2, .ref (u.2.1 0)), (1, .ref (w.2.2.2 0)), (0, .ref q)]) (kk : ∀ (H1 : Heap) (locs1 : List Loc) (ls1 : Array Slot), va_S (nA S_) S_.heap H1 locs1 → lv_has ls1 9 [(4, .int (nI 0)), (3, .ref o), (2, .ref (u.2.1 0)), (1, .ref (w.2.2.2 0)), (0, .ref q)] → W p l e room_1 S_ M_ #[Value.ref q] below meth c H1 locs1 600002 7302231 Q (F0 M_ 1775 ls1 []))  : W p l e room_1 S_ M_ #[Value.ref q] below meth c H locs 61 808 Q (F0 M_ 700 ls []) := by
  obtain ⟨hx, hb, hml, hown, hts⟩ := id G.1
  refine lv_aload_n hx hb dL_law_700 rfl (lv_at hl 3 rfl) ?_
  refine lv_aload_n hx hb dL_law_701 rfl (lv_at hl 4 rfl) ?_
  refine lv_iload hx hb dL_law_702 (lv_at hl 0 rfl) ?_
  refine lv_iconst (v := nI 1) hx hb dL_law_704 (by decide) ?_
  refine g_iaddn hx hb dL_law_705 ?_
  refine W.eq (g2 := F0 M_ _ ls [.int (nI 1), .ref q, .ref (w.2.2.2 0)]) rfl ?_
  refine va_sld hx hb hXs hbl (Nat.not_le.mpr hbl) hW9.2.1.2.2.2.2 (nI_in (by omega) (by omega)) dL_law_706 ?_
  refine W.eq (g2 := F0 M_ _ ls [.int (xs 1), .ref (w.2.2.2 0)]) rfl ?_
  refine lv_aload_n hx hb dL_law_707 rfl (lv_at hl 4 rfl) ?_
  refine lv_iload hx hb dL_law_708 (lv_at hl 0 rfl) ?_
  refine lv_iconst (v := nI 2) hx hb dL_law_710 (by decide) ?_
  refine g_iaddn hx hb dL_law_711 ?_
  refine W.eq (g2 := F0 M_ _ ls [.int (nI 2), .ref q, .int (xs 1), .ref (w.2.2.2 0)]) rfl ?_
  refine va_sld hx hb hXs hbl (Nat.not_le.mpr hbl) hW9.2.1.2.2.2.2 (nI_in (by omega) (by omega)) dL_law_712 ?_
  refine W.eq (g2 := F0 M_ _ ls [.int (xs 2), .int (xs 1), .ref (w.2.2.2 0)]) rfl ?_
  refine lv_aload_n hx hb dL_law_713 rfl (lv_at hl 4 rfl) ?_
  refine lv_iload hx hb dL_law_714 (lv_at hl 0 rfl) ?_
  refine lv_iconst (v := nI 3) hx hb dL_law_716 (by decide) ?_
  refine g_iaddn hx hb dL_law_717 ?_
  refine W.eq (g2 := F0 M_ _ ls [.int (nI 3), .ref q, .int (xs 2), .int (xs 1), .ref (w.2.2.2 0)]) rfl ?_
  refine va_sld hx hb hXs hbl (Nat.not_le.mpr hbl) hW9.2.1.2.2.2.2 (nI_in (by omega) (by omega)) dL_law_718 ?_
  refine W.eq (g2 := F0 M_ _ ls [.int (xs 3), .int (xs 2), .int (xs 1), .ref (w.2.2.2 0)]) rfl ?_
  refine lv_aload_n hx hb dL_law_719 rfl (lv_at hl 1 rfl) ?_
  refine l_wthr (As := [.ref (w.2.2.2 0), .int (xs 1), .int (xs 2), .int (xs 3), .ref o]) (rest := []) G.1 hLB hW9 (c_L_split_x l hfl w o (xs 1) (xs 2) (xs 3)) (w_csw (n := 5) hall ⟨rfl, rfl⟩ ⟨Nat.le_of_ble_eq_true rfl, Nat.le_of_ble_eq_true rfl⟩ gm_711 gm_650 ⟨by decide +kernel, by decide +kernel⟩ (by decide +kernel) gm_709 gm_710) rfl hl.1 rfl (Nat.le_of_ble_eq_true rfl) ⟨Nat.le_of_ble_eq_true rfl, Nat.le_of_ble_eq_true rfl⟩ dL_law_720 (fun H hW9 => ?_)
  have hM := hW9.2.1
  refine lv_istore (lv' := [(5, .int (nI 1)), (4, .int (nI 0)), (3, .ref o), (2, .ref (u.2.1 0)), (1, .ref (w.2.2.2 0)), (0, .ref q)]) hx hb dL_law_723 hl (by decide) rfl (fun ls hl => ?_)
  refine lv_aload_n hx hb dL_law_725 rfl (lv_at hl 3 rfl) ?_
  refine lv_aload_n hx hb dL_law_726 rfl (lv_at hl 5 rfl) ?_
  refine lv_iload hx hb dL_law_727 (lv_at hl 1 rfl) ?_
  refine lv_iconst (v := nI 1) hx hb dL_law_729 (by decide) ?_
  refine g_iaddn hx hb dL_law_730 ?_
  refine W.eq (g2 := F0 M_ _ ls [.int (nI 1), .ref q, .ref (u.2.1 0)]) rfl ?_
  refine va_sld hx hb hXs hbl (Nat.not_le.mpr hbl) hM.2.2.2.2 (nI_in (by omega) (by omega)) dL_law_731 ?_
  refine W.eq (g2 := F0 M_ _ ls [.int (xs 1), .ref (u.2.1 0)]) rfl ?_
  refine lv_aload_n hx hb dL_law_732 rfl (lv_at hl 5 rfl) ?_
  refine lv_iload hx hb dL_law_733 (lv_at hl 1 rfl) ?_
  refine lv_iconst (v := nI 2) hx hb dL_law_735 (by decide) ?_
  refine g_iaddn hx hb dL_law_736 ?_
  refine W.eq (g2 := F0 M_ _ ls [.int (nI 2), .ref q, .int (xs 1), .ref (u.2.1 0)]) rfl ?_
  refine va_sld hx hb hXs hbl (Nat.not_le.mpr hbl) hM.2.2.2.2 (nI_in (by omega) (by omega)) dL_law_737 ?_
  refine W.eq (g2 := F0 M_ _ ls [.int (xs 2), .int (xs 1), .ref (u.2.1 0)]) rfl ?_
  refine lv_aload_n hx hb dL_law_738 rfl (lv_at hl 5 rfl) ?_
  refine lv_iload hx hb dL_law_739 (lv_at hl 1 rfl) ?_
  refine lv_iconst (v := nI 3) hx hb dL_law_741 (by decide) ?_
  refine g_iaddn hx hb dL_law_742 ?_
  refine W.eq (g2 := F0 M_ _ ls [.int (nI 3), .ref q, .int (xs 2), .int (xs 1), .ref (u.2.1 0)]) rfl ?_
  refine va_sld hx hb hXs hbl (Nat.not_le.mpr hbl) hM.2.2.2.2 (nI_in (by omega) (by omega)) dL_law_743 ?_
  refine W.eq (g2 := F0 M_ _ ls [.int (xs 3), .int (xs 2), .int (xs 1), .ref (u.2.1 0)]) rfl ?_
  refine l_mod (v := nI 0) (th1 := nI 1) (As := [.int (xs 1), .int (xs 2), .int (xs 3)]) (rest := []) G.1 hM (fun z h => Or.inl h) (mWr.fin) (m_preV hM.1) ok_X5_split gm_713 gm_714 gm_712 (c_X5_split l u (nI 0) (nI 0) 0 (xs 1) (xs 2) (xs 3)) ⟨rfl, rfl⟩ ⟨Nat.le_of_ble_eq_true rfl, Nat.le_of_ble_eq_true rfl⟩ rfl hl.1 rfl (Nat.le_of_ble_eq_true rfl) ⟨Nat.le_of_ble_eq_true rfl, Nat.le_of_ble_eq_true rfl⟩ dL_law_744 (fun H locs hT => ?_)
  refine lv_istore (lv' := [(6, .int (nI 0)), (5, .int (nI 1)), (4, .int (nI 0)), (3, .ref o), (2, .ref (u.2.1 0)), (1, .ref (w.2.2.2 0)), (0, .ref q)]) hx hb dL_law_747 hl (by decide) rfl (fun ls hl => ?_)
  refine lv_aload_n hx hb dL_law_749 rfl (lv_at hl 4 rfl) ?_
  obtain ⟨⟨hK1, fs, hPm⟩, hO, hS⟩ := hT
  refine b_callV (v := .int (nI 1)) (As := []) (rest := []) G.1 ⟨fun a U g mk z => ⟨z.1, va_K.moved (u := U) (U := U.calling g mk a) (Vm.Alike.refl U.vm) z.2.1, z.2.2⟩, va_recv (q0 := 0) hK1 hPm (ci := 3) rfl rfl, fun U hU hW1 => ⟨rfl, va_K.moved hW1.alike hK1, by rw [hU]; exact hPm⟩⟩ ok_X5_thrown gm_657 gm_658 gm_656 (c_thr l u.1 (u.2.1 0) (nI 1) fs) ⟨rfl, rfl⟩ ⟨Nat.le_of_ble_eq_true rfl, Nat.le_of_ble_eq_true rfl⟩ rfl hl.1 rfl (Nat.le_of_ble_eq_true rfl) ⟨Nat.le_of_ble_eq_true rfl, Nat.le_of_ble_eq_true rfl⟩ dL_law_750 ?_
  refine lv_iload hx hb dL_law_753 (lv_at hl 1 rfl) ?_
  refine lv_icmp_eq (tgt := 760) hx hb dL_law_755 (by decide) (fun _ => ?_) (fun c => absurd rfl c)
  refine lv_iload hx hb dL_law_760 (lv_at hl 1 rfl) ?_
  refine lv_if_ne (tgt := 777) hx hb dL_law_762 (by decide) (fun _ => ?_) (fun c => absurd c (by decide))
  refine lv_goto (tgt := 1775) hx hb dL_law_777 (by decide) ?_
  exact W.widen (by decide) (by decide) (kk H locs ls hS (lv_sub hl [2, 3, 4, 5, 6] rfl))
set_option maxRecDepth 100000 in
set_option maxHeartbeats 4000000 in
theorem k_join {p : Program} {e : Env} {S_ : State} {M_ : MethodId} {below : List Frame} {meth : Method} {c : Code} {l : Launch} (hfl : l.stackTraces = false) {q : Nat} {xs : Nat → Int32} (G : CallFix p M_ c cL_law 9 S_ #[Value.ref q] gw RL ∧ True) (hall : ∀ v ∈ gwx, v.before #[Value.ref q] S_ = true) (hLB : LB S_) (hXs : va_X q 5 xs S_ S_.heap) (hbl : q < S_.heap.size) {w : GP} {u : MP} {ca : Nat} {ad : Nat → Nat} {o : Nat} {cL : ClassId} {Q : State → Prop} {H : Heap} {locs : List Loc} {ls : Array Slot} (hW9 : LW w u ca ad o cL S_ H locs) (hl : lv_has ls 9 [(4, .int (nI 0)), (3, .ref o), (2, .ref (u.2.1 0)), (1, .ref (w.2.2.2 0)), (0, .ref q)]) (kk : ∀ (H1 : Heap) (locs1 : List Loc) (ls1 : Array Slot), va_S (nA S_) S_.heap H1 locs1 → lv_has ls1 9 [(4, .int (nI 0)), (3, .ref o), (2, .ref (u.2.1 0)), (1, .ref (w.2.2.2 0)), (0, .ref q)] → W p l e room_1 S_ M_ #[Value.ref q] below meth c H1 locs1 600002 7302231 Q (F0 M_ 1775 ls1 []))  : W p l e room_1 S_ M_ #[Value.ref q] below meth c H locs 61 808 Q (F0 M_ 780 ls []) := by
  obtain ⟨hx, hb, hml, hown, hts⟩ := id G.1
  refine lv_aload_n hx hb dL_law_780 rfl (lv_at hl 3 rfl) ?_
  refine lv_aload_n hx hb dL_law_781 rfl (lv_at hl 4 rfl) ?_
  refine lv_iload hx hb dL_law_782 (lv_at hl 0 rfl) ?_
  refine lv_iconst (v := nI 1) hx hb dL_law_784 (by decide) ?_
  refine g_iaddn hx hb dL_law_785 ?_
  refine W.eq (g2 := F0 M_ _ ls [.int (nI 1), .ref q, .ref (w.2.2.2 0)]) rfl ?_
  refine va_sld hx hb hXs hbl (Nat.not_le.mpr hbl) hW9.2.1.2.2.2.2 (nI_in (by omega) (by omega)) dL_law_786 ?_
  refine W.eq (g2 := F0 M_ _ ls [.int (xs 1), .ref (w.2.2.2 0)]) rfl ?_
  refine lv_aload_n hx hb dL_law_787 rfl (lv_at hl 4 rfl) ?_
  refine lv_iload hx hb dL_law_788 (lv_at hl 0 rfl) ?_
  refine lv_iconst (v := nI 2) hx hb dL_law_790 (by decide) ?_
  refine g_iaddn hx hb dL_law_791 ?_
  refine W.eq (g2 := F0 M_ _ ls [.int (nI 2), .ref q, .int (xs 1), .ref (w.2.2.2 0)]) rfl ?_
  refine va_sld hx hb hXs hbl (Nat.not_le.mpr hbl) hW9.2.1.2.2.2.2 (nI_in (by omega) (by omega)) dL_law_792 ?_
  refine W.eq (g2 := F0 M_ _ ls [.int (xs 2), .int (xs 1), .ref (w.2.2.2 0)]) rfl ?_
  refine lv_aload_n hx hb dL_law_793 rfl (lv_at hl 1 rfl) ?_
  refine l_wthr (As := [.ref (w.2.2.2 0), .int (xs 1), .int (xs 2), .ref o]) (rest := []) G.1 hLB hW9 (c_L_join_x l hfl w o (xs 1) (xs 2)) (w_csw (n := 4) hall ⟨rfl, rfl⟩ ⟨Nat.le_of_ble_eq_true rfl, Nat.le_of_ble_eq_true rfl⟩ gm_718 gm_650 ⟨by decide +kernel, by decide +kernel⟩ (by decide +kernel) gm_716 gm_717) rfl hl.1 rfl (Nat.le_of_ble_eq_true rfl) ⟨Nat.le_of_ble_eq_true rfl, Nat.le_of_ble_eq_true rfl⟩ dL_law_794 (fun H hW9 => ?_)
  have hM := hW9.2.1
  refine lv_istore (lv' := [(5, .int (nI 1)), (4, .int (nI 0)), (3, .ref o), (2, .ref (u.2.1 0)), (1, .ref (w.2.2.2 0)), (0, .ref q)]) hx hb dL_law_797 hl (by decide) rfl (fun ls hl => ?_)
  refine lv_aload_n hx hb dL_law_799 rfl (lv_at hl 3 rfl) ?_
  refine lv_aload_n hx hb dL_law_800 rfl (lv_at hl 5 rfl) ?_
  refine lv_iload hx hb dL_law_801 (lv_at hl 1 rfl) ?_
  refine lv_iconst (v := nI 1) hx hb dL_law_803 (by decide) ?_
  refine g_iaddn hx hb dL_law_804 ?_
  refine W.eq (g2 := F0 M_ _ ls [.int (nI 1), .ref q, .ref (u.2.1 0)]) rfl ?_
  refine va_sld hx hb hXs hbl (Nat.not_le.mpr hbl) hM.2.2.2.2 (nI_in (by omega) (by omega)) dL_law_805 ?_
  refine W.eq (g2 := F0 M_ _ ls [.int (xs 1), .ref (u.2.1 0)]) rfl ?_
  refine lv_aload_n hx hb dL_law_806 rfl (lv_at hl 5 rfl) ?_
  refine lv_iload hx hb dL_law_807 (lv_at hl 1 rfl) ?_
  refine lv_iconst (v := nI 2) hx hb dL_law_809 (by decide) ?_
  refine g_iaddn hx hb dL_law_810 ?_
  refine W.eq (g2 := F0 M_ _ ls [.int (nI 2), .ref q, .int (xs 1), .ref (u.2.1 0)]) rfl ?_
  refine va_sld hx hb hXs hbl (Nat.not_le.mpr hbl) hM.2.2.2.2 (nI_in (by omega) (by omega)) dL_law_811 ?_
  refine W.eq (g2 := F0 M_ _ ls [.int (xs 2), .int (xs 1), .ref (u.2.1 0)]) rfl ?_
  refine l_mod (v := nI 0) (th1 := nI 1) (As := [.int (xs 1), .int (xs 2)]) (rest := []) G.1 hM (fun z h => Or.inl h) (mWr.fin) (m_preV hM.1) ok_X5_join gm_720 gm_721 gm_719 (c_X5_join l u (nI 0) (nI 0) 0 (xs 1) (xs 2)) ⟨rfl, rfl⟩ ⟨Nat.le_of_ble_eq_true rfl, Nat.le_of_ble_eq_true rfl⟩ rfl hl.1 rfl (Nat.le_of_ble_eq_true rfl) ⟨Nat.le_of_ble_eq_true rfl, Nat.le_of_ble_eq_true rfl⟩ dL_law_812 (fun H locs hT => ?_)
  refine lv_istore (lv' := [(6, .int (nI 0)), (5, .int (nI 1)), (4, .int (nI 0)), (3, .ref o), (2, .ref (u.2.1 0)), (1, .ref (w.2.2.2 0)), (0, .ref q)]) hx hb dL_law_815 hl (by decide) rfl (fun ls hl => ?_)
  refine lv_aload_n hx hb dL_law_817 rfl (lv_at hl 4 rfl) ?_
  obtain ⟨⟨hK1, fs, hPm⟩, hO, hS⟩ := hT
  refine b_callV (v := .int (nI 1)) (As := []) (rest := []) G.1 ⟨fun a U g mk z => ⟨z.1, va_K.moved (u := U) (U := U.calling g mk a) (Vm.Alike.refl U.vm) z.2.1, z.2.2⟩, va_recv (q0 := 0) hK1 hPm (ci := 3) rfl rfl, fun U hU hW1 => ⟨rfl, va_K.moved hW1.alike hK1, by rw [hU]; exact hPm⟩⟩ ok_X5_thrown gm_657 gm_658 gm_656 (c_thr l u.1 (u.2.1 0) (nI 1) fs) ⟨rfl, rfl⟩ ⟨Nat.le_of_ble_eq_true rfl, Nat.le_of_ble_eq_true rfl⟩ rfl hl.1 rfl (Nat.le_of_ble_eq_true rfl) ⟨Nat.le_of_ble_eq_true rfl, Nat.le_of_ble_eq_true rfl⟩ dL_law_818 ?_
  refine lv_iload hx hb dL_law_821 (lv_at hl 1 rfl) ?_
  refine lv_icmp_eq (tgt := 828) hx hb dL_law_823 (by decide) (fun _ => ?_) (fun c => absurd rfl c)
  refine lv_iload hx hb dL_law_828 (lv_at hl 1 rfl) ?_
  refine lv_if_ne (tgt := 845) hx hb dL_law_830 (by decide) (fun _ => ?_) (fun c => absurd c (by decide))
  refine lv_goto (tgt := 1775) hx hb dL_law_845 (by decide) ?_
  exact W.widen (by decide) (by decide) (kk H locs ls hS (lv_sub hl [2, 3, 4, 5, 6] rfl))
set_option maxRecDepth 100000 in
set_option maxHeartbeats 4000000 in
theorem k_document {p : Program} {e : Env} {S_ : State} {M_ : MethodId} {below : List Frame} {meth : Method} {c : Code} {l : Launch} (hfl : l.stackTraces = false) {q : Nat} {xs : Nat → Int32} (G : CallFix p M_ c cL_law 9 S_ #[Value.ref q] gw RL ∧ True) (hall : ∀ v ∈ gwx, v.before #[Value.ref q] S_ = true) (hLB : LB S_) (hXs : va_X q 5 xs S_ S_.heap) (hbl : q < S_.heap.size) {w : GP} {u : MP} {ca : Nat} {ad : Nat → Nat} {o : Nat} {cL : ClassId} {Q : State → Prop} {H : Heap} {locs : List Loc} {ls : Array Slot} (hW9 : LW w u ca ad o cL S_ H locs) (hl : lv_has ls 9 [(4, .int (nI 0)), (3, .ref o), (2, .ref (u.2.1 0)), (1, .ref (w.2.2.2 0)), (0, .ref q)]) (kk : ∀ (H1 : Heap) (locs1 : List Loc) (ls1 : Array Slot), va_S (nA S_) S_.heap H1 locs1 → lv_has ls1 9 [(4, .int (nI 0)), (3, .ref o), (2, .ref (u.2.1 0)), (1, .ref (w.2.2.2 0)), (0, .ref q)] → W p l e room_1 S_ M_ #[Value.ref q] below meth c H1 locs1 600002 7302231 Q (F0 M_ 1775 ls1 []))  : W p l e room_1 S_ M_ #[Value.ref q] below meth c H locs 61 808 Q (F0 M_ 848 ls []) := by
  obtain ⟨hx, hb, hml, hown, hts⟩ := id G.1
  refine lv_aload_n hx hb dL_law_848 rfl (lv_at hl 3 rfl) ?_
  refine lv_aload_n hx hb dL_law_849 rfl (lv_at hl 1 rfl) ?_
  refine l_wret (As := [.ref (w.2.2.2 0), .ref o]) (rest := []) G.1 hW9 (c_L_document l w u.1 o cL hW9.2.2.1) (w_csw (n := 2) hall ⟨rfl, rfl⟩ ⟨Nat.le_of_ble_eq_true rfl, Nat.le_of_ble_eq_true rfl⟩ gm_725 gm_650 ⟨by decide +kernel, by decide +kernel⟩ (by decide +kernel) gm_723 gm_724) rfl hl.1 rfl (Nat.le_of_ble_eq_true rfl) ⟨Nat.le_of_ble_eq_true rfl, Nat.le_of_ble_eq_true rfl⟩ dL_law_850 (fun H locs g hg hM => ?_)
  refine lv_istore (lv' := [(5, .int (nI 0)), (4, .int (nI 0)), (3, .ref o), (2, .ref (u.2.1 0)), (1, .ref (w.2.2.2 0)), (0, .ref q)]) hx hb dL_law_853 hl (by decide) rfl (fun ls hl => ?_)
  refine lv_aload_n hx hb dL_law_855 rfl (lv_at hl 3 rfl) ?_
  refine l_mod (v := nI 0) (th1 := nI 0) (As := []) (rest := []) G.1 hM (fun z h => h) (fun _ _ _ _ h => h) (m_preX hM.1 hM.2.1 rfl) ok_X5_document gm_727 gm_728 gm_726 (c_X5_document l S_.heap.size u ca ad H.size (nI 0) (nI 0) 0) ⟨rfl, rfl⟩ ⟨Nat.le_of_ble_eq_true rfl, Nat.le_of_ble_eq_true rfl⟩ rfl hl.1 rfl (Nat.le_of_ble_eq_true rfl) ⟨Nat.le_of_ble_eq_true rfl, Nat.le_of_ble_eq_true rfl⟩ dL_law_856 (fun H locs hT => ?_)
  refine lv_istore (lv' := [(6, .int (nI 0)), (5, .int (nI 0)), (4, .int (nI 0)), (3, .ref o), (2, .ref (u.2.1 0)), (1, .ref (w.2.2.2 0)), (0, .ref q)]) hx hb dL_law_859 hl (by decide) rfl (fun ls hl => ?_)
  refine lv_aload_n hx hb dL_law_861 rfl (lv_at hl 4 rfl) ?_
  obtain ⟨⟨hK1, fs, hPm⟩, hO, hS⟩ := hT
  refine b_callV (v := .int (nI 0)) (As := []) (rest := []) G.1 ⟨fun a U g mk z => ⟨z.1, va_K.moved (u := U) (U := U.calling g mk a) (Vm.Alike.refl U.vm) z.2.1, z.2.2⟩, va_recv (q0 := 0) hK1 hPm (ci := 3) rfl rfl, fun U hU hW1 => ⟨rfl, va_K.moved hW1.alike hK1, by rw [hU]; exact hPm⟩⟩ ok_X5_thrown gm_657 gm_658 gm_656 (c_thr l u.1 (u.2.1 0) (nI 0) fs) ⟨rfl, rfl⟩ ⟨Nat.le_of_ble_eq_true rfl, Nat.le_of_ble_eq_true rfl⟩ rfl hl.1 rfl (Nat.le_of_ble_eq_true rfl) ⟨Nat.le_of_ble_eq_true rfl, Nat.le_of_ble_eq_true rfl⟩ dL_law_862 ?_
  refine lv_iload hx hb dL_law_865 (lv_at hl 1 rfl) ?_
  refine lv_icmp_eq (tgt := 872) hx hb dL_law_867 (by decide) (fun _ => ?_) (fun c => absurd rfl c)
  refine lv_iload hx hb dL_law_872 (lv_at hl 1 rfl) ?_
  refine lv_if_ne (tgt := 889) hx hb dL_law_874 (by decide) (fun c => absurd rfl c) (fun _ => ?_)
  refine lv_aload_n hx hb dL_law_877 rfl (lv_at hl 3 rfl) ?_
  refine lv_iconst (v := nI 0) hx hb dL_law_878 (by decide) ?_
  refine va_lald hx hb hO.1 hO.2 0 0 rfl rfl (nI_in (by omega) (by omega)) dL_law_879 ?_
  refine W.eq (g2 := F0 M_ _ ls [.long ((nI 0).toInt64)]) (by rw [show (nI 0).toNatClampNeg = 0 from rfl, hg]) ?_
  refine lv_iload hx hb dL_law_880 (lv_at hl 0 rfl) ?_
  refine lv_i2l hx hb dL_law_882 rfl ?_
  refine W.lcmp hx hb dL_law_883 ?_
  refine W.eq (g2 := F0 M_ _ ls [.int 0]) (by rw [lg_self]) ?_
  refine lv_if_eq (tgt := 889) hx hb dL_law_884 (by decide) (fun _ => ?_) (fun c => absurd rfl c)
  refine lv_goto (tgt := 1775) hx hb dL_law_889 (by decide) ?_
  exact W.widen (by decide) (by decide) (kk H locs ls hS (lv_sub hl [2, 3, 4, 5, 6] rfl))
set_option maxRecDepth 100000 in
set_option maxHeartbeats 4000000 in
theorem k_write {p : Program} {e : Env} {S_ : State} {M_ : MethodId} {below : List Frame} {meth : Method} {c : Code} {l : Launch} (hfl : l.stackTraces = false) {q : Nat} {xs : Nat → Int32} (G : CallFix p M_ c cL_law 9 S_ #[Value.ref q] gw RL ∧ True) (hall : ∀ v ∈ gwx, v.before #[Value.ref q] S_ = true) (hLB : LB S_) (hXs : va_X q 5 xs S_ S_.heap) (hbl : q < S_.heap.size) {w : GP} {u : MP} {ca : Nat} {ad : Nat → Nat} {o : Nat} {cL : ClassId} {Q : State → Prop} {H : Heap} {locs : List Loc} {ls : Array Slot} (hW9 : LW w u ca ad o cL S_ H locs) (hl : lv_has ls 9 [(4, .int (nI 0)), (3, .ref o), (2, .ref (u.2.1 0)), (1, .ref (w.2.2.2 0)), (0, .ref q)]) (kk : ∀ (H1 : Heap) (locs1 : List Loc) (ls1 : Array Slot), va_S (nA S_) S_.heap H1 locs1 → lv_has ls1 9 [(4, .int (nI 0)), (3, .ref o), (2, .ref (u.2.1 0)), (1, .ref (w.2.2.2 0)), (0, .ref q)] → W p l e room_1 S_ M_ #[Value.ref q] below meth c H1 locs1 600002 7302231 Q (F0 M_ 1775 ls1 []))  : W p l e room_1 S_ M_ #[Value.ref q] below meth c H locs 61 808 Q (F0 M_ 892 ls []) := by
  obtain ⟨hx, hb, hml, hown, hts⟩ := id G.1
  refine lv_aload_n hx hb dL_law_892 rfl (lv_at hl 3 rfl) ?_
  refine lv_aload_n hx hb dL_law_893 rfl (lv_at hl 4 rfl) ?_
  refine lv_iload hx hb dL_law_894 (lv_at hl 0 rfl) ?_
  refine lv_iconst (v := nI 1) hx hb dL_law_896 (by decide) ?_
  refine g_iaddn hx hb dL_law_897 ?_
  refine W.eq (g2 := F0 M_ _ ls [.int (nI 1), .ref q, .ref (w.2.2.2 0)]) rfl ?_
  refine va_sld hx hb hXs hbl (Nat.not_le.mpr hbl) hW9.2.1.2.2.2.2 (nI_in (by omega) (by omega)) dL_law_898 ?_
  refine W.eq (g2 := F0 M_ _ ls [.int (xs 1), .ref (w.2.2.2 0)]) rfl ?_
  refine lv_aload_n hx hb dL_law_899 rfl (lv_at hl 4 rfl) ?_
  refine lv_iload hx hb dL_law_900 (lv_at hl 0 rfl) ?_
  refine lv_iconst (v := nI 2) hx hb dL_law_902 (by decide) ?_
  refine g_iaddn hx hb dL_law_903 ?_
  refine W.eq (g2 := F0 M_ _ ls [.int (nI 2), .ref q, .int (xs 1), .ref (w.2.2.2 0)]) rfl ?_
  refine va_sld hx hb hXs hbl (Nat.not_le.mpr hbl) hW9.2.1.2.2.2.2 (nI_in (by omega) (by omega)) dL_law_904 ?_
  refine W.eq (g2 := F0 M_ _ ls [.int (xs 2), .int (xs 1), .ref (w.2.2.2 0)]) rfl ?_
  refine lv_aload_n hx hb dL_law_905 rfl (lv_at hl 4 rfl) ?_
  refine lv_iload hx hb dL_law_906 (lv_at hl 0 rfl) ?_
  refine lv_iconst (v := nI 3) hx hb dL_law_908 (by decide) ?_
  refine g_iaddn hx hb dL_law_909 ?_
  refine W.eq (g2 := F0 M_ _ ls [.int (nI 3), .ref q, .int (xs 2), .int (xs 1), .ref (w.2.2.2 0)]) rfl ?_
  refine va_sld hx hb hXs hbl (Nat.not_le.mpr hbl) hW9.2.1.2.2.2.2 (nI_in (by omega) (by omega)) dL_law_910 ?_
  refine W.eq (g2 := F0 M_ _ ls [.int (xs 3), .int (xs 2), .int (xs 1), .ref (w.2.2.2 0)]) rfl ?_
  refine lv_aload_n hx hb dL_law_911 rfl (lv_at hl 4 rfl) ?_
  refine lv_iload hx hb dL_law_912 (lv_at hl 0 rfl) ?_
  refine lv_iconst (v := nI 4) hx hb dL_law_914 (by decide) ?_
  refine g_iaddn hx hb dL_law_915 ?_
  refine W.eq (g2 := F0 M_ _ ls [.int (nI 4), .ref q, .int (xs 3), .int (xs 2), .int (xs 1), .ref (w.2.2.2 0)]) rfl ?_
  refine va_sld hx hb hXs hbl (Nat.not_le.mpr hbl) hW9.2.1.2.2.2.2 (nI_in (by omega) (by omega)) dL_law_916 ?_
  refine W.eq (g2 := F0 M_ _ ls [.int (xs 4), .int (xs 3), .int (xs 2), .int (xs 1), .ref (w.2.2.2 0)]) rfl ?_
  refine lv_aload_n hx hb dL_law_917 rfl (lv_at hl 1 rfl) ?_
  refine l_wthr (As := [.ref (w.2.2.2 0), .int (xs 1), .int (xs 2), .int (xs 3), .int (xs 4), .ref o]) (rest := []) G.1 hLB hW9 (c_L_write_x l hfl w o (xs 1) (xs 2) (xs 3) (xs 4)) (w_csw (n := 6) hall ⟨rfl, rfl⟩ ⟨Nat.le_of_ble_eq_true rfl, Nat.le_of_ble_eq_true rfl⟩ gm_732 gm_650 ⟨by decide +kernel, by decide +kernel⟩ (by decide +kernel) gm_730 gm_731) rfl hl.1 rfl (Nat.le_of_ble_eq_true rfl) ⟨Nat.le_of_ble_eq_true rfl, Nat.le_of_ble_eq_true rfl⟩ dL_law_918 (fun H hW9 => ?_)
  have hM := hW9.2.1
  refine lv_istore (lv' := [(5, .int (nI 1)), (4, .int (nI 0)), (3, .ref o), (2, .ref (u.2.1 0)), (1, .ref (w.2.2.2 0)), (0, .ref q)]) hx hb dL_law_921 hl (by decide) rfl (fun ls hl => ?_)
  refine lv_aload_n hx hb dL_law_923 rfl (lv_at hl 3 rfl) ?_
  refine lv_aload_n hx hb dL_law_924 rfl (lv_at hl 5 rfl) ?_
  refine lv_iload hx hb dL_law_925 (lv_at hl 1 rfl) ?_
  refine lv_iconst (v := nI 1) hx hb dL_law_927 (by decide) ?_
  refine g_iaddn hx hb dL_law_928 ?_
  refine W.eq (g2 := F0 M_ _ ls [.int (nI 1), .ref q, .ref (u.2.1 0)]) rfl ?_
  refine va_sld hx hb hXs hbl (Nat.not_le.mpr hbl) hM.2.2.2.2 (nI_in (by omega) (by omega)) dL_law_929 ?_
  refine W.eq (g2 := F0 M_ _ ls [.int (xs 1), .ref (u.2.1 0)]) rfl ?_
  refine lv_aload_n hx hb dL_law_930 rfl (lv_at hl 5 rfl) ?_
  refine lv_iload hx hb dL_law_931 (lv_at hl 1 rfl) ?_
  refine lv_iconst (v := nI 2) hx hb dL_law_933 (by decide) ?_
  refine g_iaddn hx hb dL_law_934 ?_
  refine W.eq (g2 := F0 M_ _ ls [.int (nI 2), .ref q, .int (xs 1), .ref (u.2.1 0)]) rfl ?_
  refine va_sld hx hb hXs hbl (Nat.not_le.mpr hbl) hM.2.2.2.2 (nI_in (by omega) (by omega)) dL_law_935 ?_
  refine W.eq (g2 := F0 M_ _ ls [.int (xs 2), .int (xs 1), .ref (u.2.1 0)]) rfl ?_
  refine lv_aload_n hx hb dL_law_936 rfl (lv_at hl 5 rfl) ?_
  refine lv_iload hx hb dL_law_937 (lv_at hl 1 rfl) ?_
  refine lv_iconst (v := nI 3) hx hb dL_law_939 (by decide) ?_
  refine g_iaddn hx hb dL_law_940 ?_
  refine W.eq (g2 := F0 M_ _ ls [.int (nI 3), .ref q, .int (xs 2), .int (xs 1), .ref (u.2.1 0)]) rfl ?_
  refine va_sld hx hb hXs hbl (Nat.not_le.mpr hbl) hM.2.2.2.2 (nI_in (by omega) (by omega)) dL_law_941 ?_
  refine W.eq (g2 := F0 M_ _ ls [.int (xs 3), .int (xs 2), .int (xs 1), .ref (u.2.1 0)]) rfl ?_
  refine lv_aload_n hx hb dL_law_942 rfl (lv_at hl 5 rfl) ?_
  refine lv_iload hx hb dL_law_943 (lv_at hl 1 rfl) ?_
  refine lv_iconst (v := nI 4) hx hb dL_law_945 (by decide) ?_
  refine g_iaddn hx hb dL_law_946 ?_
  refine W.eq (g2 := F0 M_ _ ls [.int (nI 4), .ref q, .int (xs 3), .int (xs 2), .int (xs 1), .ref (u.2.1 0)]) rfl ?_
  refine va_sld hx hb hXs hbl (Nat.not_le.mpr hbl) hM.2.2.2.2 (nI_in (by omega) (by omega)) dL_law_947 ?_
  refine W.eq (g2 := F0 M_ _ ls [.int (xs 4), .int (xs 3), .int (xs 2), .int (xs 1), .ref (u.2.1 0)]) rfl ?_
  refine l_mod (v := nI 0) (th1 := nI 1) (As := [.int (xs 1), .int (xs 2), .int (xs 3), .int (xs 4)]) (rest := []) G.1 hM (fun z h => Or.inl h) (mWr.fin) (m_preV hM.1) ok_X5_write gm_734 gm_735 gm_733 (c_X5_write l u (nI 0) (nI 0) 0 (xs 1) (xs 2) (xs 3) (xs 4)) ⟨rfl, rfl⟩ ⟨Nat.le_of_ble_eq_true rfl, Nat.le_of_ble_eq_true rfl⟩ rfl hl.1 rfl (Nat.le_of_ble_eq_true rfl) ⟨Nat.le_of_ble_eq_true rfl, Nat.le_of_ble_eq_true rfl⟩ dL_law_948 (fun H locs hT => ?_)
  refine lv_istore (lv' := [(6, .int (nI 0)), (5, .int (nI 1)), (4, .int (nI 0)), (3, .ref o), (2, .ref (u.2.1 0)), (1, .ref (w.2.2.2 0)), (0, .ref q)]) hx hb dL_law_951 hl (by decide) rfl (fun ls hl => ?_)
  refine lv_aload_n hx hb dL_law_953 rfl (lv_at hl 4 rfl) ?_
  obtain ⟨⟨hK1, fs, hPm⟩, hO, hS⟩ := hT
  refine b_callV (v := .int (nI 1)) (As := []) (rest := []) G.1 ⟨fun a U g mk z => ⟨z.1, va_K.moved (u := U) (U := U.calling g mk a) (Vm.Alike.refl U.vm) z.2.1, z.2.2⟩, va_recv (q0 := 0) hK1 hPm (ci := 3) rfl rfl, fun U hU hW1 => ⟨rfl, va_K.moved hW1.alike hK1, by rw [hU]; exact hPm⟩⟩ ok_X5_thrown gm_657 gm_658 gm_656 (c_thr l u.1 (u.2.1 0) (nI 1) fs) ⟨rfl, rfl⟩ ⟨Nat.le_of_ble_eq_true rfl, Nat.le_of_ble_eq_true rfl⟩ rfl hl.1 rfl (Nat.le_of_ble_eq_true rfl) ⟨Nat.le_of_ble_eq_true rfl, Nat.le_of_ble_eq_true rfl⟩ dL_law_954 ?_
  refine lv_iload hx hb dL_law_957 (lv_at hl 1 rfl) ?_
  refine lv_icmp_eq (tgt := 964) hx hb dL_law_959 (by decide) (fun _ => ?_) (fun c => absurd rfl c)
  refine lv_iload hx hb dL_law_964 (lv_at hl 1 rfl) ?_
  refine lv_if_ne (tgt := 981) hx hb dL_law_966 (by decide) (fun _ => ?_) (fun c => absurd c (by decide))
  refine lv_goto (tgt := 1775) hx hb dL_law_981 (by decide) ?_
  exact W.widen (by decide) (by decide) (kk H locs ls hS (lv_sub hl [2, 3, 4, 5, 6] rfl))
set_option maxRecDepth 100000 in
set_option maxHeartbeats 4000000 in
theorem k_cut {p : Program} {e : Env} {S_ : State} {M_ : MethodId} {below : List Frame} {meth : Method} {c : Code} {l : Launch} (hfl : l.stackTraces = false) {q : Nat} {xs : Nat → Int32} (G : CallFix p M_ c cL_law 9 S_ #[Value.ref q] gw RL ∧ True) (hall : ∀ v ∈ gwx, v.before #[Value.ref q] S_ = true) (hLB : LB S_) (hXs : va_X q 5 xs S_ S_.heap) (hbl : q < S_.heap.size) {w : GP} {u : MP} {ca : Nat} {ad : Nat → Nat} {o : Nat} {cL : ClassId} {Q : State → Prop} {H : Heap} {locs : List Loc} {ls : Array Slot} (hW9 : LW w u ca ad o cL S_ H locs) (hl : lv_has ls 9 [(4, .int (nI 0)), (3, .ref o), (2, .ref (u.2.1 0)), (1, .ref (w.2.2.2 0)), (0, .ref q)]) (kk : ∀ (H1 : Heap) (locs1 : List Loc) (ls1 : Array Slot), va_S (nA S_) S_.heap H1 locs1 → lv_has ls1 9 [(4, .int (nI 0)), (3, .ref o), (2, .ref (u.2.1 0)), (1, .ref (w.2.2.2 0)), (0, .ref q)] → W p l e room_1 S_ M_ #[Value.ref q] below meth c H1 locs1 600002 7302231 Q (F0 M_ 1775 ls1 []))  : W p l e room_1 S_ M_ #[Value.ref q] below meth c H locs 61 808 Q (F0 M_ 984 ls []) := by
  obtain ⟨hx, hb, hml, hown, hts⟩ := id G.1
  refine lv_aload_n hx hb dL_law_984 rfl (lv_at hl 3 rfl) ?_
  refine lv_aload_n hx hb dL_law_985 rfl (lv_at hl 4 rfl) ?_
  refine lv_iload hx hb dL_law_986 (lv_at hl 0 rfl) ?_
  refine lv_iconst (v := nI 1) hx hb dL_law_988 (by decide) ?_
  refine g_iaddn hx hb dL_law_989 ?_
  refine W.eq (g2 := F0 M_ _ ls [.int (nI 1), .ref q, .ref (w.2.2.2 0)]) rfl ?_
  refine va_sld hx hb hXs hbl (Nat.not_le.mpr hbl) hW9.2.1.2.2.2.2 (nI_in (by omega) (by omega)) dL_law_990 ?_
  refine W.eq (g2 := F0 M_ _ ls [.int (xs 1), .ref (w.2.2.2 0)]) rfl ?_
  refine lv_aload_n hx hb dL_law_991 rfl (lv_at hl 4 rfl) ?_
  refine lv_iload hx hb dL_law_992 (lv_at hl 0 rfl) ?_
  refine lv_iconst (v := nI 2) hx hb dL_law_994 (by decide) ?_
  refine g_iaddn hx hb dL_law_995 ?_
  refine W.eq (g2 := F0 M_ _ ls [.int (nI 2), .ref q, .int (xs 1), .ref (w.2.2.2 0)]) rfl ?_
  refine va_sld hx hb hXs hbl (Nat.not_le.mpr hbl) hW9.2.1.2.2.2.2 (nI_in (by omega) (by omega)) dL_law_996 ?_
  refine W.eq (g2 := F0 M_ _ ls [.int (xs 2), .int (xs 1), .ref (w.2.2.2 0)]) rfl ?_
  refine lv_aload_n hx hb dL_law_997 rfl (lv_at hl 1 rfl) ?_
  refine l_wthr (As := [.ref (w.2.2.2 0), .int (xs 1), .int (xs 2), .ref o]) (rest := []) G.1 hLB hW9 (c_L_cut_x l hfl w o (xs 1) (xs 2)) (w_csw (n := 4) hall ⟨rfl, rfl⟩ ⟨Nat.le_of_ble_eq_true rfl, Nat.le_of_ble_eq_true rfl⟩ gm_739 gm_650 ⟨by decide +kernel, by decide +kernel⟩ (by decide +kernel) gm_737 gm_738) rfl hl.1 rfl (Nat.le_of_ble_eq_true rfl) ⟨Nat.le_of_ble_eq_true rfl, Nat.le_of_ble_eq_true rfl⟩ dL_law_998 (fun H hW9 => ?_)
  have hM := hW9.2.1
  refine lv_istore (lv' := [(5, .int (nI 1)), (4, .int (nI 0)), (3, .ref o), (2, .ref (u.2.1 0)), (1, .ref (w.2.2.2 0)), (0, .ref q)]) hx hb dL_law_1001 hl (by decide) rfl (fun ls hl => ?_)
  refine lv_aload_n hx hb dL_law_1003 rfl (lv_at hl 3 rfl) ?_
  refine lv_aload_n hx hb dL_law_1004 rfl (lv_at hl 5 rfl) ?_
  refine lv_iload hx hb dL_law_1005 (lv_at hl 1 rfl) ?_
  refine lv_iconst (v := nI 1) hx hb dL_law_1007 (by decide) ?_
  refine g_iaddn hx hb dL_law_1008 ?_
  refine W.eq (g2 := F0 M_ _ ls [.int (nI 1), .ref q, .ref (u.2.1 0)]) rfl ?_
  refine va_sld hx hb hXs hbl (Nat.not_le.mpr hbl) hM.2.2.2.2 (nI_in (by omega) (by omega)) dL_law_1009 ?_
  refine W.eq (g2 := F0 M_ _ ls [.int (xs 1), .ref (u.2.1 0)]) rfl ?_
  refine lv_aload_n hx hb dL_law_1010 rfl (lv_at hl 5 rfl) ?_
  refine lv_iload hx hb dL_law_1011 (lv_at hl 1 rfl) ?_
  refine lv_iconst (v := nI 2) hx hb dL_law_1013 (by decide) ?_
  refine g_iaddn hx hb dL_law_1014 ?_
  refine W.eq (g2 := F0 M_ _ ls [.int (nI 2), .ref q, .int (xs 1), .ref (u.2.1 0)]) rfl ?_
  refine va_sld hx hb hXs hbl (Nat.not_le.mpr hbl) hM.2.2.2.2 (nI_in (by omega) (by omega)) dL_law_1015 ?_
  refine W.eq (g2 := F0 M_ _ ls [.int (xs 2), .int (xs 1), .ref (u.2.1 0)]) rfl ?_
  refine l_mod (v := nI 0) (th1 := nI 1) (As := [.int (xs 1), .int (xs 2)]) (rest := []) G.1 hM (fun z h => Or.inl h) (mWr.fin) (m_preV hM.1) ok_X5_cut gm_741 gm_742 gm_740 (c_X5_cut l u (nI 0) (nI 0) 0 (xs 1) (xs 2)) ⟨rfl, rfl⟩ ⟨Nat.le_of_ble_eq_true rfl, Nat.le_of_ble_eq_true rfl⟩ rfl hl.1 rfl (Nat.le_of_ble_eq_true rfl) ⟨Nat.le_of_ble_eq_true rfl, Nat.le_of_ble_eq_true rfl⟩ dL_law_1016 (fun H locs hT => ?_)
  refine lv_istore (lv' := [(6, .int (nI 0)), (5, .int (nI 1)), (4, .int (nI 0)), (3, .ref o), (2, .ref (u.2.1 0)), (1, .ref (w.2.2.2 0)), (0, .ref q)]) hx hb dL_law_1019 hl (by decide) rfl (fun ls hl => ?_)
  refine lv_aload_n hx hb dL_law_1021 rfl (lv_at hl 4 rfl) ?_
  obtain ⟨⟨hK1, fs, hPm⟩, hO, hS⟩ := hT
  refine b_callV (v := .int (nI 1)) (As := []) (rest := []) G.1 ⟨fun a U g mk z => ⟨z.1, va_K.moved (u := U) (U := U.calling g mk a) (Vm.Alike.refl U.vm) z.2.1, z.2.2⟩, va_recv (q0 := 0) hK1 hPm (ci := 3) rfl rfl, fun U hU hW1 => ⟨rfl, va_K.moved hW1.alike hK1, by rw [hU]; exact hPm⟩⟩ ok_X5_thrown gm_657 gm_658 gm_656 (c_thr l u.1 (u.2.1 0) (nI 1) fs) ⟨rfl, rfl⟩ ⟨Nat.le_of_ble_eq_true rfl, Nat.le_of_ble_eq_true rfl⟩ rfl hl.1 rfl (Nat.le_of_ble_eq_true rfl) ⟨Nat.le_of_ble_eq_true rfl, Nat.le_of_ble_eq_true rfl⟩ dL_law_1022 ?_
  refine lv_iload hx hb dL_law_1025 (lv_at hl 1 rfl) ?_
  refine lv_icmp_eq (tgt := 1032) hx hb dL_law_1027 (by decide) (fun _ => ?_) (fun c => absurd rfl c)
  refine lv_iload hx hb dL_law_1032 (lv_at hl 1 rfl) ?_
  refine lv_if_ne (tgt := 1049) hx hb dL_law_1034 (by decide) (fun _ => ?_) (fun c => absurd c (by decide))
  refine lv_goto (tgt := 1775) hx hb dL_law_1049 (by decide) ?_
  exact W.widen (by decide) (by decide) (kk H locs ls hS (lv_sub hl [2, 3, 4, 5, 6] rfl))
set_option maxRecDepth 100000 in
set_option maxHeartbeats 4000000 in
theorem k_approve {p : Program} {e : Env} {S_ : State} {M_ : MethodId} {below : List Frame} {meth : Method} {c : Code} {l : Launch} (hfl : l.stackTraces = false) {q : Nat} {xs : Nat → Int32} (G : CallFix p M_ c cL_law 9 S_ #[Value.ref q] gw RL ∧ True) (hall : ∀ v ∈ gwx, v.before #[Value.ref q] S_ = true) (hLB : LB S_) (hXs : va_X q 5 xs S_ S_.heap) (hbl : q < S_.heap.size) {w : GP} {u : MP} {ca : Nat} {ad : Nat → Nat} {o : Nat} {cL : ClassId} {Q : State → Prop} {H : Heap} {locs : List Loc} {ls : Array Slot} (hW9 : LW w u ca ad o cL S_ H locs) (hl : lv_has ls 9 [(4, .int (nI 0)), (3, .ref o), (2, .ref (u.2.1 0)), (1, .ref (w.2.2.2 0)), (0, .ref q)]) (kk : ∀ (H1 : Heap) (locs1 : List Loc) (ls1 : Array Slot), va_S (nA S_) S_.heap H1 locs1 → lv_has ls1 9 [(4, .int (nI 0)), (3, .ref o), (2, .ref (u.2.1 0)), (1, .ref (w.2.2.2 0)), (0, .ref q)] → W p l e room_1 S_ M_ #[Value.ref q] below meth c H1 locs1 600002 7302231 Q (F0 M_ 1775 ls1 []))  : W p l e room_1 S_ M_ #[Value.ref q] below meth c H locs 61 808 Q (F0 M_ 1052 ls []) := by
  obtain ⟨hx, hb, hml, hown, hts⟩ := id G.1
  refine lv_aload_n hx hb dL_law_1052 rfl (lv_at hl 3 rfl) ?_
  refine lv_aload_n hx hb dL_law_1053 rfl (lv_at hl 4 rfl) ?_
  refine lv_iload hx hb dL_law_1054 (lv_at hl 0 rfl) ?_
  refine lv_iconst (v := nI 1) hx hb dL_law_1056 (by decide) ?_
  refine g_iaddn hx hb dL_law_1057 ?_
  refine W.eq (g2 := F0 M_ _ ls [.int (nI 1), .ref q, .ref (w.2.2.2 0)]) rfl ?_
  refine va_sld hx hb hXs hbl (Nat.not_le.mpr hbl) hW9.2.1.2.2.2.2 (nI_in (by omega) (by omega)) dL_law_1058 ?_
  refine W.eq (g2 := F0 M_ _ ls [.int (xs 1), .ref (w.2.2.2 0)]) rfl ?_
  refine lv_aload_n hx hb dL_law_1059 rfl (lv_at hl 4 rfl) ?_
  refine lv_iload hx hb dL_law_1060 (lv_at hl 0 rfl) ?_
  refine lv_iconst (v := nI 2) hx hb dL_law_1062 (by decide) ?_
  refine g_iaddn hx hb dL_law_1063 ?_
  refine W.eq (g2 := F0 M_ _ ls [.int (nI 2), .ref q, .int (xs 1), .ref (w.2.2.2 0)]) rfl ?_
  refine va_sld hx hb hXs hbl (Nat.not_le.mpr hbl) hW9.2.1.2.2.2.2 (nI_in (by omega) (by omega)) dL_law_1064 ?_
  refine W.eq (g2 := F0 M_ _ ls [.int (xs 2), .int (xs 1), .ref (w.2.2.2 0)]) rfl ?_
  refine lv_aload_n hx hb dL_law_1065 rfl (lv_at hl 1 rfl) ?_
  refine l_wthr (As := [.ref (w.2.2.2 0), .int (xs 1), .int (xs 2), .ref o]) (rest := []) G.1 hLB hW9 (c_L_approve_x l hfl w o (xs 1) (xs 2)) (w_csw (n := 4) hall ⟨rfl, rfl⟩ ⟨Nat.le_of_ble_eq_true rfl, Nat.le_of_ble_eq_true rfl⟩ gm_746 gm_650 ⟨by decide +kernel, by decide +kernel⟩ (by decide +kernel) gm_744 gm_745) rfl hl.1 rfl (Nat.le_of_ble_eq_true rfl) ⟨Nat.le_of_ble_eq_true rfl, Nat.le_of_ble_eq_true rfl⟩ dL_law_1066 (fun H hW9 => ?_)
  have hM := hW9.2.1
  refine lv_istore (lv' := [(5, .int (nI 1)), (4, .int (nI 0)), (3, .ref o), (2, .ref (u.2.1 0)), (1, .ref (w.2.2.2 0)), (0, .ref q)]) hx hb dL_law_1069 hl (by decide) rfl (fun ls hl => ?_)
  refine lv_aload_n hx hb dL_law_1071 rfl (lv_at hl 3 rfl) ?_
  refine lv_aload_n hx hb dL_law_1072 rfl (lv_at hl 5 rfl) ?_
  refine lv_iload hx hb dL_law_1073 (lv_at hl 1 rfl) ?_
  refine lv_iconst (v := nI 1) hx hb dL_law_1075 (by decide) ?_
  refine g_iaddn hx hb dL_law_1076 ?_
  refine W.eq (g2 := F0 M_ _ ls [.int (nI 1), .ref q, .ref (u.2.1 0)]) rfl ?_
  refine va_sld hx hb hXs hbl (Nat.not_le.mpr hbl) hM.2.2.2.2 (nI_in (by omega) (by omega)) dL_law_1077 ?_
  refine W.eq (g2 := F0 M_ _ ls [.int (xs 1), .ref (u.2.1 0)]) rfl ?_
  refine lv_aload_n hx hb dL_law_1078 rfl (lv_at hl 5 rfl) ?_
  refine lv_iload hx hb dL_law_1079 (lv_at hl 1 rfl) ?_
  refine lv_iconst (v := nI 2) hx hb dL_law_1081 (by decide) ?_
  refine g_iaddn hx hb dL_law_1082 ?_
  refine W.eq (g2 := F0 M_ _ ls [.int (nI 2), .ref q, .int (xs 1), .ref (u.2.1 0)]) rfl ?_
  refine va_sld hx hb hXs hbl (Nat.not_le.mpr hbl) hM.2.2.2.2 (nI_in (by omega) (by omega)) dL_law_1083 ?_
  refine W.eq (g2 := F0 M_ _ ls [.int (xs 2), .int (xs 1), .ref (u.2.1 0)]) rfl ?_
  refine l_mod (v := nI 0) (th1 := nI 1) (As := [.int (xs 1), .int (xs 2)]) (rest := []) G.1 hM (fun z h => Or.inl h) (mWr.fin) (m_preV hM.1) ok_X5_approve gm_748 gm_749 gm_747 (c_X5_approve l u (nI 0) (nI 0) 0 (xs 1) (xs 2)) ⟨rfl, rfl⟩ ⟨Nat.le_of_ble_eq_true rfl, Nat.le_of_ble_eq_true rfl⟩ rfl hl.1 rfl (Nat.le_of_ble_eq_true rfl) ⟨Nat.le_of_ble_eq_true rfl, Nat.le_of_ble_eq_true rfl⟩ dL_law_1084 (fun H locs hT => ?_)
  refine lv_istore (lv' := [(6, .int (nI 0)), (5, .int (nI 1)), (4, .int (nI 0)), (3, .ref o), (2, .ref (u.2.1 0)), (1, .ref (w.2.2.2 0)), (0, .ref q)]) hx hb dL_law_1087 hl (by decide) rfl (fun ls hl => ?_)
  refine lv_aload_n hx hb dL_law_1089 rfl (lv_at hl 4 rfl) ?_
  obtain ⟨⟨hK1, fs, hPm⟩, hO, hS⟩ := hT
  refine b_callV (v := .int (nI 1)) (As := []) (rest := []) G.1 ⟨fun a U g mk z => ⟨z.1, va_K.moved (u := U) (U := U.calling g mk a) (Vm.Alike.refl U.vm) z.2.1, z.2.2⟩, va_recv (q0 := 0) hK1 hPm (ci := 3) rfl rfl, fun U hU hW1 => ⟨rfl, va_K.moved hW1.alike hK1, by rw [hU]; exact hPm⟩⟩ ok_X5_thrown gm_657 gm_658 gm_656 (c_thr l u.1 (u.2.1 0) (nI 1) fs) ⟨rfl, rfl⟩ ⟨Nat.le_of_ble_eq_true rfl, Nat.le_of_ble_eq_true rfl⟩ rfl hl.1 rfl (Nat.le_of_ble_eq_true rfl) ⟨Nat.le_of_ble_eq_true rfl, Nat.le_of_ble_eq_true rfl⟩ dL_law_1090 ?_
  refine lv_iload hx hb dL_law_1093 (lv_at hl 1 rfl) ?_
  refine lv_icmp_eq (tgt := 1100) hx hb dL_law_1095 (by decide) (fun _ => ?_) (fun c => absurd rfl c)
  refine lv_iload hx hb dL_law_1100 (lv_at hl 1 rfl) ?_
  refine lv_if_ne (tgt := 1117) hx hb dL_law_1102 (by decide) (fun _ => ?_) (fun c => absurd c (by decide))
  refine lv_goto (tgt := 1775) hx hb dL_law_1117 (by decide) ?_
  exact W.widen (by decide) (by decide) (kk H locs ls hS (lv_sub hl [2, 3, 4, 5, 6] rfl))
set_option maxRecDepth 100000 in
set_option maxHeartbeats 4000000 in
theorem k_use {p : Program} {e : Env} {S_ : State} {M_ : MethodId} {below : List Frame} {meth : Method} {c : Code} {l : Launch} (hfl : l.stackTraces = false) {q : Nat} {xs : Nat → Int32} (G : CallFix p M_ c cL_law 9 S_ #[Value.ref q] gw RL ∧ True) (hall : ∀ v ∈ gwx, v.before #[Value.ref q] S_ = true) (hLB : LB S_) (hXs : va_X q 5 xs S_ S_.heap) (hbl : q < S_.heap.size) {w : GP} {u : MP} {ca : Nat} {ad : Nat → Nat} {o : Nat} {cL : ClassId} {Q : State → Prop} {H : Heap} {locs : List Loc} {ls : Array Slot} (hW9 : LW w u ca ad o cL S_ H locs) (hl : lv_has ls 9 [(4, .int (nI 0)), (3, .ref o), (2, .ref (u.2.1 0)), (1, .ref (w.2.2.2 0)), (0, .ref q)]) (kk : ∀ (H1 : Heap) (locs1 : List Loc) (ls1 : Array Slot), va_S (nA S_) S_.heap H1 locs1 → lv_has ls1 9 [(4, .int (nI 0)), (3, .ref o), (2, .ref (u.2.1 0)), (1, .ref (w.2.2.2 0)), (0, .ref q)] → W p l e room_1 S_ M_ #[Value.ref q] below meth c H1 locs1 600002 7302231 Q (F0 M_ 1775 ls1 []))  : W p l e room_1 S_ M_ #[Value.ref q] below meth c H locs 61 808 Q (F0 M_ 1120 ls []) := by
  obtain ⟨hx, hb, hml, hown, hts⟩ := id G.1
  refine lv_aload_n hx hb dL_law_1120 rfl (lv_at hl 3 rfl) ?_
  refine lv_aload_n hx hb dL_law_1121 rfl (lv_at hl 4 rfl) ?_
  refine lv_iload hx hb dL_law_1122 (lv_at hl 0 rfl) ?_
  refine lv_iconst (v := nI 1) hx hb dL_law_1124 (by decide) ?_
  refine g_iaddn hx hb dL_law_1125 ?_
  refine W.eq (g2 := F0 M_ _ ls [.int (nI 1), .ref q, .ref (w.2.2.2 0)]) rfl ?_
  refine va_sld hx hb hXs hbl (Nat.not_le.mpr hbl) hW9.2.1.2.2.2.2 (nI_in (by omega) (by omega)) dL_law_1126 ?_
  refine W.eq (g2 := F0 M_ _ ls [.int (xs 1), .ref (w.2.2.2 0)]) rfl ?_
  refine lv_aload_n hx hb dL_law_1127 rfl (lv_at hl 4 rfl) ?_
  refine lv_iload hx hb dL_law_1128 (lv_at hl 0 rfl) ?_
  refine lv_iconst (v := nI 2) hx hb dL_law_1130 (by decide) ?_
  refine g_iaddn hx hb dL_law_1131 ?_
  refine W.eq (g2 := F0 M_ _ ls [.int (nI 2), .ref q, .int (xs 1), .ref (w.2.2.2 0)]) rfl ?_
  refine va_sld hx hb hXs hbl (Nat.not_le.mpr hbl) hW9.2.1.2.2.2.2 (nI_in (by omega) (by omega)) dL_law_1132 ?_
  refine W.eq (g2 := F0 M_ _ ls [.int (xs 2), .int (xs 1), .ref (w.2.2.2 0)]) rfl ?_
  refine lv_aload_n hx hb dL_law_1133 rfl (lv_at hl 4 rfl) ?_
  refine lv_iload hx hb dL_law_1134 (lv_at hl 0 rfl) ?_
  refine lv_iconst (v := nI 3) hx hb dL_law_1136 (by decide) ?_
  refine g_iaddn hx hb dL_law_1137 ?_
  refine W.eq (g2 := F0 M_ _ ls [.int (nI 3), .ref q, .int (xs 2), .int (xs 1), .ref (w.2.2.2 0)]) rfl ?_
  refine va_sld hx hb hXs hbl (Nat.not_le.mpr hbl) hW9.2.1.2.2.2.2 (nI_in (by omega) (by omega)) dL_law_1138 ?_
  refine W.eq (g2 := F0 M_ _ ls [.int (xs 3), .int (xs 2), .int (xs 1), .ref (w.2.2.2 0)]) rfl ?_
  refine lv_aload_n hx hb dL_law_1139 rfl (lv_at hl 1 rfl) ?_
  refine l_wthr (As := [.ref (w.2.2.2 0), .int (xs 1), .int (xs 2), .int (xs 3), .ref o]) (rest := []) G.1 hLB hW9 (c_L_use_x l hfl w o (xs 1) (xs 2) (xs 3)) (w_csw (n := 5) hall ⟨rfl, rfl⟩ ⟨Nat.le_of_ble_eq_true rfl, Nat.le_of_ble_eq_true rfl⟩ gm_753 gm_650 ⟨by decide +kernel, by decide +kernel⟩ (by decide +kernel) gm_751 gm_752) rfl hl.1 rfl (Nat.le_of_ble_eq_true rfl) ⟨Nat.le_of_ble_eq_true rfl, Nat.le_of_ble_eq_true rfl⟩ dL_law_1140 (fun H hW9 => ?_)
  have hM := hW9.2.1
  refine lv_istore (lv' := [(5, .int (nI 1)), (4, .int (nI 0)), (3, .ref o), (2, .ref (u.2.1 0)), (1, .ref (w.2.2.2 0)), (0, .ref q)]) hx hb dL_law_1143 hl (by decide) rfl (fun ls hl => ?_)
  refine lv_aload_n hx hb dL_law_1145 rfl (lv_at hl 3 rfl) ?_
  refine lv_aload_n hx hb dL_law_1146 rfl (lv_at hl 5 rfl) ?_
  refine lv_iload hx hb dL_law_1147 (lv_at hl 1 rfl) ?_
  refine lv_iconst (v := nI 1) hx hb dL_law_1149 (by decide) ?_
  refine g_iaddn hx hb dL_law_1150 ?_
  refine W.eq (g2 := F0 M_ _ ls [.int (nI 1), .ref q, .ref (u.2.1 0)]) rfl ?_
  refine va_sld hx hb hXs hbl (Nat.not_le.mpr hbl) hM.2.2.2.2 (nI_in (by omega) (by omega)) dL_law_1151 ?_
  refine W.eq (g2 := F0 M_ _ ls [.int (xs 1), .ref (u.2.1 0)]) rfl ?_
  refine lv_aload_n hx hb dL_law_1152 rfl (lv_at hl 5 rfl) ?_
  refine lv_iload hx hb dL_law_1153 (lv_at hl 1 rfl) ?_
  refine lv_iconst (v := nI 2) hx hb dL_law_1155 (by decide) ?_
  refine g_iaddn hx hb dL_law_1156 ?_
  refine W.eq (g2 := F0 M_ _ ls [.int (nI 2), .ref q, .int (xs 1), .ref (u.2.1 0)]) rfl ?_
  refine va_sld hx hb hXs hbl (Nat.not_le.mpr hbl) hM.2.2.2.2 (nI_in (by omega) (by omega)) dL_law_1157 ?_
  refine W.eq (g2 := F0 M_ _ ls [.int (xs 2), .int (xs 1), .ref (u.2.1 0)]) rfl ?_
  refine lv_aload_n hx hb dL_law_1158 rfl (lv_at hl 5 rfl) ?_
  refine lv_iload hx hb dL_law_1159 (lv_at hl 1 rfl) ?_
  refine lv_iconst (v := nI 3) hx hb dL_law_1161 (by decide) ?_
  refine g_iaddn hx hb dL_law_1162 ?_
  refine W.eq (g2 := F0 M_ _ ls [.int (nI 3), .ref q, .int (xs 2), .int (xs 1), .ref (u.2.1 0)]) rfl ?_
  refine va_sld hx hb hXs hbl (Nat.not_le.mpr hbl) hM.2.2.2.2 (nI_in (by omega) (by omega)) dL_law_1163 ?_
  refine W.eq (g2 := F0 M_ _ ls [.int (xs 3), .int (xs 2), .int (xs 1), .ref (u.2.1 0)]) rfl ?_
  refine l_mod (v := nI 0) (th1 := nI 1) (As := [.int (xs 1), .int (xs 2), .int (xs 3)]) (rest := []) G.1 hM (fun z h => Or.inl h) (mWr.fin) (m_preV hM.1) ok_X5_use gm_755 gm_756 gm_754 (c_X5_use l u (nI 0) (nI 0) 0 (xs 1) (xs 2) (xs 3)) ⟨rfl, rfl⟩ ⟨Nat.le_of_ble_eq_true rfl, Nat.le_of_ble_eq_true rfl⟩ rfl hl.1 rfl (Nat.le_of_ble_eq_true rfl) ⟨Nat.le_of_ble_eq_true rfl, Nat.le_of_ble_eq_true rfl⟩ dL_law_1164 (fun H locs hT => ?_)
  refine lv_istore (lv' := [(6, .int (nI 0)), (5, .int (nI 1)), (4, .int (nI 0)), (3, .ref o), (2, .ref (u.2.1 0)), (1, .ref (w.2.2.2 0)), (0, .ref q)]) hx hb dL_law_1167 hl (by decide) rfl (fun ls hl => ?_)
  refine lv_aload_n hx hb dL_law_1169 rfl (lv_at hl 4 rfl) ?_
  obtain ⟨⟨hK1, fs, hPm⟩, hO, hS⟩ := hT
  refine b_callV (v := .int (nI 1)) (As := []) (rest := []) G.1 ⟨fun a U g mk z => ⟨z.1, va_K.moved (u := U) (U := U.calling g mk a) (Vm.Alike.refl U.vm) z.2.1, z.2.2⟩, va_recv (q0 := 0) hK1 hPm (ci := 3) rfl rfl, fun U hU hW1 => ⟨rfl, va_K.moved hW1.alike hK1, by rw [hU]; exact hPm⟩⟩ ok_X5_thrown gm_657 gm_658 gm_656 (c_thr l u.1 (u.2.1 0) (nI 1) fs) ⟨rfl, rfl⟩ ⟨Nat.le_of_ble_eq_true rfl, Nat.le_of_ble_eq_true rfl⟩ rfl hl.1 rfl (Nat.le_of_ble_eq_true rfl) ⟨Nat.le_of_ble_eq_true rfl, Nat.le_of_ble_eq_true rfl⟩ dL_law_1170 ?_
  refine lv_iload hx hb dL_law_1173 (lv_at hl 1 rfl) ?_
  refine lv_icmp_eq (tgt := 1180) hx hb dL_law_1175 (by decide) (fun _ => ?_) (fun c => absurd rfl c)
  refine lv_iload hx hb dL_law_1180 (lv_at hl 1 rfl) ?_
  refine lv_if_ne (tgt := 1197) hx hb dL_law_1182 (by decide) (fun _ => ?_) (fun c => absurd c (by decide))
  refine lv_goto (tgt := 1775) hx hb dL_law_1197 (by decide) ?_
  exact W.widen (by decide) (by decide) (kk H locs ls hS (lv_sub hl [2, 3, 4, 5, 6] rfl))
set_option maxRecDepth 100000 in
set_option maxHeartbeats 4000000 in
theorem k_ofText {p : Program} {e : Env} {S_ : State} {M_ : MethodId} {below : List Frame} {meth : Method} {c : Code} {l : Launch} (hfl : l.stackTraces = false) {q : Nat} {xs : Nat → Int32} (G : CallFix p M_ c cL_law 9 S_ #[Value.ref q] gw RL ∧ True) (hall : ∀ v ∈ gwx, v.before #[Value.ref q] S_ = true) (hLB : LB S_) (hXs : va_X q 5 xs S_ S_.heap) (hbl : q < S_.heap.size) {w : GP} {u : MP} {ca : Nat} {ad : Nat → Nat} {o : Nat} {cL : ClassId} {Q : State → Prop} {H : Heap} {locs : List Loc} {ls : Array Slot} (hW9 : LW w u ca ad o cL S_ H locs) (hl : lv_has ls 9 [(4, .int (nI 0)), (3, .ref o), (2, .ref (u.2.1 0)), (1, .ref (w.2.2.2 0)), (0, .ref q)]) (kk : ∀ (H1 : Heap) (locs1 : List Loc) (ls1 : Array Slot), va_S (nA S_) S_.heap H1 locs1 → lv_has ls1 9 [(4, .int (nI 0)), (3, .ref o), (2, .ref (u.2.1 0)), (1, .ref (w.2.2.2 0)), (0, .ref q)] → W p l e room_1 S_ M_ #[Value.ref q] below meth c H1 locs1 600002 7302231 Q (F0 M_ 1775 ls1 []))  : W p l e room_1 S_ M_ #[Value.ref q] below meth c H locs 61 808 Q (F0 M_ 1200 ls []) := by
  obtain ⟨hx, hb, hml, hown, hts⟩ := id G.1
  refine lv_aload_n hx hb dL_law_1200 rfl (lv_at hl 3 rfl) ?_
  refine lv_aload_n hx hb dL_law_1201 rfl (lv_at hl 4 rfl) ?_
  refine lv_iload hx hb dL_law_1202 (lv_at hl 0 rfl) ?_
  refine lv_iconst (v := nI 1) hx hb dL_law_1204 (by decide) ?_
  refine g_iaddn hx hb dL_law_1205 ?_
  refine W.eq (g2 := F0 M_ _ ls [.int (nI 1), .ref q, .ref (w.2.2.2 0)]) rfl ?_
  refine va_sld hx hb hXs hbl (Nat.not_le.mpr hbl) hW9.2.1.2.2.2.2 (nI_in (by omega) (by omega)) dL_law_1206 ?_
  refine W.eq (g2 := F0 M_ _ ls [.int (xs 1), .ref (w.2.2.2 0)]) rfl ?_
  refine lv_aload_n hx hb dL_law_1207 rfl (lv_at hl 4 rfl) ?_
  refine lv_iload hx hb dL_law_1208 (lv_at hl 0 rfl) ?_
  refine lv_iconst (v := nI 2) hx hb dL_law_1210 (by decide) ?_
  refine g_iaddn hx hb dL_law_1211 ?_
  refine W.eq (g2 := F0 M_ _ ls [.int (nI 2), .ref q, .int (xs 1), .ref (w.2.2.2 0)]) rfl ?_
  refine va_sld hx hb hXs hbl (Nat.not_le.mpr hbl) hW9.2.1.2.2.2.2 (nI_in (by omega) (by omega)) dL_law_1212 ?_
  refine W.eq (g2 := F0 M_ _ ls [.int (xs 2), .int (xs 1), .ref (w.2.2.2 0)]) rfl ?_
  refine lv_aload_n hx hb dL_law_1213 rfl (lv_at hl 4 rfl) ?_
  refine lv_iload hx hb dL_law_1214 (lv_at hl 0 rfl) ?_
  refine lv_iconst (v := nI 3) hx hb dL_law_1216 (by decide) ?_
  refine g_iaddn hx hb dL_law_1217 ?_
  refine W.eq (g2 := F0 M_ _ ls [.int (nI 3), .ref q, .int (xs 2), .int (xs 1), .ref (w.2.2.2 0)]) rfl ?_
  refine va_sld hx hb hXs hbl (Nat.not_le.mpr hbl) hW9.2.1.2.2.2.2 (nI_in (by omega) (by omega)) dL_law_1218 ?_
  refine W.eq (g2 := F0 M_ _ ls [.int (xs 3), .int (xs 2), .int (xs 1), .ref (w.2.2.2 0)]) rfl ?_
  refine lv_aload_n hx hb dL_law_1219 rfl (lv_at hl 1 rfl) ?_
  refine l_wthr (As := [.ref (w.2.2.2 0), .int (xs 1), .int (xs 2), .int (xs 3), .ref o]) (rest := []) G.1 hLB hW9 (c_L_ofText_x l hfl w o (xs 1) (xs 2) (xs 3)) (w_csw (n := 5) hall ⟨rfl, rfl⟩ ⟨Nat.le_of_ble_eq_true rfl, Nat.le_of_ble_eq_true rfl⟩ gm_760 gm_650 ⟨by decide +kernel, by decide +kernel⟩ (by decide +kernel) gm_758 gm_759) rfl hl.1 rfl (Nat.le_of_ble_eq_true rfl) ⟨Nat.le_of_ble_eq_true rfl, Nat.le_of_ble_eq_true rfl⟩ dL_law_1220 (fun H hW9 => ?_)
  have hM := hW9.2.1
  refine lv_istore (lv' := [(5, .int (nI 1)), (4, .int (nI 0)), (3, .ref o), (2, .ref (u.2.1 0)), (1, .ref (w.2.2.2 0)), (0, .ref q)]) hx hb dL_law_1223 hl (by decide) rfl (fun ls hl => ?_)
  refine lv_aload_n hx hb dL_law_1225 rfl (lv_at hl 3 rfl) ?_
  refine lv_aload_n hx hb dL_law_1226 rfl (lv_at hl 5 rfl) ?_
  refine lv_iload hx hb dL_law_1227 (lv_at hl 1 rfl) ?_
  refine lv_iconst (v := nI 1) hx hb dL_law_1229 (by decide) ?_
  refine g_iaddn hx hb dL_law_1230 ?_
  refine W.eq (g2 := F0 M_ _ ls [.int (nI 1), .ref q, .ref (u.2.1 0)]) rfl ?_
  refine va_sld hx hb hXs hbl (Nat.not_le.mpr hbl) hM.2.2.2.2 (nI_in (by omega) (by omega)) dL_law_1231 ?_
  refine W.eq (g2 := F0 M_ _ ls [.int (xs 1), .ref (u.2.1 0)]) rfl ?_
  refine lv_aload_n hx hb dL_law_1232 rfl (lv_at hl 5 rfl) ?_
  refine lv_iload hx hb dL_law_1233 (lv_at hl 1 rfl) ?_
  refine lv_iconst (v := nI 2) hx hb dL_law_1235 (by decide) ?_
  refine g_iaddn hx hb dL_law_1236 ?_
  refine W.eq (g2 := F0 M_ _ ls [.int (nI 2), .ref q, .int (xs 1), .ref (u.2.1 0)]) rfl ?_
  refine va_sld hx hb hXs hbl (Nat.not_le.mpr hbl) hM.2.2.2.2 (nI_in (by omega) (by omega)) dL_law_1237 ?_
  refine W.eq (g2 := F0 M_ _ ls [.int (xs 2), .int (xs 1), .ref (u.2.1 0)]) rfl ?_
  refine lv_aload_n hx hb dL_law_1238 rfl (lv_at hl 5 rfl) ?_
  refine lv_iload hx hb dL_law_1239 (lv_at hl 1 rfl) ?_
  refine lv_iconst (v := nI 3) hx hb dL_law_1241 (by decide) ?_
  refine g_iaddn hx hb dL_law_1242 ?_
  refine W.eq (g2 := F0 M_ _ ls [.int (nI 3), .ref q, .int (xs 2), .int (xs 1), .ref (u.2.1 0)]) rfl ?_
  refine va_sld hx hb hXs hbl (Nat.not_le.mpr hbl) hM.2.2.2.2 (nI_in (by omega) (by omega)) dL_law_1243 ?_
  refine W.eq (g2 := F0 M_ _ ls [.int (xs 3), .int (xs 2), .int (xs 1), .ref (u.2.1 0)]) rfl ?_
  refine l_mod (v := nI 0) (th1 := nI 1) (As := [.int (xs 1), .int (xs 2), .int (xs 3)]) (rest := []) G.1 hM (fun z h => Or.inl h) (mWr.fin) (m_preV hM.1) ok_X5_ofText gm_762 gm_763 gm_761 (c_X5_ofText l u (nI 0) (nI 0) 0 (xs 1) (xs 2) (xs 3)) ⟨rfl, rfl⟩ ⟨Nat.le_of_ble_eq_true rfl, Nat.le_of_ble_eq_true rfl⟩ rfl hl.1 rfl (Nat.le_of_ble_eq_true rfl) ⟨Nat.le_of_ble_eq_true rfl, Nat.le_of_ble_eq_true rfl⟩ dL_law_1244 (fun H locs hT => ?_)
  refine lv_istore (lv' := [(6, .int (nI 0)), (5, .int (nI 1)), (4, .int (nI 0)), (3, .ref o), (2, .ref (u.2.1 0)), (1, .ref (w.2.2.2 0)), (0, .ref q)]) hx hb dL_law_1247 hl (by decide) rfl (fun ls hl => ?_)
  refine lv_aload_n hx hb dL_law_1249 rfl (lv_at hl 4 rfl) ?_
  obtain ⟨⟨hK1, fs, hPm⟩, hO, hS⟩ := hT
  refine b_callV (v := .int (nI 1)) (As := []) (rest := []) G.1 ⟨fun a U g mk z => ⟨z.1, va_K.moved (u := U) (U := U.calling g mk a) (Vm.Alike.refl U.vm) z.2.1, z.2.2⟩, va_recv (q0 := 0) hK1 hPm (ci := 3) rfl rfl, fun U hU hW1 => ⟨rfl, va_K.moved hW1.alike hK1, by rw [hU]; exact hPm⟩⟩ ok_X5_thrown gm_657 gm_658 gm_656 (c_thr l u.1 (u.2.1 0) (nI 1) fs) ⟨rfl, rfl⟩ ⟨Nat.le_of_ble_eq_true rfl, Nat.le_of_ble_eq_true rfl⟩ rfl hl.1 rfl (Nat.le_of_ble_eq_true rfl) ⟨Nat.le_of_ble_eq_true rfl, Nat.le_of_ble_eq_true rfl⟩ dL_law_1250 ?_
  refine lv_iload hx hb dL_law_1253 (lv_at hl 1 rfl) ?_
  refine lv_icmp_eq (tgt := 1260) hx hb dL_law_1255 (by decide) (fun _ => ?_) (fun c => absurd rfl c)
  refine lv_iload hx hb dL_law_1260 (lv_at hl 1 rfl) ?_
  refine lv_if_ne (tgt := 1277) hx hb dL_law_1262 (by decide) (fun _ => ?_) (fun c => absurd c (by decide))
  refine lv_goto (tgt := 1775) hx hb dL_law_1277 (by decide) ?_
  exact W.widen (by decide) (by decide) (kk H locs ls hS (lv_sub hl [2, 3, 4, 5, 6] rfl))
