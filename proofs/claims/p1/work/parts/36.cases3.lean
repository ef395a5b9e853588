/-! The law's cases, more. -/
set_option maxRecDepth 100000 in
set_option maxHeartbeats 4000000 in
theorem k_agreement {p : Program} {e : Env} {S_ : State} {M_ : MethodId} {below : List Frame} {meth : Method} {c : Code} {l : Launch} (hfl : l.stackTraces = false) {q : Nat} {xs : Nat → Int32} (G : CallFix p M_ c cL_law 9 S_ #[Value.ref q] gw RL ∧ True) (hall : ∀ v ∈ gwx, v.before #[Value.ref q] S_ = true) (hLB : LB S_) (hXs : va_X q 5 xs S_ S_.heap) (hbl : q < S_.heap.size) {w : GP} {u : MP} {ca : Nat} {ad : Nat → Nat} {o : Nat} {cL : ClassId} {Q : State → Prop} {H : Heap} {locs : List Loc} {ls : Array Slot} (hW9 : LW w u ca ad o cL S_ H locs) (hl : lv_has ls 9 [(4, .int (nI 0)), (3, .ref o), (2, .ref (u.2.1 0)), (1, .ref (w.2.2.2 0)), (0, .ref q)]) (kk : ∀ (H1 : Heap) (locs1 : List Loc) (ls1 : Array Slot), va_S (nA S_) S_.heap H1 locs1 → lv_has ls1 9 [(4, .int (nI 0)), (3, .ref o), (2, .ref (u.2.1 0)), (1, .ref (w.2.2.2 0)), (0, .ref q)] → W p l e room_1 S_ M_ #[Value.ref q] below meth c H1 locs1 600002 7302231 Q (F0 M_ 1775 ls1 []))  : W p l e room_1 S_ M_ #[Value.ref q] below meth c H locs 61 808 Q (F0 M_ 1280 ls []) := by
  obtain ⟨hx, hb, hml, hown, hts⟩ := id G.1
  refine lv_aload_n hx hb dL_law_1280 rfl (lv_at hl 3 rfl) ?_
  refine lv_aload_n hx hb dL_law_1281 rfl (lv_at hl 4 rfl) ?_
  refine lv_iload hx hb dL_law_1282 (lv_at hl 0 rfl) ?_
  refine lv_iconst (v := nI 1) hx hb dL_law_1284 (by decide) ?_
  refine g_iaddn hx hb dL_law_1285 ?_
  refine W.eq (g2 := F0 M_ _ ls [.int (nI 1), .ref q, .ref (w.2.2.2 0)]) rfl ?_
  refine va_sld hx hb hXs hbl (Nat.not_le.mpr hbl) hW9.2.1.2.2.2.2 (nI_in (by omega) (by omega)) dL_law_1286 ?_
  refine W.eq (g2 := F0 M_ _ ls [.int (xs 1), .ref (w.2.2.2 0)]) rfl ?_
  refine lv_aload_n hx hb dL_law_1287 rfl (lv_at hl 1 rfl) ?_
  refine l_wthr (As := [.ref (w.2.2.2 0), .int (xs 1), .ref o]) (rest := []) G.1 hLB hW9 (c_L_agreement_x l hfl w o (xs 1)) (w_csw (n := 3) hall ⟨rfl, rfl⟩ ⟨Nat.le_of_ble_eq_true rfl, Nat.le_of_ble_eq_true rfl⟩ gm_767 gm_650 ⟨by decide +kernel, by decide +kernel⟩ (by decide +kernel) gm_765 gm_766) rfl hl.1 rfl (Nat.le_of_ble_eq_true rfl) ⟨Nat.le_of_ble_eq_true rfl, Nat.le_of_ble_eq_true rfl⟩ dL_law_1288 (fun H hW9 => ?_)
  have hM := hW9.2.1
  refine lv_istore (lv' := [(5, .int (nI 1)), (4, .int (nI 0)), (3, .ref o), (2, .ref (u.2.1 0)), (1, .ref (w.2.2.2 0)), (0, .ref q)]) hx hb dL_law_1291 hl (by decide) rfl (fun ls hl => ?_)
  refine lv_aload_n hx hb dL_law_1293 rfl (lv_at hl 3 rfl) ?_
  refine lv_aload_n hx hb dL_law_1294 rfl (lv_at hl 5 rfl) ?_
  refine lv_iload hx hb dL_law_1295 (lv_at hl 1 rfl) ?_
  refine lv_iconst (v := nI 1) hx hb dL_law_1297 (by decide) ?_
  refine g_iaddn hx hb dL_law_1298 ?_
  refine W.eq (g2 := F0 M_ _ ls [.int (nI 1), .ref q, .ref (u.2.1 0)]) rfl ?_
  refine va_sld hx hb hXs hbl (Nat.not_le.mpr hbl) hM.2.2.2.2 (nI_in (by omega) (by omega)) dL_law_1299 ?_
  refine W.eq (g2 := F0 M_ _ ls [.int (xs 1), .ref (u.2.1 0)]) rfl ?_
  refine l_mod (v := nI 0) (th1 := nI 1) (As := [.int (xs 1)]) (rest := []) G.1 hM (fun z h => Or.inl h) (mWr.fin) (m_preV hM.1) ok_X5_agreement gm_769 gm_770 gm_768 (c_X5_agreement l u (nI 0) (nI 0) 0 (xs 1)) ⟨rfl, rfl⟩ ⟨Nat.le_of_ble_eq_true rfl, Nat.le_of_ble_eq_true rfl⟩ rfl hl.1 rfl (Nat.le_of_ble_eq_true rfl) ⟨Nat.le_of_ble_eq_true rfl, Nat.le_of_ble_eq_true rfl⟩ dL_law_1300 (fun H locs hT => ?_)
  refine lv_istore (lv' := [(6, .int (nI 0)), (5, .int (nI 1)), (4, .int (nI 0)), (3, .ref o), (2, .ref (u.2.1 0)), (1, .ref (w.2.2.2 0)), (0, .ref q)]) hx hb dL_law_1303 hl (by decide) rfl (fun ls hl => ?_)
  refine lv_aload_n hx hb dL_law_1305 rfl (lv_at hl 4 rfl) ?_
  obtain ⟨⟨hK1, fs, hPm⟩, hO, hS⟩ := hT
  refine b_callV (v := .int (nI 1)) (As := []) (rest := []) G.1 ⟨fun a U g mk z => ⟨z.1, va_K.moved (u := U) (U := U.calling g mk a) (Vm.Alike.refl U.vm) z.2.1, z.2.2⟩, va_recv (q0 := 0) hK1 hPm (ci := 3) rfl rfl, fun U hU hW1 => ⟨rfl, va_K.moved hW1.alike hK1, by rw [hU]; exact hPm⟩⟩ ok_X5_thrown gm_657 gm_658 gm_656 (c_thr l u.1 (u.2.1 0) (nI 1) fs) ⟨rfl, rfl⟩ ⟨Nat.le_of_ble_eq_true rfl, Nat.le_of_ble_eq_true rfl⟩ rfl hl.1 rfl (Nat.le_of_ble_eq_true rfl) ⟨Nat.le_of_ble_eq_true rfl, Nat.le_of_ble_eq_true rfl⟩ dL_law_1306 ?_
  refine lv_iload hx hb dL_law_1309 (lv_at hl 1 rfl) ?_
  refine lv_icmp_eq (tgt := 1316) hx hb dL_law_1311 (by decide) (fun _ => ?_) (fun c => absurd rfl c)
  refine lv_iload hx hb dL_law_1316 (lv_at hl 1 rfl) ?_
  refine lv_if_ne (tgt := 1333) hx hb dL_law_1318 (by decide) (fun _ => ?_) (fun c => absurd c (by decide))
  refine lv_goto (tgt := 1775) hx hb dL_law_1333 (by decide) ?_
  exact W.widen (by decide) (by decide) (kk H locs ls hS (lv_sub hl [2, 3, 4, 5, 6] rfl))
set_option maxRecDepth 100000 in
set_option maxHeartbeats 4000000 in
theorem k_pass_x {p : Program} {e : Env} {S_ : State} {M_ : MethodId} {below : List Frame} {meth : Method} {c : Code} {l : Launch} (hfl : l.stackTraces = false) {q : Nat} {xs : Nat → Int32} (G : CallFix p M_ c cL_law 9 S_ #[Value.ref q] gw RL ∧ True) (hall : ∀ v ∈ gwx, v.before #[Value.ref q] S_ = true) (hLB : LB S_) (hXs : va_X q 5 xs S_ S_.heap) (hbl : q < S_.heap.size) {w : GP} {u : MP} {ca : Nat} {ad : Nat → Nat} {o : Nat} {cL : ClassId} {Q : State → Prop} {H : Heap} {locs : List Loc} {ls : Array Slot} (hW9 : LW w u ca ad o cL S_ H locs) (hl : lv_has ls 9 [(4, .int (nI 0)), (3, .ref o), (2, .ref (u.2.1 0)), (1, .ref (w.2.2.2 0)), (0, .ref q)]) (kk : ∀ (H1 : Heap) (locs1 : List Loc) (ls1 : Array Slot), va_S (nA S_) S_.heap H1 locs1 → lv_has ls1 9 [(4, .int (nI 0)), (3, .ref o), (2, .ref (u.2.1 0)), (1, .ref (w.2.2.2 0)), (0, .ref q)] → W p l e room_1 S_ M_ #[Value.ref q] below meth c H1 locs1 600002 7302231 Q (F0 M_ 1775 ls1 [])) (h0 : ¬ (nI 1 ≤ xs 1 ∧ xs 1 ≤ nI 40)) : W p l e room_1 S_ M_ #[Value.ref q] below meth c H locs 61 808 Q (F0 M_ 1336 ls []) := by
  obtain ⟨hx, hb, hml, hown, hts⟩ := id G.1
  refine lv_aload_n hx hb dL_law_1336 rfl (lv_at hl 3 rfl) ?_
  refine lv_aload_n hx hb dL_law_1337 rfl (lv_at hl 4 rfl) ?_
  refine lv_iload hx hb dL_law_1338 (lv_at hl 0 rfl) ?_
  refine lv_iconst (v := nI 1) hx hb dL_law_1340 (by decide) ?_
  refine g_iaddn hx hb dL_law_1341 ?_
  refine W.eq (g2 := F0 M_ _ ls [.int (nI 1), .ref q, .ref (w.2.2.2 0)]) rfl ?_
  refine va_sld hx hb hXs hbl (Nat.not_le.mpr hbl) hW9.2.1.2.2.2.2 (nI_in (by omega) (by omega)) dL_law_1342 ?_
  refine W.eq (g2 := F0 M_ _ ls [.int (xs 1), .ref (w.2.2.2 0)]) rfl ?_
  refine lv_aload_n hx hb dL_law_1343 rfl (lv_at hl 1 rfl) ?_
  refine l_wthr (As := [.ref (w.2.2.2 0), .int (xs 1), .ref o]) (rest := []) G.1 hLB hW9 (c_L_pass_x l hfl w o (xs 1) h0) (w_csw (n := 3) hall ⟨rfl, rfl⟩ ⟨Nat.le_of_ble_eq_true rfl, Nat.le_of_ble_eq_true rfl⟩ gm_774 gm_650 ⟨by decide +kernel, by decide +kernel⟩ (by decide +kernel) gm_772 gm_773) rfl hl.1 rfl (Nat.le_of_ble_eq_true rfl) ⟨Nat.le_of_ble_eq_true rfl, Nat.le_of_ble_eq_true rfl⟩ dL_law_1344 (fun H hW9 => ?_)
  have hM := hW9.2.1
  refine lv_istore (lv' := [(5, .int (nI 1)), (4, .int (nI 0)), (3, .ref o), (2, .ref (u.2.1 0)), (1, .ref (w.2.2.2 0)), (0, .ref q)]) hx hb dL_law_1347 hl (by decide) rfl (fun ls hl => ?_)
  refine lv_aload_n hx hb dL_law_1349 rfl (lv_at hl 3 rfl) ?_
  refine lv_aload_n hx hb dL_law_1350 rfl (lv_at hl 5 rfl) ?_
  refine lv_iload hx hb dL_law_1351 (lv_at hl 1 rfl) ?_
  refine lv_iconst (v := nI 1) hx hb dL_law_1353 (by decide) ?_
  refine g_iaddn hx hb dL_law_1354 ?_
  refine W.eq (g2 := F0 M_ _ ls [.int (nI 1), .ref q, .ref (u.2.1 0)]) rfl ?_
  refine va_sld hx hb hXs hbl (Nat.not_le.mpr hbl) hM.2.2.2.2 (nI_in (by omega) (by omega)) dL_law_1355 ?_
  refine W.eq (g2 := F0 M_ _ ls [.int (xs 1), .ref (u.2.1 0)]) rfl ?_
  refine l_mod (v := nI 0) (th1 := nI 1) (As := [.int (xs 1)]) (rest := []) G.1 hM (fun z h => Or.inl h) (mWr.fin) (m_preV hM.1) ok_X5_pass gm_776 gm_777 gm_775 (c_X5_pass_x l u (nI 0) (nI 0) 0 (xs 1) h0) ⟨rfl, rfl⟩ ⟨Nat.le_of_ble_eq_true rfl, Nat.le_of_ble_eq_true rfl⟩ rfl hl.1 rfl (Nat.le_of_ble_eq_true rfl) ⟨Nat.le_of_ble_eq_true rfl, Nat.le_of_ble_eq_true rfl⟩ dL_law_1356 (fun H locs hT => ?_)
  refine lv_istore (lv' := [(6, .int (nI 0)), (5, .int (nI 1)), (4, .int (nI 0)), (3, .ref o), (2, .ref (u.2.1 0)), (1, .ref (w.2.2.2 0)), (0, .ref q)]) hx hb dL_law_1359 hl (by decide) rfl (fun ls hl => ?_)
  refine lv_aload_n hx hb dL_law_1361 rfl (lv_at hl 4 rfl) ?_
  obtain ⟨⟨hK1, fs, hPm⟩, hO, hS⟩ := hT
  refine b_callV (v := .int (nI 1)) (As := []) (rest := []) G.1 ⟨fun a U g mk z => ⟨z.1, va_K.moved (u := U) (U := U.calling g mk a) (Vm.Alike.refl U.vm) z.2.1, z.2.2⟩, va_recv (q0 := 0) hK1 hPm (ci := 3) rfl rfl, fun U hU hW1 => ⟨rfl, va_K.moved hW1.alike hK1, by rw [hU]; exact hPm⟩⟩ ok_X5_thrown gm_657 gm_658 gm_656 (c_thr l u.1 (u.2.1 0) (nI 1) fs) ⟨rfl, rfl⟩ ⟨Nat.le_of_ble_eq_true rfl, Nat.le_of_ble_eq_true rfl⟩ rfl hl.1 rfl (Nat.le_of_ble_eq_true rfl) ⟨Nat.le_of_ble_eq_true rfl, Nat.le_of_ble_eq_true rfl⟩ dL_law_1362 ?_
  refine lv_iload hx hb dL_law_1365 (lv_at hl 1 rfl) ?_
  refine lv_icmp_eq (tgt := 1372) hx hb dL_law_1367 (by decide) (fun _ => ?_) (fun c => absurd rfl c)
  refine lv_iload hx hb dL_law_1372 (lv_at hl 1 rfl) ?_
  refine lv_if_ne (tgt := 1389) hx hb dL_law_1374 (by decide) (fun _ => ?_) (fun c => absurd c (by decide))
  refine lv_goto (tgt := 1775) hx hb dL_law_1389 (by decide) ?_
  exact W.widen (by decide) (by decide) (kk H locs ls hS (lv_sub hl [2, 3, 4, 5, 6] rfl))
set_option maxRecDepth 100000 in
set_option maxHeartbeats 4000000 in
theorem k_pass_r {p : Program} {e : Env} {S_ : State} {M_ : MethodId} {below : List Frame} {meth : Method} {c : Code} {l : Launch} (hfl : l.stackTraces = false) {q : Nat} {xs : Nat → Int32} (G : CallFix p M_ c cL_law 9 S_ #[Value.ref q] gw RL ∧ True) (hall : ∀ v ∈ gwx, v.before #[Value.ref q] S_ = true) (hLB : LB S_) (hXs : va_X q 5 xs S_ S_.heap) (hbl : q < S_.heap.size) {w : GP} {u : MP} {ca : Nat} {ad : Nat → Nat} {o : Nat} {cL : ClassId} {Q : State → Prop} {H : Heap} {locs : List Loc} {ls : Array Slot} (hW9 : LW w u ca ad o cL S_ H locs) (hl : lv_has ls 9 [(4, .int (nI 0)), (3, .ref o), (2, .ref (u.2.1 0)), (1, .ref (w.2.2.2 0)), (0, .ref q)]) (kk : ∀ (H1 : Heap) (locs1 : List Loc) (ls1 : Array Slot), va_S (nA S_) S_.heap H1 locs1 → lv_has ls1 9 [(4, .int (nI 0)), (3, .ref o), (2, .ref (u.2.1 0)), (1, .ref (w.2.2.2 0)), (0, .ref q)] → W p l e room_1 S_ M_ #[Value.ref q] below meth c H1 locs1 600002 7302231 Q (F0 M_ 1775 ls1 [])) {n : Nat} (hn : xs 1 = nI n) (h1 : 1 ≤ n) (h2 : n ≤ 40) : W p l e room_1 S_ M_ #[Value.ref q] below meth c H locs 61 808 Q (F0 M_ 1336 ls []) := by
  obtain ⟨hx, hb, hml, hown, hts⟩ := id G.1
  have hn4 : n < 41 := Nat.lt_succ_of_le h2
  refine lv_aload_n hx hb dL_law_1336 rfl (lv_at hl 3 rfl) ?_
  refine lv_aload_n hx hb dL_law_1337 rfl (lv_at hl 4 rfl) ?_
  refine lv_iload hx hb dL_law_1338 (lv_at hl 0 rfl) ?_
  refine lv_iconst (v := nI 1) hx hb dL_law_1340 (by decide) ?_
  refine g_iaddn hx hb dL_law_1341 ?_
  refine W.eq (g2 := F0 M_ _ ls [.int (nI 1), .ref q, .ref (w.2.2.2 0)]) rfl ?_
  refine va_sld hx hb hXs hbl (Nat.not_le.mpr hbl) hW9.2.1.2.2.2.2 (nI_in (by omega) (by omega)) dL_law_1342 ?_
  refine W.eq (g2 := F0 M_ _ ls [.int (nI n), .ref (w.2.2.2 0)]) (by rw [show (nI 1).toNatClampNeg = 1 from rfl, hn]) ?_
  refine lv_aload_n hx hb dL_law_1343 rfl (lv_at hl 1 rfl) ?_
  refine l_wret (As := [.ref (w.2.2.2 0), .int (nI n), .ref o]) (rest := []) G.1 hW9 (c_L_pass l w u.1 o cL hW9.2.2.1 n h1 h2) (w_csw (n := 3) hall ⟨rfl, rfl⟩ ⟨Nat.le_of_ble_eq_true rfl, Nat.le_of_ble_eq_true rfl⟩ gm_774 gm_650 ⟨by decide +kernel, by decide +kernel⟩ (by decide +kernel) gm_772 gm_773) rfl hl.1 rfl (Nat.le_of_ble_eq_true rfl) ⟨Nat.le_of_ble_eq_true rfl, Nat.le_of_ble_eq_true rfl⟩ dL_law_1344 (fun H locs g hg hM => ?_)
  refine lv_istore (lv' := [(5, .int (nI 0)), (4, .int (nI 0)), (3, .ref o), (2, .ref (u.2.1 0)), (1, .ref (w.2.2.2 0)), (0, .ref q)]) hx hb dL_law_1347 hl (by decide) rfl (fun ls hl => ?_)
  refine lv_aload_n hx hb dL_law_1349 rfl (lv_at hl 3 rfl) ?_
  refine lv_aload_n hx hb dL_law_1350 rfl (lv_at hl 5 rfl) ?_
  refine lv_iload hx hb dL_law_1351 (lv_at hl 1 rfl) ?_
  refine lv_iconst (v := nI 1) hx hb dL_law_1353 (by decide) ?_
  refine g_iaddn hx hb dL_law_1354 ?_
  refine W.eq (g2 := F0 M_ _ ls [.int (nI 1), .ref q, .ref (u.2.1 0)]) rfl ?_
  refine va_sld hx hb hXs hbl (Nat.not_le.mpr hbl) hM.2.2.2.2 (nI_in (by omega) (by omega)) dL_law_1355 ?_
  refine W.eq (g2 := F0 M_ _ ls [.int (nI n), .ref (u.2.1 0)]) (by rw [show (nI 1).toNatClampNeg = 1 from rfl, hn]) ?_
  refine l_mod (v := nI 0) (th1 := nI 0) (As := [.int (nI n)]) (rest := []) G.1 hM (fun z h => Or.inl h) (mWr.fin) (m_preV hM.1) ok_X5_pass gm_776 gm_777 gm_775 (c_X5_pass l u (nI 0) 0 n h1 h2) ⟨rfl, rfl⟩ ⟨Nat.le_of_ble_eq_true rfl, Nat.le_of_ble_eq_true rfl⟩ rfl hl.1 rfl (Nat.le_of_ble_eq_true rfl) ⟨Nat.le_of_ble_eq_true rfl, Nat.le_of_ble_eq_true rfl⟩ dL_law_1356 (fun H locs hT => ?_)
  refine lv_istore (lv' := [(6, .int (nI 0)), (5, .int (nI 0)), (4, .int (nI 0)), (3, .ref o), (2, .ref (u.2.1 0)), (1, .ref (w.2.2.2 0)), (0, .ref q)]) hx hb dL_law_1359 hl (by decide) rfl (fun ls hl => ?_)
  refine lv_aload_n hx hb dL_law_1361 rfl (lv_at hl 4 rfl) ?_
  obtain ⟨⟨hK1, fs, hPm⟩, hO, hS⟩ := hT
  refine b_callV (v := .int (nI 0)) (As := []) (rest := []) G.1 ⟨fun a U g mk z => ⟨z.1, va_K.moved (u := U) (U := U.calling g mk a) (Vm.Alike.refl U.vm) z.2.1, z.2.2⟩, va_recv (q0 := 0) hK1 hPm (ci := 3) rfl rfl, fun U hU hW1 => ⟨rfl, va_K.moved hW1.alike hK1, by rw [hU]; exact hPm⟩⟩ ok_X5_thrown gm_657 gm_658 gm_656 (c_thr l u.1 (u.2.1 0) (nI 0) fs) ⟨rfl, rfl⟩ ⟨Nat.le_of_ble_eq_true rfl, Nat.le_of_ble_eq_true rfl⟩ rfl hl.1 rfl (Nat.le_of_ble_eq_true rfl) ⟨Nat.le_of_ble_eq_true rfl, Nat.le_of_ble_eq_true rfl⟩ dL_law_1362 ?_
  refine lv_iload hx hb dL_law_1365 (lv_at hl 1 rfl) ?_
  refine lv_icmp_eq (tgt := 1372) hx hb dL_law_1367 (by decide) (fun _ => ?_) (fun c => absurd rfl c)
  refine lv_iload hx hb dL_law_1372 (lv_at hl 1 rfl) ?_
  refine lv_if_ne (tgt := 1389) hx hb dL_law_1374 (by decide) (fun c => absurd rfl c) (fun _ => ?_)
  refine lv_aload_n hx hb dL_law_1377 rfl (lv_at hl 3 rfl) ?_
  refine lv_iconst (v := nI 0) hx hb dL_law_1378 (by decide) ?_
  refine va_lald hx hb hO.1 hO.2 0 0 rfl rfl (nI_in (by omega) (by omega)) dL_law_1379 ?_
  refine W.eq (g2 := F0 M_ _ ls [.long ((nI 0).toInt64)]) (by rw [show (nI 0).toNatClampNeg = 0 from rfl, hg]) ?_
  refine lv_iload hx hb dL_law_1380 (lv_at hl 0 rfl) ?_
  refine lv_i2l hx hb dL_law_1382 rfl ?_
  refine W.lcmp hx hb dL_law_1383 ?_
  refine W.eq (g2 := F0 M_ _ ls [.int 0]) (by rw [lg_self]) ?_
  refine lv_if_eq (tgt := 1389) hx hb dL_law_1384 (by decide) (fun _ => ?_) (fun c => absurd rfl c)
  refine lv_goto (tgt := 1775) hx hb dL_law_1389 (by decide) ?_
  exact W.widen (by decide) (by decide) (kk H locs ls hS (lv_sub hl [2, 3, 4, 5, 6] rfl))
set_option maxRecDepth 100000 in
set_option maxHeartbeats 4000000 in
theorem k_many_x {p : Program} {e : Env} {S_ : State} {M_ : MethodId} {below : List Frame} {meth : Method} {c : Code} {l : Launch} (hfl : l.stackTraces = false) {q : Nat} {xs : Nat → Int32} (G : CallFix p M_ c cL_law 9 S_ #[Value.ref q] gw RL ∧ True) (hall : ∀ v ∈ gwx, v.before #[Value.ref q] S_ = true) (hLB : LB S_) (hXs : va_X q 5 xs S_ S_.heap) (hbl : q < S_.heap.size) {w : GP} {u : MP} {ca : Nat} {ad : Nat → Nat} {o : Nat} {cL : ClassId} {Q : State → Prop} {H : Heap} {locs : List Loc} {ls : Array Slot} (hW9 : LW w u ca ad o cL S_ H locs) (hl : lv_has ls 9 [(4, .int (nI 0)), (3, .ref o), (2, .ref (u.2.1 0)), (1, .ref (w.2.2.2 0)), (0, .ref q)]) (kk : ∀ (H1 : Heap) (locs1 : List Loc) (ls1 : Array Slot), va_S (nA S_) S_.heap H1 locs1 → lv_has ls1 9 [(4, .int (nI 0)), (3, .ref o), (2, .ref (u.2.1 0)), (1, .ref (w.2.2.2 0)), (0, .ref q)] → W p l e room_1 S_ M_ #[Value.ref q] below meth c H1 locs1 600002 7302231 Q (F0 M_ 1775 ls1 [])) (h0 : ¬ (nI 0 ≤ xs 1 ∧ xs 1 ≤ nI 12)) : W p l e room_1 S_ M_ #[Value.ref q] below meth c H locs 61 808 Q (F0 M_ 1392 ls []) := by
  obtain ⟨hx, hb, hml, hown, hts⟩ := id G.1
  have h0x : ¬ (0 ≤ xs 1 ∧ xs 1 ≤ nI 12) := h0
  refine lv_aload_n hx hb dL_law_1392 rfl (lv_at hl 3 rfl) ?_
  refine lv_aload_n hx hb dL_law_1393 rfl (lv_at hl 4 rfl) ?_
  refine lv_iload hx hb dL_law_1394 (lv_at hl 0 rfl) ?_
  refine lv_iconst (v := nI 1) hx hb dL_law_1396 (by decide) ?_
  refine g_iaddn hx hb dL_law_1397 ?_
  refine W.eq (g2 := F0 M_ _ ls [.int (nI 1), .ref q, .ref (w.2.2.2 0)]) rfl ?_
  refine va_sld hx hb hXs hbl (Nat.not_le.mpr hbl) hW9.2.1.2.2.2.2 (nI_in (by omega) (by omega)) dL_law_1398 ?_
  refine W.eq (g2 := F0 M_ _ ls [.int (xs 1), .ref (w.2.2.2 0)]) rfl ?_
  refine lv_aload_n hx hb dL_law_1399 rfl (lv_at hl 1 rfl) ?_
  refine l_wthr (As := [.ref (w.2.2.2 0), .int (xs 1), .ref o]) (rest := []) G.1 hLB hW9 (c_L_many_x l hfl w o (xs 1) h0x) (w_csw (n := 3) hall ⟨rfl, rfl⟩ ⟨Nat.le_of_ble_eq_true rfl, Nat.le_of_ble_eq_true rfl⟩ gm_781 gm_650 ⟨by decide +kernel, by decide +kernel⟩ (by decide +kernel) gm_779 gm_780) rfl hl.1 rfl (Nat.le_of_ble_eq_true rfl) ⟨Nat.le_of_ble_eq_true rfl, Nat.le_of_ble_eq_true rfl⟩ dL_law_1400 (fun H hW9 => ?_)
  have hM := hW9.2.1
  refine lv_istore (lv' := [(5, .int (nI 1)), (4, .int (nI 0)), (3, .ref o), (2, .ref (u.2.1 0)), (1, .ref (w.2.2.2 0)), (0, .ref q)]) hx hb dL_law_1403 hl (by decide) rfl (fun ls hl => ?_)
  refine lv_aload_n hx hb dL_law_1405 rfl (lv_at hl 3 rfl) ?_
  refine lv_aload_n hx hb dL_law_1406 rfl (lv_at hl 5 rfl) ?_
  refine lv_iload hx hb dL_law_1407 (lv_at hl 1 rfl) ?_
  refine lv_iconst (v := nI 1) hx hb dL_law_1409 (by decide) ?_
  refine g_iaddn hx hb dL_law_1410 ?_
  refine W.eq (g2 := F0 M_ _ ls [.int (nI 1), .ref q, .ref (u.2.1 0)]) rfl ?_
  refine va_sld hx hb hXs hbl (Nat.not_le.mpr hbl) hM.2.2.2.2 (nI_in (by omega) (by omega)) dL_law_1411 ?_
  refine W.eq (g2 := F0 M_ _ ls [.int (xs 1), .ref (u.2.1 0)]) rfl ?_
  refine l_mod (v := nI 0) (th1 := nI 1) (As := [.int (xs 1)]) (rest := []) G.1 hM (fun z h => Or.inl h) (mWr.fin) (m_preV hM.1) ok_X5_many gm_783 gm_784 gm_782 (c_X5_many_x l u (nI 0) (nI 0) 0 (xs 1) h0) ⟨rfl, rfl⟩ ⟨Nat.le_of_ble_eq_true rfl, Nat.le_of_ble_eq_true rfl⟩ rfl hl.1 rfl (Nat.le_of_ble_eq_true rfl) ⟨Nat.le_of_ble_eq_true rfl, Nat.le_of_ble_eq_true rfl⟩ dL_law_1412 (fun H locs hT => ?_)
  refine lv_istore (lv' := [(6, .int (nI 0)), (5, .int (nI 1)), (4, .int (nI 0)), (3, .ref o), (2, .ref (u.2.1 0)), (1, .ref (w.2.2.2 0)), (0, .ref q)]) hx hb dL_law_1415 hl (by decide) rfl (fun ls hl => ?_)
  refine lv_aload_n hx hb dL_law_1417 rfl (lv_at hl 4 rfl) ?_
  obtain ⟨⟨hK1, fs, hPm⟩, hO, hS⟩ := hT
  refine b_callV (v := .int (nI 1)) (As := []) (rest := []) G.1 ⟨fun a U g mk z => ⟨z.1, va_K.moved (u := U) (U := U.calling g mk a) (Vm.Alike.refl U.vm) z.2.1, z.2.2⟩, va_recv (q0 := 0) hK1 hPm (ci := 3) rfl rfl, fun U hU hW1 => ⟨rfl, va_K.moved hW1.alike hK1, by rw [hU]; exact hPm⟩⟩ ok_X5_thrown gm_657 gm_658 gm_656 (c_thr l u.1 (u.2.1 0) (nI 1) fs) ⟨rfl, rfl⟩ ⟨Nat.le_of_ble_eq_true rfl, Nat.le_of_ble_eq_true rfl⟩ rfl hl.1 rfl (Nat.le_of_ble_eq_true rfl) ⟨Nat.le_of_ble_eq_true rfl, Nat.le_of_ble_eq_true rfl⟩ dL_law_1418 ?_
  refine lv_iload hx hb dL_law_1421 (lv_at hl 1 rfl) ?_
  refine lv_icmp_eq (tgt := 1428) hx hb dL_law_1423 (by decide) (fun _ => ?_) (fun c => absurd rfl c)
  refine lv_iload hx hb dL_law_1428 (lv_at hl 1 rfl) ?_
  refine lv_if_ne (tgt := 1445) hx hb dL_law_1430 (by decide) (fun _ => ?_) (fun c => absurd c (by decide))
  refine lv_goto (tgt := 1775) hx hb dL_law_1445 (by decide) ?_
  exact W.widen (by decide) (by decide) (kk H locs ls hS (lv_sub hl [2, 3, 4, 5, 6] rfl))
set_option maxRecDepth 100000 in
set_option maxHeartbeats 4000000 in
theorem k_many_r {p : Program} {e : Env} {S_ : State} {M_ : MethodId} {below : List Frame} {meth : Method} {c : Code} {l : Launch} (hfl : l.stackTraces = false) {q : Nat} {xs : Nat → Int32} (G : CallFix p M_ c cL_law 9 S_ #[Value.ref q] gw RL ∧ True) (hall : ∀ v ∈ gwx, v.before #[Value.ref q] S_ = true) (hLB : LB S_) (hXs : va_X q 5 xs S_ S_.heap) (hbl : q < S_.heap.size) {w : GP} {u : MP} {ca : Nat} {ad : Nat → Nat} {o : Nat} {cL : ClassId} {Q : State → Prop} {H : Heap} {locs : List Loc} {ls : Array Slot} (hW9 : LW w u ca ad o cL S_ H locs) (hl : lv_has ls 9 [(4, .int (nI 0)), (3, .ref o), (2, .ref (u.2.1 0)), (1, .ref (w.2.2.2 0)), (0, .ref q)]) (kk : ∀ (H1 : Heap) (locs1 : List Loc) (ls1 : Array Slot), va_S (nA S_) S_.heap H1 locs1 → lv_has ls1 9 [(4, .int (nI 0)), (3, .ref o), (2, .ref (u.2.1 0)), (1, .ref (w.2.2.2 0)), (0, .ref q)] → W p l e room_1 S_ M_ #[Value.ref q] below meth c H1 locs1 600002 7302231 Q (F0 M_ 1775 ls1 [])) {n : Nat} (hn : xs 1 = nI n) (h1 : 0 ≤ n) (h2 : n ≤ 12) : W p l e room_1 S_ M_ #[Value.ref q] below meth c H locs 61 808 Q (F0 M_ 1392 ls []) := by
  obtain ⟨hx, hb, hml, hown, hts⟩ := id G.1
  have hn4 : n < 13 := Nat.lt_succ_of_le h2
  refine lv_aload_n hx hb dL_law_1392 rfl (lv_at hl 3 rfl) ?_
  refine lv_aload_n hx hb dL_law_1393 rfl (lv_at hl 4 rfl) ?_
  refine lv_iload hx hb dL_law_1394 (lv_at hl 0 rfl) ?_
  refine lv_iconst (v := nI 1) hx hb dL_law_1396 (by decide) ?_
  refine g_iaddn hx hb dL_law_1397 ?_
  refine W.eq (g2 := F0 M_ _ ls [.int (nI 1), .ref q, .ref (w.2.2.2 0)]) rfl ?_
  refine va_sld hx hb hXs hbl (Nat.not_le.mpr hbl) hW9.2.1.2.2.2.2 (nI_in (by omega) (by omega)) dL_law_1398 ?_
  refine W.eq (g2 := F0 M_ _ ls [.int (nI n), .ref (w.2.2.2 0)]) (by rw [show (nI 1).toNatClampNeg = 1 from rfl, hn]) ?_
  refine lv_aload_n hx hb dL_law_1399 rfl (lv_at hl 1 rfl) ?_
  refine l_wret (As := [.ref (w.2.2.2 0), .int (nI n), .ref o]) (rest := []) G.1 hW9 (c_L_many l w u.1 o cL hW9.2.2.1 n hn4) (w_csw (n := 3) hall ⟨rfl, rfl⟩ ⟨Nat.le_of_ble_eq_true rfl, Nat.le_of_ble_eq_true rfl⟩ gm_781 gm_650 ⟨by decide +kernel, by decide +kernel⟩ (by decide +kernel) gm_779 gm_780) rfl hl.1 rfl (Nat.le_of_ble_eq_true rfl) ⟨Nat.le_of_ble_eq_true rfl, Nat.le_of_ble_eq_true rfl⟩ dL_law_1400 (fun H locs g hg hM => ?_)
  refine lv_istore (lv' := [(5, .int (nI 0)), (4, .int (nI 0)), (3, .ref o), (2, .ref (u.2.1 0)), (1, .ref (w.2.2.2 0)), (0, .ref q)]) hx hb dL_law_1403 hl (by decide) rfl (fun ls hl => ?_)
  refine lv_aload_n hx hb dL_law_1405 rfl (lv_at hl 3 rfl) ?_
  refine lv_aload_n hx hb dL_law_1406 rfl (lv_at hl 5 rfl) ?_
  refine lv_iload hx hb dL_law_1407 (lv_at hl 1 rfl) ?_
  refine lv_iconst (v := nI 1) hx hb dL_law_1409 (by decide) ?_
  refine g_iaddn hx hb dL_law_1410 ?_
  refine W.eq (g2 := F0 M_ _ ls [.int (nI 1), .ref q, .ref (u.2.1 0)]) rfl ?_
  refine va_sld hx hb hXs hbl (Nat.not_le.mpr hbl) hM.2.2.2.2 (nI_in (by omega) (by omega)) dL_law_1411 ?_
  refine W.eq (g2 := F0 M_ _ ls [.int (nI n), .ref (u.2.1 0)]) (by rw [show (nI 1).toNatClampNeg = 1 from rfl, hn]) ?_
  refine l_mod (v := nI 0) (th1 := nI 0) (As := [.int (nI n)]) (rest := []) G.1 hM (fun z h => Or.inl h) (mWr.fin) (m_preV hM.1) ok_X5_many gm_783 gm_784 gm_782 (c_X5_many l u (nI 0) 0 n hn4) ⟨rfl, rfl⟩ ⟨Nat.le_of_ble_eq_true rfl, Nat.le_of_ble_eq_true rfl⟩ rfl hl.1 rfl (Nat.le_of_ble_eq_true rfl) ⟨Nat.le_of_ble_eq_true rfl, Nat.le_of_ble_eq_true rfl⟩ dL_law_1412 (fun H locs hT => ?_)
  refine lv_istore (lv' := [(6, .int (nI 0)), (5, .int (nI 0)), (4, .int (nI 0)), (3, .ref o), (2, .ref (u.2.1 0)), (1, .ref (w.2.2.2 0)), (0, .ref q)]) hx hb dL_law_1415 hl (by decide) rfl (fun ls hl => ?_)
  refine lv_aload_n hx hb dL_law_1417 rfl (lv_at hl 4 rfl) ?_
  obtain ⟨⟨hK1, fs, hPm⟩, hO, hS⟩ := hT
  refine b_callV (v := .int (nI 0)) (As := []) (rest := []) G.1 ⟨fun a U g mk z => ⟨z.1, va_K.moved (u := U) (U := U.calling g mk a) (Vm.Alike.refl U.vm) z.2.1, z.2.2⟩, va_recv (q0 := 0) hK1 hPm (ci := 3) rfl rfl, fun U hU hW1 => ⟨rfl, va_K.moved hW1.alike hK1, by rw [hU]; exact hPm⟩⟩ ok_X5_thrown gm_657 gm_658 gm_656 (c_thr l u.1 (u.2.1 0) (nI 0) fs) ⟨rfl, rfl⟩ ⟨Nat.le_of_ble_eq_true rfl, Nat.le_of_ble_eq_true rfl⟩ rfl hl.1 rfl (Nat.le_of_ble_eq_true rfl) ⟨Nat.le_of_ble_eq_true rfl, Nat.le_of_ble_eq_true rfl⟩ dL_law_1418 ?_
  refine lv_iload hx hb dL_law_1421 (lv_at hl 1 rfl) ?_
  refine lv_icmp_eq (tgt := 1428) hx hb dL_law_1423 (by decide) (fun _ => ?_) (fun c => absurd rfl c)
  refine lv_iload hx hb dL_law_1428 (lv_at hl 1 rfl) ?_
  refine lv_if_ne (tgt := 1445) hx hb dL_law_1430 (by decide) (fun c => absurd rfl c) (fun _ => ?_)
  refine lv_aload_n hx hb dL_law_1433 rfl (lv_at hl 3 rfl) ?_
  refine lv_iconst (v := nI 0) hx hb dL_law_1434 (by decide) ?_
  refine va_lald hx hb hO.1 hO.2 0 0 rfl rfl (nI_in (by omega) (by omega)) dL_law_1435 ?_
  refine W.eq (g2 := F0 M_ _ ls [.long ((nI 0).toInt64)]) (by rw [show (nI 0).toNatClampNeg = 0 from rfl, hg]) ?_
  refine lv_iload hx hb dL_law_1436 (lv_at hl 0 rfl) ?_
  refine lv_i2l hx hb dL_law_1438 rfl ?_
  refine W.lcmp hx hb dL_law_1439 ?_
  refine W.eq (g2 := F0 M_ _ ls [.int 0]) (by rw [lg_self]) ?_
  refine lv_if_eq (tgt := 1445) hx hb dL_law_1440 (by decide) (fun _ => ?_) (fun c => absurd rfl c)
  refine lv_goto (tgt := 1775) hx hb dL_law_1445 (by decide) ?_
  exact W.widen (by decide) (by decide) (kk H locs ls hS (lv_sub hl [2, 3, 4, 5, 6] rfl))
set_option maxRecDepth 100000 in
set_option maxHeartbeats 4000000 in
theorem k_meanConsistency {p : Program} {e : Env} {S_ : State} {M_ : MethodId} {below : List Frame} {meth : Method} {c : Code} {l : Launch} (hfl : l.stackTraces = false) {q : Nat} {xs : Nat → Int32} (G : CallFix p M_ c cL_law 9 S_ #[Value.ref q] gw RL ∧ True) (hall : ∀ v ∈ gwx, v.before #[Value.ref q] S_ = true) (hLB : LB S_) (hXs : va_X q 5 xs S_ S_.heap) (hbl : q < S_.heap.size) {w : GP} {u : MP} {ca : Nat} {ad : Nat → Nat} {o : Nat} {cL : ClassId} {Q : State → Prop} {H : Heap} {locs : List Loc} {ls : Array Slot} (hW9 : LW w u ca ad o cL S_ H locs) (hl : lv_has ls 9 [(4, .int (nI 0)), (3, .ref o), (2, .ref (u.2.1 0)), (1, .ref (w.2.2.2 0)), (0, .ref q)]) (kk : ∀ (H1 : Heap) (locs1 : List Loc) (ls1 : Array Slot), va_S (nA S_) S_.heap H1 locs1 → lv_has ls1 9 [(4, .int (nI 0)), (3, .ref o), (2, .ref (u.2.1 0)), (1, .ref (w.2.2.2 0)), (0, .ref q)] → W p l e room_1 S_ M_ #[Value.ref q] below meth c H1 locs1 600002 7302231 Q (F0 M_ 1775 ls1 []))  : W p l e room_1 S_ M_ #[Value.ref q] below meth c H locs 61 808 Q (F0 M_ 1448 ls []) := by
  obtain ⟨hx, hb, hml, hown, hts⟩ := id G.1
  refine lv_aload_n hx hb dL_law_1448 rfl (lv_at hl 3 rfl) ?_
  refine g_callV (As := []) (rest := []) G.1 hW9.1.1 0 (by decide) (show gE w f0 0 = .inr (2, _) from rfl) rfl ok_X2_meanConsistency gm_787 gm_788 gm_786 (c_X2_meanConsistency l w f0 f0_I f0_sc.1 f0_sc.2) ⟨rfl, rfl⟩ ⟨Nat.le_of_ble_eq_true rfl, Nat.le_of_ble_eq_true rfl⟩ rfl hl.1 rfl (Nat.le_of_ble_eq_true rfl) ⟨Nat.le_of_ble_eq_true rfl, Nat.le_of_ble_eq_true rfl⟩ dL_law_1449 ?_
  refine W.eq (g2 := F0 M_ _ ls [.double FP.dconst0]) (by rw [f0_mc]) ?_
  have hM := hW9.2.1
  refine lv_dstore (lv' := [(5, .double FP.dconst0), (4, .int (nI 0)), (3, .ref o), (2, .ref (u.2.1 0)), (1, .ref (w.2.2.2 0)), (0, .ref q)]) hx hb dL_law_1452 hl (by decide) rfl (fun ls hl => ?_)
  refine lv_aload_n hx hb dL_law_1454 rfl (lv_at hl 3 rfl) ?_
  refine l_modV (As := []) (rest := []) G.1 hM rfl ok_X5_meanConsistency gm_791 gm_792 gm_790 (c_X5_meanConsistency l u (nI 0) (nI 0) 0) ⟨rfl, rfl⟩ ⟨Nat.le_of_ble_eq_true rfl, Nat.le_of_ble_eq_true rfl⟩ rfl hl.1 rfl (Nat.le_of_ble_eq_true rfl) ⟨Nat.le_of_ble_eq_true rfl, Nat.le_of_ble_eq_true rfl⟩ dL_law_1455 (fun H locs hS => ?_)
  refine lv_dstore (lv' := [(7, .double FP.dconst0), (5, .double FP.dconst0), (4, .int (nI 0)), (3, .ref o), (2, .ref (u.2.1 0)), (1, .ref (w.2.2.2 0)), (0, .ref q)]) hx hb dL_law_1458 hl (by decide) rfl (fun ls hl => ?_)
  refine lv_dload hx hb dL_law_1460 (lv_at hl 1 rfl) ?_
  refine lv_dload hx hb dL_law_1462 (lv_at hl 0 rfl) ?_
  refine lv_dcmp hx hb dL_law_1464 ?_
  refine W.eq (g2 := F0 M_ _ ls [.int 0]) (by rw [dc_self]) ?_
  refine lv_if_eq (tgt := 1486) hx hb dL_law_1465 (by decide) (fun _ => ?_) (fun c => absurd rfl c)
  refine lv_goto (tgt := 1775) hx hb dL_law_1486 (by decide) ?_
  exact W.widen (by decide) (by decide) (kk H locs ls hS (lv_sub hl [2, 3, 4, 5, 6] rfl))
set_option maxRecDepth 100000 in
set_option maxHeartbeats 4000000 in
theorem k_reopenedBy {p : Program} {e : Env} {S_ : State} {M_ : MethodId} {below : List Frame} {meth : Method} {c : Code} {l : Launch} (hfl : l.stackTraces = false) {q : Nat} {xs : Nat → Int32} (G : CallFix p M_ c cL_law 9 S_ #[Value.ref q] gw RL ∧ True) (hall : ∀ v ∈ gwx, v.before #[Value.ref q] S_ = true) (hLB : LB S_) (hXs : va_X q 5 xs S_ S_.heap) (hbl : q < S_.heap.size) {w : GP} {u : MP} {ca : Nat} {ad : Nat → Nat} {o : Nat} {cL : ClassId} {Q : State → Prop} {H : Heap} {locs : List Loc} {ls : Array Slot} (hW9 : LW w u ca ad o cL S_ H locs) (hl : lv_has ls 9 [(4, .int (nI 0)), (3, .ref o), (2, .ref (u.2.1 0)), (1, .ref (w.2.2.2 0)), (0, .ref q)]) (kk : ∀ (H1 : Heap) (locs1 : List Loc) (ls1 : Array Slot), va_S (nA S_) S_.heap H1 locs1 → lv_has ls1 9 [(4, .int (nI 0)), (3, .ref o), (2, .ref (u.2.1 0)), (1, .ref (w.2.2.2 0)), (0, .ref q)] → W p l e room_1 S_ M_ #[Value.ref q] below meth c H1 locs1 600002 7302231 Q (F0 M_ 1775 ls1 []))  : W p l e room_1 S_ M_ #[Value.ref q] below meth c H locs 61 808 Q (F0 M_ 1489 ls []) := by
  obtain ⟨hx, hb, hml, hown, hts⟩ := id G.1
  refine lv_aload_n hx hb dL_law_1489 rfl (lv_at hl 3 rfl) ?_
  refine lv_aload_n hx hb dL_law_1490 rfl (lv_at hl 4 rfl) ?_
  refine lv_iload hx hb dL_law_1491 (lv_at hl 0 rfl) ?_
  refine lv_iconst (v := nI 1) hx hb dL_law_1493 (by decide) ?_
  refine g_iaddn hx hb dL_law_1494 ?_
  refine W.eq (g2 := F0 M_ _ ls [.int (nI 1), .ref q, .ref (w.2.2.2 0)]) rfl ?_
  refine va_sld hx hb hXs hbl (Nat.not_le.mpr hbl) hW9.2.1.2.2.2.2 (nI_in (by omega) (by omega)) dL_law_1495 ?_
  refine W.eq (g2 := F0 M_ _ ls [.int (xs 1), .ref (w.2.2.2 0)]) rfl ?_
  refine lv_aload_n hx hb dL_law_1496 rfl (lv_at hl 1 rfl) ?_
  refine l_wthr (As := [.ref (w.2.2.2 0), .int (xs 1), .ref o]) (rest := []) G.1 hLB hW9 (c_L_reopenedBy_x l hfl w o (xs 1)) (w_csw (n := 3) hall ⟨rfl, rfl⟩ ⟨Nat.le_of_ble_eq_true rfl, Nat.le_of_ble_eq_true rfl⟩ gm_796 gm_650 ⟨by decide +kernel, by decide +kernel⟩ (by decide +kernel) gm_794 gm_795) rfl hl.1 rfl (Nat.le_of_ble_eq_true rfl) ⟨Nat.le_of_ble_eq_true rfl, Nat.le_of_ble_eq_true rfl⟩ dL_law_1497 (fun H hW9 => ?_)
  have hM := hW9.2.1
  refine lv_istore (lv' := [(5, .int (nI 1)), (4, .int (nI 0)), (3, .ref o), (2, .ref (u.2.1 0)), (1, .ref (w.2.2.2 0)), (0, .ref q)]) hx hb dL_law_1500 hl (by decide) rfl (fun ls hl => ?_)
  refine lv_aload_n hx hb dL_law_1502 rfl (lv_at hl 3 rfl) ?_
  refine lv_aload_n hx hb dL_law_1503 rfl (lv_at hl 5 rfl) ?_
  refine lv_iload hx hb dL_law_1504 (lv_at hl 1 rfl) ?_
  refine lv_iconst (v := nI 1) hx hb dL_law_1506 (by decide) ?_
  refine g_iaddn hx hb dL_law_1507 ?_
  refine W.eq (g2 := F0 M_ _ ls [.int (nI 1), .ref q, .ref (u.2.1 0)]) rfl ?_
  refine va_sld hx hb hXs hbl (Nat.not_le.mpr hbl) hM.2.2.2.2 (nI_in (by omega) (by omega)) dL_law_1508 ?_
  refine W.eq (g2 := F0 M_ _ ls [.int (xs 1), .ref (u.2.1 0)]) rfl ?_
  refine l_mod (v := nI 0) (th1 := nI 1) (As := [.int (xs 1)]) (rest := []) G.1 hM (fun z h => Or.inl h) (mWr.fin) (m_preV hM.1) ok_X5_reopenedBy gm_798 gm_799 gm_797 (c_X5_reopenedBy l u (nI 0) (nI 0) 0 (xs 1)) ⟨rfl, rfl⟩ ⟨Nat.le_of_ble_eq_true rfl, Nat.le_of_ble_eq_true rfl⟩ rfl hl.1 rfl (Nat.le_of_ble_eq_true rfl) ⟨Nat.le_of_ble_eq_true rfl, Nat.le_of_ble_eq_true rfl⟩ dL_law_1509 (fun H locs hT => ?_)
  refine lv_istore (lv' := [(6, .int (nI 0)), (5, .int (nI 1)), (4, .int (nI 0)), (3, .ref o), (2, .ref (u.2.1 0)), (1, .ref (w.2.2.2 0)), (0, .ref q)]) hx hb dL_law_1512 hl (by decide) rfl (fun ls hl => ?_)
  refine lv_aload_n hx hb dL_law_1514 rfl (lv_at hl 4 rfl) ?_
  obtain ⟨⟨hK1, fs, hPm⟩, hO, hS⟩ := hT
  refine b_callV (v := .int (nI 1)) (As := []) (rest := []) G.1 ⟨fun a U g mk z => ⟨z.1, va_K.moved (u := U) (U := U.calling g mk a) (Vm.Alike.refl U.vm) z.2.1, z.2.2⟩, va_recv (q0 := 0) hK1 hPm (ci := 3) rfl rfl, fun U hU hW1 => ⟨rfl, va_K.moved hW1.alike hK1, by rw [hU]; exact hPm⟩⟩ ok_X5_thrown gm_657 gm_658 gm_656 (c_thr l u.1 (u.2.1 0) (nI 1) fs) ⟨rfl, rfl⟩ ⟨Nat.le_of_ble_eq_true rfl, Nat.le_of_ble_eq_true rfl⟩ rfl hl.1 rfl (Nat.le_of_ble_eq_true rfl) ⟨Nat.le_of_ble_eq_true rfl, Nat.le_of_ble_eq_true rfl⟩ dL_law_1515 ?_
  refine lv_iload hx hb dL_law_1518 (lv_at hl 1 rfl) ?_
  refine lv_icmp_eq (tgt := 1525) hx hb dL_law_1520 (by decide) (fun _ => ?_) (fun c => absurd rfl c)
  refine lv_iload hx hb dL_law_1525 (lv_at hl 1 rfl) ?_
  refine lv_if_ne (tgt := 1542) hx hb dL_law_1527 (by decide) (fun _ => ?_) (fun c => absurd c (by decide))
  refine lv_goto (tgt := 1775) hx hb dL_law_1542 (by decide) ?_
  exact W.widen (by decide) (by decide) (kk H locs ls hS (lv_sub hl [2, 3, 4, 5, 6] rfl))
set_option maxRecDepth 100000 in
set_option maxHeartbeats 4000000 in
theorem k_reopenedIn_x {p : Program} {e : Env} {S_ : State} {M_ : MethodId} {below : List Frame} {meth : Method} {c : Code} {l : Launch} (hfl : l.stackTraces = false) {q : Nat} {xs : Nat → Int32} (G : CallFix p M_ c cL_law 9 S_ #[Value.ref q] gw RL ∧ True) (hall : ∀ v ∈ gwx, v.before #[Value.ref q] S_ = true) (hLB : LB S_) (hXs : va_X q 5 xs S_ S_.heap) (hbl : q < S_.heap.size) {w : GP} {u : MP} {ca : Nat} {ad : Nat → Nat} {o : Nat} {cL : ClassId} {Q : State → Prop} {H : Heap} {locs : List Loc} {ls : Array Slot} (hW9 : LW w u ca ad o cL S_ H locs) (hl : lv_has ls 9 [(4, .int (nI 0)), (3, .ref o), (2, .ref (u.2.1 0)), (1, .ref (w.2.2.2 0)), (0, .ref q)]) (kk : ∀ (H1 : Heap) (locs1 : List Loc) (ls1 : Array Slot), va_S (nA S_) S_.heap H1 locs1 → lv_has ls1 9 [(4, .int (nI 0)), (3, .ref o), (2, .ref (u.2.1 0)), (1, .ref (w.2.2.2 0)), (0, .ref q)] → W p l e room_1 S_ M_ #[Value.ref q] below meth c H1 locs1 600002 7302231 Q (F0 M_ 1775 ls1 [])) (h0 : ¬ (nI 1 ≤ xs 1 ∧ xs 1 ≤ nI 40)) : W p l e room_1 S_ M_ #[Value.ref q] below meth c H locs 61 808 Q (F0 M_ 1545 ls []) := by
  obtain ⟨hx, hb, hml, hown, hts⟩ := id G.1
  refine lv_aload_n hx hb dL_law_1545 rfl (lv_at hl 3 rfl) ?_
  refine lv_aload_n hx hb dL_law_1546 rfl (lv_at hl 4 rfl) ?_
  refine lv_iload hx hb dL_law_1547 (lv_at hl 0 rfl) ?_
  refine lv_iconst (v := nI 1) hx hb dL_law_1549 (by decide) ?_
  refine g_iaddn hx hb dL_law_1550 ?_
  refine W.eq (g2 := F0 M_ _ ls [.int (nI 1), .ref q, .ref (w.2.2.2 0)]) rfl ?_
  refine va_sld hx hb hXs hbl (Nat.not_le.mpr hbl) hW9.2.1.2.2.2.2 (nI_in (by omega) (by omega)) dL_law_1551 ?_
  refine W.eq (g2 := F0 M_ _ ls [.int (xs 1), .ref (w.2.2.2 0)]) rfl ?_
  refine lv_aload_n hx hb dL_law_1552 rfl (lv_at hl 1 rfl) ?_
  refine l_wthr (As := [.ref (w.2.2.2 0), .int (xs 1), .ref o]) (rest := []) G.1 hLB hW9 (c_L_reopenedIn_x l hfl w o (xs 1) h0) (w_csw (n := 3) hall ⟨rfl, rfl⟩ ⟨Nat.le_of_ble_eq_true rfl, Nat.le_of_ble_eq_true rfl⟩ gm_803 gm_650 ⟨by decide +kernel, by decide +kernel⟩ (by decide +kernel) gm_801 gm_802) rfl hl.1 rfl (Nat.le_of_ble_eq_true rfl) ⟨Nat.le_of_ble_eq_true rfl, Nat.le_of_ble_eq_true rfl⟩ dL_law_1553 (fun H hW9 => ?_)
  have hM := hW9.2.1
  refine lv_istore (lv' := [(5, .int (nI 1)), (4, .int (nI 0)), (3, .ref o), (2, .ref (u.2.1 0)), (1, .ref (w.2.2.2 0)), (0, .ref q)]) hx hb dL_law_1556 hl (by decide) rfl (fun ls hl => ?_)
  refine lv_aload_n hx hb dL_law_1558 rfl (lv_at hl 3 rfl) ?_
  refine lv_aload_n hx hb dL_law_1559 rfl (lv_at hl 5 rfl) ?_
  refine lv_iload hx hb dL_law_1560 (lv_at hl 1 rfl) ?_
  refine lv_iconst (v := nI 1) hx hb dL_law_1562 (by decide) ?_
  refine g_iaddn hx hb dL_law_1563 ?_
  refine W.eq (g2 := F0 M_ _ ls [.int (nI 1), .ref q, .ref (u.2.1 0)]) rfl ?_
  refine va_sld hx hb hXs hbl (Nat.not_le.mpr hbl) hM.2.2.2.2 (nI_in (by omega) (by omega)) dL_law_1564 ?_
  refine W.eq (g2 := F0 M_ _ ls [.int (xs 1), .ref (u.2.1 0)]) rfl ?_
  refine l_mod (v := nI 0) (th1 := nI 1) (As := [.int (xs 1)]) (rest := []) G.1 hM (fun z h => Or.inl h) (mWr.fin) (m_preV hM.1) ok_X5_reopenedIn gm_805 gm_806 gm_804 (c_X5_reopenedIn_x l u (nI 0) (nI 0) 0 (xs 1) h0) ⟨rfl, rfl⟩ ⟨Nat.le_of_ble_eq_true rfl, Nat.le_of_ble_eq_true rfl⟩ rfl hl.1 rfl (Nat.le_of_ble_eq_true rfl) ⟨Nat.le_of_ble_eq_true rfl, Nat.le_of_ble_eq_true rfl⟩ dL_law_1565 (fun H locs hT => ?_)
  refine lv_istore (lv' := [(6, .int (nI 0)), (5, .int (nI 1)), (4, .int (nI 0)), (3, .ref o), (2, .ref (u.2.1 0)), (1, .ref (w.2.2.2 0)), (0, .ref q)]) hx hb dL_law_1568 hl (by decide) rfl (fun ls hl => ?_)
  refine lv_aload_n hx hb dL_law_1570 rfl (lv_at hl 4 rfl) ?_
  obtain ⟨⟨hK1, fs, hPm⟩, hO, hS⟩ := hT
  refine b_callV (v := .int (nI 1)) (As := []) (rest := []) G.1 ⟨fun a U g mk z => ⟨z.1, va_K.moved (u := U) (U := U.calling g mk a) (Vm.Alike.refl U.vm) z.2.1, z.2.2⟩, va_recv (q0 := 0) hK1 hPm (ci := 3) rfl rfl, fun U hU hW1 => ⟨rfl, va_K.moved hW1.alike hK1, by rw [hU]; exact hPm⟩⟩ ok_X5_thrown gm_657 gm_658 gm_656 (c_thr l u.1 (u.2.1 0) (nI 1) fs) ⟨rfl, rfl⟩ ⟨Nat.le_of_ble_eq_true rfl, Nat.le_of_ble_eq_true rfl⟩ rfl hl.1 rfl (Nat.le_of_ble_eq_true rfl) ⟨Nat.le_of_ble_eq_true rfl, Nat.le_of_ble_eq_true rfl⟩ dL_law_1571 ?_
  refine lv_iload hx hb dL_law_1574 (lv_at hl 1 rfl) ?_
  refine lv_icmp_eq (tgt := 1581) hx hb dL_law_1576 (by decide) (fun _ => ?_) (fun c => absurd rfl c)
  refine lv_iload hx hb dL_law_1581 (lv_at hl 1 rfl) ?_
  refine lv_if_ne (tgt := 1598) hx hb dL_law_1583 (by decide) (fun _ => ?_) (fun c => absurd c (by decide))
  refine lv_goto (tgt := 1775) hx hb dL_law_1598 (by decide) ?_
  exact W.widen (by decide) (by decide) (kk H locs ls hS (lv_sub hl [2, 3, 4, 5, 6] rfl))
set_option maxRecDepth 100000 in
set_option maxHeartbeats 4000000 in
theorem k_reopenedIn_r {p : Program} {e : Env} {S_ : State} {M_ : MethodId} {below : List Frame} {meth : Method} {c : Code} {l : Launch} (hfl : l.stackTraces = false) {q : Nat} {xs : Nat → Int32} (G : CallFix p M_ c cL_law 9 S_ #[Value.ref q] gw RL ∧ True) (hall : ∀ v ∈ gwx, v.before #[Value.ref q] S_ = true) (hLB : LB S_) (hXs : va_X q 5 xs S_ S_.heap) (hbl : q < S_.heap.size) {w : GP} {u : MP} {ca : Nat} {ad : Nat → Nat} {o : Nat} {cL : ClassId} {Q : State → Prop} {H : Heap} {locs : List Loc} {ls : Array Slot} (hW9 : LW w u ca ad o cL S_ H locs) (hl : lv_has ls 9 [(4, .int (nI 0)), (3, .ref o), (2, .ref (u.2.1 0)), (1, .ref (w.2.2.2 0)), (0, .ref q)]) (kk : ∀ (H1 : Heap) (locs1 : List Loc) (ls1 : Array Slot), va_S (nA S_) S_.heap H1 locs1 → lv_has ls1 9 [(4, .int (nI 0)), (3, .ref o), (2, .ref (u.2.1 0)), (1, .ref (w.2.2.2 0)), (0, .ref q)] → W p l e room_1 S_ M_ #[Value.ref q] below meth c H1 locs1 600002 7302231 Q (F0 M_ 1775 ls1 [])) {n : Nat} (hn : xs 1 = nI n) (h1 : 1 ≤ n) (h2 : n ≤ 40) : W p l e room_1 S_ M_ #[Value.ref q] below meth c H locs 61 808 Q (F0 M_ 1545 ls []) := by
  obtain ⟨hx, hb, hml, hown, hts⟩ := id G.1
  have hn4 : n < 41 := Nat.lt_succ_of_le h2
  refine lv_aload_n hx hb dL_law_1545 rfl (lv_at hl 3 rfl) ?_
  refine lv_aload_n hx hb dL_law_1546 rfl (lv_at hl 4 rfl) ?_
  refine lv_iload hx hb dL_law_1547 (lv_at hl 0 rfl) ?_
  refine lv_iconst (v := nI 1) hx hb dL_law_1549 (by decide) ?_
  refine g_iaddn hx hb dL_law_1550 ?_
  refine W.eq (g2 := F0 M_ _ ls [.int (nI 1), .ref q, .ref (w.2.2.2 0)]) rfl ?_
  refine va_sld hx hb hXs hbl (Nat.not_le.mpr hbl) hW9.2.1.2.2.2.2 (nI_in (by omega) (by omega)) dL_law_1551 ?_
  refine W.eq (g2 := F0 M_ _ ls [.int (nI n), .ref (w.2.2.2 0)]) (by rw [show (nI 1).toNatClampNeg = 1 from rfl, hn]) ?_
  refine lv_aload_n hx hb dL_law_1552 rfl (lv_at hl 1 rfl) ?_
  refine l_wret (As := [.ref (w.2.2.2 0), .int (nI n), .ref o]) (rest := []) G.1 hW9 (c_L_reopenedIn l w u.1 o cL hW9.2.2.1 n h1 h2) (w_csw (n := 3) hall ⟨rfl, rfl⟩ ⟨Nat.le_of_ble_eq_true rfl, Nat.le_of_ble_eq_true rfl⟩ gm_803 gm_650 ⟨by decide +kernel, by decide +kernel⟩ (by decide +kernel) gm_801 gm_802) rfl hl.1 rfl (Nat.le_of_ble_eq_true rfl) ⟨Nat.le_of_ble_eq_true rfl, Nat.le_of_ble_eq_true rfl⟩ dL_law_1553 (fun H locs g hg hM => ?_)
  refine lv_istore (lv' := [(5, .int (nI 0)), (4, .int (nI 0)), (3, .ref o), (2, .ref (u.2.1 0)), (1, .ref (w.2.2.2 0)), (0, .ref q)]) hx hb dL_law_1556 hl (by decide) rfl (fun ls hl => ?_)
  refine lv_aload_n hx hb dL_law_1558 rfl (lv_at hl 3 rfl) ?_
  refine lv_aload_n hx hb dL_law_1559 rfl (lv_at hl 5 rfl) ?_
  refine lv_iload hx hb dL_law_1560 (lv_at hl 1 rfl) ?_
  refine lv_iconst (v := nI 1) hx hb dL_law_1562 (by decide) ?_
  refine g_iaddn hx hb dL_law_1563 ?_
  refine W.eq (g2 := F0 M_ _ ls [.int (nI 1), .ref q, .ref (u.2.1 0)]) rfl ?_
  refine va_sld hx hb hXs hbl (Nat.not_le.mpr hbl) hM.2.2.2.2 (nI_in (by omega) (by omega)) dL_law_1564 ?_
  refine W.eq (g2 := F0 M_ _ ls [.int (nI n), .ref (u.2.1 0)]) (by rw [show (nI 1).toNatClampNeg = 1 from rfl, hn]) ?_
  refine l_mod (v := nI 0) (th1 := nI 0) (As := [.int (nI n)]) (rest := []) G.1 hM (fun z h => Or.inl h) (mWr.fin) (m_preV hM.1) ok_X5_reopenedIn gm_805 gm_806 gm_804 (c_X5_reopenedIn l u (nI 0) (nI 0) 0 n h1 h2) ⟨rfl, rfl⟩ ⟨Nat.le_of_ble_eq_true rfl, Nat.le_of_ble_eq_true rfl⟩ rfl hl.1 rfl (Nat.le_of_ble_eq_true rfl) ⟨Nat.le_of_ble_eq_true rfl, Nat.le_of_ble_eq_true rfl⟩ dL_law_1565 (fun H locs hT => ?_)
  refine lv_istore (lv' := [(6, .int (nI 0)), (5, .int (nI 0)), (4, .int (nI 0)), (3, .ref o), (2, .ref (u.2.1 0)), (1, .ref (w.2.2.2 0)), (0, .ref q)]) hx hb dL_law_1568 hl (by decide) rfl (fun ls hl => ?_)
  refine lv_aload_n hx hb dL_law_1570 rfl (lv_at hl 4 rfl) ?_
  obtain ⟨⟨hK1, fs, hPm⟩, hO, hS⟩ := hT
  refine b_callV (v := .int (nI 0)) (As := []) (rest := []) G.1 ⟨fun a U g mk z => ⟨z.1, va_K.moved (u := U) (U := U.calling g mk a) (Vm.Alike.refl U.vm) z.2.1, z.2.2⟩, va_recv (q0 := 0) hK1 hPm (ci := 3) rfl rfl, fun U hU hW1 => ⟨rfl, va_K.moved hW1.alike hK1, by rw [hU]; exact hPm⟩⟩ ok_X5_thrown gm_657 gm_658 gm_656 (c_thr l u.1 (u.2.1 0) (nI 0) fs) ⟨rfl, rfl⟩ ⟨Nat.le_of_ble_eq_true rfl, Nat.le_of_ble_eq_true rfl⟩ rfl hl.1 rfl (Nat.le_of_ble_eq_true rfl) ⟨Nat.le_of_ble_eq_true rfl, Nat.le_of_ble_eq_true rfl⟩ dL_law_1571 ?_
  refine lv_iload hx hb dL_law_1574 (lv_at hl 1 rfl) ?_
  refine lv_icmp_eq (tgt := 1581) hx hb dL_law_1576 (by decide) (fun _ => ?_) (fun c => absurd rfl c)
  refine lv_iload hx hb dL_law_1581 (lv_at hl 1 rfl) ?_
  refine lv_if_ne (tgt := 1598) hx hb dL_law_1583 (by decide) (fun c => absurd rfl c) (fun _ => ?_)
  refine lv_aload_n hx hb dL_law_1586 rfl (lv_at hl 3 rfl) ?_
  refine lv_iconst (v := nI 0) hx hb dL_law_1587 (by decide) ?_
  refine va_lald hx hb hO.1 hO.2 0 0 rfl rfl (nI_in (by omega) (by omega)) dL_law_1588 ?_
  refine W.eq (g2 := F0 M_ _ ls [.long ((nI 0).toInt64)]) (by rw [show (nI 0).toNatClampNeg = 0 from rfl, hg]) ?_
  refine lv_iload hx hb dL_law_1589 (lv_at hl 0 rfl) ?_
  refine lv_i2l hx hb dL_law_1591 rfl ?_
  refine W.lcmp hx hb dL_law_1592 ?_
  refine W.eq (g2 := F0 M_ _ ls [.int 0]) (by rw [lg_self]) ?_
  refine lv_if_eq (tgt := 1598) hx hb dL_law_1593 (by decide) (fun _ => ?_) (fun c => absurd rfl c)
  refine lv_goto (tgt := 1775) hx hb dL_law_1598 (by decide) ?_
  exact W.widen (by decide) (by decide) (kk H locs ls hS (lv_sub hl [2, 3, 4, 5, 6] rfl))
set_option maxRecDepth 100000 in
set_option maxHeartbeats 4000000 in
theorem k_changedBy {p : Program} {e : Env} {S_ : State} {M_ : MethodId} {below : List Frame} {meth : Method} {c : Code} {l : Launch} (hfl : l.stackTraces = false) {q : Nat} {xs : Nat → Int32} (G : CallFix p M_ c cL_law 9 S_ #[Value.ref q] gw RL ∧ True) (hall : ∀ v ∈ gwx, v.before #[Value.ref q] S_ = true) (hLB : LB S_) (hXs : va_X q 5 xs S_ S_.heap) (hbl : q < S_.heap.size) {w : GP} {u : MP} {ca : Nat} {ad : Nat → Nat} {o : Nat} {cL : ClassId} {Q : State → Prop} {H : Heap} {locs : List Loc} {ls : Array Slot} (hW9 : LW w u ca ad o cL S_ H locs) (hl : lv_has ls 9 [(4, .int (nI 0)), (3, .ref o), (2, .ref (u.2.1 0)), (1, .ref (w.2.2.2 0)), (0, .ref q)]) (kk : ∀ (H1 : Heap) (locs1 : List Loc) (ls1 : Array Slot), va_S (nA S_) S_.heap H1 locs1 → lv_has ls1 9 [(4, .int (nI 0)), (3, .ref o), (2, .ref (u.2.1 0)), (1, .ref (w.2.2.2 0)), (0, .ref q)] → W p l e room_1 S_ M_ #[Value.ref q] below meth c H1 locs1 600002 7302231 Q (F0 M_ 1775 ls1 []))  : W p l e room_1 S_ M_ #[Value.ref q] below meth c H locs 61 808 Q (F0 M_ 1601 ls []) := by
  obtain ⟨hx, hb, hml, hown, hts⟩ := id G.1
  refine lv_aload_n hx hb dL_law_1601 rfl (lv_at hl 3 rfl) ?_
  refine lv_aload_n hx hb dL_law_1602 rfl (lv_at hl 4 rfl) ?_
  refine lv_iload hx hb dL_law_1603 (lv_at hl 0 rfl) ?_
  refine lv_iconst (v := nI 1) hx hb dL_law_1605 (by decide) ?_
  refine g_iaddn hx hb dL_law_1606 ?_
  refine W.eq (g2 := F0 M_ _ ls [.int (nI 1), .ref q, .ref (w.2.2.2 0)]) rfl ?_
  refine va_sld hx hb hXs hbl (Nat.not_le.mpr hbl) hW9.2.1.2.2.2.2 (nI_in (by omega) (by omega)) dL_law_1607 ?_
  refine W.eq (g2 := F0 M_ _ ls [.int (xs 1), .ref (w.2.2.2 0)]) rfl ?_
  refine lv_aload_n hx hb dL_law_1608 rfl (lv_at hl 4 rfl) ?_
  refine lv_iload hx hb dL_law_1609 (lv_at hl 0 rfl) ?_
  refine lv_iconst (v := nI 2) hx hb dL_law_1611 (by decide) ?_
  refine g_iaddn hx hb dL_law_1612 ?_
  refine W.eq (g2 := F0 M_ _ ls [.int (nI 2), .ref q, .int (xs 1), .ref (w.2.2.2 0)]) rfl ?_
  refine va_sld hx hb hXs hbl (Nat.not_le.mpr hbl) hW9.2.1.2.2.2.2 (nI_in (by omega) (by omega)) dL_law_1613 ?_
  refine W.eq (g2 := F0 M_ _ ls [.int (xs 2), .int (xs 1), .ref (w.2.2.2 0)]) rfl ?_
  refine lv_aload_n hx hb dL_law_1614 rfl (lv_at hl 1 rfl) ?_
  refine l_wthr (As := [.ref (w.2.2.2 0), .int (xs 1), .int (xs 2), .ref o]) (rest := []) G.1 hLB hW9 (c_L_changedBy_x l hfl w o (xs 1) (xs 2)) (w_csw (n := 4) hall ⟨rfl, rfl⟩ ⟨Nat.le_of_ble_eq_true rfl, Nat.le_of_ble_eq_true rfl⟩ gm_810 gm_650 ⟨by decide +kernel, by decide +kernel⟩ (by decide +kernel) gm_808 gm_809) rfl hl.1 rfl (Nat.le_of_ble_eq_true rfl) ⟨Nat.le_of_ble_eq_true rfl, Nat.le_of_ble_eq_true rfl⟩ dL_law_1615 (fun H hW9 => ?_)
  have hM := hW9.2.1
  refine lv_istore (lv' := [(5, .int (nI 1)), (4, .int (nI 0)), (3, .ref o), (2, .ref (u.2.1 0)), (1, .ref (w.2.2.2 0)), (0, .ref q)]) hx hb dL_law_1618 hl (by decide) rfl (fun ls hl => ?_)
  refine lv_aload_n hx hb dL_law_1620 rfl (lv_at hl 3 rfl) ?_
  refine lv_aload_n hx hb dL_law_1621 rfl (lv_at hl 5 rfl) ?_
  refine lv_iload hx hb dL_law_1622 (lv_at hl 1 rfl) ?_
  refine lv_iconst (v := nI 1) hx hb dL_law_1624 (by decide) ?_
  refine g_iaddn hx hb dL_law_1625 ?_
  refine W.eq (g2 := F0 M_ _ ls [.int (nI 1), .ref q, .ref (u.2.1 0)]) rfl ?_
  refine va_sld hx hb hXs hbl (Nat.not_le.mpr hbl) hM.2.2.2.2 (nI_in (by omega) (by omega)) dL_law_1626 ?_
  refine W.eq (g2 := F0 M_ _ ls [.int (xs 1), .ref (u.2.1 0)]) rfl ?_
  refine lv_aload_n hx hb dL_law_1627 rfl (lv_at hl 5 rfl) ?_
  refine lv_iload hx hb dL_law_1628 (lv_at hl 1 rfl) ?_
  refine lv_iconst (v := nI 2) hx hb dL_law_1630 (by decide) ?_
  refine g_iaddn hx hb dL_law_1631 ?_
  refine W.eq (g2 := F0 M_ _ ls [.int (nI 2), .ref q, .int (xs 1), .ref (u.2.1 0)]) rfl ?_
  refine va_sld hx hb hXs hbl (Nat.not_le.mpr hbl) hM.2.2.2.2 (nI_in (by omega) (by omega)) dL_law_1632 ?_
  refine W.eq (g2 := F0 M_ _ ls [.int (xs 2), .int (xs 1), .ref (u.2.1 0)]) rfl ?_
  refine l_mod (v := nI 0) (th1 := nI 1) (As := [.int (xs 1), .int (xs 2)]) (rest := []) G.1 hM (fun z h => Or.inl h) (mWr.fin) (m_preV hM.1) ok_X5_changedBy gm_812 gm_813 gm_811 (c_X5_changedBy l u (nI 0) (nI 0) 0 (xs 1) (xs 2)) ⟨rfl, rfl⟩ ⟨Nat.le_of_ble_eq_true rfl, Nat.le_of_ble_eq_true rfl⟩ rfl hl.1 rfl (Nat.le_of_ble_eq_true rfl) ⟨Nat.le_of_ble_eq_true rfl, Nat.le_of_ble_eq_true rfl⟩ dL_law_1633 (fun H locs hT => ?_)
  refine lv_istore (lv' := [(6, .int (nI 0)), (5, .int (nI 1)), (4, .int (nI 0)), (3, .ref o), (2, .ref (u.2.1 0)), (1, .ref (w.2.2.2 0)), (0, .ref q)]) hx hb dL_law_1636 hl (by decide) rfl (fun ls hl => ?_)
  refine lv_aload_n hx hb dL_law_1638 rfl (lv_at hl 4 rfl) ?_
  obtain ⟨⟨hK1, fs, hPm⟩, hO, hS⟩ := hT
  refine b_callV (v := .int (nI 1)) (As := []) (rest := []) G.1 ⟨fun a U g mk z => ⟨z.1, va_K.moved (u := U) (U := U.calling g mk a) (Vm.Alike.refl U.vm) z.2.1, z.2.2⟩, va_recv (q0 := 0) hK1 hPm (ci := 3) rfl rfl, fun U hU hW1 => ⟨rfl, va_K.moved hW1.alike hK1, by rw [hU]; exact hPm⟩⟩ ok_X5_thrown gm_657 gm_658 gm_656 (c_thr l u.1 (u.2.1 0) (nI 1) fs) ⟨rfl, rfl⟩ ⟨Nat.le_of_ble_eq_true rfl, Nat.le_of_ble_eq_true rfl⟩ rfl hl.1 rfl (Nat.le_of_ble_eq_true rfl) ⟨Nat.le_of_ble_eq_true rfl, Nat.le_of_ble_eq_true rfl⟩ dL_law_1639 ?_
  refine lv_iload hx hb dL_law_1642 (lv_at hl 1 rfl) ?_
  refine lv_icmp_eq (tgt := 1649) hx hb dL_law_1644 (by decide) (fun _ => ?_) (fun c => absurd rfl c)
  refine lv_iload hx hb dL_law_1649 (lv_at hl 1 rfl) ?_
  refine lv_if_ne (tgt := 1666) hx hb dL_law_1651 (by decide) (fun _ => ?_) (fun c => absurd c (by decide))
  refine lv_goto (tgt := 1775) hx hb dL_law_1666 (by decide) ?_
  exact W.widen (by decide) (by decide) (kk H locs ls hS (lv_sub hl [2, 3, 4, 5, 6] rfl))
set_option maxRecDepth 100000 in
set_option maxHeartbeats 4000000 in
theorem k_formFor {p : Program} {e : Env} {S_ : State} {M_ : MethodId} {below : List Frame} {meth : Method} {c : Code} {l : Launch} (hfl : l.stackTraces = false) {q : Nat} {xs : Nat → Int32} (G : CallFix p M_ c cL_law 9 S_ #[Value.ref q] gw RL ∧ True) (hall : ∀ v ∈ gwx, v.before #[Value.ref q] S_ = true) (hLB : LB S_) (hXs : va_X q 5 xs S_ S_.heap) (hbl : q < S_.heap.size) {w : GP} {u : MP} {ca : Nat} {ad : Nat → Nat} {o : Nat} {cL : ClassId} {Q : State → Prop} {H : Heap} {locs : List Loc} {ls : Array Slot} (hW9 : LW w u ca ad o cL S_ H locs) (hl : lv_has ls 9 [(4, .int (nI 0)), (3, .ref o), (2, .ref (u.2.1 0)), (1, .ref (w.2.2.2 0)), (0, .ref q)]) (kk : ∀ (H1 : Heap) (locs1 : List Loc) (ls1 : Array Slot), va_S (nA S_) S_.heap H1 locs1 → lv_has ls1 9 [(4, .int (nI 0)), (3, .ref o), (2, .ref (u.2.1 0)), (1, .ref (w.2.2.2 0)), (0, .ref q)] → W p l e room_1 S_ M_ #[Value.ref q] below meth c H1 locs1 600002 7302231 Q (F0 M_ 1775 ls1 []))  : W p l e room_1 S_ M_ #[Value.ref q] below meth c H locs 61 808 Q (F0 M_ 1669 ls []) := by
  obtain ⟨hx, hb, hml, hown, hts⟩ := id G.1
  refine lv_aload_n hx hb dL_law_1669 rfl (lv_at hl 3 rfl) ?_
  refine lv_aload_n hx hb dL_law_1670 rfl (lv_at hl 4 rfl) ?_
  refine lv_iload hx hb dL_law_1671 (lv_at hl 0 rfl) ?_
  refine lv_iconst (v := nI 1) hx hb dL_law_1673 (by decide) ?_
  refine g_iaddn hx hb dL_law_1674 ?_
  refine W.eq (g2 := F0 M_ _ ls [.int (nI 1), .ref q, .ref (w.2.2.2 0)]) rfl ?_
  refine va_sld hx hb hXs hbl (Nat.not_le.mpr hbl) hW9.2.1.2.2.2.2 (nI_in (by omega) (by omega)) dL_law_1675 ?_
  refine W.eq (g2 := F0 M_ _ ls [.int (xs 1), .ref (w.2.2.2 0)]) rfl ?_
  refine lv_aload_n hx hb dL_law_1676 rfl (lv_at hl 4 rfl) ?_
  refine lv_iload hx hb dL_law_1677 (lv_at hl 0 rfl) ?_
  refine lv_iconst (v := nI 2) hx hb dL_law_1679 (by decide) ?_
  refine g_iaddn hx hb dL_law_1680 ?_
  refine W.eq (g2 := F0 M_ _ ls [.int (nI 2), .ref q, .int (xs 1), .ref (w.2.2.2 0)]) rfl ?_
  refine va_sld hx hb hXs hbl (Nat.not_le.mpr hbl) hW9.2.1.2.2.2.2 (nI_in (by omega) (by omega)) dL_law_1681 ?_
  refine W.eq (g2 := F0 M_ _ ls [.int (xs 2), .int (xs 1), .ref (w.2.2.2 0)]) rfl ?_
  refine lv_aload_n hx hb dL_law_1682 rfl (lv_at hl 4 rfl) ?_
  refine lv_iload hx hb dL_law_1683 (lv_at hl 0 rfl) ?_
  refine lv_iconst (v := nI 3) hx hb dL_law_1685 (by decide) ?_
  refine g_iaddn hx hb dL_law_1686 ?_
  refine W.eq (g2 := F0 M_ _ ls [.int (nI 3), .ref q, .int (xs 2), .int (xs 1), .ref (w.2.2.2 0)]) rfl ?_
  refine va_sld hx hb hXs hbl (Nat.not_le.mpr hbl) hW9.2.1.2.2.2.2 (nI_in (by omega) (by omega)) dL_law_1687 ?_
  refine W.eq (g2 := F0 M_ _ ls [.int (xs 3), .int (xs 2), .int (xs 1), .ref (w.2.2.2 0)]) rfl ?_
  refine lv_aload_n hx hb dL_law_1688 rfl (lv_at hl 4 rfl) ?_
  refine lv_iload hx hb dL_law_1689 (lv_at hl 0 rfl) ?_
  refine lv_iconst (v := nI 4) hx hb dL_law_1691 (by decide) ?_
  refine g_iaddn hx hb dL_law_1692 ?_
  refine W.eq (g2 := F0 M_ _ ls [.int (nI 4), .ref q, .int (xs 3), .int (xs 2), .int (xs 1), .ref (w.2.2.2 0)]) rfl ?_
  refine va_sld hx hb hXs hbl (Nat.not_le.mpr hbl) hW9.2.1.2.2.2.2 (nI_in (by omega) (by omega)) dL_law_1693 ?_
  refine W.eq (g2 := F0 M_ _ ls [.int (xs 4), .int (xs 3), .int (xs 2), .int (xs 1), .ref (w.2.2.2 0)]) rfl ?_
  refine lv_aload_n hx hb dL_law_1694 rfl (lv_at hl 1 rfl) ?_
  refine l_wthr (As := [.ref (w.2.2.2 0), .int (xs 1), .int (xs 2), .int (xs 3), .int (xs 4), .ref o]) (rest := []) G.1 hLB hW9 (c_L_formFor_x l hfl w o (xs 1) (xs 2) (xs 3) (xs 4)) (w_csw (n := 6) hall ⟨rfl, rfl⟩ ⟨Nat.le_of_ble_eq_true rfl, Nat.le_of_ble_eq_true rfl⟩ gm_817 gm_650 ⟨by decide +kernel, by decide +kernel⟩ (by decide +kernel) gm_815 gm_816) rfl hl.1 rfl (Nat.le_of_ble_eq_true rfl) ⟨Nat.le_of_ble_eq_true rfl, Nat.le_of_ble_eq_true rfl⟩ dL_law_1695 (fun H hW9 => ?_)
  have hM := hW9.2.1
  refine lv_istore (lv' := [(5, .int (nI 1)), (4, .int (nI 0)), (3, .ref o), (2, .ref (u.2.1 0)), (1, .ref (w.2.2.2 0)), (0, .ref q)]) hx hb dL_law_1698 hl (by decide) rfl (fun ls hl => ?_)
  refine lv_aload_n hx hb dL_law_1700 rfl (lv_at hl 3 rfl) ?_
  refine lv_aload_n hx hb dL_law_1701 rfl (lv_at hl 5 rfl) ?_
  refine lv_iload hx hb dL_law_1702 (lv_at hl 1 rfl) ?_
  refine lv_iconst (v := nI 1) hx hb dL_law_1704 (by decide) ?_
  refine g_iaddn hx hb dL_law_1705 ?_
  refine W.eq (g2 := F0 M_ _ ls [.int (nI 1), .ref q, .ref (u.2.1 0)]) rfl ?_
  refine va_sld hx hb hXs hbl (Nat.not_le.mpr hbl) hM.2.2.2.2 (nI_in (by omega) (by omega)) dL_law_1706 ?_
  refine W.eq (g2 := F0 M_ _ ls [.int (xs 1), .ref (u.2.1 0)]) rfl ?_
  refine lv_aload_n hx hb dL_law_1707 rfl (lv_at hl 5 rfl) ?_
  refine lv_iload hx hb dL_law_1708 (lv_at hl 1 rfl) ?_
  refine lv_iconst (v := nI 2) hx hb dL_law_1710 (by decide) ?_
  refine g_iaddn hx hb dL_law_1711 ?_
  refine W.eq (g2 := F0 M_ _ ls [.int (nI 2), .ref q, .int (xs 1), .ref (u.2.1 0)]) rfl ?_
  refine va_sld hx hb hXs hbl (Nat.not_le.mpr hbl) hM.2.2.2.2 (nI_in (by omega) (by omega)) dL_law_1712 ?_
  refine W.eq (g2 := F0 M_ _ ls [.int (xs 2), .int (xs 1), .ref (u.2.1 0)]) rfl ?_
  refine lv_aload_n hx hb dL_law_1713 rfl (lv_at hl 5 rfl) ?_
  refine lv_iload hx hb dL_law_1714 (lv_at hl 1 rfl) ?_
  refine lv_iconst (v := nI 3) hx hb dL_law_1716 (by decide) ?_
  refine g_iaddn hx hb dL_law_1717 ?_
  refine W.eq (g2 := F0 M_ _ ls [.int (nI 3), .ref q, .int (xs 2), .int (xs 1), .ref (u.2.1 0)]) rfl ?_
  refine va_sld hx hb hXs hbl (Nat.not_le.mpr hbl) hM.2.2.2.2 (nI_in (by omega) (by omega)) dL_law_1718 ?_
  refine W.eq (g2 := F0 M_ _ ls [.int (xs 3), .int (xs 2), .int (xs 1), .ref (u.2.1 0)]) rfl ?_
  refine lv_aload_n hx hb dL_law_1719 rfl (lv_at hl 5 rfl) ?_
  refine lv_iload hx hb dL_law_1720 (lv_at hl 1 rfl) ?_
  refine lv_iconst (v := nI 4) hx hb dL_law_1722 (by decide) ?_
  refine g_iaddn hx hb dL_law_1723 ?_
  refine W.eq (g2 := F0 M_ _ ls [.int (nI 4), .ref q, .int (xs 3), .int (xs 2), .int (xs 1), .ref (u.2.1 0)]) rfl ?_
  refine va_sld hx hb hXs hbl (Nat.not_le.mpr hbl) hM.2.2.2.2 (nI_in (by omega) (by omega)) dL_law_1724 ?_
  refine W.eq (g2 := F0 M_ _ ls [.int (xs 4), .int (xs 3), .int (xs 2), .int (xs 1), .ref (u.2.1 0)]) rfl ?_
  refine l_mod (v := nI 0) (th1 := nI 1) (As := [.int (xs 1), .int (xs 2), .int (xs 3), .int (xs 4)]) (rest := []) G.1 hM (fun z h => Or.inl h) (mWr.fin) (m_preV hM.1) ok_X5_formFor gm_819 gm_820 gm_818 (c_X5_formFor l u (nI 0) (nI 0) 0 (xs 1) (xs 2) (xs 3) (xs 4)) ⟨rfl, rfl⟩ ⟨Nat.le_of_ble_eq_true rfl, Nat.le_of_ble_eq_true rfl⟩ rfl hl.1 rfl (Nat.le_of_ble_eq_true rfl) ⟨Nat.le_of_ble_eq_true rfl, Nat.le_of_ble_eq_true rfl⟩ dL_law_1725 (fun H locs hT => ?_)
  refine lv_istore (lv' := [(6, .int (nI 0)), (5, .int (nI 1)), (4, .int (nI 0)), (3, .ref o), (2, .ref (u.2.1 0)), (1, .ref (w.2.2.2 0)), (0, .ref q)]) hx hb dL_law_1728 hl (by decide) rfl (fun ls hl => ?_)
  refine lv_aload_n hx hb dL_law_1730 rfl (lv_at hl 4 rfl) ?_
  obtain ⟨⟨hK1, fs, hPm⟩, hO, hS⟩ := hT
  refine b_callV (v := .int (nI 1)) (As := []) (rest := []) G.1 ⟨fun a U g mk z => ⟨z.1, va_K.moved (u := U) (U := U.calling g mk a) (Vm.Alike.refl U.vm) z.2.1, z.2.2⟩, va_recv (q0 := 0) hK1 hPm (ci := 3) rfl rfl, fun U hU hW1 => ⟨rfl, va_K.moved hW1.alike hK1, by rw [hU]; exact hPm⟩⟩ ok_X5_thrown gm_657 gm_658 gm_656 (c_thr l u.1 (u.2.1 0) (nI 1) fs) ⟨rfl, rfl⟩ ⟨Nat.le_of_ble_eq_true rfl, Nat.le_of_ble_eq_true rfl⟩ rfl hl.1 rfl (Nat.le_of_ble_eq_true rfl) ⟨Nat.le_of_ble_eq_true rfl, Nat.le_of_ble_eq_true rfl⟩ dL_law_1731 ?_
  refine lv_iload hx hb dL_law_1734 (lv_at hl 1 rfl) ?_
  refine lv_icmp_eq (tgt := 1741) hx hb dL_law_1736 (by decide) (fun _ => ?_) (fun c => absurd rfl c)
  refine lv_iload hx hb dL_law_1741 (lv_at hl 1 rfl) ?_
  refine lv_if_ne (tgt := 1758) hx hb dL_law_1743 (by decide) (fun _ => ?_) (fun c => absurd c (by decide))
  refine lv_goto (tgt := 1775) hx hb dL_law_1758 (by decide) ?_
  exact W.widen (by decide) (by decide) (kk H locs ls hS (lv_sub hl [2, 3, 4, 5, 6] rfl))
set_option maxRecDepth 100000 in
set_option maxHeartbeats 4000000 in
theorem k_digest {p : Program} {e : Env} {S_ : State} {M_ : MethodId} {below : List Frame} {meth : Method} {c : Code} {l : Launch} (hfl : l.stackTraces = false) {q : Nat} {xs : Nat → Int32} (G : CallFix p M_ c cL_law 9 S_ #[Value.ref q] gw RL ∧ True) (hall : ∀ v ∈ gwx, v.before #[Value.ref q] S_ = true) (hLB : LB S_) (hXs : va_X q 5 xs S_ S_.heap) (hbl : q < S_.heap.size) {w : GP} {u : MP} {ca : Nat} {ad : Nat → Nat} {o : Nat} {cL : ClassId} {Q : State → Prop} {H : Heap} {locs : List Loc} {ls : Array Slot} (hW9 : LW w u ca ad o cL S_ H locs) (hl : lv_has ls 9 [(4, .int (nI 0)), (3, .ref o), (2, .ref (u.2.1 0)), (1, .ref (w.2.2.2 0)), (0, .ref q)]) (kk : ∀ (H1 : Heap) (locs1 : List Loc) (ls1 : Array Slot), va_S (nA S_) S_.heap H1 locs1 → lv_has ls1 9 [(4, .int (nI 0)), (3, .ref o), (2, .ref (u.2.1 0)), (1, .ref (w.2.2.2 0)), (0, .ref q)] → W p l e room_1 S_ M_ #[Value.ref q] below meth c H1 locs1 600002 7302231 Q (F0 M_ 1775 ls1 []))  : W p l e room_1 S_ M_ #[Value.ref q] below meth c H locs 61 808 Q (F0 M_ 1761 ls []) := by
  obtain ⟨hx, hb, hml, hown, hts⟩ := id G.1
  refine lv_aload_n hx hb dL_law_1761 rfl (lv_at hl 3 rfl) ?_
  refine g_callV (As := []) (rest := []) G.1 hW9.1.1 0 (by decide) (show gE w f0 0 = .inr (2, _) from rfl) rfl ok_X2_digest gm_823 gm_824 gm_822 (c_X2_digest l w f0 f0_I) ⟨rfl, rfl⟩ ⟨Nat.le_of_ble_eq_true rfl, Nat.le_of_ble_eq_true rfl⟩ rfl hl.1 rfl (Nat.le_of_ble_eq_true rfl) ⟨Nat.le_of_ble_eq_true rfl, Nat.le_of_ble_eq_true rfl⟩ dL_law_1762 ?_
  refine W.eq (g2 := F0 M_ _ ls [.long (mdg 14)]) (by rw [f0_dig]) ?_
  have hM := hW9.2.1
  refine lv_aload_n hx hb dL_law_1765 rfl (lv_at hl 2 rfl) ?_
  refine l_modV (As := []) (rest := [.long (mdg 14)]) G.1 hM rfl ok_X5_digest gm_827 gm_828 gm_826 (c_X5_digest l u (nI 0) 0) ⟨rfl, rfl⟩ ⟨Nat.le_of_ble_eq_true rfl, Nat.le_of_ble_eq_true rfl⟩ rfl hl.1 rfl (Nat.le_of_ble_eq_true rfl) ⟨Nat.le_of_ble_eq_true rfl, Nat.le_of_ble_eq_true rfl⟩ dL_law_1766 (fun H locs hS => ?_)
  refine W.lcmp hx hb dL_law_1769 ?_
  refine W.eq (g2 := F0 M_ _ ls [.int 0]) (by rw [lg_self]) ?_
  refine lv_if_eq (tgt := 1775) hx hb dL_law_1770 (by decide) (fun _ => ?_) (fun c => absurd rfl c)
  exact W.widen (by decide) (by decide) (kk H locs ls hS (lv_sub hl [0, 1, 2, 3, 4] rfl))
