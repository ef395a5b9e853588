/-! The law's cases. -/
theorem ok_X5_document : gOK yX5_document cX5_document 3 (some .int) 0 := ⟨gm_729, gm_434, by decide +kernel⟩
theorem lg_self (x : Int64) : lg_cmp x x = 0 := by simp [lg_cmp]
theorem dc_self : Op.cmpValue (FP.dcmp FP.dconst0 FP.dconst0) .l = 0 := by decide +kernel
theorem nI_rng {x : Int32} {a b : Nat} (h : nI a ≤ x ∧ x ≤ nI b) (ha : a < 2 ^ 31) (hb : b < 2 ^ 31) : ∃ n : Nat, x = nI n ∧ a ≤ n ∧ n ≤ b := by
  obtain ⟨j, hj, rfl⟩ := nI_of (x := x) (fun q => absurd (Int32.lt_of_le_of_lt h.1 q) (nI_pos ha))
  exact ⟨j, rfl, (g_le ha hj).mp h.1, (g_le hj hb).mp h.2⟩
theorem dom_x {x : Int32} (h0 : ¬ (nI 0 ≤ x ∧ x ≤ nI 3)) : ¬ (0 ≤ x ∧ x < nI 4) := fun h => h0 ⟨h.1, by
  obtain ⟨j, hj, rfl⟩ := nI_of (x := x) (Int32.not_lt.mpr h.1)
  exact (g_le hj (by omega)).mpr (by have := (g_lt hj (by omega)).mp h.2; omega)⟩
theorem c_thr (l : Launch) (D : va_G) (h : Nat) (th : Int32) (fs : List Value) : Met l yX5_thrown (gws yX5_thrown cX5_thrown 1 (some .int)) ({ frames := 0, cells := 0, slots := 0, locals := 0 }) (va_Pc [.ref h] (fun U => va_K D gcl [] U ∧ va_P D gcl [(h, .inr (3, .int th :: fs))] U.heap)) (gRd (.int th)) 0 0 (fun _ => False) := by
  refine b_read (by decide) (Nat.le_of_ble_eq_true rfl) ?_
  intro P_ E_ S_ M_ B_ T_ C_ ls G hnm hV hl
  obtain ⟨hx, hb, hml, hown, hts⟩ := id G.1
  have hl : lv_has ls 1 [(0, .ref h)] := hl
  refine lv_aload_n hx hb dX5_thrown_0 rfl (lv_at hl 0 rfl) ?_
  refine va_get hx hb hts gin3 hown hV.1 hV.2 0 rfl rfl 0 (by decide) (v := .int th) (hts _ gm_427) (fun _ z => z) rfl dX5_thrown_1 ?_
  exact g_iret G rfl dX5_thrown_4
section LK3
variable {p : Program} {l : Launch} {e : Env} {R : Room} {s : State} {m : MethodId} {args : Array Value} {below : List Frame} {meth : Method} {c : Code} {H : Heap} {locs : List Loc} {cells slots : Nat} {Q : State → Prop}
variable {cc : ByteArray} {pc : Nat} {ls : Array Slot} {rest st As : List Value} {own : String} {nL mL n index mc ms : Nat} {y : MethodName} {b : ByteArray} {ret : Option FieldType} {rm : Room}
variable {u : MP} {ca : Nat} {ad : Nat → Nat} {o : Nat} {cL : ClassId} {g : Nat → Int64}
/-- a call of the reference after which only the old heap matters -/
theorem l_modV {v : Value} {th1 dy1 : Int32} {sm1 : Int64} (S : CallFix p m c cc nL s args gw own) (hM : LM u ca ad o cL g s H locs) (hyc : y.cls = RX5) (ok : gOK y b mL ret n) (hin : Cond.instanceMethod y ∈ gw) (hse : Cond.selects y.cls y y ∈ gw) (hlk : Cond.methodLink own index y ∈ gw)
    (hMt : Met l y (gws y b mL ret) rm (mPc u (nI 0) (nI 0) 0 (.ref (u.2.1 0) :: As)) (mWr u (some v) th1 dy1 sm1) mc ms (mA u)) (hrm : rm.cells = mc ∧ rm.slots = ms) (hR : rm.frames + 1 ≤ R.frames ∧ 8 + (mL + 11) + rm.locals ≤ R.locals) (hn : As.length = n) (hsz : ls.size = nL) (hst : st = As.reverse ++ .ref (u.2.1 0) :: rest) (hW : (rest.map fun v => v.category).sum ≤ 8) (hcs : cells + mc ≤ R.cells ∧ slots + ms ≤ R.slots) (hdg : decode cc pc = .ok (.invokevirtual index, 3))
    (kk : ∀ (H1 : Heap) (locs1 : List Loc), va_S (nA s) s.heap H1 locs1 → W p l e R s m args below meth c H1 locs1 (cells + mc) (slots + ms) Q (F0 m (pc + 3) ls (v :: rest))) : W p l e R s m args below meth c H locs cells slots Q (F0 m pc ls st) := by
  obtain ⟨hV, hE, ⟨hK, hPo⟩, ⟨hd1, hd2, hd3⟩, hS⟩ := hM
  intro T hT X
  obtain ⟨v', st₀, t, T', L, h0, X', hL, e1, e2, ⟨hv, hgv, hz, hk⟩, stp⟩ := (va_runV (g := F0 m pc ls st) S hMt ⟨g_cb S.2.2.2.2 ok hlk hrm.1 hrm.2 hR, S.2.2.2.2 _ hin, S.2.2.2.2 _ hse⟩ (by rw [hyc]; exact m_preV hV) rfl hn hsz hst (lv_room hW) hdg hcs) T hT X
  cases hv
  rw [h0] at hz hk
  obtain ⟨t2, a1, b1⟩ := kk T'.heap (locs ++ L) ⟨by rw [e1]; exact Nat.le_trans hS.1 hz, fun z h1 h2 => by rw [e1, hk z (Nat.lt_of_lt_of_le h1 hS.1) (fun h9 => h2 (hd3 z h9))]; exact hS.2.1 z h1 h2, fun z hz9 => by
    rcases List.mem_append.mp hz9 with h9 | h9
    · exact hS.2.2 z h9
    · exact hd3 _ (hL z h9)⟩ T' rfl X'
  exact ⟨t2, stp t2 a1, b1⟩
end LK3
set_option maxRecDepth 100000 in
set_option maxHeartbeats 4000000 in
theorem k_concept_x {p : Program} {e : Env} {S_ : State} {M_ : MethodId} {below : List Frame} {meth : Method} {c : Code} {l : Launch} (hfl : l.stackTraces = false) {q : Nat} {xs : Nat → Int32} (G : CallFix p M_ c cL_law 9 S_ #[Value.ref q] gw RL ∧ True) (hall : ∀ v ∈ gwx, v.before #[Value.ref q] S_ = true) (hLB : LB S_) (hXs : va_X q 5 xs S_ S_.heap) (hbl : q < S_.heap.size) {w : GP} {u : MP} {ca : Nat} {ad : Nat → Nat} {o : Nat} {cL : ClassId} {Q : State → Prop} {H : Heap} {locs : List Loc} {ls : Array Slot} (hW9 : LW w u ca ad o cL S_ H locs) (hl : lv_has ls 9 [(4, .int (nI 0)), (3, .ref o), (2, .ref (u.2.1 0)), (1, .ref (w.2.2.2 0)), (0, .ref q)]) (kk : ∀ (H1 : Heap) (locs1 : List Loc) (ls1 : Array Slot), va_S (nA S_) S_.heap H1 locs1 → lv_has ls1 9 [(4, .int (nI 0)), (3, .ref o), (2, .ref (u.2.1 0)), (1, .ref (w.2.2.2 0)), (0, .ref q)] → W p l e room_1 S_ M_ #[Value.ref q] below meth c H1 locs1 600002 7302231 Q (F0 M_ 1775 ls1 [])) (h0 : ¬ (nI 0 ≤ xs 1 ∧ xs 1 ≤ nI 3)) : W p l e room_1 S_ M_ #[Value.ref q] below meth c H locs 61 808 Q (F0 M_ 152 ls []) := by
  obtain ⟨hx, hb, hml, hown, hts⟩ := id G.1
  have h0x := dom_x h0
  refine lv_aload_n hx hb dL_law_152 rfl (lv_at hl 3 rfl) ?_
  refine lv_aload_n hx hb dL_law_153 rfl (lv_at hl 4 rfl) ?_
  refine lv_iload hx hb dL_law_154 (lv_at hl 0 rfl) ?_
  refine lv_iconst (v := nI 1) hx hb dL_law_156 (by decide) ?_
  refine g_iaddn hx hb dL_law_157 ?_
  refine W.eq (g2 := F0 M_ _ ls [.int (nI 1), .ref q, .ref (w.2.2.2 0)]) rfl ?_
  refine va_sld hx hb hXs hbl (Nat.not_le.mpr hbl) hW9.2.1.2.2.2.2 (nI_in (by omega) (by omega)) dL_law_158 ?_
  refine W.eq (g2 := F0 M_ _ ls [.int (xs 1), .ref (w.2.2.2 0)]) rfl ?_
  refine lv_aload_n hx hb dL_law_159 rfl (lv_at hl 1 rfl) ?_
  refine l_wthr (As := [.ref (w.2.2.2 0), .int (xs 1), .ref o]) (rest := []) G.1 hLB hW9 (c_L_concept_x l hfl w o (xs 1) h0x) (w_csw (n := 3) hall ⟨rfl, rfl⟩ ⟨Nat.le_of_ble_eq_true rfl, Nat.le_of_ble_eq_true rfl⟩ gm_651 gm_650 ⟨by decide +kernel, by decide +kernel⟩ (by decide +kernel) gm_648 gm_649) rfl hl.1 rfl (Nat.le_of_ble_eq_true rfl) ⟨Nat.le_of_ble_eq_true rfl, Nat.le_of_ble_eq_true rfl⟩ dL_law_160 (fun H hW9 => ?_)
  have hM := hW9.2.1
  refine lv_istore (lv' := [(5, .int (nI 1)), (4, .int (nI 0)), (3, .ref o), (2, .ref (u.2.1 0)), (1, .ref (w.2.2.2 0)), (0, .ref q)]) hx hb dL_law_163 hl (by decide) rfl (fun ls hl => ?_)
  refine lv_aload_n hx hb dL_law_165 rfl (lv_at hl 3 rfl) ?_
  refine lv_aload_n hx hb dL_law_166 rfl (lv_at hl 5 rfl) ?_
  refine lv_iload hx hb dL_law_167 (lv_at hl 1 rfl) ?_
  refine lv_iconst (v := nI 1) hx hb dL_law_169 (by decide) ?_
  refine g_iaddn hx hb dL_law_170 ?_
  refine W.eq (g2 := F0 M_ _ ls [.int (nI 1), .ref q, .ref (u.2.1 0)]) rfl ?_
  refine va_sld hx hb hXs hbl (Nat.not_le.mpr hbl) hM.2.2.2.2 (nI_in (by omega) (by omega)) dL_law_171 ?_
  refine W.eq (g2 := F0 M_ _ ls [.int (xs 1), .ref (u.2.1 0)]) rfl ?_
  refine l_mod (v := nI 0) (th1 := nI 1) (As := [.int (xs 1)]) (rest := []) G.1 hM (fun z h => Or.inl h) (mWr.fin) (m_preV hM.1) ok_X5_concept gm_653 gm_654 gm_652 (c_X5_concept_x l u (nI 0) (nI 0) 0 (xs 1) h0) ⟨rfl, rfl⟩ ⟨Nat.le_of_ble_eq_true rfl, Nat.le_of_ble_eq_true rfl⟩ rfl hl.1 rfl (Nat.le_of_ble_eq_true rfl) ⟨Nat.le_of_ble_eq_true rfl, Nat.le_of_ble_eq_true rfl⟩ dL_law_172 (fun H locs hT => ?_)
  refine lv_istore (lv' := [(6, .int (nI 0)), (5, .int (nI 1)), (4, .int (nI 0)), (3, .ref o), (2, .ref (u.2.1 0)), (1, .ref (w.2.2.2 0)), (0, .ref q)]) hx hb dL_law_175 hl (by decide) rfl (fun ls hl => ?_)
  refine lv_aload_n hx hb dL_law_177 rfl (lv_at hl 4 rfl) ?_
  obtain ⟨⟨hK1, fs, hPm⟩, hO, hS⟩ := hT
  refine b_callV (v := .int (nI 1)) (As := []) (rest := []) G.1 ⟨fun a U g mk z => ⟨z.1, va_K.moved (u := U) (U := U.calling g mk a) (Vm.Alike.refl U.vm) z.2.1, z.2.2⟩, va_recv (q0 := 0) hK1 hPm (ci := 3) rfl rfl, fun U hU hW1 => ⟨rfl, va_K.moved hW1.alike hK1, by rw [hU]; exact hPm⟩⟩ ok_X5_thrown gm_657 gm_658 gm_656 (c_thr l u.1 (u.2.1 0) (nI 1) fs) ⟨rfl, rfl⟩ ⟨Nat.le_of_ble_eq_true rfl, Nat.le_of_ble_eq_true rfl⟩ rfl hl.1 rfl (Nat.le_of_ble_eq_true rfl) ⟨Nat.le_of_ble_eq_true rfl, Nat.le_of_ble_eq_true rfl⟩ dL_law_178 ?_
  refine lv_iload hx hb dL_law_181 (lv_at hl 1 rfl) ?_
  refine lv_icmp_eq (tgt := 188) hx hb dL_law_183 (by decide) (fun _ => ?_) (fun c => absurd rfl c)
  refine lv_iload hx hb dL_law_188 (lv_at hl 1 rfl) ?_
  refine lv_if_ne (tgt := 205) hx hb dL_law_190 (by decide) (fun _ => ?_) (fun c => absurd c (by decide))
  refine lv_goto (tgt := 1775) hx hb dL_law_205 (by decide) ?_
  exact W.widen (by decide) (by decide) (kk H locs ls hS (lv_sub hl [2, 3, 4, 5, 6] rfl))
set_option maxRecDepth 100000 in
set_option maxHeartbeats 4000000 in
theorem k_concept_r {p : Program} {e : Env} {S_ : State} {M_ : MethodId} {below : List Frame} {meth : Method} {c : Code} {l : Launch} (hfl : l.stackTraces = false) {q : Nat} {xs : Nat → Int32} (G : CallFix p M_ c cL_law 9 S_ #[Value.ref q] gw RL ∧ True) (hall : ∀ v ∈ gwx, v.before #[Value.ref q] S_ = true) (hLB : LB S_) (hXs : va_X q 5 xs S_ S_.heap) (hbl : q < S_.heap.size) {w : GP} {u : MP} {ca : Nat} {ad : Nat → Nat} {o : Nat} {cL : ClassId} {Q : State → Prop} {H : Heap} {locs : List Loc} {ls : Array Slot} (hW9 : LW w u ca ad o cL S_ H locs) (hl : lv_has ls 9 [(4, .int (nI 0)), (3, .ref o), (2, .ref (u.2.1 0)), (1, .ref (w.2.2.2 0)), (0, .ref q)]) (kk : ∀ (H1 : Heap) (locs1 : List Loc) (ls1 : Array Slot), va_S (nA S_) S_.heap H1 locs1 → lv_has ls1 9 [(4, .int (nI 0)), (3, .ref o), (2, .ref (u.2.1 0)), (1, .ref (w.2.2.2 0)), (0, .ref q)] → W p l e room_1 S_ M_ #[Value.ref q] below meth c H1 locs1 600002 7302231 Q (F0 M_ 1775 ls1 [])) {n : Nat} (hn : xs 1 = nI n) (h1 : 0 ≤ n) (h2 : n ≤ 3) : W p l e room_1 S_ M_ #[Value.ref q] below meth c H locs 61 808 Q (F0 M_ 152 ls []) := by
  obtain ⟨hx, hb, hml, hown, hts⟩ := id G.1
  have hn4 : n < 4 := Nat.lt_succ_of_le h2
  refine lv_aload_n hx hb dL_law_152 rfl (lv_at hl 3 rfl) ?_
  refine lv_aload_n hx hb dL_law_153 rfl (lv_at hl 4 rfl) ?_
  refine lv_iload hx hb dL_law_154 (lv_at hl 0 rfl) ?_
  refine lv_iconst (v := nI 1) hx hb dL_law_156 (by decide) ?_
  refine g_iaddn hx hb dL_law_157 ?_
  refine W.eq (g2 := F0 M_ _ ls [.int (nI 1), .ref q, .ref (w.2.2.2 0)]) rfl ?_
  refine va_sld hx hb hXs hbl (Nat.not_le.mpr hbl) hW9.2.1.2.2.2.2 (nI_in (by omega) (by omega)) dL_law_158 ?_
  refine W.eq (g2 := F0 M_ _ ls [.int (nI n), .ref (w.2.2.2 0)]) (by rw [show (nI 1).toNatClampNeg = 1 from rfl, hn]) ?_
  refine lv_aload_n hx hb dL_law_159 rfl (lv_at hl 1 rfl) ?_
  refine l_wret (As := [.ref (w.2.2.2 0), .int (nI n), .ref o]) (rest := []) G.1 hW9 (c_L_concept l w u.1 o cL hW9.2.2.1 n hn4) (w_csw (n := 3) hall ⟨rfl, rfl⟩ ⟨Nat.le_of_ble_eq_true rfl, Nat.le_of_ble_eq_true rfl⟩ gm_651 gm_650 ⟨by decide +kernel, by decide +kernel⟩ (by decide +kernel) gm_648 gm_649) rfl hl.1 rfl (Nat.le_of_ble_eq_true rfl) ⟨Nat.le_of_ble_eq_true rfl, Nat.le_of_ble_eq_true rfl⟩ dL_law_160 (fun H locs g hg hM => ?_)
  refine lv_istore (lv' := [(5, .int (nI 0)), (4, .int (nI 0)), (3, .ref o), (2, .ref (u.2.1 0)), (1, .ref (w.2.2.2 0)), (0, .ref q)]) hx hb dL_law_163 hl (by decide) rfl (fun ls hl => ?_)
  refine lv_aload_n hx hb dL_law_165 rfl (lv_at hl 3 rfl) ?_
  refine lv_aload_n hx hb dL_law_166 rfl (lv_at hl 5 rfl) ?_
  refine lv_iload hx hb dL_law_167 (lv_at hl 1 rfl) ?_
  refine lv_iconst (v := nI 1) hx hb dL_law_169 (by decide) ?_
  refine g_iaddn hx hb dL_law_170 ?_
  refine W.eq (g2 := F0 M_ _ ls [.int (nI 1), .ref q, .ref (u.2.1 0)]) rfl ?_
  refine va_sld hx hb hXs hbl (Nat.not_le.mpr hbl) hM.2.2.2.2 (nI_in (by omega) (by omega)) dL_law_171 ?_
  refine W.eq (g2 := F0 M_ _ ls [.int (nI n), .ref (u.2.1 0)]) (by rw [show (nI 1).toNatClampNeg = 1 from rfl, hn]) ?_
  refine l_mod (v := nI 0) (th1 := nI 0) (As := [.int (nI n)]) (rest := []) G.1 hM (fun z h => h) (fun _ _ _ _ h => h) (m_preX hM.1 hM.2.1 rfl) ok_X5_concept gm_653 gm_654 gm_652 (c_X5_concept l S_.heap.size u ca ad H.size (nI 0) (nI 0) 0 n hn4) ⟨rfl, rfl⟩ ⟨Nat.le_of_ble_eq_true rfl, Nat.le_of_ble_eq_true rfl⟩ rfl hl.1 rfl (Nat.le_of_ble_eq_true rfl) ⟨Nat.le_of_ble_eq_true rfl, Nat.le_of_ble_eq_true rfl⟩ dL_law_172 (fun H locs hT => ?_)
  refine lv_istore (lv' := [(6, .int (nI 0)), (5, .int (nI 0)), (4, .int (nI 0)), (3, .ref o), (2, .ref (u.2.1 0)), (1, .ref (w.2.2.2 0)), (0, .ref q)]) hx hb dL_law_175 hl (by decide) rfl (fun ls hl => ?_)
  refine lv_aload_n hx hb dL_law_177 rfl (lv_at hl 4 rfl) ?_
  obtain ⟨⟨hK1, fs, hPm⟩, hO, hS⟩ := hT
  refine b_callV (v := .int (nI 0)) (As := []) (rest := []) G.1 ⟨fun a U g mk z => ⟨z.1, va_K.moved (u := U) (U := U.calling g mk a) (Vm.Alike.refl U.vm) z.2.1, z.2.2⟩, va_recv (q0 := 0) hK1 hPm (ci := 3) rfl rfl, fun U hU hW1 => ⟨rfl, va_K.moved hW1.alike hK1, by rw [hU]; exact hPm⟩⟩ ok_X5_thrown gm_657 gm_658 gm_656 (c_thr l u.1 (u.2.1 0) (nI 0) fs) ⟨rfl, rfl⟩ ⟨Nat.le_of_ble_eq_true rfl, Nat.le_of_ble_eq_true rfl⟩ rfl hl.1 rfl (Nat.le_of_ble_eq_true rfl) ⟨Nat.le_of_ble_eq_true rfl, Nat.le_of_ble_eq_true rfl⟩ dL_law_178 ?_
  refine lv_iload hx hb dL_law_181 (lv_at hl 1 rfl) ?_
  refine lv_icmp_eq (tgt := 188) hx hb dL_law_183 (by decide) (fun _ => ?_) (fun c => absurd rfl c)
  refine lv_iload hx hb dL_law_188 (lv_at hl 1 rfl) ?_
  refine lv_if_ne (tgt := 205) hx hb dL_law_190 (by decide) (fun c => absurd rfl c) (fun _ => ?_)
  refine lv_aload_n hx hb dL_law_193 rfl (lv_at hl 3 rfl) ?_
  refine lv_iconst (v := nI 0) hx hb dL_law_194 (by decide) ?_
  refine va_lald hx hb hO.1 hO.2 0 0 rfl rfl (nI_in (by omega) (by omega)) dL_law_195 ?_
  refine W.eq (g2 := F0 M_ _ ls [.long ((nI 0).toInt64)]) (by rw [show (nI 0).toNatClampNeg = 0 from rfl, hg]) ?_
  refine lv_iload hx hb dL_law_196 (lv_at hl 0 rfl) ?_
  refine lv_i2l hx hb dL_law_198 rfl ?_
  refine W.lcmp hx hb dL_law_199 ?_
  refine W.eq (g2 := F0 M_ _ ls [.int 0]) (by rw [lg_self]) ?_
  refine lv_if_eq (tgt := 205) hx hb dL_law_200 (by decide) (fun _ => ?_) (fun c => absurd rfl c)
  refine lv_goto (tgt := 1775) hx hb dL_law_205 (by decide) ?_
  exact W.widen (by decide) (by decide) (kk H locs ls hS (lv_sub hl [2, 3, 4, 5, 6] rfl))
set_option maxRecDepth 100000 in
set_option maxHeartbeats 4000000 in
theorem k_term {p : Program} {e : Env} {S_ : State} {M_ : MethodId} {below : List Frame} {meth : Method} {c : Code} {l : Launch} (hfl : l.stackTraces = false) {q : Nat} {xs : Nat → Int32} (G : CallFix p M_ c cL_law 9 S_ #[Value.ref q] gw RL ∧ True) (hall : ∀ v ∈ gwx, v.before #[Value.ref q] S_ = true) (hLB : LB S_) (hXs : va_X q 5 xs S_ S_.heap) (hbl : q < S_.heap.size) {w : GP} {u : MP} {ca : Nat} {ad : Nat → Nat} {o : Nat} {cL : ClassId} {Q : State → Prop} {H : Heap} {locs : List Loc} {ls : Array Slot} (hW9 : LW w u ca ad o cL S_ H locs) (hl : lv_has ls 9 [(4, .int (nI 0)), (3, .ref o), (2, .ref (u.2.1 0)), (1, .ref (w.2.2.2 0)), (0, .ref q)]) (kk : ∀ (H1 : Heap) (locs1 : List Loc) (ls1 : Array Slot), va_S (nA S_) S_.heap H1 locs1 → lv_has ls1 9 [(4, .int (nI 0)), (3, .ref o), (2, .ref (u.2.1 0)), (1, .ref (w.2.2.2 0)), (0, .ref q)] → W p l e room_1 S_ M_ #[Value.ref q] below meth c H1 locs1 600002 7302231 Q (F0 M_ 1775 ls1 []))  : W p l e room_1 S_ M_ #[Value.ref q] below meth c H locs 61 808 Q (F0 M_ 208 ls []) := by
  obtain ⟨hx, hb, hml, hown, hts⟩ := id G.1
  refine lv_aload_n hx hb dL_law_208 rfl (lv_at hl 3 rfl) ?_
  refine lv_aload_n hx hb dL_law_209 rfl (lv_at hl 4 rfl) ?_
  refine lv_iload hx hb dL_law_210 (lv_at hl 0 rfl) ?_
  refine lv_iconst (v := nI 1) hx hb dL_law_212 (by decide) ?_
  refine g_iaddn hx hb dL_law_213 ?_
  refine W.eq (g2 := F0 M_ _ ls [.int (nI 1), .ref q, .ref (w.2.2.2 0)]) rfl ?_
  refine va_sld hx hb hXs hbl (Nat.not_le.mpr hbl) hW9.2.1.2.2.2.2 (nI_in (by omega) (by omega)) dL_law_214 ?_
  refine W.eq (g2 := F0 M_ _ ls [.int (xs 1), .ref (w.2.2.2 0)]) rfl ?_
  refine lv_aload_n hx hb dL_law_215 rfl (lv_at hl 4 rfl) ?_
  refine lv_iload hx hb dL_law_216 (lv_at hl 0 rfl) ?_
  refine lv_iconst (v := nI 2) hx hb dL_law_218 (by decide) ?_
  refine g_iaddn hx hb dL_law_219 ?_
  refine W.eq (g2 := F0 M_ _ ls [.int (nI 2), .ref q, .int (xs 1), .ref (w.2.2.2 0)]) rfl ?_
  refine va_sld hx hb hXs hbl (Nat.not_le.mpr hbl) hW9.2.1.2.2.2.2 (nI_in (by omega) (by omega)) dL_law_220 ?_
  refine W.eq (g2 := F0 M_ _ ls [.int (xs 2), .int (xs 1), .ref (w.2.2.2 0)]) rfl ?_
  refine lv_aload_n hx hb dL_law_221 rfl (lv_at hl 4 rfl) ?_
  refine lv_iload hx hb dL_law_222 (lv_at hl 0 rfl) ?_
  refine lv_iconst (v := nI 3) hx hb dL_law_224 (by decide) ?_
  refine g_iaddn hx hb dL_law_225 ?_
  refine W.eq (g2 := F0 M_ _ ls [.int (nI 3), .ref q, .int (xs 2), .int (xs 1), .ref (w.2.2.2 0)]) rfl ?_
  refine va_sld hx hb hXs hbl (Nat.not_le.mpr hbl) hW9.2.1.2.2.2.2 (nI_in (by omega) (by omega)) dL_law_226 ?_
  refine W.eq (g2 := F0 M_ _ ls [.int (xs 3), .int (xs 2), .int (xs 1), .ref (w.2.2.2 0)]) rfl ?_
  refine lv_aload_n hx hb dL_law_227 rfl (lv_at hl 1 rfl) ?_
  refine l_wthr (As := [.ref (w.2.2.2 0), .int (xs 1), .int (xs 2), .int (xs 3), .ref o]) (rest := []) G.1 hLB hW9 (c_L_term_x l hfl w o (xs 1) (xs 2) (xs 3)) (w_csw (n := 5) hall ⟨rfl, rfl⟩ ⟨Nat.le_of_ble_eq_true rfl, Nat.le_of_ble_eq_true rfl⟩ gm_662 gm_650 ⟨by decide +kernel, by decide +kernel⟩ (by decide +kernel) gm_660 gm_661) rfl hl.1 rfl (Nat.le_of_ble_eq_true rfl) ⟨Nat.le_of_ble_eq_true rfl, Nat.le_of_ble_eq_true rfl⟩ dL_law_228 (fun H hW9 => ?_)
  have hM := hW9.2.1
  refine lv_istore (lv' := [(5, .int (nI 1)), (4, .int (nI 0)), (3, .ref o), (2, .ref (u.2.1 0)), (1, .ref (w.2.2.2 0)), (0, .ref q)]) hx hb dL_law_231 hl (by decide) rfl (fun ls hl => ?_)
  refine lv_aload_n hx hb dL_law_233 rfl (lv_at hl 3 rfl) ?_
  refine lv_aload_n hx hb dL_law_234 rfl (lv_at hl 5 rfl) ?_
  refine lv_iload hx hb dL_law_235 (lv_at hl 1 rfl) ?_
  refine lv_iconst (v := nI 1) hx hb dL_law_237 (by decide) ?_
  refine g_iaddn hx hb dL_law_238 ?_
  refine W.eq (g2 := F0 M_ _ ls [.int (nI 1), .ref q, .ref (u.2.1 0)]) rfl ?_
  refine va_sld hx hb hXs hbl (Nat.not_le.mpr hbl) hM.2.2.2.2 (nI_in (by omega) (by omega)) dL_law_239 ?_
  refine W.eq (g2 := F0 M_ _ ls [.int (xs 1), .ref (u.2.1 0)]) rfl ?_
  refine lv_aload_n hx hb dL_law_240 rfl (lv_at hl 5 rfl) ?_
  refine lv_iload hx hb dL_law_241 (lv_at hl 1 rfl) ?_
  refine lv_iconst (v := nI 2) hx hb dL_law_243 (by decide) ?_
  refine g_iaddn hx hb dL_law_244 ?_
  refine W.eq (g2 := F0 M_ _ ls [.int (nI 2), .ref q, .int (xs 1), .ref (u.2.1 0)]) rfl ?_
  refine va_sld hx hb hXs hbl (Nat.not_le.mpr hbl) hM.2.2.2.2 (nI_in (by omega) (by omega)) dL_law_245 ?_
  refine W.eq (g2 := F0 M_ _ ls [.int (xs 2), .int (xs 1), .ref (u.2.1 0)]) rfl ?_
  refine lv_aload_n hx hb dL_law_246 rfl (lv_at hl 5 rfl) ?_
  refine lv_iload hx hb dL_law_247 (lv_at hl 1 rfl) ?_
  refine lv_iconst (v := nI 3) hx hb dL_law_249 (by decide) ?_
  refine g_iaddn hx hb dL_law_250 ?_
  refine W.eq (g2 := F0 M_ _ ls [.int (nI 3), .ref q, .int (xs 2), .int (xs 1), .ref (u.2.1 0)]) rfl ?_
  refine va_sld hx hb hXs hbl (Nat.not_le.mpr hbl) hM.2.2.2.2 (nI_in (by omega) (by omega)) dL_law_251 ?_
  refine W.eq (g2 := F0 M_ _ ls [.int (xs 3), .int (xs 2), .int (xs 1), .ref (u.2.1 0)]) rfl ?_
  refine l_mod (v := nI 0) (th1 := nI 1) (As := [.int (xs 1), .int (xs 2), .int (xs 3)]) (rest := []) G.1 hM (fun z h => Or.inl h) (mWr.fin) (m_preV hM.1) ok_X5_term gm_664 gm_665 gm_663 (c_X5_term l u (nI 0) (nI 0) 0 (xs 1) (xs 2) (xs 3)) ⟨rfl, rfl⟩ ⟨Nat.le_of_ble_eq_true rfl, Nat.le_of_ble_eq_true rfl⟩ rfl hl.1 rfl (Nat.le_of_ble_eq_true rfl) ⟨Nat.le_of_ble_eq_true rfl, Nat.le_of_ble_eq_true rfl⟩ dL_law_252 (fun H locs hT => ?_)
  refine lv_istore (lv' := [(6, .int (nI 0)), (5, .int (nI 1)), (4, .int (nI 0)), (3, .ref o), (2, .ref (u.2.1 0)), (1, .ref (w.2.2.2 0)), (0, .ref q)]) hx hb dL_law_255 hl (by decide) rfl (fun ls hl => ?_)
  refine lv_aload_n hx hb dL_law_257 rfl (lv_at hl 4 rfl) ?_
  obtain ⟨⟨hK1, fs, hPm⟩, hO, hS⟩ := hT
  refine b_callV (v := .int (nI 1)) (As := []) (rest := []) G.1 ⟨fun a U g mk z => ⟨z.1, va_K.moved (u := U) (U := U.calling g mk a) (Vm.Alike.refl U.vm) z.2.1, z.2.2⟩, va_recv (q0 := 0) hK1 hPm (ci := 3) rfl rfl, fun U hU hW1 => ⟨rfl, va_K.moved hW1.alike hK1, by rw [hU]; exact hPm⟩⟩ ok_X5_thrown gm_657 gm_658 gm_656 (c_thr l u.1 (u.2.1 0) (nI 1) fs) ⟨rfl, rfl⟩ ⟨Nat.le_of_ble_eq_true rfl, Nat.le_of_ble_eq_true rfl⟩ rfl hl.1 rfl (Nat.le_of_ble_eq_true rfl) ⟨Nat.le_of_ble_eq_true rfl, Nat.le_of_ble_eq_true rfl⟩ dL_law_258 ?_
  refine lv_iload hx hb dL_law_261 (lv_at hl 1 rfl) ?_
  refine lv_icmp_eq (tgt := 268) hx hb dL_law_263 (by decide) (fun _ => ?_) (fun c => absurd rfl c)
  refine lv_iload hx hb dL_law_268 (lv_at hl 1 rfl) ?_
  refine lv_if_ne (tgt := 285) hx hb dL_law_270 (by decide) (fun _ => ?_) (fun c => absurd c (by decide))
  refine lv_goto (tgt := 1775) hx hb dL_law_285 (by decide) ?_
  exact W.widen (by decide) (by decide) (kk H locs ls hS (lv_sub hl [2, 3, 4, 5, 6] rfl))
set_option maxRecDepth 100000 in
set_option maxHeartbeats 4000000 in
theorem k_vote_t {p : Program} {e : Env} {S_ : State} {M_ : MethodId} {below : List Frame} {meth : Method} {c : Code} {l : Launch} (hfl : l.stackTraces = false) {q : Nat} {xs : Nat → Int32} (G : CallFix p M_ c cL_law 9 S_ #[Value.ref q] gw RL ∧ True) (hall : ∀ v ∈ gwx, v.before #[Value.ref q] S_ = true) (hLB : LB S_) (hXs : va_X q 5 xs S_ S_.heap) (hbl : q < S_.heap.size) {w : GP} {u : MP} {ca : Nat} {ad : Nat → Nat} {o : Nat} {cL : ClassId} {Q : State → Prop} {H : Heap} {locs : List Loc} {ls : Array Slot} (hW9 : LW w u ca ad o cL S_ H locs) (hl : lv_has ls 9 [(4, .int (nI 0)), (3, .ref o), (2, .ref (u.2.1 0)), (1, .ref (w.2.2.2 0)), (0, .ref q)]) (kk : ∀ (H1 : Heap) (locs1 : List Loc) (ls1 : Array Slot), va_S (nA S_) S_.heap H1 locs1 → lv_has ls1 9 [(4, .int (nI 0)), (3, .ref o), (2, .ref (u.2.1 0)), (1, .ref (w.2.2.2 0)), (0, .ref q)] → W p l e room_1 S_ M_ #[Value.ref q] below meth c H1 locs1 600002 7302231 Q (F0 M_ 1775 ls1 [])) (hb3 : ¬ xs 3 = 0) : W p l e room_1 S_ M_ #[Value.ref q] below meth c H locs 61 808 Q (F0 M_ 288 ls []) := by
  obtain ⟨hx, hb, hml, hown, hts⟩ := id G.1
  refine lv_aload_n hx hb dL_law_288 rfl (lv_at hl 3 rfl) ?_
  refine lv_aload_n hx hb dL_law_289 rfl (lv_at hl 4 rfl) ?_
  refine lv_iload hx hb dL_law_290 (lv_at hl 0 rfl) ?_
  refine lv_iconst (v := nI 1) hx hb dL_law_292 (by decide) ?_
  refine g_iaddn hx hb dL_law_293 ?_
  refine W.eq (g2 := F0 M_ _ ls [.int (nI 1), .ref q, .ref (w.2.2.2 0)]) rfl ?_
  refine va_sld hx hb hXs hbl (Nat.not_le.mpr hbl) hW9.2.1.2.2.2.2 (nI_in (by omega) (by omega)) dL_law_294 ?_
  refine W.eq (g2 := F0 M_ _ ls [.int (xs 1), .ref (w.2.2.2 0)]) rfl ?_
  refine lv_aload_n hx hb dL_law_295 rfl (lv_at hl 4 rfl) ?_
  refine lv_iload hx hb dL_law_296 (lv_at hl 0 rfl) ?_
  refine lv_iconst (v := nI 2) hx hb dL_law_298 (by decide) ?_
  refine g_iaddn hx hb dL_law_299 ?_
  refine W.eq (g2 := F0 M_ _ ls [.int (nI 2), .ref q, .int (xs 1), .ref (w.2.2.2 0)]) rfl ?_
  refine va_sld hx hb hXs hbl (Nat.not_le.mpr hbl) hW9.2.1.2.2.2.2 (nI_in (by omega) (by omega)) dL_law_300 ?_
  refine W.eq (g2 := F0 M_ _ ls [.int (xs 2), .int (xs 1), .ref (w.2.2.2 0)]) rfl ?_
  refine lv_aload_n hx hb dL_law_301 rfl (lv_at hl 4 rfl) ?_
  refine lv_iload hx hb dL_law_302 (lv_at hl 0 rfl) ?_
  refine lv_iconst (v := nI 3) hx hb dL_law_304 (by decide) ?_
  refine g_iaddn hx hb dL_law_305 ?_
  refine W.eq (g2 := F0 M_ _ ls [.int (nI 3), .ref q, .int (xs 2), .int (xs 1), .ref (w.2.2.2 0)]) rfl ?_
  refine va_sld hx hb hXs hbl (Nat.not_le.mpr hbl) hW9.2.1.2.2.2.2 (nI_in (by omega) (by omega)) dL_law_306 ?_
  refine W.eq (g2 := F0 M_ _ ls [.int (xs 3), .int (xs 2), .int (xs 1), .ref (w.2.2.2 0)]) rfl ?_
  refine lv_if_eq (tgt := 314) hx hb dL_law_307 (by decide) (fun c => absurd c hb3) (fun _ => ?_)
  refine lv_iconst (v := nI 1) hx hb dL_law_310 (by decide) ?_
  refine lv_goto (tgt := 315) hx hb dL_law_311 (by decide) ?_
  refine lv_aload_n hx hb dL_law_315 rfl (lv_at hl 1 rfl) ?_
  refine l_wthr (As := [.ref (w.2.2.2 0), .int (xs 1), .int (xs 2), .int (if True then 1 else 0), .ref o]) (rest := []) G.1 hLB hW9 (c_L_vote_x l hfl w o (xs 1) (xs 2) True) (w_csw (n := 5) hall ⟨rfl, rfl⟩ ⟨Nat.le_of_ble_eq_true rfl, Nat.le_of_ble_eq_true rfl⟩ gm_669 gm_650 ⟨by decide +kernel, by decide +kernel⟩ (by decide +kernel) gm_667 gm_668) rfl hl.1 rfl (Nat.le_of_ble_eq_true rfl) ⟨Nat.le_of_ble_eq_true rfl, Nat.le_of_ble_eq_true rfl⟩ dL_law_316 (fun H hW9 => ?_)
  have hM := hW9.2.1
  refine lv_istore (lv' := [(5, .int (nI 1)), (4, .int (nI 0)), (3, .ref o), (2, .ref (u.2.1 0)), (1, .ref (w.2.2.2 0)), (0, .ref q)]) hx hb dL_law_319 hl (by decide) rfl (fun ls hl => ?_)
  refine lv_aload_n hx hb dL_law_321 rfl (lv_at hl 3 rfl) ?_
  refine lv_aload_n hx hb dL_law_322 rfl (lv_at hl 5 rfl) ?_
  refine lv_iload hx hb dL_law_323 (lv_at hl 1 rfl) ?_
  refine lv_iconst (v := nI 1) hx hb dL_law_325 (by decide) ?_
  refine g_iaddn hx hb dL_law_326 ?_
  refine W.eq (g2 := F0 M_ _ ls [.int (nI 1), .ref q, .ref (u.2.1 0)]) rfl ?_
  refine va_sld hx hb hXs hbl (Nat.not_le.mpr hbl) hM.2.2.2.2 (nI_in (by omega) (by omega)) dL_law_327 ?_
  refine W.eq (g2 := F0 M_ _ ls [.int (xs 1), .ref (u.2.1 0)]) rfl ?_
  refine lv_aload_n hx hb dL_law_328 rfl (lv_at hl 5 rfl) ?_
  refine lv_iload hx hb dL_law_329 (lv_at hl 1 rfl) ?_
  refine lv_iconst (v := nI 2) hx hb dL_law_331 (by decide) ?_
  refine g_iaddn hx hb dL_law_332 ?_
  refine W.eq (g2 := F0 M_ _ ls [.int (nI 2), .ref q, .int (xs 1), .ref (u.2.1 0)]) rfl ?_
  refine va_sld hx hb hXs hbl (Nat.not_le.mpr hbl) hM.2.2.2.2 (nI_in (by omega) (by omega)) dL_law_333 ?_
  refine W.eq (g2 := F0 M_ _ ls [.int (xs 2), .int (xs 1), .ref (u.2.1 0)]) rfl ?_
  refine lv_aload_n hx hb dL_law_334 rfl (lv_at hl 5 rfl) ?_
  refine lv_iload hx hb dL_law_335 (lv_at hl 1 rfl) ?_
  refine lv_iconst (v := nI 3) hx hb dL_law_337 (by decide) ?_
  refine g_iaddn hx hb dL_law_338 ?_
  refine W.eq (g2 := F0 M_ _ ls [.int (nI 3), .ref q, .int (xs 2), .int (xs 1), .ref (u.2.1 0)]) rfl ?_
  refine va_sld hx hb hXs hbl (Nat.not_le.mpr hbl) hM.2.2.2.2 (nI_in (by omega) (by omega)) dL_law_339 ?_
  refine W.eq (g2 := F0 M_ _ ls [.int (xs 3), .int (xs 2), .int (xs 1), .ref (u.2.1 0)]) rfl ?_
  refine lv_if_eq (tgt := 347) hx hb dL_law_340 (by decide) (fun c => absurd c hb3) (fun _ => ?_)
  refine lv_iconst (v := nI 1) hx hb dL_law_343 (by decide) ?_
  refine lv_goto (tgt := 348) hx hb dL_law_344 (by decide) ?_
  refine l_mod (v := nI 0) (th1 := nI 1) (As := [.int (xs 1), .int (xs 2), .int (if True then 1 else 0)]) (rest := []) G.1 hM (fun z h => Or.inl h) (mWr.fin) (m_preV hM.1) ok_X5_vote gm_671 gm_672 gm_670 (c_X5_vote l u (nI 0) (nI 0) 0 (xs 1) (xs 2) True) ⟨rfl, rfl⟩ ⟨Nat.le_of_ble_eq_true rfl, Nat.le_of_ble_eq_true rfl⟩ rfl hl.1 rfl (Nat.le_of_ble_eq_true rfl) ⟨Nat.le_of_ble_eq_true rfl, Nat.le_of_ble_eq_true rfl⟩ dL_law_348 (fun H locs hT => ?_)
  refine lv_istore (lv' := [(6, .int (nI 0)), (5, .int (nI 1)), (4, .int (nI 0)), (3, .ref o), (2, .ref (u.2.1 0)), (1, .ref (w.2.2.2 0)), (0, .ref q)]) hx hb dL_law_351 hl (by decide) rfl (fun ls hl => ?_)
  refine lv_aload_n hx hb dL_law_353 rfl (lv_at hl 4 rfl) ?_
  obtain ⟨⟨hK1, fs, hPm⟩, hO, hS⟩ := hT
  refine b_callV (v := .int (nI 1)) (As := []) (rest := []) G.1 ⟨fun a U g mk z => ⟨z.1, va_K.moved (u := U) (U := U.calling g mk a) (Vm.Alike.refl U.vm) z.2.1, z.2.2⟩, va_recv (q0 := 0) hK1 hPm (ci := 3) rfl rfl, fun U hU hW1 => ⟨rfl, va_K.moved hW1.alike hK1, by rw [hU]; exact hPm⟩⟩ ok_X5_thrown gm_657 gm_658 gm_656 (c_thr l u.1 (u.2.1 0) (nI 1) fs) ⟨rfl, rfl⟩ ⟨Nat.le_of_ble_eq_true rfl, Nat.le_of_ble_eq_true rfl⟩ rfl hl.1 rfl (Nat.le_of_ble_eq_true rfl) ⟨Nat.le_of_ble_eq_true rfl, Nat.le_of_ble_eq_true rfl⟩ dL_law_354 ?_
  refine lv_iload hx hb dL_law_357 (lv_at hl 1 rfl) ?_
  refine lv_icmp_eq (tgt := 364) hx hb dL_law_359 (by decide) (fun _ => ?_) (fun c => absurd rfl c)
  refine lv_iload hx hb dL_law_364 (lv_at hl 1 rfl) ?_
  refine lv_if_ne (tgt := 381) hx hb dL_law_366 (by decide) (fun _ => ?_) (fun c => absurd c (by decide))
  refine lv_goto (tgt := 1775) hx hb dL_law_381 (by decide) ?_
  exact W.widen (by decide) (by decide) (kk H locs ls hS (lv_sub hl [2, 3, 4, 5, 6] rfl))
set_option maxRecDepth 100000 in
set_option maxHeartbeats 4000000 in
theorem k_vote_f {p : Program} {e : Env} {S_ : State} {M_ : MethodId} {below : List Frame} {meth : Method} {c : Code} {l : Launch} (hfl : l.stackTraces = false) {q : Nat} {xs : Nat → Int32} (G : CallFix p M_ c cL_law 9 S_ #[Value.ref q] gw RL ∧ True) (hall : ∀ v ∈ gwx, v.before #[Value.ref q] S_ = true) (hLB : LB S_) (hXs : va_X q 5 xs S_ S_.heap) (hbl : q < S_.heap.size) {w : GP} {u : MP} {ca : Nat} {ad : Nat → Nat} {o : Nat} {cL : ClassId} {Q : State → Prop} {H : Heap} {locs : List Loc} {ls : Array Slot} (hW9 : LW w u ca ad o cL S_ H locs) (hl : lv_has ls 9 [(4, .int (nI 0)), (3, .ref o), (2, .ref (u.2.1 0)), (1, .ref (w.2.2.2 0)), (0, .ref q)]) (kk : ∀ (H1 : Heap) (locs1 : List Loc) (ls1 : Array Slot), va_S (nA S_) S_.heap H1 locs1 → lv_has ls1 9 [(4, .int (nI 0)), (3, .ref o), (2, .ref (u.2.1 0)), (1, .ref (w.2.2.2 0)), (0, .ref q)] → W p l e room_1 S_ M_ #[Value.ref q] below meth c H1 locs1 600002 7302231 Q (F0 M_ 1775 ls1 [])) (hb3 : xs 3 = 0) : W p l e room_1 S_ M_ #[Value.ref q] below meth c H locs 61 808 Q (F0 M_ 288 ls []) := by
  obtain ⟨hx, hb, hml, hown, hts⟩ := id G.1
  refine lv_aload_n hx hb dL_law_288 rfl (lv_at hl 3 rfl) ?_
  refine lv_aload_n hx hb dL_law_289 rfl (lv_at hl 4 rfl) ?_
  refine lv_iload hx hb dL_law_290 (lv_at hl 0 rfl) ?_
  refine lv_iconst (v := nI 1) hx hb dL_law_292 (by decide) ?_
  refine g_iaddn hx hb dL_law_293 ?_
  refine W.eq (g2 := F0 M_ _ ls [.int (nI 1), .ref q, .ref (w.2.2.2 0)]) rfl ?_
  refine va_sld hx hb hXs hbl (Nat.not_le.mpr hbl) hW9.2.1.2.2.2.2 (nI_in (by omega) (by omega)) dL_law_294 ?_
  refine W.eq (g2 := F0 M_ _ ls [.int (xs 1), .ref (w.2.2.2 0)]) rfl ?_
  refine lv_aload_n hx hb dL_law_295 rfl (lv_at hl 4 rfl) ?_
  refine lv_iload hx hb dL_law_296 (lv_at hl 0 rfl) ?_
  refine lv_iconst (v := nI 2) hx hb dL_law_298 (by decide) ?_
  refine g_iaddn hx hb dL_law_299 ?_
  refine W.eq (g2 := F0 M_ _ ls [.int (nI 2), .ref q, .int (xs 1), .ref (w.2.2.2 0)]) rfl ?_
  refine va_sld hx hb hXs hbl (Nat.not_le.mpr hbl) hW9.2.1.2.2.2.2 (nI_in (by omega) (by omega)) dL_law_300 ?_
  refine W.eq (g2 := F0 M_ _ ls [.int (xs 2), .int (xs 1), .ref (w.2.2.2 0)]) rfl ?_
  refine lv_aload_n hx hb dL_law_301 rfl (lv_at hl 4 rfl) ?_
  refine lv_iload hx hb dL_law_302 (lv_at hl 0 rfl) ?_
  refine lv_iconst (v := nI 3) hx hb dL_law_304 (by decide) ?_
  refine g_iaddn hx hb dL_law_305 ?_
  refine W.eq (g2 := F0 M_ _ ls [.int (nI 3), .ref q, .int (xs 2), .int (xs 1), .ref (w.2.2.2 0)]) rfl ?_
  refine va_sld hx hb hXs hbl (Nat.not_le.mpr hbl) hW9.2.1.2.2.2.2 (nI_in (by omega) (by omega)) dL_law_306 ?_
  refine W.eq (g2 := F0 M_ _ ls [.int (xs 3), .int (xs 2), .int (xs 1), .ref (w.2.2.2 0)]) rfl ?_
  refine lv_if_eq (tgt := 314) hx hb dL_law_307 (by decide) (fun _ => ?_) (fun c => absurd hb3 c)
  refine lv_iconst (v := nI 0) hx hb dL_law_314 (by decide) ?_
  refine lv_aload_n hx hb dL_law_315 rfl (lv_at hl 1 rfl) ?_
  refine l_wthr (As := [.ref (w.2.2.2 0), .int (xs 1), .int (xs 2), .int (if False then 1 else 0), .ref o]) (rest := []) G.1 hLB hW9 (c_L_vote_x l hfl w o (xs 1) (xs 2) False) (w_csw (n := 5) hall ⟨rfl, rfl⟩ ⟨Nat.le_of_ble_eq_true rfl, Nat.le_of_ble_eq_true rfl⟩ gm_669 gm_650 ⟨by decide +kernel, by decide +kernel⟩ (by decide +kernel) gm_667 gm_668) rfl hl.1 rfl (Nat.le_of_ble_eq_true rfl) ⟨Nat.le_of_ble_eq_true rfl, Nat.le_of_ble_eq_true rfl⟩ dL_law_316 (fun H hW9 => ?_)
  have hM := hW9.2.1
  refine lv_istore (lv' := [(5, .int (nI 1)), (4, .int (nI 0)), (3, .ref o), (2, .ref (u.2.1 0)), (1, .ref (w.2.2.2 0)), (0, .ref q)]) hx hb dL_law_319 hl (by decide) rfl (fun ls hl => ?_)
  refine lv_aload_n hx hb dL_law_321 rfl (lv_at hl 3 rfl) ?_
  refine lv_aload_n hx hb dL_law_322 rfl (lv_at hl 5 rfl) ?_
  refine lv_iload hx hb dL_law_323 (lv_at hl 1 rfl) ?_
  refine lv_iconst (v := nI 1) hx hb dL_law_325 (by decide) ?_
  refine g_iaddn hx hb dL_law_326 ?_
  refine W.eq (g2 := F0 M_ _ ls [.int (nI 1), .ref q, .ref (u.2.1 0)]) rfl ?_
  refine va_sld hx hb hXs hbl (Nat.not_le.mpr hbl) hM.2.2.2.2 (nI_in (by omega) (by omega)) dL_law_327 ?_
  refine W.eq (g2 := F0 M_ _ ls [.int (xs 1), .ref (u.2.1 0)]) rfl ?_
  refine lv_aload_n hx hb dL_law_328 rfl (lv_at hl 5 rfl) ?_
  refine lv_iload hx hb dL_law_329 (lv_at hl 1 rfl) ?_
  refine lv_iconst (v := nI 2) hx hb dL_law_331 (by decide) ?_
  refine g_iaddn hx hb dL_law_332 ?_
  refine W.eq (g2 := F0 M_ _ ls [.int (nI 2), .ref q, .int (xs 1), .ref (u.2.1 0)]) rfl ?_
  refine va_sld hx hb hXs hbl (Nat.not_le.mpr hbl) hM.2.2.2.2 (nI_in (by omega) (by omega)) dL_law_333 ?_
  refine W.eq (g2 := F0 M_ _ ls [.int (xs 2), .int (xs 1), .ref (u.2.1 0)]) rfl ?_
  refine lv_aload_n hx hb dL_law_334 rfl (lv_at hl 5 rfl) ?_
  refine lv_iload hx hb dL_law_335 (lv_at hl 1 rfl) ?_
  refine lv_iconst (v := nI 3) hx hb dL_law_337 (by decide) ?_
  refine g_iaddn hx hb dL_law_338 ?_
  refine W.eq (g2 := F0 M_ _ ls [.int (nI 3), .ref q, .int (xs 2), .int (xs 1), .ref (u.2.1 0)]) rfl ?_
  refine va_sld hx hb hXs hbl (Nat.not_le.mpr hbl) hM.2.2.2.2 (nI_in (by omega) (by omega)) dL_law_339 ?_
  refine W.eq (g2 := F0 M_ _ ls [.int (xs 3), .int (xs 2), .int (xs 1), .ref (u.2.1 0)]) rfl ?_
  refine lv_if_eq (tgt := 347) hx hb dL_law_340 (by decide) (fun _ => ?_) (fun c => absurd hb3 c)
  refine lv_iconst (v := nI 0) hx hb dL_law_347 (by decide) ?_
  refine l_mod (v := nI 0) (th1 := nI 1) (As := [.int (xs 1), .int (xs 2), .int (if False then 1 else 0)]) (rest := []) G.1 hM (fun z h => Or.inl h) (mWr.fin) (m_preV hM.1) ok_X5_vote gm_671 gm_672 gm_670 (c_X5_vote l u (nI 0) (nI 0) 0 (xs 1) (xs 2) False) ⟨rfl, rfl⟩ ⟨Nat.le_of_ble_eq_true rfl, Nat.le_of_ble_eq_true rfl⟩ rfl hl.1 rfl (Nat.le_of_ble_eq_true rfl) ⟨Nat.le_of_ble_eq_true rfl, Nat.le_of_ble_eq_true rfl⟩ dL_law_348 (fun H locs hT => ?_)
  refine lv_istore (lv' := [(6, .int (nI 0)), (5, .int (nI 1)), (4, .int (nI 0)), (3, .ref o), (2, .ref (u.2.1 0)), (1, .ref (w.2.2.2 0)), (0, .ref q)]) hx hb dL_law_351 hl (by decide) rfl (fun ls hl => ?_)
  refine lv_aload_n hx hb dL_law_353 rfl (lv_at hl 4 rfl) ?_
  obtain ⟨⟨hK1, fs, hPm⟩, hO, hS⟩ := hT
  refine b_callV (v := .int (nI 1)) (As := []) (rest := []) G.1 ⟨fun a U g mk z => ⟨z.1, va_K.moved (u := U) (U := U.calling g mk a) (Vm.Alike.refl U.vm) z.2.1, z.2.2⟩, va_recv (q0 := 0) hK1 hPm (ci := 3) rfl rfl, fun U hU hW1 => ⟨rfl, va_K.moved hW1.alike hK1, by rw [hU]; exact hPm⟩⟩ ok_X5_thrown gm_657 gm_658 gm_656 (c_thr l u.1 (u.2.1 0) (nI 1) fs) ⟨rfl, rfl⟩ ⟨Nat.le_of_ble_eq_true rfl, Nat.le_of_ble_eq_true rfl⟩ rfl hl.1 rfl (Nat.le_of_ble_eq_true rfl) ⟨Nat.le_of_ble_eq_true rfl, Nat.le_of_ble_eq_true rfl⟩ dL_law_354 ?_
  refine lv_iload hx hb dL_law_357 (lv_at hl 1 rfl) ?_
  refine lv_icmp_eq (tgt := 364) hx hb dL_law_359 (by decide) (fun _ => ?_) (fun c => absurd rfl c)
  refine lv_iload hx hb dL_law_364 (lv_at hl 1 rfl) ?_
  refine lv_if_ne (tgt := 381) hx hb dL_law_366 (by decide) (fun _ => ?_) (fun c => absurd c (by decide))
  refine lv_goto (tgt := 1775) hx hb dL_law_381 (by decide) ?_
  exact W.widen (by decide) (by decide) (kk H locs ls hS (lv_sub hl [2, 3, 4, 5, 6] rfl))
set_option maxRecDepth 100000 in
set_option maxHeartbeats 4000000 in
theorem k_prefer {p : Program} {e : Env} {S_ : State} {M_ : MethodId} {below : List Frame} {meth : Method} {c : Code} {l : Launch} (hfl : l.stackTraces = false) {q : Nat} {xs : Nat → Int32} (G : CallFix p M_ c cL_law 9 S_ #[Value.ref q] gw RL ∧ True) (hall : ∀ v ∈ gwx, v.before #[Value.ref q] S_ = true) (hLB : LB S_) (hXs : va_X q 5 xs S_ S_.heap) (hbl : q < S_.heap.size) {w : GP} {u : MP} {ca : Nat} {ad : Nat → Nat} {o : Nat} {cL : ClassId} {Q : State → Prop} {H : Heap} {locs : List Loc} {ls : Array Slot} (hW9 : LW w u ca ad o cL S_ H locs) (hl : lv_has ls 9 [(4, .int (nI 0)), (3, .ref o), (2, .ref (u.2.1 0)), (1, .ref (w.2.2.2 0)), (0, .ref q)]) (kk : ∀ (H1 : Heap) (locs1 : List Loc) (ls1 : Array Slot), va_S (nA S_) S_.heap H1 locs1 → lv_has ls1 9 [(4, .int (nI 0)), (3, .ref o), (2, .ref (u.2.1 0)), (1, .ref (w.2.2.2 0)), (0, .ref q)] → W p l e room_1 S_ M_ #[Value.ref q] below meth c H1 locs1 600002 7302231 Q (F0 M_ 1775 ls1 []))  : W p l e room_1 S_ M_ #[Value.ref q] below meth c H locs 61 808 Q (F0 M_ 384 ls []) := by
  obtain ⟨hx, hb, hml, hown, hts⟩ := id G.1
  refine lv_aload_n hx hb dL_law_384 rfl (lv_at hl 3 rfl) ?_
  refine lv_aload_n hx hb dL_law_385 rfl (lv_at hl 4 rfl) ?_
  refine lv_iload hx hb dL_law_386 (lv_at hl 0 rfl) ?_
  refine lv_iconst (v := nI 1) hx hb dL_law_388 (by decide) ?_
  refine g_iaddn hx hb dL_law_389 ?_
  refine W.eq (g2 := F0 M_ _ ls [.int (nI 1), .ref q, .ref (w.2.2.2 0)]) rfl ?_
  refine va_sld hx hb hXs hbl (Nat.not_le.mpr hbl) hW9.2.1.2.2.2.2 (nI_in (by omega) (by omega)) dL_law_390 ?_
  refine W.eq (g2 := F0 M_ _ ls [.int (xs 1), .ref (w.2.2.2 0)]) rfl ?_
  refine lv_aload_n hx hb dL_law_391 rfl (lv_at hl 1 rfl) ?_
  refine l_wthr (As := [.ref (w.2.2.2 0), .int (xs 1), .ref o]) (rest := []) G.1 hLB hW9 (c_L_prefer_x l hfl w o (xs 1)) (w_csw (n := 3) hall ⟨rfl, rfl⟩ ⟨Nat.le_of_ble_eq_true rfl, Nat.le_of_ble_eq_true rfl⟩ gm_676 gm_650 ⟨by decide +kernel, by decide +kernel⟩ (by decide +kernel) gm_674 gm_675) rfl hl.1 rfl (Nat.le_of_ble_eq_true rfl) ⟨Nat.le_of_ble_eq_true rfl, Nat.le_of_ble_eq_true rfl⟩ dL_law_392 (fun H hW9 => ?_)
  have hM := hW9.2.1
  refine lv_istore (lv' := [(5, .int (nI 1)), (4, .int (nI 0)), (3, .ref o), (2, .ref (u.2.1 0)), (1, .ref (w.2.2.2 0)), (0, .ref q)]) hx hb dL_law_395 hl (by decide) rfl (fun ls hl => ?_)
  refine lv_aload_n hx hb dL_law_397 rfl (lv_at hl 3 rfl) ?_
  refine lv_aload_n hx hb dL_law_398 rfl (lv_at hl 5 rfl) ?_
  refine lv_iload hx hb dL_law_399 (lv_at hl 1 rfl) ?_
  refine lv_iconst (v := nI 1) hx hb dL_law_401 (by decide) ?_
  refine g_iaddn hx hb dL_law_402 ?_
  refine W.eq (g2 := F0 M_ _ ls [.int (nI 1), .ref q, .ref (u.2.1 0)]) rfl ?_
  refine va_sld hx hb hXs hbl (Nat.not_le.mpr hbl) hM.2.2.2.2 (nI_in (by omega) (by omega)) dL_law_403 ?_
  refine W.eq (g2 := F0 M_ _ ls [.int (xs 1), .ref (u.2.1 0)]) rfl ?_
  refine l_mod (v := nI 0) (th1 := nI 1) (As := [.int (xs 1)]) (rest := []) G.1 hM (fun z h => Or.inl h) (mWr.fin) (m_preV hM.1) ok_X5_prefer gm_678 gm_679 gm_677 (c_X5_prefer l u (nI 0) (nI 0) 0 (xs 1)) ⟨rfl, rfl⟩ ⟨Nat.le_of_ble_eq_true rfl, Nat.le_of_ble_eq_true rfl⟩ rfl hl.1 rfl (Nat.le_of_ble_eq_true rfl) ⟨Nat.le_of_ble_eq_true rfl, Nat.le_of_ble_eq_true rfl⟩ dL_law_404 (fun H locs hT => ?_)
  refine lv_istore (lv' := [(6, .int (nI 0)), (5, .int (nI 1)), (4, .int (nI 0)), (3, .ref o), (2, .ref (u.2.1 0)), (1, .ref (w.2.2.2 0)), (0, .ref q)]) hx hb dL_law_407 hl (by decide) rfl (fun ls hl => ?_)
  refine lv_aload_n hx hb dL_law_409 rfl (lv_at hl 4 rfl) ?_
  obtain ⟨⟨hK1, fs, hPm⟩, hO, hS⟩ := hT
  refine b_callV (v := .int (nI 1)) (As := []) (rest := []) G.1 ⟨fun a U g mk z => ⟨z.1, va_K.moved (u := U) (U := U.calling g mk a) (Vm.Alike.refl U.vm) z.2.1, z.2.2⟩, va_recv (q0 := 0) hK1 hPm (ci := 3) rfl rfl, fun U hU hW1 => ⟨rfl, va_K.moved hW1.alike hK1, by rw [hU]; exact hPm⟩⟩ ok_X5_thrown gm_657 gm_658 gm_656 (c_thr l u.1 (u.2.1 0) (nI 1) fs) ⟨rfl, rfl⟩ ⟨Nat.le_of_ble_eq_true rfl, Nat.le_of_ble_eq_true rfl⟩ rfl hl.1 rfl (Nat.le_of_ble_eq_true rfl) ⟨Nat.le_of_ble_eq_true rfl, Nat.le_of_ble_eq_true rfl⟩ dL_law_410 ?_
  refine lv_iload hx hb dL_law_413 (lv_at hl 1 rfl) ?_
  refine lv_icmp_eq (tgt := 420) hx hb dL_law_415 (by decide) (fun _ => ?_) (fun c => absurd rfl c)
  refine lv_iload hx hb dL_law_420 (lv_at hl 1 rfl) ?_
  refine lv_if_ne (tgt := 437) hx hb dL_law_422 (by decide) (fun _ => ?_) (fun c => absurd c (by decide))
  refine lv_goto (tgt := 1775) hx hb dL_law_437 (by decide) ?_
  exact W.widen (by decide) (by decide) (kk H locs ls hS (lv_sub hl [2, 3, 4, 5, 6] rfl))
set_option maxRecDepth 100000 in
set_option maxHeartbeats 4000000 in
theorem k_ban {p : Program} {e : Env} {S_ : State} {M_ : MethodId} {below : List Frame} {meth : Method} {c : Code} {l : Launch} (hfl : l.stackTraces = false) {q : Nat} {xs : Nat → Int32} (G : CallFix p M_ c cL_law 9 S_ #[Value.ref q] gw RL ∧ True) (hall : ∀ v ∈ gwx, v.before #[Value.ref q] S_ = true) (hLB : LB S_) (hXs : va_X q 5 xs S_ S_.heap) (hbl : q < S_.heap.size) {w : GP} {u : MP} {ca : Nat} {ad : Nat → Nat} {o : Nat} {cL : ClassId} {Q : State → Prop} {H : Heap} {locs : List Loc} {ls : Array Slot} (hW9 : LW w u ca ad o cL S_ H locs) (hl : lv_has ls 9 [(4, .int (nI 0)), (3, .ref o), (2, .ref (u.2.1 0)), (1, .ref (w.2.2.2 0)), (0, .ref q)]) (kk : ∀ (H1 : Heap) (locs1 : List Loc) (ls1 : Array Slot), va_S (nA S_) S_.heap H1 locs1 → lv_has ls1 9 [(4, .int (nI 0)), (3, .ref o), (2, .ref (u.2.1 0)), (1, .ref (w.2.2.2 0)), (0, .ref q)] → W p l e room_1 S_ M_ #[Value.ref q] below meth c H1 locs1 600002 7302231 Q (F0 M_ 1775 ls1 []))  : W p l e room_1 S_ M_ #[Value.ref q] below meth c H locs 61 808 Q (F0 M_ 440 ls []) := by
  obtain ⟨hx, hb, hml, hown, hts⟩ := id G.1
  refine lv_aload_n hx hb dL_law_440 rfl (lv_at hl 3 rfl) ?_
  refine lv_aload_n hx hb dL_law_441 rfl (lv_at hl 4 rfl) ?_
  refine lv_iload hx hb dL_law_442 (lv_at hl 0 rfl) ?_
  refine lv_iconst (v := nI 1) hx hb dL_law_444 (by decide) ?_
  refine g_iaddn hx hb dL_law_445 ?_
  refine W.eq (g2 := F0 M_ _ ls [.int (nI 1), .ref q, .ref (w.2.2.2 0)]) rfl ?_
  refine va_sld hx hb hXs hbl (Nat.not_le.mpr hbl) hW9.2.1.2.2.2.2 (nI_in (by omega) (by omega)) dL_law_446 ?_
  refine W.eq (g2 := F0 M_ _ ls [.int (xs 1), .ref (w.2.2.2 0)]) rfl ?_
  refine lv_aload_n hx hb dL_law_447 rfl (lv_at hl 4 rfl) ?_
  refine lv_iload hx hb dL_law_448 (lv_at hl 0 rfl) ?_
  refine lv_iconst (v := nI 2) hx hb dL_law_450 (by decide) ?_
  refine g_iaddn hx hb dL_law_451 ?_
  refine W.eq (g2 := F0 M_ _ ls [.int (nI 2), .ref q, .int (xs 1), .ref (w.2.2.2 0)]) rfl ?_
  refine va_sld hx hb hXs hbl (Nat.not_le.mpr hbl) hW9.2.1.2.2.2.2 (nI_in (by omega) (by omega)) dL_law_452 ?_
  refine W.eq (g2 := F0 M_ _ ls [.int (xs 2), .int (xs 1), .ref (w.2.2.2 0)]) rfl ?_
  refine lv_aload_n hx hb dL_law_453 rfl (lv_at hl 1 rfl) ?_
  refine l_wthr (As := [.ref (w.2.2.2 0), .int (xs 1), .int (xs 2), .ref o]) (rest := []) G.1 hLB hW9 (c_L_ban_x l hfl w o (xs 1) (xs 2)) (w_csw (n := 4) hall ⟨rfl, rfl⟩ ⟨Nat.le_of_ble_eq_true rfl, Nat.le_of_ble_eq_true rfl⟩ gm_683 gm_650 ⟨by decide +kernel, by decide +kernel⟩ (by decide +kernel) gm_681 gm_682) rfl hl.1 rfl (Nat.le_of_ble_eq_true rfl) ⟨Nat.le_of_ble_eq_true rfl, Nat.le_of_ble_eq_true rfl⟩ dL_law_454 (fun H hW9 => ?_)
  have hM := hW9.2.1
  refine lv_istore (lv' := [(5, .int (nI 1)), (4, .int (nI 0)), (3, .ref o), (2, .ref (u.2.1 0)), (1, .ref (w.2.2.2 0)), (0, .ref q)]) hx hb dL_law_457 hl (by decide) rfl (fun ls hl => ?_)
  refine lv_aload_n hx hb dL_law_459 rfl (lv_at hl 3 rfl) ?_
  refine lv_aload_n hx hb dL_law_460 rfl (lv_at hl 5 rfl) ?_
  refine lv_iload hx hb dL_law_461 (lv_at hl 1 rfl) ?_
  refine lv_iconst (v := nI 1) hx hb dL_law_463 (by decide) ?_
  refine g_iaddn hx hb dL_law_464 ?_
  refine W.eq (g2 := F0 M_ _ ls [.int (nI 1), .ref q, .ref (u.2.1 0)]) rfl ?_
  refine va_sld hx hb hXs hbl (Nat.not_le.mpr hbl) hM.2.2.2.2 (nI_in (by omega) (by omega)) dL_law_465 ?_
  refine W.eq (g2 := F0 M_ _ ls [.int (xs 1), .ref (u.2.1 0)]) rfl ?_
  refine lv_aload_n hx hb dL_law_466 rfl (lv_at hl 5 rfl) ?_
  refine lv_iload hx hb dL_law_467 (lv_at hl 1 rfl) ?_
  refine lv_iconst (v := nI 2) hx hb dL_law_469 (by decide) ?_
  refine g_iaddn hx hb dL_law_470 ?_
  refine W.eq (g2 := F0 M_ _ ls [.int (nI 2), .ref q, .int (xs 1), .ref (u.2.1 0)]) rfl ?_
  refine va_sld hx hb hXs hbl (Nat.not_le.mpr hbl) hM.2.2.2.2 (nI_in (by omega) (by omega)) dL_law_471 ?_
  refine W.eq (g2 := F0 M_ _ ls [.int (xs 2), .int (xs 1), .ref (u.2.1 0)]) rfl ?_
  refine l_mod (v := nI 0) (th1 := nI 1) (As := [.int (xs 1), .int (xs 2)]) (rest := []) G.1 hM (fun z h => Or.inl h) (mWr.fin) (m_preV hM.1) ok_X5_ban gm_685 gm_686 gm_684 (c_X5_ban l u (nI 0) (nI 0) 0 (xs 1) (xs 2)) ⟨rfl, rfl⟩ ⟨Nat.le_of_ble_eq_true rfl, Nat.le_of_ble_eq_true rfl⟩ rfl hl.1 rfl (Nat.le_of_ble_eq_true rfl) ⟨Nat.le_of_ble_eq_true rfl, Nat.le_of_ble_eq_true rfl⟩ dL_law_472 (fun H locs hT => ?_)
  refine lv_istore (lv' := [(6, .int (nI 0)), (5, .int (nI 1)), (4, .int (nI 0)), (3, .ref o), (2, .ref (u.2.1 0)), (1, .ref (w.2.2.2 0)), (0, .ref q)]) hx hb dL_law_475 hl (by decide) rfl (fun ls hl => ?_)
  refine lv_aload_n hx hb dL_law_477 rfl (lv_at hl 4 rfl) ?_
  obtain ⟨⟨hK1, fs, hPm⟩, hO, hS⟩ := hT
  refine b_callV (v := .int (nI 1)) (As := []) (rest := []) G.1 ⟨fun a U g mk z => ⟨z.1, va_K.moved (u := U) (U := U.calling g mk a) (Vm.Alike.refl U.vm) z.2.1, z.2.2⟩, va_recv (q0 := 0) hK1 hPm (ci := 3) rfl rfl, fun U hU hW1 => ⟨rfl, va_K.moved hW1.alike hK1, by rw [hU]; exact hPm⟩⟩ ok_X5_thrown gm_657 gm_658 gm_656 (c_thr l u.1 (u.2.1 0) (nI 1) fs) ⟨rfl, rfl⟩ ⟨Nat.le_of_ble_eq_true rfl, Nat.le_of_ble_eq_true rfl⟩ rfl hl.1 rfl (Nat.le_of_ble_eq_true rfl) ⟨Nat.le_of_ble_eq_true rfl, Nat.le_of_ble_eq_true rfl⟩ dL_law_478 ?_
  refine lv_iload hx hb dL_law_481 (lv_at hl 1 rfl) ?_
  refine lv_icmp_eq (tgt := 488) hx hb dL_law_483 (by decide) (fun _ => ?_) (fun c => absurd rfl c)
  refine lv_iload hx hb dL_law_488 (lv_at hl 1 rfl) ?_
  refine lv_if_ne (tgt := 505) hx hb dL_law_490 (by decide) (fun _ => ?_) (fun c => absurd c (by decide))
  refine lv_goto (tgt := 1775) hx hb dL_law_505 (by decide) ?_
  exact W.widen (by decide) (by decide) (kk H locs ls hS (lv_sub hl [2, 3, 4, 5, 6] rfl))
set_option maxRecDepth 100000 in
set_option maxHeartbeats 4000000 in
theorem k_allow {p : Program} {e : Env} {S_ : State} {M_ : MethodId} {below : List Frame} {meth : Method} {c : Code} {l : Launch} (hfl : l.stackTraces = false) {q : Nat} {xs : Nat → Int32} (G : CallFix p M_ c cL_law 9 S_ #[Value.ref q] gw RL ∧ True) (hall : ∀ v ∈ gwx, v.before #[Value.ref q] S_ = true) (hLB : LB S_) (hXs : va_X q 5 xs S_ S_.heap) (hbl : q < S_.heap.size) {w : GP} {u : MP} {ca : Nat} {ad : Nat → Nat} {o : Nat} {cL : ClassId} {Q : State → Prop} {H : Heap} {locs : List Loc} {ls : Array Slot} (hW9 : LW w u ca ad o cL S_ H locs) (hl : lv_has ls 9 [(4, .int (nI 0)), (3, .ref o), (2, .ref (u.2.1 0)), (1, .ref (w.2.2.2 0)), (0, .ref q)]) (kk : ∀ (H1 : Heap) (locs1 : List Loc) (ls1 : Array Slot), va_S (nA S_) S_.heap H1 locs1 → lv_has ls1 9 [(4, .int (nI 0)), (3, .ref o), (2, .ref (u.2.1 0)), (1, .ref (w.2.2.2 0)), (0, .ref q)] → W p l e room_1 S_ M_ #[Value.ref q] below meth c H1 locs1 600002 7302231 Q (F0 M_ 1775 ls1 []))  : W p l e room_1 S_ M_ #[Value.ref q] below meth c H locs 61 808 Q (F0 M_ 508 ls []) := by
  obtain ⟨hx, hb, hml, hown, hts⟩ := id G.1
  refine lv_aload_n hx hb dL_law_508 rfl (lv_at hl 3 rfl) ?_
  refine lv_aload_n hx hb dL_law_509 rfl (lv_at hl 4 rfl) ?_
  refine lv_iload hx hb dL_law_510 (lv_at hl 0 rfl) ?_
  refine lv_iconst (v := nI 1) hx hb dL_law_512 (by decide) ?_
  refine g_iaddn hx hb dL_law_513 ?_
  refine W.eq (g2 := F0 M_ _ ls [.int (nI 1), .ref q, .ref (w.2.2.2 0)]) rfl ?_
  refine va_sld hx hb hXs hbl (Nat.not_le.mpr hbl) hW9.2.1.2.2.2.2 (nI_in (by omega) (by omega)) dL_law_514 ?_
  refine W.eq (g2 := F0 M_ _ ls [.int (xs 1), .ref (w.2.2.2 0)]) rfl ?_
  refine lv_aload_n hx hb dL_law_515 rfl (lv_at hl 1 rfl) ?_
  refine l_wthr (As := [.ref (w.2.2.2 0), .int (xs 1), .ref o]) (rest := []) G.1 hLB hW9 (c_L_allow_x l hfl w o (xs 1)) (w_csw (n := 3) hall ⟨rfl, rfl⟩ ⟨Nat.le_of_ble_eq_true rfl, Nat.le_of_ble_eq_true rfl⟩ gm_690 gm_650 ⟨by decide +kernel, by decide +kernel⟩ (by decide +kernel) gm_688 gm_689) rfl hl.1 rfl (Nat.le_of_ble_eq_true rfl) ⟨Nat.le_of_ble_eq_true rfl, Nat.le_of_ble_eq_true rfl⟩ dL_law_516 (fun H hW9 => ?_)
  have hM := hW9.2.1
  refine lv_istore (lv' := [(5, .int (nI 1)), (4, .int (nI 0)), (3, .ref o), (2, .ref (u.2.1 0)), (1, .ref (w.2.2.2 0)), (0, .ref q)]) hx hb dL_law_519 hl (by decide) rfl (fun ls hl => ?_)
  refine lv_aload_n hx hb dL_law_521 rfl (lv_at hl 3 rfl) ?_
  refine lv_aload_n hx hb dL_law_522 rfl (lv_at hl 5 rfl) ?_
  refine lv_iload hx hb dL_law_523 (lv_at hl 1 rfl) ?_
  refine lv_iconst (v := nI 1) hx hb dL_law_525 (by decide) ?_
  refine g_iaddn hx hb dL_law_526 ?_
  refine W.eq (g2 := F0 M_ _ ls [.int (nI 1), .ref q, .ref (u.2.1 0)]) rfl ?_
  refine va_sld hx hb hXs hbl (Nat.not_le.mpr hbl) hM.2.2.2.2 (nI_in (by omega) (by omega)) dL_law_527 ?_
  refine W.eq (g2 := F0 M_ _ ls [.int (xs 1), .ref (u.2.1 0)]) rfl ?_
  refine l_mod (v := nI 0) (th1 := nI 1) (As := [.int (xs 1)]) (rest := []) G.1 hM (fun z h => Or.inl h) (mWr.fin) (m_preV hM.1) ok_X5_allow gm_692 gm_693 gm_691 (c_X5_allow l u (nI 0) (nI 0) 0 (xs 1)) ⟨rfl, rfl⟩ ⟨Nat.le_of_ble_eq_true rfl, Nat.le_of_ble_eq_true rfl⟩ rfl hl.1 rfl (Nat.le_of_ble_eq_true rfl) ⟨Nat.le_of_ble_eq_true rfl, Nat.le_of_ble_eq_true rfl⟩ dL_law_528 (fun H locs hT => ?_)
  refine lv_istore (lv' := [(6, .int (nI 0)), (5, .int (nI 1)), (4, .int (nI 0)), (3, .ref o), (2, .ref (u.2.1 0)), (1, .ref (w.2.2.2 0)), (0, .ref q)]) hx hb dL_law_531 hl (by decide) rfl (fun ls hl => ?_)
  refine lv_aload_n hx hb dL_law_533 rfl (lv_at hl 4 rfl) ?_
  obtain ⟨⟨hK1, fs, hPm⟩, hO, hS⟩ := hT
  refine b_callV (v := .int (nI 1)) (As := []) (rest := []) G.1 ⟨fun a U g mk z => ⟨z.1, va_K.moved (u := U) (U := U.calling g mk a) (Vm.Alike.refl U.vm) z.2.1, z.2.2⟩, va_recv (q0 := 0) hK1 hPm (ci := 3) rfl rfl, fun U hU hW1 => ⟨rfl, va_K.moved hW1.alike hK1, by rw [hU]; exact hPm⟩⟩ ok_X5_thrown gm_657 gm_658 gm_656 (c_thr l u.1 (u.2.1 0) (nI 1) fs) ⟨rfl, rfl⟩ ⟨Nat.le_of_ble_eq_true rfl, Nat.le_of_ble_eq_true rfl⟩ rfl hl.1 rfl (Nat.le_of_ble_eq_true rfl) ⟨Nat.le_of_ble_eq_true rfl, Nat.le_of_ble_eq_true rfl⟩ dL_law_534 ?_
  refine lv_iload hx hb dL_law_537 (lv_at hl 1 rfl) ?_
  refine lv_icmp_eq (tgt := 544) hx hb dL_law_539 (by decide) (fun _ => ?_) (fun c => absurd rfl c)
  refine lv_iload hx hb dL_law_544 (lv_at hl 1 rfl) ?_
  refine lv_if_ne (tgt := 561) hx hb dL_law_546 (by decide) (fun _ => ?_) (fun c => absurd c (by decide))
  refine lv_goto (tgt := 1775) hx hb dL_law_561 (by decide) ?_
  exact W.widen (by decide) (by decide) (kk H locs ls hS (lv_sub hl [2, 3, 4, 5, 6] rfl))
set_option maxRecDepth 100000 in
set_option maxHeartbeats 4000000 in
theorem k_ofTerm {p : Program} {e : Env} {S_ : State} {M_ : MethodId} {below : List Frame} {meth : Method} {c : Code} {l : Launch} (hfl : l.stackTraces = false) {q : Nat} {xs : Nat → Int32} (G : CallFix p M_ c cL_law 9 S_ #[Value.ref q] gw RL ∧ True) (hall : ∀ v ∈ gwx, v.before #[Value.ref q] S_ = true) (hLB : LB S_) (hXs : va_X q 5 xs S_ S_.heap) (hbl : q < S_.heap.size) {w : GP} {u : MP} {ca : Nat} {ad : Nat → Nat} {o : Nat} {cL : ClassId} {Q : State → Prop} {H : Heap} {locs : List Loc} {ls : Array Slot} (hW9 : LW w u ca ad o cL S_ H locs) (hl : lv_has ls 9 [(4, .int (nI 0)), (3, .ref o), (2, .ref (u.2.1 0)), (1, .ref (w.2.2.2 0)), (0, .ref q)]) (kk : ∀ (H1 : Heap) (locs1 : List Loc) (ls1 : Array Slot), va_S (nA S_) S_.heap H1 locs1 → lv_has ls1 9 [(4, .int (nI 0)), (3, .ref o), (2, .ref (u.2.1 0)), (1, .ref (w.2.2.2 0)), (0, .ref q)] → W p l e room_1 S_ M_ #[Value.ref q] below meth c H1 locs1 600002 7302231 Q (F0 M_ 1775 ls1 []))  : W p l e room_1 S_ M_ #[Value.ref q] below meth c H locs 61 808 Q (F0 M_ 564 ls []) := by
  obtain ⟨hx, hb, hml, hown, hts⟩ := id G.1
  refine lv_aload_n hx hb dL_law_564 rfl (lv_at hl 3 rfl) ?_
  refine lv_aload_n hx hb dL_law_565 rfl (lv_at hl 4 rfl) ?_
  refine lv_iload hx hb dL_law_566 (lv_at hl 0 rfl) ?_
  refine lv_iconst (v := nI 1) hx hb dL_law_568 (by decide) ?_
  refine g_iaddn hx hb dL_law_569 ?_
  refine W.eq (g2 := F0 M_ _ ls [.int (nI 1), .ref q, .ref (w.2.2.2 0)]) rfl ?_
  refine va_sld hx hb hXs hbl (Nat.not_le.mpr hbl) hW9.2.1.2.2.2.2 (nI_in (by omega) (by omega)) dL_law_570 ?_
  refine W.eq (g2 := F0 M_ _ ls [.int (xs 1), .ref (w.2.2.2 0)]) rfl ?_
  refine lv_aload_n hx hb dL_law_571 rfl (lv_at hl 4 rfl) ?_
  refine lv_iload hx hb dL_law_572 (lv_at hl 0 rfl) ?_
  refine lv_iconst (v := nI 2) hx hb dL_law_574 (by decide) ?_
  refine g_iaddn hx hb dL_law_575 ?_
  refine W.eq (g2 := F0 M_ _ ls [.int (nI 2), .ref q, .int (xs 1), .ref (w.2.2.2 0)]) rfl ?_
  refine va_sld hx hb hXs hbl (Nat.not_le.mpr hbl) hW9.2.1.2.2.2.2 (nI_in (by omega) (by omega)) dL_law_576 ?_
  refine W.eq (g2 := F0 M_ _ ls [.int (xs 2), .int (xs 1), .ref (w.2.2.2 0)]) rfl ?_
  refine lv_aload_n hx hb dL_law_577 rfl (lv_at hl 1 rfl) ?_
  refine l_wthr (As := [.ref (w.2.2.2 0), .int (xs 1), .int (xs 2), .ref o]) (rest := []) G.1 hLB hW9 (c_L_ofTerm_x l hfl w o (xs 1) (xs 2)) (w_csw (n := 4) hall ⟨rfl, rfl⟩ ⟨Nat.le_of_ble_eq_true rfl, Nat.le_of_ble_eq_true rfl⟩ gm_697 gm_650 ⟨by decide +kernel, by decide +kernel⟩ (by decide +kernel) gm_695 gm_696) rfl hl.1 rfl (Nat.le_of_ble_eq_true rfl) ⟨Nat.le_of_ble_eq_true rfl, Nat.le_of_ble_eq_true rfl⟩ dL_law_578 (fun H hW9 => ?_)
  have hM := hW9.2.1
  refine lv_istore (lv' := [(5, .int (nI 1)), (4, .int (nI 0)), (3, .ref o), (2, .ref (u.2.1 0)), (1, .ref (w.2.2.2 0)), (0, .ref q)]) hx hb dL_law_581 hl (by decide) rfl (fun ls hl => ?_)
  refine lv_aload_n hx hb dL_law_583 rfl (lv_at hl 3 rfl) ?_
  refine lv_aload_n hx hb dL_law_584 rfl (lv_at hl 5 rfl) ?_
  refine lv_iload hx hb dL_law_585 (lv_at hl 1 rfl) ?_
  refine lv_iconst (v := nI 1) hx hb dL_law_587 (by decide) ?_
  refine g_iaddn hx hb dL_law_588 ?_
  refine W.eq (g2 := F0 M_ _ ls [.int (nI 1), .ref q, .ref (u.2.1 0)]) rfl ?_
  refine va_sld hx hb hXs hbl (Nat.not_le.mpr hbl) hM.2.2.2.2 (nI_in (by omega) (by omega)) dL_law_589 ?_
  refine W.eq (g2 := F0 M_ _ ls [.int (xs 1), .ref (u.2.1 0)]) rfl ?_
  refine lv_aload_n hx hb dL_law_590 rfl (lv_at hl 5 rfl) ?_
  refine lv_iload hx hb dL_law_591 (lv_at hl 1 rfl) ?_
  refine lv_iconst (v := nI 2) hx hb dL_law_593 (by decide) ?_
  refine g_iaddn hx hb dL_law_594 ?_
  refine W.eq (g2 := F0 M_ _ ls [.int (nI 2), .ref q, .int (xs 1), .ref (u.2.1 0)]) rfl ?_
  refine va_sld hx hb hXs hbl (Nat.not_le.mpr hbl) hM.2.2.2.2 (nI_in (by omega) (by omega)) dL_law_595 ?_
  refine W.eq (g2 := F0 M_ _ ls [.int (xs 2), .int (xs 1), .ref (u.2.1 0)]) rfl ?_
  refine l_mod (v := nI 0) (th1 := nI 1) (As := [.int (xs 1), .int (xs 2)]) (rest := []) G.1 hM (fun z h => Or.inl h) (mWr.fin) (m_preV hM.1) ok_X5_ofTerm gm_699 gm_700 gm_698 (c_X5_ofTerm l u (nI 0) (nI 0) 0 (xs 1) (xs 2)) ⟨rfl, rfl⟩ ⟨Nat.le_of_ble_eq_true rfl, Nat.le_of_ble_eq_true rfl⟩ rfl hl.1 rfl (Nat.le_of_ble_eq_true rfl) ⟨Nat.le_of_ble_eq_true rfl, Nat.le_of_ble_eq_true rfl⟩ dL_law_596 (fun H locs hT => ?_)
  refine lv_istore (lv' := [(6, .int (nI 0)), (5, .int (nI 1)), (4, .int (nI 0)), (3, .ref o), (2, .ref (u.2.1 0)), (1, .ref (w.2.2.2 0)), (0, .ref q)]) hx hb dL_law_599 hl (by decide) rfl (fun ls hl => ?_)
  refine lv_aload_n hx hb dL_law_601 rfl (lv_at hl 4 rfl) ?_
  obtain ⟨⟨hK1, fs, hPm⟩, hO, hS⟩ := hT
  refine b_callV (v := .int (nI 1)) (As := []) (rest := []) G.1 ⟨fun a U g mk z => ⟨z.1, va_K.moved (u := U) (U := U.calling g mk a) (Vm.Alike.refl U.vm) z.2.1, z.2.2⟩, va_recv (q0 := 0) hK1 hPm (ci := 3) rfl rfl, fun U hU hW1 => ⟨rfl, va_K.moved hW1.alike hK1, by rw [hU]; exact hPm⟩⟩ ok_X5_thrown gm_657 gm_658 gm_656 (c_thr l u.1 (u.2.1 0) (nI 1) fs) ⟨rfl, rfl⟩ ⟨Nat.le_of_ble_eq_true rfl, Nat.le_of_ble_eq_true rfl⟩ rfl hl.1 rfl (Nat.le_of_ble_eq_true rfl) ⟨Nat.le_of_ble_eq_true rfl, Nat.le_of_ble_eq_true rfl⟩ dL_law_602 ?_
  refine lv_iload hx hb dL_law_605 (lv_at hl 1 rfl) ?_
  refine lv_icmp_eq (tgt := 612) hx hb dL_law_607 (by decide) (fun _ => ?_) (fun c => absurd rfl c)
  refine lv_iload hx hb dL_law_612 (lv_at hl 1 rfl) ?_
  refine lv_if_ne (tgt := 629) hx hb dL_law_614 (by decide) (fun _ => ?_) (fun c => absurd c (by decide))
  refine lv_goto (tgt := 1775) hx hb dL_law_629 (by decide) ?_
  exact W.widen (by decide) (by decide) (kk H locs ls hS (lv_sub hl [2, 3, 4, 5, 6] rfl))
set_option maxRecDepth 100000 in
set_option maxHeartbeats 4000000 in
theorem k_ofConcept {p : Program} {e : Env} {S_ : State} {M_ : MethodId} {below : List Frame} {meth : Method} {c : Code} {l : Launch} (hfl : l.stackTraces = false) {q : Nat} {xs : Nat → Int32} (G : CallFix p M_ c cL_law 9 S_ #[Value.ref q] gw RL ∧ True) (hall : ∀ v ∈ gwx, v.before #[Value.ref q] S_ = true) (hLB : LB S_) (hXs : va_X q 5 xs S_ S_.heap) (hbl : q < S_.heap.size) {w : GP} {u : MP} {ca : Nat} {ad : Nat → Nat} {o : Nat} {cL : ClassId} {Q : State → Prop} {H : Heap} {locs : List Loc} {ls : Array Slot} (hW9 : LW w u ca ad o cL S_ H locs) (hl : lv_has ls 9 [(4, .int (nI 0)), (3, .ref o), (2, .ref (u.2.1 0)), (1, .ref (w.2.2.2 0)), (0, .ref q)]) (kk : ∀ (H1 : Heap) (locs1 : List Loc) (ls1 : Array Slot), va_S (nA S_) S_.heap H1 locs1 → lv_has ls1 9 [(4, .int (nI 0)), (3, .ref o), (2, .ref (u.2.1 0)), (1, .ref (w.2.2.2 0)), (0, .ref q)] → W p l e room_1 S_ M_ #[Value.ref q] below meth c H1 locs1 600002 7302231 Q (F0 M_ 1775 ls1 []))  : W p l e room_1 S_ M_ #[Value.ref q] below meth c H locs 61 808 Q (F0 M_ 632 ls []) := by
  obtain ⟨hx, hb, hml, hown, hts⟩ := id G.1
  refine lv_aload_n hx hb dL_law_632 rfl (lv_at hl 3 rfl) ?_
  refine lv_aload_n hx hb dL_law_633 rfl (lv_at hl 4 rfl) ?_
  refine lv_iload hx hb dL_law_634 (lv_at hl 0 rfl) ?_
  refine lv_iconst (v := nI 1) hx hb dL_law_636 (by decide) ?_
  refine g_iaddn hx hb dL_law_637 ?_
  refine W.eq (g2 := F0 M_ _ ls [.int (nI 1), .ref q, .ref (w.2.2.2 0)]) rfl ?_
  refine va_sld hx hb hXs hbl (Nat.not_le.mpr hbl) hW9.2.1.2.2.2.2 (nI_in (by omega) (by omega)) dL_law_638 ?_
  refine W.eq (g2 := F0 M_ _ ls [.int (xs 1), .ref (w.2.2.2 0)]) rfl ?_
  refine lv_aload_n hx hb dL_law_639 rfl (lv_at hl 4 rfl) ?_
  refine lv_iload hx hb dL_law_640 (lv_at hl 0 rfl) ?_
  refine lv_iconst (v := nI 2) hx hb dL_law_642 (by decide) ?_
  refine g_iaddn hx hb dL_law_643 ?_
  refine W.eq (g2 := F0 M_ _ ls [.int (nI 2), .ref q, .int (xs 1), .ref (w.2.2.2 0)]) rfl ?_
  refine va_sld hx hb hXs hbl (Nat.not_le.mpr hbl) hW9.2.1.2.2.2.2 (nI_in (by omega) (by omega)) dL_law_644 ?_
  refine W.eq (g2 := F0 M_ _ ls [.int (xs 2), .int (xs 1), .ref (w.2.2.2 0)]) rfl ?_
  refine lv_aload_n hx hb dL_law_645 rfl (lv_at hl 1 rfl) ?_
  refine l_wthr (As := [.ref (w.2.2.2 0), .int (xs 1), .int (xs 2), .ref o]) (rest := []) G.1 hLB hW9 (c_L_ofConcept_x l hfl w o (xs 1) (xs 2)) (w_csw (n := 4) hall ⟨rfl, rfl⟩ ⟨Nat.le_of_ble_eq_true rfl, Nat.le_of_ble_eq_true rfl⟩ gm_704 gm_650 ⟨by decide +kernel, by decide +kernel⟩ (by decide +kernel) gm_702 gm_703) rfl hl.1 rfl (Nat.le_of_ble_eq_true rfl) ⟨Nat.le_of_ble_eq_true rfl, Nat.le_of_ble_eq_true rfl⟩ dL_law_646 (fun H hW9 => ?_)
  have hM := hW9.2.1
  refine lv_istore (lv' := [(5, .int (nI 1)), (4, .int (nI 0)), (3, .ref o), (2, .ref (u.2.1 0)), (1, .ref (w.2.2.2 0)), (0, .ref q)]) hx hb dL_law_649 hl (by decide) rfl (fun ls hl => ?_)
  refine lv_aload_n hx hb dL_law_651 rfl (lv_at hl 3 rfl) ?_
  refine lv_aload_n hx hb dL_law_652 rfl (lv_at hl 5 rfl) ?_
  refine lv_iload hx hb dL_law_653 (lv_at hl 1 rfl) ?_
  refine lv_iconst (v := nI 1) hx hb dL_law_655 (by decide) ?_
  refine g_iaddn hx hb dL_law_656 ?_
  refine W.eq (g2 := F0 M_ _ ls [.int (nI 1), .ref q, .ref (u.2.1 0)]) rfl ?_
  refine va_sld hx hb hXs hbl (Nat.not_le.mpr hbl) hM.2.2.2.2 (nI_in (by omega) (by omega)) dL_law_657 ?_
  refine W.eq (g2 := F0 M_ _ ls [.int (xs 1), .ref (u.2.1 0)]) rfl ?_
  refine lv_aload_n hx hb dL_law_658 rfl (lv_at hl 5 rfl) ?_
  refine lv_iload hx hb dL_law_659 (lv_at hl 1 rfl) ?_
  refine lv_iconst (v := nI 2) hx hb dL_law_661 (by decide) ?_
  refine g_iaddn hx hb dL_law_662 ?_
  refine W.eq (g2 := F0 M_ _ ls [.int (nI 2), .ref q, .int (xs 1), .ref (u.2.1 0)]) rfl ?_
  refine va_sld hx hb hXs hbl (Nat.not_le.mpr hbl) hM.2.2.2.2 (nI_in (by omega) (by omega)) dL_law_663 ?_
  refine W.eq (g2 := F0 M_ _ ls [.int (xs 2), .int (xs 1), .ref (u.2.1 0)]) rfl ?_
  refine l_mod (v := nI 0) (th1 := nI 1) (As := [.int (xs 1), .int (xs 2)]) (rest := []) G.1 hM (fun z h => Or.inl h) (mWr.fin) (m_preV hM.1) ok_X5_ofConcept gm_706 gm_707 gm_705 (c_X5_ofConcept l u (nI 0) (nI 0) 0 (xs 1) (xs 2)) ⟨rfl, rfl⟩ ⟨Nat.le_of_ble_eq_true rfl, Nat.le_of_ble_eq_true rfl⟩ rfl hl.1 rfl (Nat.le_of_ble_eq_true rfl) ⟨Nat.le_of_ble_eq_true rfl, Nat.le_of_ble_eq_true rfl⟩ dL_law_664 (fun H locs hT => ?_)
  refine lv_istore (lv' := [(6, .int (nI 0)), (5, .int (nI 1)), (4, .int (nI 0)), (3, .ref o), (2, .ref (u.2.1 0)), (1, .ref (w.2.2.2 0)), (0, .ref q)]) hx hb dL_law_667 hl (by decide) rfl (fun ls hl => ?_)
  refine lv_aload_n hx hb dL_law_669 rfl (lv_at hl 4 rfl) ?_
  obtain ⟨⟨hK1, fs, hPm⟩, hO, hS⟩ := hT
  refine b_callV (v := .int (nI 1)) (As := []) (rest := []) G.1 ⟨fun a U g mk z => ⟨z.1, va_K.moved (u := U) (U := U.calling g mk a) (Vm.Alike.refl U.vm) z.2.1, z.2.2⟩, va_recv (q0 := 0) hK1 hPm (ci := 3) rfl rfl, fun U hU hW1 => ⟨rfl, va_K.moved hW1.alike hK1, by rw [hU]; exact hPm⟩⟩ ok_X5_thrown gm_657 gm_658 gm_656 (c_thr l u.1 (u.2.1 0) (nI 1) fs) ⟨rfl, rfl⟩ ⟨Nat.le_of_ble_eq_true rfl, Nat.le_of_ble_eq_true rfl⟩ rfl hl.1 rfl (Nat.le_of_ble_eq_true rfl) ⟨Nat.le_of_ble_eq_true rfl, Nat.le_of_ble_eq_true rfl⟩ dL_law_670 ?_
  refine lv_iload hx hb dL_law_673 (lv_at hl 1 rfl) ?_
  refine lv_icmp_eq (tgt := 680) hx hb dL_law_675 (by decide) (fun _ => ?_) (fun c => absurd rfl c)
  refine lv_iload hx hb dL_law_680 (lv_at hl 1 rfl) ?_
  refine lv_if_ne (tgt := 697) hx hb dL_law_682 (by decide) (fun _ => ?_) (fun c => absurd c (by decide))
  refine lv_goto (tgt := 1775) hx hb dL_law_697 (by decide) ?_
  exact W.widen (by decide) (by decide) (kk H locs ls hS (lv_sub hl [2, 3, 4, 5, 6] rfl))
