/-! THE CLAIM OUT OF ONE WALK OF THE LAW'S BODY. Your part is whole_start (and what it stands on); all else here is the same for every law, but numbers. -/
def R_law : String := "GlossaryCrownLaw"
def lw_P (b : Addr) (xs : List Int32) (args : Array Value) (s : State) : Prop := args = #[.ref b] ∧ s.IntsAt b xs ∧ xs.length ≤ 5 ∧ (Jvm.Cond.and given_1 narrow_1).before args s = true
/-- what a walk over the start with the record d0 says of its end, said of the start itself -/
theorem lw_closed {s t : State} {o : Outcome} {d0 : Drawn} {L : List Loc} {k n : Nat} (hd0 : s.drawn.sameBut d0 lw_cs) (hv : ∃ v, o = .returned v) (hW : (s.setDrawn d0).WarmedH t.vm) (hs : (s.setDrawn d0).sameButNew ({ t with vm := s.vm } : State) L k n) : State.butDraws s t lw_cs (fun t1 => Framed s o t1 L k n) := by
  have h2 : t.drawn = d0 := congrArg State.drawn hs.1
  refine ⟨⟨hv, hW, State.sameButNew.setDrawn hs s.drawn⟩, ?_, by decide⟩
  rw [h2]
  exact hd0
def lw_Q (_ : Array Value) (s : State) (o : Outcome) (t : State) : Prop := o = .returned (some (.int 1)) ∧ State.butDraws s t lw_cs (fun t1 => Framed s o t1 [] 600002 7302231)
def lw_Z (below : List Frame) (a : Array Value) (s : State) : State → Prop := fun t => ∃ o, t.status = .running ∧ Ended t below o ∧ lw_Q a s o t
/-- the law's own end, with 1 on the stack, nothing written that was there before, its room as the claim has it; d0: the record of draws at this point (at the entry s.drawn: begin with 'refine W.base ?_' and 'have hd0 := Drawn.sameBut.refl s.drawn lw_cs') -/
theorem lw_ret {p : Program} {l : Launch} {e : Env} {s : State} {m : MethodId} {below : List Frame} {meth : Method} {c : Code} {b : Nat} {d0 : Drawn} (hd0 : s.drawn.sameBut d0 lw_cs) (hx : p.tables.exec = Jvm.exec) (hb : c.code = code) (hr : meth.sig.returnType = ret) (hlocks : meth.locks = false) {pc : Nat} {H : Heap} {ls : Array Slot} (hdg : decode code pc = .ok (.ireturn, 1)) : W p l e room_1 (s.setDrawn d0) m #[Value.ref b] below meth c H [] 600002 7302231 (lw_Z below #[Value.ref b] s) (F0 m pc ls [.int 1]) := by
  intro T hT X
  obtain ⟨fs, hret, hrun, hended, hW, hframe⟩ := X.leave (v := some (.int 1)) (hlocks := hlocks) (fun h => by rw [hr] at h; cases h)
  have hmeth' : T.vm.method? m = some meth := X.method'
  refine ⟨T.setFrames fs, ?_, .returned (some (.int 1)), hrun, hended, rfl, lw_closed hd0 ⟨_, rfl⟩ hW hframe⟩
  jvm_step X.here [X.here.top, hx, hb, hdg, hmeth', hr, ret, narrow_b1]
  (try refine ⟨rfl, ?_⟩); (try refine ⟨rfl, ?_⟩)
  first | (intro acts; rw [hret _ acts rfl rfl rfl]) | rw [hret _ _ rfl rfl rfl]
  exact Steps.refl _
/-- what holds at the law's entry: the machine, the code, the tables' words (any of lw_tbl by 'hts w (by decide +kernel)'), the script of L ints xs at the cell b, what the Statement gives of the start (any of its parts by flat_of_before) -/
def lw_At (p : Program) (s : State) (m : MethodId) (meth : Method) (c : Code) (b L : Nat) (xs : Nat → Int32) : Prop :=
  p.tables.exec = Jvm.exec ∧ c.code = code ∧ meth.sig.returnType = ret ∧ c.maxLocals = 9 ∧ s.vm.findClass R_law = some m.cls ∧ (∀ w ∈ lw_tbl, w.before #[Value.ref b] s = true) ∧ va_X b L xs s s.heap ∧ b < s.heap.size ∧ meth.locks = false ∧ (Jvm.Cond.and given_1 narrow_1).before #[Value.ref b] s = true
-- ===== YOUR PART BEGINS =====
theorem law_ret1 {p : Program} {e : Env} {S_ : State} {M_ : MethodId} {below : List Frame} {meth : Method} {c : Code} {l : Launch} {q : Nat} (G : CallFix p M_ c cL_law 9 S_ #[Value.ref q] gw RL ∧ True) (hr : meth.sig.returnType = ret) (hlocks : meth.locks = false) {H : Heap} {locs : List Loc} {ls : Array Slot} {cells slots : Nat} (hc1 : cells ≤ 600002) (hs1 : slots ≤ 7302231) (hS : va_S (nA S_) S_.heap H locs) : W p l e room_1 S_ M_ #[Value.ref q] below meth c H locs cells slots (lw_Z below #[Value.ref q] S_) (F0 M_ 1781 ls []) := by
  obtain ⟨hx, hb, hml, hown, hts⟩ := id G.1
  refine lv_iconst (v := 1) hx hb dL_law_1781 (by decide) ?_
  refine va_forget (fun z hz => hS.2.2 z hz) (W.widen hc1 hs1 ?_)
  exact W.base (lw_ret (d0 := S_.drawn) (Drawn.sameBut.refl S_.drawn lw_cs) hx hb hr hlocks dL_law_1782)
theorem law_end {p : Program} {e : Env} {S_ : State} {M_ : MethodId} {below : List Frame} {meth : Method} {c : Code} {l : Launch} {q : Nat} {xs : Nat → Int32} (G : CallFix p M_ c cL_law 9 S_ #[Value.ref q] gw RL ∧ True) (hXs : va_X q 5 xs S_ S_.heap) (hbl : q < S_.heap.size) (hr : meth.sig.returnType = ret) (hlocks : meth.locks = false) {w : GP} {u : MP} {o : Nat} {H : Heap} {locs : List Loc} {ls : Array Slot} (hS : va_S (nA S_) S_.heap H locs) (hl : lv_has ls 9 [(4, .int (nI 0)), (3, .ref o), (2, .ref (u.2.1 0)), (1, .ref (w.2.2.2 0)), (0, .ref q)]) : W p l e room_1 S_ M_ #[Value.ref q] below meth c H locs 600002 7302231 (lw_Z below #[Value.ref q] S_) (F0 M_ 1775 ls []) := by
  obtain ⟨hx, hb, hml, hown, hts⟩ := id G.1
  refine lv_iinc (v := nI 5) (lv' := [(4, .int (nI 5)), (3, .ref o), (2, .ref (u.2.1 0)), (1, .ref (w.2.2.2 0)), (0, .ref q)]) hx hb dL_law_1775 hl (k := 0) rfl (g_inc 0 5) (by decide) rfl (fun ls hl => ?_)
  refine lv_goto (tgt := 23) hx hb dL_law_1778 (by decide) ?_
  refine lv_iload hx hb dL_law_23 (lv_at hl 0 rfl) ?_
  refine lv_aload_n hx hb dL_law_25 rfl (lv_at hl 4 rfl) ?_
  refine va_slen hx hb hXs hbl (Nat.not_le.mpr hbl) hS dL_law_26 ?_
  refine lv_iconst (v := nI 5) hx hb dL_law_27 (by decide) ?_
  refine lv_isub hx hb dL_law_28 ?_
  refine lv_icmp_gt (tgt := 1781) hx hb dL_law_29 (by decide) (fun _ => ?_) (fun z => absurd (by decide : (Int32.ofNat 5 - nI 5) < nI 5) z)
  exact law_ret1 G hr hlocks (Nat.le_refl _) (Nat.le_refl _) hS
set_option maxRecDepth 100000 in
set_option maxHeartbeats 4000000 in
theorem law_turn {p : Program} {e : Env} {S_ : State} {M_ : MethodId} {below : List Frame} {meth : Method} {c : Code} {l : Launch} (hfl : l.stackTraces = false) {q : Nat} {xs : Nat → Int32} (G : CallFix p M_ c cL_law 9 S_ #[Value.ref q] gw RL ∧ True) (hall : ∀ v ∈ gwx, v.before #[Value.ref q] S_ = true) (hLB : LB S_) (hXs : va_X q 5 xs S_ S_.heap) (hbl : q < S_.heap.size) (hr : meth.sig.returnType = ret) (hlocks : meth.locks = false) {w : GP} {u : MP} {ca : Nat} {ad : Nat → Nat} {o : Nat} {cL : ClassId} {H : Heap} {locs : List Loc} {ls : Array Slot} (hW9 : LW w u ca ad o cL S_ H locs) (hl : lv_has ls 9 [(4, .int (nI 0)), (3, .ref o), (2, .ref (u.2.1 0)), (1, .ref (w.2.2.2 0)), (0, .ref q)]) : W p l e room_1 S_ M_ #[Value.ref q] below meth c H locs 61 808 (lw_Z below #[Value.ref q] S_) (F0 M_ 32 ls []) := by
  obtain ⟨hx, hb, hml, hown, hts⟩ := id G.1
  have hS := hW9.2.1.2.2.2.2
  have kk : ∀ (H1 : Heap) (locs1 : List Loc) (ls1 : Array Slot), va_S (nA S_) S_.heap H1 locs1 → lv_has ls1 9 [(4, .int (nI 0)), (3, .ref o), (2, .ref (u.2.1 0)), (1, .ref (w.2.2.2 0)), (0, .ref q)] → W p l e room_1 S_ M_ #[Value.ref q] below meth c H1 locs1 600002 7302231 (lw_Z below #[Value.ref q] S_) (F0 M_ 1775 ls1 []) := fun H1 locs1 ls1 h1 h2 => law_end G hXs hbl hr hlocks h1 h2
  refine lv_aload_n hx hb dL_law_32 rfl (lv_at hl 4 rfl) ?_
  refine lv_iload hx hb dL_law_33 (lv_at hl 0 rfl) ?_
  refine va_sld hx hb hXs hbl (Nat.not_le.mpr hbl) hS (nI_in (by omega) (by omega)) dL_law_35 ?_
  refine lv_bipush (v := 31) hx hb dL_law_36 (by decide) ?_
  refine lv_iand hx hb dL_law_38 ?_
  obtain ⟨n, hn, he⟩ := and31 (xs 0)
  refine W.eq (g2 := F0 M_ 39 ls [.int (nI n)]) (by rw [← he]; rfl) ?_
  have hc : n = 0 ∨ n = 1 ∨ n = 2 ∨ n = 3 ∨ n = 4 ∨ n = 5 ∨ n = 6 ∨ n = 7 ∨ n = 8 ∨ n = 9 ∨ n = 10 ∨ n = 11 ∨ n = 12 ∨ n = 13 ∨ n = 14 ∨ n = 15 ∨ n = 16 ∨ n = 17 ∨ n = 18 ∨ n = 19 ∨ n = 20 ∨ n = 21 ∨ n = 22 ∨ n = 23 ∨ n = 24 ∨ n = 25 ∨ n = 26 ∨ n = 27 ∨ n = 28 ∨ n = 29 ∨ n = 30 ∨ n = 31 := by omega
  clear he
  rcases hc with rfl | rfl | rfl | rfl | rfl | rfl | rfl | rfl | rfl | rfl | rfl | rfl | rfl | rfl | rfl | rfl | rfl | rfl | rfl | rfl | rfl | rfl | rfl | rfl | rfl | rfl | rfl | rfl | rfl | rfl | rfl | rfl
  · refine lv_tableIn (off := 113) (tgt := 152) hx hb dL_law_39 (by decide) (by decide) (by decide) (by decide) ?_
    by_cases h0 : nI 0 ≤ xs 1 ∧ xs 1 ≤ nI 3
    · obtain ⟨k, hk, h1, h2⟩ := nI_rng h0 (by decide) (by decide)
      exact k_concept_r hfl G hall hLB hXs hbl hW9 hl kk hk h1 h2
    · exact k_concept_x hfl G hall hLB hXs hbl hW9 hl kk h0
  · refine lv_tableIn (off := 169) (tgt := 208) hx hb dL_law_39 (by decide) (by decide) (by decide) (by decide) ?_
    exact k_term hfl G hall hLB hXs hbl hW9 hl kk
  · refine lv_tableIn (off := 249) (tgt := 288) hx hb dL_law_39 (by decide) (by decide) (by decide) (by decide) ?_
    by_cases hb3 : xs 3 = 0
    · exact k_vote_f hfl G hall hLB hXs hbl hW9 hl kk hb3
    · exact k_vote_t hfl G hall hLB hXs hbl hW9 hl kk hb3
  · refine lv_tableIn (off := 345) (tgt := 384) hx hb dL_law_39 (by decide) (by decide) (by decide) (by decide) ?_
    exact k_prefer hfl G hall hLB hXs hbl hW9 hl kk
  · refine lv_tableIn (off := 401) (tgt := 440) hx hb dL_law_39 (by decide) (by decide) (by decide) (by decide) ?_
    exact k_ban hfl G hall hLB hXs hbl hW9 hl kk
  · refine lv_tableIn (off := 469) (tgt := 508) hx hb dL_law_39 (by decide) (by decide) (by decide) (by decide) ?_
    exact k_allow hfl G hall hLB hXs hbl hW9 hl kk
  · refine lv_tableIn (off := 525) (tgt := 564) hx hb dL_law_39 (by decide) (by decide) (by decide) (by decide) ?_
    exact k_ofTerm hfl G hall hLB hXs hbl hW9 hl kk
  · refine lv_tableIn (off := 593) (tgt := 632) hx hb dL_law_39 (by decide) (by decide) (by decide) (by decide) ?_
    exact k_ofConcept hfl G hall hLB hXs hbl hW9 hl kk
  · refine lv_tableIn (off := 661) (tgt := 700) hx hb dL_law_39 (by decide) (by decide) (by decide) (by decide) ?_
    exact k_split hfl G hall hLB hXs hbl hW9 hl kk
  · refine lv_tableIn (off := 741) (tgt := 780) hx hb dL_law_39 (by decide) (by decide) (by decide) (by decide) ?_
    exact k_join hfl G hall hLB hXs hbl hW9 hl kk
  · refine lv_tableIn (off := 809) (tgt := 848) hx hb dL_law_39 (by decide) (by decide) (by decide) (by decide) ?_
    exact k_document hfl G hall hLB hXs hbl hW9 hl kk
  · refine lv_tableIn (off := 853) (tgt := 892) hx hb dL_law_39 (by decide) (by decide) (by decide) (by decide) ?_
    exact k_write hfl G hall hLB hXs hbl hW9 hl kk
  · refine lv_tableIn (off := 945) (tgt := 984) hx hb dL_law_39 (by decide) (by decide) (by decide) (by decide) ?_
    exact k_cut hfl G hall hLB hXs hbl hW9 hl kk
  · refine lv_tableIn (off := 1013) (tgt := 1052) hx hb dL_law_39 (by decide) (by decide) (by decide) (by decide) ?_
    exact k_approve hfl G hall hLB hXs hbl hW9 hl kk
  · refine lv_tableIn (off := 1081) (tgt := 1120) hx hb dL_law_39 (by decide) (by decide) (by decide) (by decide) ?_
    exact k_use hfl G hall hLB hXs hbl hW9 hl kk
  · refine lv_tableIn (off := 1161) (tgt := 1200) hx hb dL_law_39 (by decide) (by decide) (by decide) (by decide) ?_
    exact k_ofText hfl G hall hLB hXs hbl hW9 hl kk
  · refine lv_tableIn (off := 1241) (tgt := 1280) hx hb dL_law_39 (by decide) (by decide) (by decide) (by decide) ?_
    exact k_agreement hfl G hall hLB hXs hbl hW9 hl kk
  · refine lv_tableIn (off := 1297) (tgt := 1336) hx hb dL_law_39 (by decide) (by decide) (by decide) (by decide) ?_
    by_cases h0 : nI 1 ≤ xs 1 ∧ xs 1 ≤ nI 40
    · obtain ⟨k, hk, h1, h2⟩ := nI_rng h0 (by decide) (by decide)
      exact k_pass_r hfl G hall hLB hXs hbl hW9 hl kk hk h1 h2
    · exact k_pass_x hfl G hall hLB hXs hbl hW9 hl kk h0
  · refine lv_tableIn (off := 1353) (tgt := 1392) hx hb dL_law_39 (by decide) (by decide) (by decide) (by decide) ?_
    by_cases h0 : nI 0 ≤ xs 1 ∧ xs 1 ≤ nI 12
    · obtain ⟨k, hk, h1, h2⟩ := nI_rng h0 (by decide) (by decide)
      exact k_many_r hfl G hall hLB hXs hbl hW9 hl kk hk h1 h2
    · exact k_many_x hfl G hall hLB hXs hbl hW9 hl kk h0
  · refine lv_tableIn (off := 1409) (tgt := 1448) hx hb dL_law_39 (by decide) (by decide) (by decide) (by decide) ?_
    exact k_meanConsistency hfl G hall hLB hXs hbl hW9 hl kk
  · refine lv_tableIn (off := 1450) (tgt := 1489) hx hb dL_law_39 (by decide) (by decide) (by decide) (by decide) ?_
    exact k_reopenedBy hfl G hall hLB hXs hbl hW9 hl kk
  · refine lv_tableIn (off := 1506) (tgt := 1545) hx hb dL_law_39 (by decide) (by decide) (by decide) (by decide) ?_
    by_cases h0 : nI 1 ≤ xs 1 ∧ xs 1 ≤ nI 40
    · obtain ⟨k, hk, h1, h2⟩ := nI_rng h0 (by decide) (by decide)
      exact k_reopenedIn_r hfl G hall hLB hXs hbl hW9 hl kk hk h1 h2
    · exact k_reopenedIn_x hfl G hall hLB hXs hbl hW9 hl kk h0
  · refine lv_tableIn (off := 1562) (tgt := 1601) hx hb dL_law_39 (by decide) (by decide) (by decide) (by decide) ?_
    exact k_changedBy hfl G hall hLB hXs hbl hW9 hl kk
  · refine lv_tableIn (off := 1630) (tgt := 1669) hx hb dL_law_39 (by decide) (by decide) (by decide) (by decide) ?_
    exact k_formFor hfl G hall hLB hXs hbl hW9 hl kk
  · refine lv_tableIn (off := 1722) (tgt := 1761) hx hb dL_law_39 (by decide) (by decide) (by decide) (by decide) ?_
    exact k_digest hfl G hall hLB hXs hbl hW9 hl kk
  · refine lv_tableOut (tgt := 1775) hx hb dL_law_39 (by decide) (by decide) ?_
    exact W.widen (by decide) (by decide) (kk H locs ls hS hl)
  · refine lv_tableOut (tgt := 1775) hx hb dL_law_39 (by decide) (by decide) ?_
    exact W.widen (by decide) (by decide) (kk H locs ls hS hl)
  · refine lv_tableOut (tgt := 1775) hx hb dL_law_39 (by decide) (by decide) ?_
    exact W.widen (by decide) (by decide) (kk H locs ls hS hl)
  · refine lv_tableOut (tgt := 1775) hx hb dL_law_39 (by decide) (by decide) ?_
    exact W.widen (by decide) (by decide) (kk H locs ls hS hl)
  · refine lv_tableOut (tgt := 1775) hx hb dL_law_39 (by decide) (by decide) ?_
    exact W.widen (by decide) (by decide) (kk H locs ls hS hl)
  · refine lv_tableOut (tgt := 1775) hx hb dL_law_39 (by decide) (by decide) ?_
    exact W.widen (by decide) (by decide) (kk H locs ls hS hl)
  · refine lv_tableOut (tgt := 1775) hx hb dL_law_39 (by decide) (by decide) ?_
    exact W.widen (by decide) (by decide) (kk H locs ls hS hl)
