/-! The law's act: its table of handlers, calls that throw and are caught there, its end. -/
abbrev actH : List (Nat × Nat × Nat × Nat) := [(52, 180, 682, 110), (181, 220, 682, 110), (221, 267, 682, 110), (268, 345, 682, 110), (346, 369, 682, 110), (370, 427, 682, 110), (428, 481, 682, 110), (482, 509, 682, 110), (510, 548, 682, 110), (549, 616, 682, 110), (617, 670, 682, 110), (671, 681, 682, 110), (52, 180, 694, 112), (181, 220, 694, 112), (221, 267, 694, 112), (268, 345, 694, 112), (346, 369, 694, 112), (370, 427, 694, 112), (428, 481, 694, 112), (482, 509, 694, 112), (510, 548, 694, 112), (549, 616, 694, 112), (617, 670, 694, 112), (671, 681, 694, 112), (52, 180, 724, 114), (181, 220, 724, 114), (221, 267, 724, 114), (268, 345, 724, 114), (346, 369, 724, 114), (370, 427, 724, 114), (428, 481, 724, 114), (482, 509, 724, 114), (510, 548, 724, 114), (549, 616, 724, 114), (617, 670, 724, 114), (671, 681, 724, 114)]
abbrev ghs (y : MethodName) (b : ByteArray) (n : Nat) (r : Option FieldType) (hh : List (Nat × Nat × Nat × Nat)) : List Cond := .codeWith y b n r hh :: gwx
theorem gh_good {y : MethodName} {b : ByteArray} {n : Nat} {r : Option FieldType} {hh : List (Nat × Nat × Nat × Nat)} (h : Cond.codeWith y b n r hh ∈ gw) : GoodIn gwx (ghs y b n r hh) := fun v hv => by
  rcases List.mem_cons.mp hv with rfl | hv
  · exact ⟨gx_in h, good_of_word (List.all_eq_true.mp gw_good _ h)⟩
  · exact ⟨hv, good_of_word (List.all_eq_true.mp gwx_good _ hv)⟩
def GNc (U : State) : Prop := va_Nc eA eI U ∧ va_Nc eS eI U ∧ va_Nc eS eA U
theorem GNc.moved {u U : State} (hvm : u.vm.Alike U.vm) (h : GNc u) : GNc U := ⟨va_Nc.moved hvm h.1, va_Nc.moved hvm h.2.1, va_Nc.moved hvm h.2.2⟩
theorem GNc.same {u U : State} (hv : u.vm = U.vm) (h : GNc u) : GNc U := h.moved (by rw [hv]; exact Vm.Alike.refl U.vm)
abbrev gPa (w : GP) (f : CS) (av : List Value) : Array Value → State → Prop := va_Pc av (fun U => GV w U f U.heap ∧ GX w U U.heap ∧ GNc U)
theorem ga_blind {w : GP} {f : CS} {av : List Value} : FrameBlind (gPa w f av) := fun a U g mk q => ⟨q.1, ⟨q.2.1.1.same (U := U.calling g mk a) rfl, q.2.1.2⟩, q.2.2.1.same (U := U.calling g mk a) rfl, q.2.2.2.same (U := U.calling g mk a) rfl⟩
theorem a_read {l : Launch} {y : MethodName} {b : ByteArray} {mL : Nat} {ret : Option FieldType} {hh : List (Nat × Nat × Nat × Nat)} {rm : Room} {av : List Value} {w : GP} {f : CS} {Qc : Array Value → State → Outcome → State → Prop} {fr : Nat → Prop} {mc ms : Nat} (hy : plainName y.cls = true) (hsz : (lg_sl av).length ≤ mL)
    (body : ∀ (p : Program) (e : Env) (s : State) (m : MethodId) (below : List Frame) (meth : Method) (c : Code) (ls : Array Slot), Gx p c b mL s av.toArray y.cls m meth ret → (∀ v ∈ gwx, v.before av.toArray s = true) → c.exceptionTable.toList = tableOf hh → GX w s s.heap → GNc s → GV w s f s.heap → lv_has ls mL (lv_args 0 av) → W p l e rm s m av.toArray below meth c s.heap [] 0 0 (MQ below Qc av.toArray s mc ms fr) (F0 m 0 ls [])) :
    Met l y (ghs y b mL ret hh) rm (gPa w f av) Qc mc ms fr := by
  refine MetFree.of_bodyS (code := b) (maxLocals := mL) (ret := ret) hy ?_ ?_
  · intro args s m h hn
    obtain ⟨m9, meth, c, hn9, h1, h2, h3, h4, -, h5, h6, -⟩ := Cond.codeWith_spec (atoms_spec (ws := ghs y b mL ret hh) h _ List.mem_cons_self)
    cases hn.symm.trans hn9
    exact ⟨meth, c, h1, h2, h3, h4, h5, h6⟩
  · intro p e s m args below meth c s₁ B hml hP _
    have hh0 : s₁.heap = s.heap := by rw [B.state]; rfl
    obtain ⟨rfl, hV, hX, hN⟩ := hP
    have hall : ∀ v ∈ gwx, v.before av.toArray s = true := fun v hv => atoms_spec (ws := ghs y b mL ret hh) B.pre v (List.mem_cons_of_mem _ hv)
    have hT := vx_table (x := y) B (atoms_spec (ws := ghs y b mL ret hh) B.pre _ List.mem_cons_self)
    have K : W p l e rm s m av.toArray below meth c s.heap [] 0 0 (MQ below Qc av.toArray s mc ms fr) (entryFrame m av.toArray mL) := by
      rw [lg_entry_eq]
      exact body p e s m below meth c _ ⟨⟨B.exec, B.bytes, hml, findClass_of_methodNamed B.named, fun v hv => hall v (gx_in hv)⟩, B.returns, B.notSynchronized⟩ hall hT hX hN hV (lv_entry av hsz)
    obtain ⟨t, a1, o, b1, b2, b3⟩ := K s₁ hh0 (Stand.of_body B)
    exact ⟨t, o, a1, b1, b2, b3⟩
section AK
variable {p : Program} {l : Launch} {e : Env} {R : Room} {s : State} {m : MethodId} {args : Array Value} {below : List Frame} {meth : Method} {c : Code} {H : Heap} {locs : List Loc} {cells slots : Nat} {Q : State → Prop}
variable {cc : ByteArray} {pc : Nat} {ls : Array Slot} {rest st As : List Value} {w : GP} {f : CS} {A : Nat → Prop} {own : String} {nL mL n index : Nat} {E0 : String} {a : Array Value} {y : MethodName} {b : ByteArray} {ret : Option FieldType} {rm : Room}
theorem GS.more {H1 : Heap} (hG : GS w A s H locs f) (hz : H.size ≤ H1.size) (hk : ∀ i : Nat, i < H.size → H1[i]? = H[i]?) : GS w A s H1 locs f :=
  ⟨⟨hG.1.1, hG.1.2.1.kept (fun k x hx9 => hk x.1 ((hG.1.2.1 k x hx9).lt)), hG.1.2.2⟩, ⟨Nat.le_trans hG.2.1.1 hz, fun q h1 h2 => (hk q (Nat.lt_of_lt_of_le h1 hG.2.1.1)).trans (hG.2.1.2.1 q h1 h2), hG.2.1.2.2⟩, hG.2.2⟩
theorem GX.at (hX : GX w s s.heap) (hG : GS w (gA w) s H locs f) : GX w s H := hX.kept (fun q h1 h2 => hG.2.1.2.1 q h1 h2)
theorem a_thr (hr : vx_Run p l e R s m args below meth c H locs cells slots 1 6 (F0 m pc ls st) rest (noQ a) (gT E0) (fun _ => False)) (kk : ∀ (q : Addr) (H1 : Heap) (ce : Cell), H.size ≤ H1.size → (∀ i : Nat, i < H.size → H1[i]? = H[i]?) → H1[q]? = some ce → ce.vm = .none → s.vm.findClass E0 = some ce.cls → vx_W p l e R s m args below meth c H1 locs (cells + 1) (slots + 6) Q (F0 m pc ls rest) q) : W p l e R s m args below meth c H locs cells slots Q (F0 m pc ls st) := by
  intro T hT X
  rcases hr T hT X with ⟨v, st₀, t, T', L, h0, X', hL, e1, e2, hq, stp⟩ | ⟨q, st₀, t, T', L, E, ce, h0, X', hL, e1, e2, ⟨rfl, hz, hk⟩, hce, hcv, hcl, stp⟩
  · exact hq.elim
  · rw [h0] at hz hk
    obtain ⟨t2, a1, b1⟩ := kk q T'.heap ce (by rw [e1]; exact hz) (fun i hi => by rw [e1]; exact hk i hi) (by rw [e1]; exact hce) hcv hcl T' rfl (Stand.forget X' (fun z h => (hL z h).elim))
    exact ⟨t2, stp.trans a1, b1⟩
theorem a_catch {E name : String} {ct hp a0 b0 : Nat} {q : Addr} {ce : Cell} (hown : s.vm.findClass RL = some m.cls) (hts : ∀ v ∈ gw, v.before args s = true) (hT : c.exceptionTable.toList = tableOf actH) (i : Nat) (nc : List (Nat × String)) (hx : (tableOf actH)[i]? = some ⟨a0, b0, hp, ct⟩) (hcov : covers (⟨a0, b0, hp, ct⟩ : ExceptionTableEntry) pc = true) (h0 : ct ≠ 0) (hpre : ((tableOf actH).take i).all (fun z => !(covers z pc) || nc.any (fun q => decide (z.catchType = q.1))) = true) (hn : ∀ q ∈ nc, q.1 ≠ 0 ∧ Cond.classLink RL q.1 q.2 ∈ gw ∧ va_Nc E q.2 s) (hlink : Cond.classLink RL ct name ∈ gw) (hcast : (Cond.castable E name).before args s = true) (hcell : H[q]? = some ce) (hv : ce.vm = .none) (hcl : s.vm.findClass E = some ce.cls)
    (kk : W p l e R s m args below meth c H locs cells slots Q (F0 m hp ls [.ref q])) : vx_W p l e R s m args below meth c H locs cells slots Q (F0 m pc ls rest) q := by
  refine vx_catch hown ((tableOf actH).take i) ⟨a0, b0, hp, ct⟩ ((tableOf actH).drop (i + 1)) ?_ (fun z hz => ?_) hcov h0 (hts _ hlink) hcast hcell hv hcl kk
  · obtain ⟨hi, e⟩ := List.getElem?_eq_some_iff.mp hx
    rw [hT, ← e, ← List.drop_eq_getElem_cons hi, List.take_append_drop]
  · have h1 := List.all_eq_true.mp hpre z hz
    rcases Bool.or_eq_true_iff.mp h1 with h2 | h2
    · left
      cases h3 : covers z pc with
      | false => rfl
      | true => rw [h3] at h2; cases h2
    · right
      obtain ⟨q9, hq9, e9⟩ := List.any_eq_true.mp h2
      have e9 := of_decide_eq_true e9
      obtain ⟨k1, k2, k3⟩ := hn q9 hq9
      rw [e9]
      exact ⟨k1, q9.2, hts _ k2, k3⟩
theorem a_runX (S : CallFix p m c cc nL s args gw own) (hall : ∀ v ∈ gwx, v.before args s = true) (hV : GV w s f H) (hX : GX w s H) (j : Nat) (hj : j < 56) {ci N : Nat} {T : u_T} {fs : List Value} (he : gE w f j = .inr (ci, fs)) (hc : gcl[ci]? = some (y.cls, T, N)) (ok : gOK y b mL ret n) (hin : Cond.instanceMethod y ∈ gw) (hse : Cond.selects y.cls y y ∈ gw) (hlk : Cond.methodLink own index y ∈ gw)
    (hM : vx_Met l y (gxs y b mL ret) rm (gPx w f (.ref (w.2.2.2 j) :: As)) noQ (gT E0) 1 6 (fun _ => False)) (hrm : rm.cells = 1 ∧ rm.slots = 6) (hR : rm.frames + 1 ≤ R.frames ∧ 8 + (mL + 11) + rm.locals ≤ R.locals) (hn : As.length = n) (hsz : ls.size = nL) (hst : st = As.reverse ++ .ref (w.2.2.2 j) :: rest) (hW : (rest.map fun v => v.category).sum ≤ 8) (hcs : cells + 1 ≤ R.cells ∧ slots + 6 ≤ R.slots) (hdg : decode cc pc = .ok (.invokevirtual index, 3)) :
    vx_Run p l e R s m args below meth c H locs cells slots 1 6 (F0 m pc ls st) rest (noQ (Value.ref (w.2.2.2 j) :: As).toArray) (gT E0) (fun _ => False) :=
  vx_runV ⟨S.1, S.2.1, S.2.2.1, S.2.2.2.1, hall⟩ hM ⟨g_cbx hall ok hlk hrm hR, hall _ (gx_in hin), hall _ (gx_in hse)⟩ (gx_preV hV hX j hj he hc) rfl hn hsz hst (lv_room hW) hdg hcs
theorem gx_preS (hV : GV w s f H) (hX : GX w s H) : PreS s H (gPx w f As) As := ⟨gx_blind, fun U hU hW => ⟨rfl, by rw [hU]; exact hV.moved hW, by rw [hU]; exact hX.moved hW⟩⟩
theorem a_runXS (S : CallFix p m c cc nL s args gw own) (hall : ∀ v ∈ gwx, v.before args s = true) (hV : GV w s f H) (hX : GX w s H) (ok : gOK y b mL ret n) (hin : Cond.static y ∈ gw) (hlk : Cond.methodLink own index y ∈ gw)
    (hM : vx_Met l y (gxs y b mL ret) rm (gPx w f As) noQ (gT E0) 1 6 (fun _ => False)) (hrm : rm.cells = 1 ∧ rm.slots = 6) (hR : rm.frames + 1 ≤ R.frames ∧ 8 + (mL + 11) + rm.locals ≤ R.locals) (hn : As.length = n) (hsz : ls.size = nL) (hst : st = As.reverse ++ rest) (hW : (rest.map fun v => v.category).sum ≤ 8) (hcs : cells + 1 ≤ R.cells ∧ slots + 6 ≤ R.slots) (hdg : decode cc pc = .ok (.invokestatic index, 3)) :
    vx_Run p l e R s m args below meth c H locs cells slots 1 6 (F0 m pc ls st) rest (noQ As.toArray) (gT E0) (fun _ => False) :=
  vx_runS ⟨S.1, S.2.1, S.2.2.1, S.2.2.2.1, hall⟩ hM ⟨g_cbx hall ok hlk hrm hR, hall _ (gx_in hin)⟩ (gx_preS hV hX) rfl hn hsz hst (lv_room hW) hdg hcs
/-- an IllegalStateException, caught at 724 -/
theorem a_724s (hown : s.vm.findClass RL = some m.cls) (hts : ∀ v ∈ gw, v.before args s = true) (hT : c.exceptionTable.toList = tableOf actH) (hX : GX w s s.heap) (hN : GNc s) (hG : GS w (gA w) s H locs f) (i : Nat) {a0 b0 : Nat} (hx : (tableOf actH)[i]? = some ⟨a0, b0, 724, 114⟩) (hcov : covers (⟨a0, b0, 724, 114⟩ : ExceptionTableEntry) pc = true) (hpre : ((tableOf actH).take i).all (fun z => !(covers z pc) || [(110, eI), (112, eA)].any (fun q => decide (z.catchType = q.1))) = true) (hr : vx_Run p l e R s m args below meth c H locs cells slots 1 6 (F0 m pc ls st) rest (noQ a) (gT eS) (fun _ => False))
    (kk : ∀ (q : Addr) (H1 : Heap), GS w (gA w) s H1 locs f → W p l e R s m args below meth c H1 locs (cells + 1) (slots + 6) Q (F0 m 724 ls [.ref q])) : W p l e R s m args below meth c H locs cells slots Q (F0 m pc ls st) :=
  a_thr hr (fun q H1 ce hz hk hce hcv hcl => a_catch hown hts hT i [(110, eI), (112, eA)] hx hcov (by decide) hpre (fun q9 hq9 => by
    rcases List.mem_cons.mp hq9 with rfl | hq9
    · exact ⟨by decide, gm_473, hN.2.1⟩
    · rcases List.mem_cons.mp hq9 with rfl | hq9
      · exact ⟨by decide, gm_474, hN.2.2⟩
      · cases hq9) gm_475 (va_Nw.use rfl hX.2.2.1.2.1) hce hcv hcl (kk q H1 (hG.more hz hk)))
/-- an IllegalArgumentException, caught at 694 -/
theorem a_694s (hown : s.vm.findClass RL = some m.cls) (hts : ∀ v ∈ gw, v.before args s = true) (hT : c.exceptionTable.toList = tableOf actH) (hX : GX w s s.heap) (hN : GNc s) (hG : GS w (gA w) s H locs f) (i : Nat) {a0 b0 : Nat} (hx : (tableOf actH)[i]? = some ⟨a0, b0, 694, 112⟩) (hcov : covers (⟨a0, b0, 694, 112⟩ : ExceptionTableEntry) pc = true) (hpre : ((tableOf actH).take i).all (fun z => !(covers z pc) || [(110, eI)].any (fun q => decide (z.catchType = q.1))) = true) (hr : vx_Run p l e R s m args below meth c H locs cells slots 1 6 (F0 m pc ls st) rest (noQ a) (gT eA) (fun _ => False))
    (kk : ∀ (q : Addr) (H1 : Heap), GS w (gA w) s H1 locs f → W p l e R s m args below meth c H1 locs (cells + 1) (slots + 6) Q (F0 m 694 ls [.ref q])) : W p l e R s m args below meth c H locs cells slots Q (F0 m pc ls st) :=
  a_thr hr (fun q H1 ce hz hk hce hcv hcl => a_catch hown hts hT i [(110, eI)] hx hcov (by decide) hpre (fun q9 hq9 => by
    rcases List.mem_cons.mp hq9 with rfl | hq9
    · exact ⟨by decide, gm_473, hN.1⟩
    · cases hq9) gm_474 (va_Nw.use rfl hX.2.2.1.1) hce hcv hcl (kk q H1 (hG.more hz hk)))
theorem a_zret (G : Gx p c cc nL s args own m meth (some .boolean)) (hG : GS w (gA w) s H locs f) {v : Int32} {post : Option Value → CS → Prop} (hv : post (some (.int v)) f) (hn : v = 0 ∨ v = 1) (hc1 : cells ≤ 1) (hs6 : slots ≤ 6) (hdg : decode cc pc = .ok (.ireturn, 1)) : W p l e R s m args below meth c H locs cells slots (MQ below (gWr w post) args s 1 6 (gA w)) (F0 m pc ls [.int v]) :=
  W.widen hc1 hs6 (W.zret (ty := .boolean) G.1.1 G.1.2.1 G.2.1 (by rcases hn with rfl | rfl <;> decide) (fun t ht hW => ⟨⟨_, f, rfl, hv, by rw [ht]; exact hG.1.moved hW⟩, hG.2.1.F ht⟩) hG.2.1.2.2 hdg G.2.2)
theorem a_callSW (S : CallFix p m c cc nL s args gw own) (hG : GS w A s H locs f) {post : Option Value → CS → Prop} (ok : gOK y b mL ret n) (hin : Cond.static y ∈ gw) (hlk : Cond.methodLink own index y ∈ gw)
    (hM : Met l y (gws y b mL ret) rm (gPc w f As) (gWr w post) 0 0 (gA w)) (hrm : rm.cells = 0 ∧ rm.slots = 0) (hR : rm.frames + 1 ≤ R.frames ∧ 8 + (mL + 11) + rm.locals ≤ R.locals) (hn : As.length = n) (hsz : ls.size = nL) (hst : st = As.reverse ++ rest) (hW : (rest.map fun v => v.category).sum ≤ 8) (hcs : cells ≤ R.cells ∧ slots ≤ R.slots) (hdg : decode cc pc = .ok (.invokestatic index, 3))
    (kk : ∀ (v : Option Value) (f' : CS) (H1 : Heap) (locs1 : List Loc), post v f' → GS w A s H1 locs1 f' → W p l e R s m args below meth c H1 locs1 cells slots Q (F0 m (pc + 3) ls (v.toList ++ rest))) : W p l e R s m args below meth c H locs cells slots Q (F0 m pc ls st) :=
  g_backW hG (va_runS S hM ⟨g_cb S.2.2.2.2 ok hlk hrm.1 hrm.2 hR, S.2.2.2.2 _ hin⟩ (g_preS hG.1) rfl hn hsz hst (lv_room hW) hdg hcs) kk
end AK
