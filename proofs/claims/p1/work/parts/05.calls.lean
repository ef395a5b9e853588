/-! Calls among the class's methods. -/
abbrev gws (y : MethodName) (b : ByteArray) (n : Nat) (r : Option FieldType) : List Cond := .code y b n r :: gw
def gOK (y : MethodName) (b : ByteArray) (n : Nat) (r : Option FieldType) (k : Nat) : Prop := Cond.code y b n r ∈ gw ∧ Cond.initialized y.cls ∈ gw ∧ (y.cls ≠ "java/lang/invoke/MethodHandle" ∧ y.cls ≠ "java/lang/invoke/VarHandle" ∧ (parseMethodDescriptor y.desc).map (fun d => d.parameters.length) = some k)
theorem g_good {y : MethodName} {b : ByteArray} {n : Nat} {r : Option FieldType} (h : Cond.code y b n r ∈ gw) : GoodIn gw (gws y b n r) := fun v hv => by
  rcases List.mem_cons.mp hv with rfl | hv
  · exact ⟨h, good_of_word (List.all_eq_true.mp gw_good _ h)⟩
  · exact ⟨hv, good_of_word (List.all_eq_true.mp gw_good _ hv)⟩
abbrev gPc (w : GP) (f : CS) (av : List Value) : Array Value → State → Prop := va_Pc av (fun U => GV w U f U.heap)
theorem g_blind {w : GP} {f : CS} {av : List Value} : FrameBlind (gPc w f av) := fun a U g mk q => ⟨q.1, q.2.1.same (U := U.calling g mk a) rfl, q.2.2⟩
/-- what a method that only reads answers -/
def gRd (v : Value) : Array Value → State → Outcome → State → Prop := fun _ st o t => o = .returned (some v) ∧ t.heap = st.heap
def gRv : Array Value → State → Outcome → State → Prop := fun _ st o t => o = .returned none ∧ t.heap = st.heap
/-- what a method that writes the world answers -/
def gWr (w : GP) (post : Option Value → CS → Prop) : Array Value → State → Outcome → State → Prop := fun _ st o t => (∃ (v : Option Value) (f' : CS), o = .returned v ∧ post v f' ∧ GV w t f' t.heap) ∧ va_F (gA w) st t
section GC
variable {p : Program} {l : Launch} {e : Env} {R : Room} {s : State} {m : MethodId} {args : Array Value} {below : List Frame} {meth : Method} {c : Code} {H : Heap} {locs : List Loc} {cells slots : Nat} {Q : State → Prop}
variable {cc : ByteArray} {pc : Nat} {ls : Array Slot} {rest : List Value} {w : GP} {f : CS} {A : Nat → Prop} {own : String} {nL : Nat}
variable {y : MethodName} {b : ByteArray} {mL n index : Nat} {ret : Option FieldType} {rm : Room} {As st : List Value} {a : Array Value} {mc ms : Nat}
theorem g_preV (hV : GV w s f H) (j : Nat) (hj : j < 56) {ci N : Nat} {C : String} {T : u_T} {fs : List Value} (he : gE w f j = .inr (ci, fs)) (hc : gcl[ci]? = some (C, T, N)) : PreV s H C (w.2.2.2 j) (gPc w f (.ref (w.2.2.2 j) :: As)) As :=
  ⟨g_blind, va_recv hV.1.1 hV.2.1 hc (by rw [gW_get hj, he]), fun U hU hW => ⟨rfl, by show GV w U f U.heap; rw [hU]; exact hV.moved hW⟩⟩
theorem g_preS (hV : GV w s f H) : PreS s H (gPc w f As) As := ⟨g_blind, fun U hU hW => ⟨rfl, by show GV w U f U.heap; rw [hU]; exact hV.moved hW⟩⟩
theorem g_backR {v : Value} (hr : va_Run p l e R s m args below meth c H locs cells slots 0 0 (F0 m pc ls st) rest (gRd v a) (fun _ => False)) (kk : W p l e R s m args below meth c H locs cells slots Q (F0 m (pc + 3) ls (v :: rest))) : W p l e R s m args below meth c H locs cells slots Q (F0 m pc ls st) := by
  intro T hT X
  obtain ⟨v', st₀, t, T', L, h0, X', hL, e1, e2, ⟨hv, hh⟩, stp⟩ := hr T hT X
  cases hv
  obtain ⟨t2, a1, b1⟩ := kk T' (by rw [e1, hh, h0]) (Stand.forget X' (fun q h => (hL q h).elim))
  exact ⟨t2, stp t2 a1, b1⟩
theorem g_backV (hr : va_Run p l e R s m args below meth c H locs cells slots 0 0 (F0 m pc ls st) rest (gRv a) (fun _ => False)) (kk : W p l e R s m args below meth c H locs cells slots Q (F0 m (pc + 3) ls rest)) : W p l e R s m args below meth c H locs cells slots Q (F0 m pc ls st) := by
  intro T hT X
  obtain ⟨v', st₀, t, T', L, h0, X', hL, e1, e2, ⟨hv, hh⟩, stp⟩ := hr T hT X
  cases hv
  obtain ⟨t2, a1, b1⟩ := kk T' (by rw [e1, hh, h0]) (Stand.forget X' (fun q h => (hL q h).elim))
  exact ⟨t2, stp t2 a1, b1⟩
theorem g_backW {post : Option Value → CS → Prop} (hG : GS w A s H locs f) (hr : va_Run p l e R s m args below meth c H locs cells slots mc ms (F0 m pc ls st) rest (gWr w post a) (gA w)) (kk : ∀ (v : Option Value) (f' : CS) (H1 : Heap) (locs1 : List Loc), post v f' → GS w A s H1 locs1 f' → W p l e R s m args below meth c H1 locs1 (cells + mc) (slots + ms) Q (F0 m (pc + 3) ls (v.toList ++ rest))) : W p l e R s m args below meth c H locs cells slots Q (F0 m pc ls st) := by
  obtain ⟨hV, hS, hA⟩ := hG
  intro T hT X
  obtain ⟨v', st₀, t, T', L, h0, X', hL, e1, e2, ⟨⟨v, f', hv, hp, hgv⟩, hz, hk⟩, stp⟩ := hr T hT X
  cases hv
  rw [h0] at hz hk
  obtain ⟨t2, a1, b1⟩ := kk v' f' T'.heap (locs ++ L) hp ⟨⟨hV.1, by rw [e1]; exact hgv.2.1, hgv.2.2⟩, ⟨Nat.le_trans hS.1 (by rw [e1]; exact hz), fun q h1 h2 => by rw [e1, hk q (Nat.lt_of_lt_of_le h1 hS.1) (fun z => h2 (hA q z))]; exact hS.2.1 q h1 h2, fun q hq => by
    rcases List.mem_append.mp hq with h | h
    · exact hS.2.2 q h
    · exact hA _ (hL q h)⟩, hA⟩ T' rfl X'
  exact ⟨t2, stp t2 a1, b1⟩
theorem g_cb (hts : ∀ w ∈ gw, w.before args s = true) (ok : gOK y b mL ret n) (hlk : Cond.methodLink own index y ∈ gw) (hrc : rm.cells = mc) (hrs : rm.slots = ms) (hR : rm.frames + 1 ≤ R.frames ∧ 8 + (mL + 11) + rm.locals ≤ R.locals) : CallB R s args own index y b mL ret (gws y b mL ret) rm mc ms n :=
  callB_of n hts (g_good ok.1) rfl hrc hrs (hts _ ok.2.1) (hts _ hlk) ok.2.2 hR
theorem g_cn {host : String} (hts : ∀ w ∈ gw, w.before args s = true) (ok : gOK y b mL ret n) (hl : va_Nw (.methodLinkNest own index y host) s) (hrc : rm.cells = mc) (hrs : rm.slots = ms) (hR : rm.frames + 1 ≤ R.frames ∧ 8 + (mL + 11) + rm.locals ≤ R.locals) : va_CN R s args own index y host b mL ret (gws y b mL ret) rm mc ms n :=
  va_cnB n hts (g_good ok.1) rfl hrc hrs hl (hts _ ok.2.1) ok.2.2 hR
/-- a call of a method of the object j, that only reads -/
theorem g_callV (S : CallFix p m c cc nL s args gw own) (hV : GV w s f H) (j : Nat) (hj : j < 56) {ci N : Nat} {T : u_T} {fs : List Value} {v : Value} (he : gE w f j = .inr (ci, fs)) (hc : gcl[ci]? = some (y.cls, T, N)) (ok : gOK y b mL ret n) (hin : Cond.instanceMethod y ∈ gw) (hse : Cond.selects y.cls y y ∈ gw) (hlk : Cond.methodLink own index y ∈ gw)
    (hM : Met l y (gws y b mL ret) rm (gPc w f (.ref (w.2.2.2 j) :: As)) (gRd v) 0 0 (fun _ => False)) (hrm : rm.cells = 0 ∧ rm.slots = 0) (hR : rm.frames + 1 ≤ R.frames ∧ 8 + (mL + 11) + rm.locals ≤ R.locals) (hn : As.length = n) (hsz : ls.size = nL) (hst : st = As.reverse ++ .ref (w.2.2.2 j) :: rest) (hW : (rest.map fun v => v.category).sum ≤ 8) (hcs : cells ≤ R.cells ∧ slots ≤ R.slots) (hdg : decode cc pc = .ok (.invokevirtual index, 3))
    (kk : W p l e R s m args below meth c H locs cells slots Q (F0 m (pc + 3) ls (v :: rest))) : W p l e R s m args below meth c H locs cells slots Q (F0 m pc ls st) :=
  g_backR (va_runV S hM ⟨g_cb S.2.2.2.2 ok hlk hrm.1 hrm.2 hR, S.2.2.2.2 _ hin, S.2.2.2.2 _ hse⟩ (g_preV hV j hj he hc) rfl hn hsz hst (lv_room hW) hdg hcs) kk
/-- the same of a static method -/
theorem g_callS (S : CallFix p m c cc nL s args gw own) (hV : GV w s f H) {v : Value} (ok : gOK y b mL ret n) (hin : Cond.static y ∈ gw) (hlk : Cond.methodLink own index y ∈ gw)
    (hM : Met l y (gws y b mL ret) rm (gPc w f As) (gRd v) 0 0 (fun _ => False)) (hrm : rm.cells = 0 ∧ rm.slots = 0) (hR : rm.frames + 1 ≤ R.frames ∧ 8 + (mL + 11) + rm.locals ≤ R.locals) (hn : As.length = n) (hsz : ls.size = nL) (hst : st = As.reverse ++ rest) (hW : (rest.map fun v => v.category).sum ≤ 8) (hcs : cells ≤ R.cells ∧ slots ≤ R.slots) (hdg : decode cc pc = .ok (.invokestatic index, 3))
    (kk : W p l e R s m args below meth c H locs cells slots Q (F0 m (pc + 3) ls (v :: rest))) : W p l e R s m args below meth c H locs cells slots Q (F0 m pc ls st) :=
  g_backR (va_runS S hM ⟨g_cb S.2.2.2.2 ok hlk hrm.1 hrm.2 hR, S.2.2.2.2 _ hin⟩ (g_preS hV) rfl hn hsz hst (lv_room hW) hdg hcs) kk
/-- the same of a static method of a nest mate -/
theorem g_callN {host : String} (S : CallFix p m c cc nL s args gw own) (hV : GV w s f H) {v : Value} (ok : gOK y b mL ret n) (hin : Cond.static y ∈ gw) (hlk : va_Nw (.methodLinkNest own index y host) s)
    (hM : Met l y (gws y b mL ret) rm (gPc w f As) (gRd v) 0 0 (fun _ => False)) (hrm : rm.cells = 0 ∧ rm.slots = 0) (hR : rm.frames + 1 ≤ R.frames ∧ 8 + (mL + 11) + rm.locals ≤ R.locals) (hn : As.length = n) (hsz : ls.size = nL) (hst : st = As.reverse ++ rest) (hW : (rest.map fun v => v.category).sum ≤ 8) (hcs : cells ≤ R.cells ∧ slots ≤ R.slots) (hdg : decode cc pc = .ok (.invokestatic index, 3))
    (kk : W p l e R s m args below meth c H locs cells slots Q (F0 m (pc + 3) ls (v :: rest))) : W p l e R s m args below meth c H locs cells slots Q (F0 m pc ls st) :=
  g_backR (va_runSN S hM ⟨g_cn S.2.2.2.2 ok hlk hrm.1 hrm.2 hR, S.2.2.2.2 _ hin, trivial⟩ (g_preS hV) rfl hn hsz hst (lv_room hW) hdg hcs) kk
/-- a call of a method of the object j without an answer, that only reads (and returns) -/
theorem g_callVv (S : CallFix p m c cc nL s args gw own) (hV : GV w s f H) (j : Nat) (hj : j < 56) {ci N : Nat} {T : u_T} {fs : List Value} (he : gE w f j = .inr (ci, fs)) (hc : gcl[ci]? = some (y.cls, T, N)) (ok : gOK y b mL ret n) (hin : Cond.instanceMethod y ∈ gw) (hse : Cond.selects y.cls y y ∈ gw) (hlk : Cond.methodLink own index y ∈ gw)
    (hM : Met l y (gws y b mL ret) rm (gPc w f (.ref (w.2.2.2 j) :: As)) gRv 0 0 (fun _ => False)) (hrm : rm.cells = 0 ∧ rm.slots = 0) (hR : rm.frames + 1 ≤ R.frames ∧ 8 + (mL + 11) + rm.locals ≤ R.locals) (hn : As.length = n) (hsz : ls.size = nL) (hst : st = As.reverse ++ .ref (w.2.2.2 j) :: rest) (hW : (rest.map fun v => v.category).sum ≤ 8) (hcs : cells ≤ R.cells ∧ slots ≤ R.slots) (hdg : decode cc pc = .ok (.invokevirtual index, 3))
    (kk : W p l e R s m args below meth c H locs cells slots Q (F0 m (pc + 3) ls rest)) : W p l e R s m args below meth c H locs cells slots Q (F0 m pc ls st) :=
  g_backV (va_runV S hM ⟨g_cb S.2.2.2.2 ok hlk hrm.1 hrm.2 hR, S.2.2.2.2 _ hin, S.2.2.2.2 _ hse⟩ (g_preV hV j hj he hc) rfl hn hsz hst (lv_room hW) hdg hcs) kk
/-- a call of a method of the object j that writes the world -/
theorem g_callW (S : CallFix p m c cc nL s args gw own) (hG : GS w A s H locs f) (j : Nat) (hj : j < 56) {ci N : Nat} {T : u_T} {fs : List Value} {post : Option Value → CS → Prop} (he : gE w f j = .inr (ci, fs)) (hc : gcl[ci]? = some (y.cls, T, N)) (ok : gOK y b mL ret n) (hin : Cond.instanceMethod y ∈ gw) (hse : Cond.selects y.cls y y ∈ gw) (hlk : Cond.methodLink own index y ∈ gw)
    (hM : Met l y (gws y b mL ret) rm (gPc w f (.ref (w.2.2.2 j) :: As)) (gWr w post) 0 0 (gA w)) (hrm : rm.cells = 0 ∧ rm.slots = 0) (hR : rm.frames + 1 ≤ R.frames ∧ 8 + (mL + 11) + rm.locals ≤ R.locals) (hn : As.length = n) (hsz : ls.size = nL) (hst : st = As.reverse ++ .ref (w.2.2.2 j) :: rest) (hW : (rest.map fun v => v.category).sum ≤ 8) (hcs : cells ≤ R.cells ∧ slots ≤ R.slots) (hdg : decode cc pc = .ok (.invokevirtual index, 3))
    (kk : ∀ (v : Option Value) (f' : CS) (H1 : Heap) (locs1 : List Loc), post v f' → GS w A s H1 locs1 f' → W p l e R s m args below meth c H1 locs1 cells slots Q (F0 m (pc + 3) ls (v.toList ++ rest))) : W p l e R s m args below meth c H locs cells slots Q (F0 m pc ls st) :=
  g_backW hG (va_runV S hM ⟨g_cb S.2.2.2.2 ok hlk hrm.1 hrm.2 hR, S.2.2.2.2 _ hin, S.2.2.2.2 _ hse⟩ (g_preV hG.1 j hj he hc) rfl hn hsz hst (lv_room hW) hdg hcs) kk
end GC
/-- from the last to the first: a loop that counts up -/
theorem g_for {P : Nat → Prop} (N : Nat) (step : ∀ k, k < N → P (k + 1) → P k) (last : P N) : ∀ k, k ≤ N → P k := by
  intro k hk
  obtain ⟨d, rfl⟩ := Nat.le.dest hk
  induction d generalizing k with
  | zero => exact last
  | succ d ih => exact step k (by omega) (by
      have h : k + (d + 1) = (k + 1) + d := by omega
      rw [h] at last step
      exact ih (k + 1) step last (by omega))
/-- a method's walk: what holds at its entry -/
def Gx (p : Program) (c : Code) (cc : ByteArray) (nL : Nat) (s : State) (args : Array Value) (own : String) (m : MethodId) (meth : Method) (ret : Option FieldType) : Prop := CallFix p m c cc nL s args gw own ∧ meth.sig.returnType = ret ∧ meth.locks = false
theorem g_read {l : Launch} {y : MethodName} {b : ByteArray} {mL : Nat} {ret : Option FieldType} {rm : Room} {av : List Value} {w : GP} {f : CS} {Qc : Array Value → State → Outcome → State → Prop} {fr : Nat → Prop} (hy : plainName y.cls = true) (hsz : (lg_sl av).length ≤ mL)
    (body : ∀ (p : Program) (e : Env) (s : State) (m : MethodId) (below : List Frame) (meth : Method) (c : Code) (ls : Array Slot), Gx p c b mL s av.toArray y.cls m meth ret → GV w s f s.heap → lv_has ls mL (lv_args 0 av) → W p l e rm s m av.toArray below meth c s.heap [] 0 0 (MQ below Qc av.toArray s 0 0 fr) (F0 m 0 ls [])) :
    Met l y (gws y b mL ret) rm (gPc w f av) Qc 0 0 fr := by
  refine Met.ofW (cc := b) (maxL := mL) (ret := ret) hy rfl ?_
  intro p e s m args below meth c s₁ B hml hv
  obtain ⟨rfl, hV⟩ := hv
  rw [lg_entry_eq]
  exact body p e s m below meth c _ ⟨⟨B.exec, B.bytes, hml, findClass_of_methodNamed B.named, fun v hv => atoms_spec (ws := gws y b mL ret) B.pre v (List.mem_cons_of_mem _ hv)⟩, B.returns, B.notSynchronized⟩ hV (lv_entry av hsz)
section GE
variable {p : Program} {l : Launch} {e : Env} {R : Room} {s : State} {m : MethodId} {args : Array Value} {below : List Frame} {meth : Method} {c : Code} {H : Heap} {locs : List Loc} {cells slots : Nat}
variable {cc : ByteArray} {pc : Nat} {ls : Array Slot} {w : GP} {f : CS} {own : String} {nL : Nat} {fr : Nat → Prop}
theorem g_iret (G : Gx p c cc nL s args own m meth (some .int)) {v : Int32} {r : Value} (hv : Value.int v = r) (hdg : decode cc pc = .ok (.ireturn, 1)) : W p l e R s m args below meth c s.heap [] 0 0 (MQ below (gRd r) args s 0 0 fr) (F0 m pc ls [.int v]) :=
  W.iret G.1.1 G.1.2.1 G.2.1 (fun t ht _ => ⟨by rw [hv], ht⟩) (fun q hq => absurd hq List.not_mem_nil) hdg G.2.2
theorem g_zret (G : Gx p c cc nL s args own m meth (some .boolean)) {v : Int32} {r : Value} (hv : Value.int v = r) (hn : v = 0 ∨ v = 1) (hdg : decode cc pc = .ok (.ireturn, 1)) : W p l e R s m args below meth c s.heap [] 0 0 (MQ below (gRd r) args s 0 0 fr) (F0 m pc ls [.int v]) :=
  W.zret (ty := .boolean) G.1.1 G.1.2.1 G.2.1 (by rcases hn with rfl | rfl <;> decide) (fun t ht _ => ⟨by rw [hv], ht⟩) (fun q hq => absurd hq List.not_mem_nil) hdg G.2.2
theorem g_lret (G : Gx p c cc nL s args own m meth (some .long)) {v : Int64} {r : Value} (hv : Value.long v = r) (hdg : decode cc pc = .ok (.lreturn, 1)) : W p l e R s m args below meth c s.heap [] 0 0 (MQ below (gRd r) args s 0 0 fr) (F0 m pc ls [.long v]) :=
  W.lret G.1.1 G.1.2.1 G.2.1 (fun t ht _ => ⟨by rw [hv], ht⟩) (fun q hq => absurd hq List.not_mem_nil) hdg G.2.2
theorem g_dret (G : Gx p c cc nL s args own m meth (some .double)) {v : UInt64} {r : Value} (hv : Value.double v = r) (hdg : decode cc pc = .ok (.dreturn, 1)) : W p l e R s m args below meth c s.heap [] 0 0 (MQ below (gRd r) args s 0 0 fr) (F0 m pc ls [.double v]) :=
  W.dret G.1.1 G.1.2.1 G.2.1 (fun t ht _ => ⟨by rw [hv], ht⟩) (fun q hq => absurd hq List.not_mem_nil) hdg G.2.2
theorem g_vret (G : Gx p c cc nL s args own m meth none) (hdg : decode cc pc = .ok (.return_, 1)) : W p l e R s m args below meth c s.heap [] 0 0 (MQ below gRv args s 0 0 fr) (F0 m pc ls []) :=
  W.vret G.1.1 G.1.2.1 G.2.1 (fun t ht _ => ⟨rfl, ht⟩) (fun q hq => absurd hq List.not_mem_nil) hdg G.2.2
theorem g_iretW (G : Gx p c cc nL s args own m meth (some .int)) (hG : GS w (gA w) s H locs f) {v : Int32} {post : Option Value → CS → Prop} (hv : post (some (.int v)) f) (hdg : decode cc pc = .ok (.ireturn, 1)) : W p l e R s m args below meth c H locs 0 0 (MQ below (gWr w post) args s 0 0 (gA w)) (F0 m pc ls [.int v]) :=
  W.iret G.1.1 G.1.2.1 G.2.1 (fun t ht hW => ⟨⟨_, f, rfl, hv, by rw [ht]; exact hG.1.moved hW⟩, hG.2.1.F ht⟩) hG.2.1.2.2 hdg G.2.2
theorem g_vretW (G : Gx p c cc nL s args own m meth none) (hG : GS w (gA w) s H locs f) {post : Option Value → CS → Prop} (hv : post none f) (hdg : decode cc pc = .ok (.return_, 1)) : W p l e R s m args below meth c H locs 0 0 (MQ below (gWr w post) args s 0 0 (gA w)) (F0 m pc ls []) :=
  W.vret G.1.1 G.1.2.1 G.2.1 (fun t ht hW => ⟨⟨_, f, rfl, hv, by rw [ht]; exact hG.1.moved hW⟩, hG.2.1.F ht⟩) hG.2.1.2.2 hdg G.2.2
end GE
theorem g_inc (k n : Nat) : nI k + Int32.ofInt (n : Int) = nI (k + n) := by
  show Int32.ofNat k + Int32.ofInt (n : Int) = Int32.ofNat (k + n)
  rw [Int32.ofInt_eq_ofNat, ← Int32.ofNat_add]
theorem g_nn {C : Prop} [Decidable C] : (if C then (1 : Int32) else 0) = 0 ∨ (if C then (1 : Int32) else 0) = 1 := by
  by_cases h : C
  · exact Or.inr (if_pos h)
  · exact Or.inl (if_neg h)
theorem g_if0 {C : Prop} [Decidable C] : (if C then (1 : Int32) else 0) = 0 ↔ ¬ C := by
  by_cases h : C
  · rw [if_pos h]; exact ⟨fun q => absurd q (by decide), fun q => absurd h q⟩
  · rw [if_neg h]; exact ⟨fun _ => h, fun _ => rfl⟩
theorem g_if1 {C : Prop} [Decidable C] : ¬ (if C then (1 : Int32) else 0) = 0 ↔ C := by
  rw [g_if0]; exact Decidable.not_not
theorem g_le {a b : Nat} (ha : a < 2 ^ 31) (hb : b < 2 ^ 31) : nI a ≤ nI b ↔ a ≤ b := ⟨fun h => Nat.not_lt.mp fun q => absurd h (nI_ge q ha), fun h => nI_le h hb⟩
theorem g_lt {a b : Nat} (ha : a < 2 ^ 31) (hb : b < 2 ^ 31) : nI a < nI b ↔ a < b := ⟨fun h => Nat.not_le.mp fun q => absurd h (nI_nlt q ha), fun h => nI_lt h hb⟩
theorem g_eq {a b : Nat} (ha : a < 2 ^ 31) (hb : b < 2 ^ 31) : nI a = nI b ↔ a = b := ⟨fun h => by
  have := congrArg Int32.toNatClampNeg h
  rwa [nI_clamp ha, nI_clamp hb] at this, fun h => by rw [h]⟩
/-- the numbers of a world -/
def nT (f : CS) : Nat := (f 0 1).toNatClampNeg
def nC (f : CS) : Nat := (f 0 0).toNatClampNeg
def nD (f : CS) : Nat := (f 0 2).toNatClampNeg
def nL (f : CS) (t : Nat) : Nat := (f 11 t).toNatClampNeg
def gI (f : CS) : Prop := (f 0 1 = nI (nT f) ∧ nT f ≤ 24) ∧ (f 0 0 = nI (nC f) ∧ nC f ≤ 12) ∧ (f 0 2 = nI (nD f) ∧ nD f ≤ 6) ∧ ∀ t, t < 18 → f 11 t = nI (nL f t) ∧ nL f t ≤ 12
