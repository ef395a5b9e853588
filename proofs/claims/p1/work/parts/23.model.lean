/-! The reference's house while it is empty: the model, its three lists; reading and writing it. -/
def gRn (v : Value) : Array Value → State → Outcome → State → Prop := fun _ st o t => o = .returned (some v) ∧ st.heap.size ≤ t.heap.size ∧ ∀ q : Nat, q < st.heap.size → t.heap[q]? = st.heap[q]?
abbrev MP : Type := va_G × (Nat → Nat) × Nat
def mE (u : MP) (th dy : Int32) (sm : Int64) : va_W := [(u.2.1 0, .inr (3, [.int th, .ref (u.2.1 1), .ref (u.2.1 2), .ref (u.2.1 3), .int dy, .long sm])), (u.2.1 1, .inr (4, [.int 0, .ref u.2.2, .int 0])), (u.2.1 2, .inr (4, [.int 0, .ref u.2.2, .int 0])), (u.2.1 3, .inr (4, [.int 0, .ref u.2.2, .int 0]))]
def mA (u : MP) : Nat → Prop := fun q => ∃ j, j < 4 ∧ q = u.2.1 j
def yHN : MethodName := ⟨"java/util/Iterator", "hasNext", "()Z"⟩
abbrev nSz : Cond := .fieldLinkNest RJx35411 28 "java/util/ArrayList" "size" "I" "java/util/ArrayList"
abbrev nTx : Cond := .methodLinkNest RX5 208 yX4_init "GlossaryCrownModel"
def mFw (U : State) : Prop := va_Fw RJx35411 yHN yJx35411_hasNext_aae02 U ∧ va_Nw nSz U ∧ va_Nw nTx U
theorem mFw.moved {s U : State} (hW : s.WarmedH U.vm) (h : mFw s) : mFw U := ⟨va_Fw.moved ⟨by decide +kernel, by decide +kernel⟩ hW.alike h.1, va_Nw.warmF hW h.2.1, va_Nw.warmM hW h.2.2⟩
theorem mFw.same {s U : State} (hv : s.vm = U.vm) (h : mFw s) : mFw U := ⟨va_Fw.moved ⟨by decide +kernel, by decide +kernel⟩ (by rw [hv]; exact Vm.Alike.refl U.vm) h.1, va_Nw.same rfl hv h.2.1, va_Nw.same rfl hv h.2.2⟩
def MV (u : MP) (U : State) (th dy : Int32) (sm : Int64) (H : Heap) : Prop := va_K u.1 gcl [] U ∧ va_P u.1 gcl (mE u th dy sm) H ∧ va_D (mA u) (mE u th dy sm) ∧ mFw U
theorem MV.moved {u : MP} {s U : State} {th dy : Int32} {sm : Int64} {H : Heap} (hW : s.WarmedH U.vm) (h : MV u s th dy sm H) : MV u U th dy sm H := ⟨va_K.moved hW.alike h.1, h.2.1, h.2.2.1, h.2.2.2.moved hW⟩
theorem MV.same {u : MP} {s U : State} {th dy : Int32} {sm : Int64} {H : Heap} (hW : s.vm = U.vm) (h : MV u s th dy sm H) : MV u U th dy sm H := ⟨va_K.moved (by rw [hW]; exact Vm.Alike.refl U.vm) h.1, h.2.1, h.2.2.1, h.2.2.2.same hW⟩
def MS (u : MP) (s : State) (H : Heap) (locs : List Loc) (th dy : Int32) (sm : Int64) : Prop := MV u s th dy sm H ∧ va_S (mA u) s.heap H locs
theorem MV.start {u : MP} {s : State} {th dy : Int32} {sm : Int64} (h : MV u s th dy sm s.heap) : MS u s s.heap [] th dy sm := ⟨h, va_S.rf⟩
def mWr (u : MP) (v : Option Value) (th dy : Int32) (sm : Int64) : Array Value → State → Outcome → State → Prop := fun _ st o t => o = .returned v ∧ MV u t th dy sm t.heap ∧ va_F (mA u) st t
abbrev mPc (u : MP) (th dy : Int32) (sm : Int64) (av : List Value) : Array Value → State → Prop := va_Pc av (fun U => MV u U th dy sm U.heap)
theorem m_blind {u : MP} {th dy : Int32} {sm : Int64} {av : List Value} : FrameBlind (mPc u th dy sm av) := fun a U g mk q => ⟨q.1, q.2.same (U := U.calling g mk a) rfl⟩
/-- a list, as its own methods see it -/
abbrev mL (D : va_G) (h e : Nat) (n : Int32) : State → Prop := fun U => va_K D gcl [] U ∧ va_P D gcl [(h, .inr (4, [.int n, .ref e, .int n]))] U.heap
abbrev mI (D : va_G) (q h e : Nat) : State → Prop := fun U => va_K D gcl [] U ∧ va_P D gcl [(q, .inr (5, [.int 0, .int (-1), .int 0, .ref h])), (h, .inr (4, [.int 0, .ref e, .int 0]))] U.heap ∧ va_Nw nSz U
def mItQ (D : va_G) (h : Nat) : Array Value → State → Outcome → State → Prop := fun _ st o t => ∃ q : Nat, o = .returned (some (.ref q)) ∧ va_P D gcl [(q, .inr (5, [.int 0, .int (-1), .int 0, .ref h]))] t.heap ∧ va_F (fun _ => False) st t
section MK
variable {p : Program} {l : Launch} {e : Env} {R : Room} {s : State} {m : MethodId} {args : Array Value} {below : List Frame} {meth : Method} {c : Code} {H : Heap} {locs : List Loc} {cells slots : Nat} {Q : State → Prop}
variable {cc : ByteArray} {pc : Nat} {ls : Array Slot} {rest st As : List Value} {u : MP} {th dy : Int32} {sm : Int64} {own : String} {nL mL9 n index mc ms : Nat} {y : MethodName} {b : ByteArray} {ret : Option FieldType} {rm : Room} {fr : Nat → Prop}
theorem MS.more {H1 : Heap} (hM : MS u s H locs th dy sm) (hz : H.size ≤ H1.size) (hk : ∀ i : Nat, i < H.size → H1[i]? = H[i]?) : MS u s H1 locs th dy sm :=
  ⟨⟨hM.1.1, hM.1.2.1.kept (fun k x hx9 => hk x.1 ((hM.1.2.1 k x hx9).lt)), hM.1.2.2⟩, Nat.le_trans hM.2.1 hz, fun q h1 h2 => (hk q (Nat.lt_of_lt_of_le h1 hM.2.1)).trans (hM.2.2.1 q h1 h2), hM.2.2.2⟩
theorem b_read {av : List Value} {B : State → Prop} {Qc : Array Value → State → Outcome → State → Prop} (hy : plainName y.cls = true) (hsz : (lg_sl av).length ≤ mL9)
    (body : ∀ (p : Program) (e : Env) (s : State) (m : MethodId) (below : List Frame) (meth : Method) (c : Code) (ls : Array Slot), Gx p c b mL9 s av.toArray y.cls m meth ret → meth.name = y.name → B s → lv_has ls mL9 (lv_args 0 av) → W p l e rm s m av.toArray below meth c s.heap [] 0 0 (MQ below Qc av.toArray s mc ms fr) (F0 m 0 ls [])) :
    Met l y (gws y b mL9 ret) rm (va_Pc av B) Qc mc ms fr := by
  refine Met.ofW (cc := b) (maxL := mL9) (ret := ret) hy rfl ?_
  intro p e s m args below meth c s₁ B9 hml hv
  obtain ⟨rfl, hV⟩ := hv
  rw [lg_entry_eq]
  exact body p e s m below meth c _ ⟨⟨B9.exec, B9.bytes, hml, findClass_of_methodNamed B9.named, fun v hv => atoms_spec (ws := gws y b mL9 ret) B9.pre v (List.mem_cons_of_mem _ hv)⟩, B9.returns, B9.notSynchronized⟩ (name_of_methodNamed B9.named B9.method).1 hV (lv_entry av hsz)
theorem m_preV (hV : MV u s th dy sm H) : PreV s H RX5 (u.2.1 0) (mPc u th dy sm (.ref (u.2.1 0) :: As)) As :=
  ⟨m_blind, va_recv (q0 := 0) hV.1 hV.2.1 (ci := 3) rfl rfl, fun U hU hW => ⟨rfl, by show MV u U th dy sm U.heap; rw [hU]; exact hV.moved hW⟩⟩
theorem b_callV {v : Value} {bA : Nat} {Pc : Array Value → State → Prop} (S : CallFix p m c cc nL s args gw own) (hp : PreV s H y.cls bA Pc As) (ok : gOK y b mL9 ret n) (hin : Cond.instanceMethod y ∈ gw) (hse : Cond.selects y.cls y y ∈ gw) (hlk : Cond.methodLink own index y ∈ gw)
    (hM : Met l y (gws y b mL9 ret) rm Pc (gRd v) 0 0 (fun _ => False)) (hrm : rm.cells = 0 ∧ rm.slots = 0) (hR : rm.frames + 1 ≤ R.frames ∧ 8 + (mL9 + 11) + rm.locals ≤ R.locals) (hn : As.length = n) (hsz : ls.size = nL) (hst : st = As.reverse ++ .ref bA :: rest) (hW : (rest.map fun v => v.category).sum ≤ 8) (hcs : cells ≤ R.cells ∧ slots ≤ R.slots) (hdg : decode cc pc = .ok (.invokevirtual index, 3))
    (kk : W p l e R s m args below meth c H locs cells slots Q (F0 m (pc + 3) ls (v :: rest))) : W p l e R s m args below meth c H locs cells slots Q (F0 m pc ls st) :=
  g_backR (va_runV S hM ⟨g_cb S.2.2.2.2 ok hlk hrm.1 hrm.2 hR, S.2.2.2.2 _ hin, S.2.2.2.2 _ hse⟩ hp rfl hn hsz hst (lv_room hW) hdg hcs) kk
theorem b_callS {v : Value} (S : CallFix p m c cc nL s args gw own) (ok : gOK y b mL9 ret n) (hin : Cond.static y ∈ gw) (hlk : Cond.methodLink own index y ∈ gw)
    (hM : Met l y (gws y b mL9 ret) rm (va_Pc As (fun _ => True)) (gRd v) 0 0 (fun _ => False)) (hrm : rm.cells = 0 ∧ rm.slots = 0) (hR : rm.frames + 1 ≤ R.frames ∧ 8 + (mL9 + 11) + rm.locals ≤ R.locals) (hn : As.length = n) (hsz : ls.size = nL) (hst : st = As.reverse ++ rest) (hW : (rest.map fun v => v.category).sum ≤ 8) (hcs : cells ≤ R.cells ∧ slots ≤ R.slots) (hdg : decode cc pc = .ok (.invokestatic index, 3))
    (kk : W p l e R s m args below meth c H locs cells slots Q (F0 m (pc + 3) ls (v :: rest))) : W p l e R s m args below meth c H locs cells slots Q (F0 m pc ls st) :=
  g_backR (va_runS S hM ⟨g_cb S.2.2.2.2 ok hlk hrm.1 hrm.2 hR, S.2.2.2.2 _ hin⟩ ⟨fun a U g mk q => ⟨q.1, trivial⟩, fun U hU hW9 => ⟨rfl, trivial⟩⟩ rfl hn hsz hst (lv_room hW) hdg hcs) kk
theorem m_back {v : Option Value} {th1 dy1 : Int32} {sm1 : Int64} {a : Array Value} (hM : MS u s H locs th dy sm) (hr : va_Run p l e R s m args below meth c H locs cells slots mc ms (F0 m pc ls st) rest (mWr u v th1 dy1 sm1 a) (mA u)) (kk : ∀ (H1 : Heap) (locs1 : List Loc), MS u s H1 locs1 th1 dy1 sm1 → W p l e R s m args below meth c H1 locs1 (cells + mc) (slots + ms) Q (F0 m (pc + 3) ls (v.toList ++ rest))) : W p l e R s m args below meth c H locs cells slots Q (F0 m pc ls st) := by
  obtain ⟨hV, hS⟩ := hM
  intro T hT X
  obtain ⟨v', st₀, t, T', L, h0, X', hL, e1, e2, ⟨hv, hgv, hz, hk⟩, stp⟩ := hr T hT X
  cases hv
  rw [h0] at hz hk
  obtain ⟨t2, a1, b1⟩ := kk T'.heap (locs ++ L) ⟨⟨hV.1, by rw [e1]; exact hgv.2.1, hgv.2.2.1, hV.2.2.2⟩, Nat.le_trans hS.1 (by rw [e1]; exact hz), fun q h1 h2 => by rw [e1, hk q (Nat.lt_of_lt_of_le h1 hS.1) h2]; exact hS.2.1 q h1 h2, fun q hq => by
    rcases List.mem_append.mp hq with h | h
    · exact hS.2.2 q h
    · exact hL q h⟩ T' rfl X'
  exact ⟨t2, stp t2 a1, b1⟩
/-- a call of a method of the model -/
theorem m_call {v : Option Value} {th1 dy1 : Int32} {sm1 : Int64} (S : CallFix p m c cc nL s args gw own) (hM : MS u s H locs th dy sm) (hyc : y.cls = RX5) (ok : gOK y b mL9 ret n) (hin : Cond.instanceMethod y ∈ gw) (hse : Cond.selects y.cls y y ∈ gw) (hlk : Cond.methodLink own index y ∈ gw)
    (hMt : Met l y (gws y b mL9 ret) rm (mPc u th dy sm (.ref (u.2.1 0) :: As)) (mWr u v th1 dy1 sm1) mc ms (mA u)) (hrm : rm.cells = mc ∧ rm.slots = ms) (hR : rm.frames + 1 ≤ R.frames ∧ 8 + (mL9 + 11) + rm.locals ≤ R.locals) (hn : As.length = n) (hsz : ls.size = nL) (hst : st = As.reverse ++ .ref (u.2.1 0) :: rest) (hW : (rest.map fun v => v.category).sum ≤ 8) (hcs : cells + mc ≤ R.cells ∧ slots + ms ≤ R.slots) (hdg : decode cc pc = .ok (.invokevirtual index, 3))
    (kk : ∀ (H1 : Heap) (locs1 : List Loc), MS u s H1 locs1 th1 dy1 sm1 → W p l e R s m args below meth c H1 locs1 (cells + mc) (slots + ms) Q (F0 m (pc + 3) ls (v.toList ++ rest))) : W p l e R s m args below meth c H locs cells slots Q (F0 m pc ls st) :=
  m_back hM (va_runV S hMt ⟨g_cb S.2.2.2.2 ok hlk hrm.1 hrm.2 hR, S.2.2.2.2 _ hin, S.2.2.2.2 _ hse⟩ (by rw [hyc]; exact m_preV hM.1) rfl hn hsz hst (lv_room hW) hdg hcs) kk
theorem m_get (hx : p.tables.exec = Jvm.exec) (hb : c.code = cc) (hts : ∀ w ∈ gw, w.before args s = true) (hown : s.vm.findClass own = some m.cls) (hM : MS u s H locs th dy sm) (k : Nat) (hk : k < 6) {v : Value} (hlink : Cond.fieldLink own index (TX5 k).1 (TX5 k).2.1 (TX5 k).2.2.1 ∈ gw) (hv : [.int th, .ref (u.2.1 1), .ref (u.2.1 2), .ref (u.2.1 3), .int dy, .long sm][k]? = some v) (hdg : decode cc pc = .ok (.getfield index, 3))
    (kk : W p l e R s m args below meth c H locs cells slots Q (F0 m (pc + 3) ls (v :: rest))) : W p l e R s m args below meth c H locs cells slots Q (F0 m pc ls (.ref (u.2.1 0) :: rest)) :=
  va_get hx hb hts gin3 hown hM.1.1 hM.1.2.1 0 rfl rfl k hk (hts _ hlink) (fun _ h => h) hv hdg kk
theorem m_putT {x : Int32} (hx : p.tables.exec = Jvm.exec) (hb : c.code = cc) (hts : ∀ w ∈ gw, w.before args s = true) (hown : s.vm.findClass own = some m.cls) (hM : MS u s H locs th dy sm) (hlink : Cond.fieldLink own index (TX5 0).1 (TX5 0).2.1 (TX5 0).2.2.1 ∈ gw) (hdg : decode cc pc = .ok (.putfield index, 3))
    (kk : ∀ (H1 : Heap) (locs1 : List Loc), MS u s H1 locs1 x dy sm → W p l e R s m args below meth c H1 locs1 cells slots Q (F0 m (pc + 3) ls rest)) : W p l e R s m args below meth c H locs cells slots Q (F0 m pc ls (.int x :: .ref (u.2.1 0) :: rest)) :=
  va_put (ty := .int) hx hb hts gin3 tyX5 tyX5_ok nmX5 hown hM.1.1 hM.1.2.1 hM.1.2.2.1 hM.2 0 rfl rfl 0 (by decide) (hts _ hlink) (fun _ h => h) rfl (by decide +kernel) rfl rfl (Nat.le_of_ble_eq_true rfl) hdg (fun H1 locs1 hP hD hS => kk H1 locs1 ⟨⟨hM.1.1, hP, hD, hM.1.2.2.2⟩, hS⟩)
theorem m_putD {x : Int32} (hx : p.tables.exec = Jvm.exec) (hb : c.code = cc) (hts : ∀ w ∈ gw, w.before args s = true) (hown : s.vm.findClass own = some m.cls) (hM : MS u s H locs th dy sm) (hlink : Cond.fieldLink own index (TX5 4).1 (TX5 4).2.1 (TX5 4).2.2.1 ∈ gw) (hdg : decode cc pc = .ok (.putfield index, 3))
    (kk : ∀ (H1 : Heap) (locs1 : List Loc), MS u s H1 locs1 th x sm → W p l e R s m args below meth c H1 locs1 cells slots Q (F0 m (pc + 3) ls rest)) : W p l e R s m args below meth c H locs cells slots Q (F0 m pc ls (.int x :: .ref (u.2.1 0) :: rest)) :=
  va_put (ty := .int) hx hb hts gin3 tyX5 tyX5_ok nmX5 hown hM.1.1 hM.1.2.1 hM.1.2.2.1 hM.2 0 rfl rfl 4 (by decide) (hts _ hlink) (fun _ h => h) rfl (by decide +kernel) rfl rfl (Nat.le_of_ble_eq_true rfl) hdg (fun H1 locs1 hP hD hS => kk H1 locs1 ⟨⟨hM.1.1, hP, hD, hM.1.2.2.2⟩, hS⟩)
theorem m_putS {x : Int64} (hx : p.tables.exec = Jvm.exec) (hb : c.code = cc) (hts : ∀ w ∈ gw, w.before args s = true) (hown : s.vm.findClass own = some m.cls) (hM : MS u s H locs th dy sm) (hlink : Cond.fieldLink own index (TX5 5).1 (TX5 5).2.1 (TX5 5).2.2.1 ∈ gw) (hdg : decode cc pc = .ok (.putfield index, 3))
    (kk : ∀ (H1 : Heap) (locs1 : List Loc), MS u s H1 locs1 th dy x → W p l e R s m args below meth c H1 locs1 cells slots Q (F0 m (pc + 3) ls rest)) : W p l e R s m args below meth c H locs cells slots Q (F0 m pc ls (.long x :: .ref (u.2.1 0) :: rest)) :=
  va_put (ty := .long) hx hb hts gin3 tyX5 tyX5_ok nmX5 hown hM.1.1 hM.1.2.1 hM.1.2.2.1 hM.2 0 rfl rfl 5 (by decide) (hts _ hlink) (fun _ h => h) rfl (by decide +kernel) rfl rfl (Nat.le_of_ble_eq_true rfl) hdg (fun H1 locs1 hP hD hS => kk H1 locs1 ⟨⟨hM.1.1, hP, hD, hM.1.2.2.2⟩, hS⟩)
theorem m_iret (G : Gx p c cc nL s args own m meth (some .int)) (hM : MS u s H locs th dy sm) {v : Int32} {r : Option Value} (hv : some (.int v) = r) (hc : cells ≤ mc) (hs : slots ≤ ms) (hdg : decode cc pc = .ok (.ireturn, 1)) : W p l e R s m args below meth c H locs cells slots (MQ below (mWr u r th dy sm) args s mc ms (mA u)) (F0 m pc ls [.int v]) :=
  W.widen hc hs (W.iret G.1.1 G.1.2.1 G.2.1 (fun t ht hW => ⟨by rw [hv], by rw [ht]; exact hM.1.moved hW, hM.2.F ht⟩) hM.2.2.2 hdg G.2.2)
theorem m_zret (G : Gx p c cc nL s args own m meth (some .boolean)) (hM : MS u s H locs th dy sm) {v : Int32} {r : Option Value} (hv : some (.int v) = r) (hn : v = 0 ∨ v = 1) (hc : cells ≤ mc) (hs : slots ≤ ms) (hdg : decode cc pc = .ok (.ireturn, 1)) : W p l e R s m args below meth c H locs cells slots (MQ below (mWr u r th dy sm) args s mc ms (mA u)) (F0 m pc ls [.int v]) :=
  W.widen hc hs (W.zret (ty := .boolean) G.1.1 G.1.2.1 G.2.1 (by rcases hn with rfl | rfl <;> decide) (fun t ht hW => ⟨by rw [hv], by rw [ht]; exact hM.1.moved hW, hM.2.F ht⟩) hM.2.2.2 hdg G.2.2)
theorem m_lret (G : Gx p c cc nL s args own m meth (some .long)) (hM : MS u s H locs th dy sm) {v : Int64} {r : Option Value} (hv : some (.long v) = r) (hc : cells ≤ mc) (hs : slots ≤ ms) (hdg : decode cc pc = .ok (.lreturn, 1)) : W p l e R s m args below meth c H locs cells slots (MQ below (mWr u r th dy sm) args s mc ms (mA u)) (F0 m pc ls [.long v]) :=
  W.widen hc hs (W.lret G.1.1 G.1.2.1 G.2.1 (fun t ht hW => ⟨by rw [hv], by rw [ht]; exact hM.1.moved hW, hM.2.F ht⟩) hM.2.2.2 hdg G.2.2)
theorem m_dret (G : Gx p c cc nL s args own m meth (some .double)) (hM : MS u s H locs th dy sm) {v : UInt64} {r : Option Value} (hv : some (.double v) = r) (hc : cells ≤ mc) (hs : slots ≤ ms) (hdg : decode cc pc = .ok (.dreturn, 1)) : W p l e R s m args below meth c H locs cells slots (MQ below (mWr u r th dy sm) args s mc ms (mA u)) (F0 m pc ls [.double v]) :=
  W.widen hc hs (W.dret G.1.1 G.1.2.1 G.2.1 (fun t ht hW => ⟨by rw [hv], by rw [ht]; exact hM.1.moved hW, hM.2.F ht⟩) hM.2.2.2 hdg G.2.2)
theorem m_vret (G : Gx p c cc nL s args own m meth none) (hM : MS u s H locs th dy sm) (hc : cells ≤ mc) (hs : slots ≤ ms) (hdg : decode cc pc = .ok (.return_, 1)) : W p l e R s m args below meth c H locs cells slots (MQ below (mWr u none th dy sm) args s mc ms (mA u)) (F0 m pc ls []) :=
  W.widen hc hs (W.vret G.1.1 G.1.2.1 G.2.1 (fun t ht hW => ⟨rfl, by rw [ht]; exact hM.1.moved hW, hM.2.F ht⟩) hM.2.2.2 hdg G.2.2)
end MK
