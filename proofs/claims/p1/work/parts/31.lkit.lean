/-! The law's helpers and the law's own body: kit. -/
abbrev ghs (y : MethodName) (b : ByteArray) (n : Nat) (r : Option FieldType) (hh : List (Nat × Nat × Nat × Nat)) : List Cond := .codeWith y b n r hh :: gwx
theorem gh_good {y : MethodName} {b : ByteArray} {n : Nat} {r : Option FieldType} {hh : List (Nat × Nat × Nat × Nat)} (h : Cond.codeWith y b n r hh ∈ gw) : GoodIn gwx (ghs y b n r hh) := fun v hv => by
  rcases List.mem_cons.mp hv with rfl | hv
  · exact ⟨gx_in h, good_of_word (List.all_eq_true.mp gw_good _ h)⟩
  · exact ⟨hv, good_of_word (List.all_eq_true.mp gwx_good _ hv)⟩
theorem w_read {l : Launch} {y : MethodName} {b : ByteArray} {mL : Nat} {ret : Option FieldType} {hh : List (Nat × Nat × Nat × Nat)} {rm : Room} {av : List Value} {B9 : State → Prop} {Qc : Array Value → State → Outcome → State → Prop} {fr : Nat → Prop} {mc ms : Nat} (hy : plainName y.cls = true) (hsz : (lg_sl av).length ≤ mL)
    (body : ∀ (p : Program) (e : Env) (s : State) (m : MethodId) (below : List Frame) (meth : Method) (c : Code) (ls : Array Slot), Gx p c b mL s av.toArray y.cls m meth ret → (∀ v ∈ gwx, v.before av.toArray s = true) → c.exceptionTable.toList = tableOf hh → B9 s → lv_has ls mL (lv_args 0 av) → W p l e rm s m av.toArray below meth c s.heap [] 0 0 (MQ below Qc av.toArray s mc ms fr) (F0 m 0 ls [])) :
    Met l y (ghs y b mL ret hh) rm (va_Pc av B9) Qc mc ms fr := by
  refine MetFree.of_bodyS (code := b) (maxLocals := mL) (ret := ret) hy ?_ ?_
  · intro args s m h hn
    obtain ⟨m9, meth, c, hn9, h1, h2, h3, h4, -, h5, h6, -⟩ := Cond.codeWith_spec (atoms_spec (ws := ghs y b mL ret hh) h _ List.mem_cons_self)
    cases hn.symm.trans hn9
    exact ⟨meth, c, h1, h2, h3, h4, h5, h6⟩
  · intro p e s m args below meth c s₁ B hml hP _
    have hh0 : s₁.heap = s.heap := by rw [B.state]; rfl
    obtain ⟨rfl, hB9⟩ := hP
    have hall : ∀ v ∈ gwx, v.before av.toArray s = true := fun v hv => atoms_spec (ws := ghs y b mL ret hh) B.pre v (List.mem_cons_of_mem _ hv)
    have hT := vx_table (x := y) B (atoms_spec (ws := ghs y b mL ret hh) B.pre _ List.mem_cons_self)
    have K : W p l e rm s m av.toArray below meth c s.heap [] 0 0 (MQ below Qc av.toArray s mc ms fr) (entryFrame m av.toArray mL) := by
      rw [lg_entry_eq]
      exact body p e s m below meth c _ ⟨⟨B.exec, B.bytes, hml, findClass_of_methodNamed B.named, fun v hv => hall v (gx_in hv)⟩, B.returns, B.notSynchronized⟩ hall hT hB9 (lv_entry av hsz)
    obtain ⟨t, a1, o, b1, b2, b3⟩ := K s₁ hh0 (Stand.of_body B)
    exact ⟨t, o, a1, b1, b2, b3⟩
abbrev oE (cL : ClassId) (o : Nat) (g : Nat → Int64) : va_W := [(o, .inl (cL, 1, .inr (.inl g)))]
/-- a helper that has put an answer into out -/
def mLo (D : va_G) (w : GP) (o : Nat) (cL : ClassId) (x : Int64) : Array Value → State → Outcome → State → Prop := fun _ st r t => r = .returned (some (.int (nI 0))) ∧ (∃ g : Nat → Int64, g 0 = x ∧ va_P D gcl (oE cL o g) t.heap) ∧ va_F (fun z => gA w z ∨ z = o) st t
abbrev nA (s : State) : Nat → Prop := fun q => s.heap.size ≤ q
def LB (s : State) : Prop := vx_Zq Bundle.tN "UNASSIGNED_STACK" Bundle.steD (nA s) s s.heap ∧ vx_Zq Bundle.tN "SUPPRESSED_SENTINEL" Bundle.listD (nA s) s s.heap ∧ (va_Nw (.castable eA eA) s ∧ va_Nw (.castable eS eS) s ∧ va_Nw (.castable eI eI) s ∧ GDe s) ∧ ∀ q ∈ gStr, ∃ sa, vk_R RX2 q.1 q.2 sa s
/-- what a turn knows of the reference and of out -/
def LM (u : MP) (ca : Nat) (ad : Nat → Nat) (o : Nat) (cL : ClassId) (g : Nat → Int64) (S : State) (H : Heap) (locs : List Loc) : Prop :=
  MV u S (nI 0) (nI 0) 0 H ∧ mEx S.heap.size u ca ad S H ∧ (va_K u.1 gcl [(cL, .long)] S ∧ va_P u.1 gcl (oE cL o g) H) ∧ (¬ mA u o ∧ nA S o ∧ ∀ z, mA u z → nA S z) ∧ va_S (nA S) S.heap H locs
def LW (w : GP) (u : MP) (ca : Nat) (ad : Nat → Nat) (o : Nat) (cL : ClassId) (S : State) (H : Heap) (locs : List Loc) : Prop :=
  GS w (nA S) S H locs f0 ∧ LM u ca ad o cL (fun _ => 0) S H locs ∧ ¬ gA w o ∧ ∀ z, gA w z → ¬ mA u z
/-- after the reference's call: its number thrown, and out -/
def LT (u : MP) (o : Nat) (cL : ClassId) (g : Nat → Int64) (th : Int32) (S : State) (H : Heap) (locs : List Loc) : Prop :=
  (va_K u.1 gcl [] S ∧ ∃ fs : List Value, va_P u.1 gcl [(u.2.1 0, .inr (3, .int th :: fs))] H) ∧ (va_K u.1 gcl [(cL, .long)] S ∧ va_P u.1 gcl (oE cL o g) H) ∧ va_S (nA S) S.heap H locs
theorem mWr.fin {u : MP} {v : Int32} {th dy : Int32} {sm : Int64} (a : Array Value) (st : State) (o : Outcome) (t : State) (h : mWr u (some (.int v)) th dy sm a st o t) : mFin u (.int v) th a st o t := ⟨h.1, ⟨_, va_P1 h.2.1.2.1 (k := 0) rfl⟩, h.2.2⟩
section LK2
variable {p : Program} {l : Launch} {e : Env} {R : Room} {s : State} {m : MethodId} {args : Array Value} {below : List Frame} {meth : Method} {c : Code} {H : Heap} {locs : List Loc} {cells slots : Nat} {Q : State → Prop}
variable {cc : ByteArray} {pc : Nat} {ls : Array Slot} {rest st As : List Value} {w : GP} {f : CS} {A : Nat → Prop} {own : String} {nL mL n index mc ms : Nat} {E0 : String} {a : Array Value} {y : MethodName} {b : ByteArray} {ret : Option FieldType} {rm : Room}
variable {u : MP} {ca : Nat} {ad : Nat → Nat} {o : Nat} {cL : ClassId} {g : Nat → Int64}
theorem GS.more {H1 : Heap} (hG : GS w A s H locs f) (hz : H.size ≤ H1.size) (hk : ∀ i : Nat, i < H.size → H1[i]? = H[i]?) : GS w A s H1 locs f :=
  ⟨⟨hG.1.1, hG.1.2.1.kept (fun k x hx9 => hk x.1 ((hG.1.2.1 k x hx9).lt)), hG.1.2.2⟩, ⟨Nat.le_trans hG.2.1.1 hz, fun q h1 h2 => (hk q (Nat.lt_of_lt_of_le h1 hG.2.1.1)).trans (hG.2.1.2.1 q h1 h2), hG.2.1.2.2⟩, hG.2.2⟩
theorem LB.X (h : LB s) (hG : GS w (nA s) s H locs f) : GX w s H :=
  ⟨(h.1.kept (fun a h1 h2 => hG.2.1.2.1 a h1 h2)).narrow hG.2.2, (h.2.1.kept (fun a h1 h2 => hG.2.1.2.1 a h1 h2)).narrow hG.2.2, h.2.2.1, h.2.2.2⟩
/-- out and the reference where a class's call may have written the class, and out perhaps -/
theorem LM.step {H1 : Heap} {L : List Loc} {g1 : Nat → Int64} {B : Nat → Prop} (hM : LM u ca ad o cL g s H locs) (hz : H.size ≤ H1.size) (hk : ∀ z : Nat, z < H.size → ¬ B z → H1[z]? = H[z]?) (hBm : ∀ z, B z → ¬ mA u z) (hBn : ∀ z, B z → nA s z) (hP : va_P u.1 gcl (oE cL o g1) H1) (hL : ∀ z ∈ L, nA s z.base) : LM u ca ad o cL g1 s H1 (locs ++ L) := by
  obtain ⟨hV, hE, ⟨hK, hPo⟩, hd, hS⟩ := hM
  refine ⟨⟨hV.1, hV.2.1.kept (fun k x hx9 => hk x.1 (hV.2.1 k x hx9).lt (fun h9 => hBm _ h9 (hV.2.2.1.2 k x hx9))), hV.2.2.1, hV.2.2.2⟩, hE.kept hz (fun z h1 h2 => hk z h1 (fun h9 => h2 (hBn z h9))), ⟨hK, hP⟩, hd, Nat.le_trans hS.1 hz, fun z h1 h2 => ?_, fun z hz9 => ?_⟩
  · rw [hk z (Nat.lt_of_lt_of_le h1 hS.1) (fun h9 => h2 (hBn z h9))]
    exact hS.2.1 z h1 h2
  · rcases List.mem_append.mp hz9 with h9 | h9
    · exact hS.2.2 z h9
    · exact hL z h9
theorem LM.more {H1 : Heap} (hM : LM u ca ad o cL g s H locs) (hz : H.size ≤ H1.size) (hk : ∀ i : Nat, i < H.size → H1[i]? = H[i]?) : LM u ca ad o cL g s H1 locs := by
  have h := LM.step (B := fun _ => False) (L := []) hM hz (fun z h1 _ => hk z h1) (fun _ h => h.elim) (fun _ h => h.elim) (hM.2.2.1.2.kept (fun k x hx9 => hk x.1 (hM.2.2.1.2 k x hx9).lt)) (fun _ h => absurd h List.not_mem_nil)
  rwa [List.append_nil] at h
theorem LW.more {H1 : Heap} (hM : LW w u ca ad o cL s H locs) (hz : H.size ≤ H1.size) (hk : ∀ i : Nat, i < H.size → H1[i]? = H[i]?) : LW w u ca ad o cL s H1 locs := ⟨hM.1.more hz hk, hM.2.1.more hz hk, hM.2.2⟩
theorem a_thr (hr : vx_Run p l e R s m args below meth c H locs cells slots 1 6 (F0 m pc ls st) rest (noQ a) (gT E0) (fun _ => False)) (kk : ∀ (q : Addr) (H1 : Heap) (ce : Cell), H.size ≤ H1.size → (∀ i : Nat, i < H.size → H1[i]? = H[i]?) → H1[q]? = some ce → ce.vm = .none → s.vm.findClass E0 = some ce.cls → vx_W p l e R s m args below meth c H1 locs (cells + 1) (slots + 6) Q (F0 m pc ls rest) q) : W p l e R s m args below meth c H locs cells slots Q (F0 m pc ls st) := by
  intro T hT X
  rcases hr T hT X with ⟨v, st₀, t, T', L, h0, X', hL, e1, e2, hq, stp⟩ | ⟨q, st₀, t, T', L, E, ce, h0, X', hL, e1, e2, ⟨rfl, hz, hk⟩, hce, hcv, hcl, stp⟩
  · exact hq.elim
  · rw [h0] at hz hk
    obtain ⟨t2, a1, b1⟩ := kk q T'.heap ce (by rw [e1]; exact hz) (fun i hi => by rw [e1]; exact hk i hi) (by rw [e1]; exact hce) hcv hcl T' rfl (Stand.forget X' (fun z h => (hL z h).elim))
    exact ⟨t2, stp.trans a1, b1⟩
theorem a_runX (S : CallFix p m c cc nL s args gw own) (hall : ∀ v ∈ gwx, v.before args s = true) (hV : GV w s f H) (hX : GX w s H) (j : Nat) (hj : j < 56) {ci N : Nat} {T : u_T} {fs : List Value} (he : gE w f j = .inr (ci, fs)) (hc : gcl[ci]? = some (y.cls, T, N)) (ok : gOK y b mL ret n) (hin : Cond.instanceMethod y ∈ gw) (hse : Cond.selects y.cls y y ∈ gw) (hlk : Cond.methodLink own index y ∈ gw)
    (hM : vx_Met l y (gxs y b mL ret) rm (gPx w f (.ref (w.2.2.2 j) :: As)) noQ (gT E0) 1 6 (fun _ => False)) (hrm : rm.cells = 1 ∧ rm.slots = 6) (hR : rm.frames + 1 ≤ R.frames ∧ 8 + (mL + 11) + rm.locals ≤ R.locals) (hn : As.length = n) (hsz : ls.size = nL) (hst : st = As.reverse ++ .ref (w.2.2.2 j) :: rest) (hW : (rest.map fun v => v.category).sum ≤ 8) (hcs : cells + 1 ≤ R.cells ∧ slots + 6 ≤ R.slots) (hdg : decode cc pc = .ok (.invokevirtual index, 3)) :
    vx_Run p l e R s m args below meth c H locs cells slots 1 6 (F0 m pc ls st) rest (noQ (Value.ref (w.2.2.2 j) :: As).toArray) (gT E0) (fun _ => False) :=
  vx_runV ⟨S.1, S.2.1, S.2.2.1, S.2.2.2.1, hall⟩ hM ⟨g_cbx hall ok hlk hrm hR, hall _ (gx_in hin), hall _ (gx_in hse)⟩ (gx_preV hV hX j hj he hc) rfl hn hsz hst (lv_room hW) hdg hcs
/-- a throw, caught by the first row of the table -/
theorem w_catch {hh : List (Nat × Nat × Nat × Nat)} {E : String} {ct hp a0 b0 : Nat} {tl : List ExceptionTableEntry} {q : Addr} {ce : Cell} (hown : s.vm.findClass RL = some m.cls) (hts : ∀ v ∈ gw, v.before args s = true) (hT : c.exceptionTable.toList = tableOf hh) (hx : tableOf hh = ⟨a0, b0, hp, ct⟩ :: tl) (hcov : covers (⟨a0, b0, hp, ct⟩ : ExceptionTableEntry) pc = true) (h0 : ct ≠ 0) (hlink : Cond.classLink RL ct E ∈ gw) (hcast : va_Nw (.castable E E) s) (hcell : H[q]? = some ce) (hv : ce.vm = .none) (hcl : s.vm.findClass E = some ce.cls)
    (kk : W p l e R s m args below meth c H locs cells slots Q (F0 m hp ls [.ref q])) : vx_W p l e R s m args below meth c H locs cells slots Q (F0 m pc ls rest) q :=
  vx_catch hown [] ⟨a0, b0, hp, ct⟩ tl (hT.trans hx) (fun z hz => absurd hz List.not_mem_nil) hcov h0 (hts _ hlink) (va_Nw.use rfl hcast) hcell hv hcl kk
theorem w_csw {hh : List (Nat × Nat × Nat × Nat)} (hall : ∀ v ∈ gwx, v.before args s = true) (hrm : rm.cells = mc ∧ rm.slots = ms) (hR : rm.frames + 1 ≤ R.frames ∧ 8 + (mL + 11) + rm.locals ≤ R.locals) (hcw : Cond.codeWith y b mL ret hh ∈ gw) (hini : Cond.initialized y.cls ∈ gw) (hy : y.cls ≠ "java/lang/invoke/MethodHandle" ∧ y.cls ≠ "java/lang/invoke/VarHandle") (hd : (parseMethodDescriptor y.desc).map (fun d => d.parameters.length) = some n) (hlk : Cond.methodLink own index y ∈ gw) (hst : Cond.static y ∈ gw) : vx_CSW R s args own index y b mL ret hh (ghs y b mL ret hh) rm mc ms n :=
  ⟨⟨hrm.1, hrm.2, hR.1, hR.2, pay_in hall (gh_good hcw), List.mem_cons_self⟩, hall _ (gx_in hcw), hall _ (gx_in hini), hy, fun sig h => by
    rw [h] at hd
    exact (Option.some.inj hd).symm, hall _ (gx_in hlk), hall _ (gx_in hst)⟩
/-- a helper that answers 1 -/
theorem l_wthr {hh : List (Nat × Nat × Nat × Nat)} (S : CallFix p m c cc nL s args gw own) (hLB : LB s) (hW9 : LW w u ca ad o cL s H locs) {v : Value} (hM : Met l y (ghs y b mL ret hh) rm (gPx w f0 As) (gRn v) mc ms (fun _ => False)) (cw : vx_CSW R s args own index y b mL ret hh (ghs y b mL ret hh) rm mc ms n) (hn : As.length = n) (hsz : ls.size = nL) (hst : st = As.reverse ++ rest) (hW : (rest.map fun v => v.category).sum ≤ 8) (hcs : cells + mc ≤ R.cells ∧ slots + ms ≤ R.slots) (hdg : decode cc pc = .ok (.invokestatic index, 3))
    (kk : ∀ H1 : Heap, LW w u ca ad o cL s H1 locs → W p l e R s m args below meth c H1 locs (cells + mc) (slots + ms) Q (F0 m (pc + 3) ls (v :: rest))) : W p l e R s m args below meth c H locs cells slots Q (F0 m pc ls st) := by
  have hp : PreS s H (gPx w f0 As) As := ⟨gx_blind, fun U hU hW1 => ⟨rfl, by rw [hU]; exact hW9.1.1.moved hW1, by rw [hU]; exact (hLB.X hW9.1).moved hW1⟩⟩
  intro T hT X
  obtain ⟨v', st₀, t, T', L, h0, X', hL, e1, e2, ⟨hv, hz, hk⟩, stp⟩ := (vx_runSW (g := F0 m pc ls st) S hM cw hp rfl hn hsz hst (lv_room hW) hdg hcs) T hT X
  cases hv
  rw [h0] at hz hk
  obtain ⟨t2, a1, b1⟩ := kk T'.heap (hW9.more (by rw [e1]; exact hz) (fun i hi => by rw [e1]; exact hk i hi)) T' rfl (Stand.forget X' (fun q h => (hL q h).elim))
  exact ⟨t2, stp t2 a1, b1⟩
abbrev gPo (D : va_G) (w : GP) (o : Nat) (cL : ClassId) (av : List Value) : Array Value → State → Prop := va_Pc av (fun U => GV w U f0 U.heap ∧ va_K D gcl [(cL, .long)] U ∧ va_P D gcl (oE cL o (fun _ => 0)) U.heap)
/-- a helper that answers 0 -/
theorem l_wret {hh : List (Nat × Nat × Nat × Nat)} {x : Int64} (S : CallFix p m c cc nL s args gw own) (hW9 : LW w u ca ad o cL s H locs) (hM : Met l y (ghs y b mL ret hh) rm (gPo u.1 w o cL As) (mLo u.1 w o cL x) mc ms (fun z => gA w z ∨ z = o)) (cw : vx_CSW R s args own index y b mL ret hh (ghs y b mL ret hh) rm mc ms n) (hn : As.length = n) (hsz : ls.size = nL) (hst : st = As.reverse ++ rest) (hW : (rest.map fun v => v.category).sum ≤ 8) (hcs : cells + mc ≤ R.cells ∧ slots + ms ≤ R.slots) (hdg : decode cc pc = .ok (.invokestatic index, 3))
    (kk : ∀ (H1 : Heap) (locs1 : List Loc) (g : Nat → Int64), g 0 = x → LM u ca ad o cL g s H1 locs1 → W p l e R s m args below meth c H1 locs1 (cells + mc) (slots + ms) Q (F0 m (pc + 3) ls (.int (nI 0) :: rest))) : W p l e R s m args below meth c H locs cells slots Q (F0 m pc ls st) := by
  obtain ⟨hG, hM9, hgo, hgm⟩ := hW9
  have hp : PreS s H (gPo u.1 w o cL As) As := ⟨fun a U g mk q => ⟨q.1, ⟨q.2.1.1.same (U := U.calling g mk a) rfl, q.2.1.2⟩, va_K.moved (u := U) (U := U.calling g mk a) (Vm.Alike.refl U.vm) q.2.2.1, q.2.2.2⟩, fun U hU hW1 => ⟨rfl, by rw [hU]; exact hG.1.moved hW1, va_K.moved hW1.alike hM9.2.2.1.1, by rw [hU]; exact hM9.2.2.1.2⟩⟩
  intro T hT X
  obtain ⟨v', st₀, t, T', L, h0, X', hL, e1, e2, ⟨hv, ⟨g1, hg1, hP1⟩, hz, hk⟩, stp⟩ := (vx_runSW (g := F0 m pc ls st) S hM cw hp rfl hn hsz hst (lv_room hW) hdg hcs) T hT X
  cases hv
  rw [h0] at hz hk
  have hBn : ∀ z, (gA w z ∨ z = o) → nA s z := fun z h => h.elim (hG.2.2 z) (fun h9 => by rw [h9]; exact hM9.2.2.2.1.2.1)
  obtain ⟨t2, a1, b1⟩ := kk T'.heap (locs ++ L) g1 hg1 (LM.step (B := fun z => gA w z ∨ z = o) hM9 (by rw [e1]; exact hz) (fun i hi h9 => by rw [e1]; exact hk i hi h9) (fun z h => h.elim (hgm z) (fun h9 => by rw [h9]; exact hM9.2.2.2.1.1)) hBn (by rw [e1]; exact hP1) (fun z h => hBn _ (hL z h))) T' rfl X'
  exact ⟨t2, stp t2 a1, b1⟩
theorem m_preX {sz : Nat} {ca : Nat} {ad : Nat → Nat} {b0 : Nat} {th dy : Int32} {sm : Int64} (hV : MV u s th dy sm H) (hE : mEx b0 u ca ad s H) (hsz : H.size = sz) : PreV s H RX5 (u.2.1 0) (va_Pc (.ref (u.2.1 0) :: As) (mPx b0 u ca ad sz th dy sm)) As :=
  ⟨fun a U g mk z => ⟨z.1, z.2.1, z.2.2.1.same (U := U.calling g mk a) rfl, z.2.2.2.same (U := U.calling g mk a) rfl⟩, va_recv (q0 := 0) hV.1 hV.2.1 (ci := 3) rfl rfl, fun U hU hW => ⟨rfl, by rw [hU]; exact hsz, by rw [hU]; exact hV.moved hW, by rw [hU]; exact hE.moved hW⟩⟩
/-- a call of the reference -/
theorem l_mod {v th1 : Int32} (S : CallFix p m c cc nL s args gw own) (hM : LM u ca ad o cL g s H locs) {fr : Nat → Prop} (hfr : ∀ z, fr z → mA u z ∨ H.size ≤ z) {Pc : Array Value → State → Prop} {Qc : Array Value → State → Outcome → State → Prop} (hQ : ∀ a st o t, Qc a st o t → mFin u (.int v) th1 a st o t) (hp : PreV s H y.cls (u.2.1 0) Pc As) (ok : gOK y b mL ret n) (hin : Cond.instanceMethod y ∈ gw) (hse : Cond.selects y.cls y y ∈ gw) (hlk : Cond.methodLink own index y ∈ gw)
    (hMt : Met l y (gws y b mL ret) rm Pc Qc mc ms fr) (hrm : rm.cells = mc ∧ rm.slots = ms) (hR : rm.frames + 1 ≤ R.frames ∧ 8 + (mL + 11) + rm.locals ≤ R.locals) (hn : As.length = n) (hsz : ls.size = nL) (hst : st = As.reverse ++ .ref (u.2.1 0) :: rest) (hW : (rest.map fun v => v.category).sum ≤ 8) (hcs : cells + mc ≤ R.cells ∧ slots + ms ≤ R.slots) (hdg : decode cc pc = .ok (.invokevirtual index, 3))
    (kk : ∀ (H1 : Heap) (locs1 : List Loc), LT u o cL g th1 s H1 locs1 → W p l e R s m args below meth c H1 locs1 (cells + mc) (slots + ms) Q (F0 m (pc + 3) ls (.int v :: rest))) : W p l e R s m args below meth c H locs cells slots Q (F0 m pc ls st) := by
  obtain ⟨hV, hE, ⟨hK, hPo⟩, ⟨hd1, hd2, hd3⟩, hS⟩ := hM
  intro T hT X
  obtain ⟨v', st₀, t, T', L, h0, X', hL, e1, e2, hq, stp⟩ := (va_runV (g := F0 m pc ls st) S hMt ⟨g_cb S.2.2.2.2 ok hlk hrm.1 hrm.2 hR, S.2.2.2.2 _ hin, S.2.2.2.2 _ hse⟩ hp rfl hn hsz hst (lv_room hW) hdg hcs) T hT X
  obtain ⟨hv, ⟨fs, hP⟩, hz, hk⟩ := hQ _ _ _ _ hq
  cases hv
  rw [h0] at hz hk
  obtain ⟨t2, a1, b1⟩ := kk T'.heap (locs ++ L) ⟨⟨hV.1, fs, by rw [e1]; exact hP⟩, ⟨hK, by rw [e1]; exact hPo.kept (fun k x hx9 => hk x.1 (hPo k x hx9).lt (fun h9 => by
    have hk9 : k < 1 := (List.getElem?_eq_some_iff.mp hx9).1
    rw [show k = 0 by omega] at hx9
    cases hx9
    exact hd1 h9))⟩, by rw [e1]; exact Nat.le_trans hS.1 hz, fun z h1 h2 => by rw [e1, hk z (Nat.lt_of_lt_of_le h1 hS.1) (fun h9 => h2 (hd3 z h9))]; exact hS.2.1 z h1 h2, fun z hz9 => by
    rcases List.mem_append.mp hz9 with h9 | h9
    · exact hS.2.2 z h9
    · rcases hfr _ (hL z h9) with h8 | h8
      · exact hd3 _ h8
      · exact Nat.le_trans hS.1 h8⟩ T' rfl X'
  exact ⟨t2, stp t2 a1, b1⟩
end LK2
