/-! Throwing. -/
abbrev eA : String := "java/lang/IllegalArgumentException"
abbrev eS : String := "java/lang/IllegalStateException"
abbrev eI : String := "java/lang/IndexOutOfBoundsException"
abbrev exN : List String := ["java/lang/RuntimeException", "java/lang/Exception"]
def gStr : List (Nat × String) := [(48, "no such STEM"), (62, "no room for that TERM"), (74, "no such VOTER"), (85, "no such vote any more"), (94, "not ADMITTED"), (99, "no such GRACE"), (105, "neither ADMITTED nor PREFERRED"), (114, "not BANNED"), (162, "no such part of the CONCEPT"), (173, "cannot be JOINED"), (189, "no room for a DOCUMENT"), (204, "no such FORM"), (207, "the TEXT is APPROVED"), (215, "the TEXT cannot be cut"), (223, "the TEXT cannot be APPROVED"), (253, "beyond the last DAY"), (330, "no such DOMAIN"), (332, "no room for a CONCEPT"), (337, "no such CONCEPT"), (339, "the same CONCEPT"), (341, "no such LANGUAGE"), (346, "no such TERM"), (348, "no such DOCUMENT"), (350, "no such PLACE"), (352, "no such question"), (354, "no such number of DAYS")]
def GDe (U : State) : Prop := va_Nw (.declares (Bundle.initS "java/lang/RuntimeException")) U ∧ va_Nw (.declares (Bundle.initS "java/lang/Exception")) U ∧ va_Nw (.declares (Bundle.initS Bundle.tN)) U
def deL : List Cond := [.declares (Bundle.initS "java/lang/RuntimeException"), .declares (Bundle.initS "java/lang/Exception"), .declares (Bundle.initS Bundle.tN)]
theorem GDe.use {U : State} {A : Array Value} (h : GDe U) : ∀ v ∈ deL, v.before A U = true := vx_c (va_Nw.use rfl h.1) (vx_c (va_Nw.use rfl h.2.1) (vx_c (va_Nw.use rfl h.2.2) vx_n))
theorem GDe.moved {u U : State} (hW : u.WarmedH U.vm) (h : GDe u) : GDe U := ⟨va_Nw.warmD hW h.1, va_Nw.warmD hW h.2.1, va_Nw.warmD hW h.2.2⟩
theorem GDe.same {u U : State} (hv : u.vm = U.vm) (h : GDe u) : GDe U := ⟨va_Nw.same rfl hv h.1, va_Nw.same rfl hv h.2.1, va_Nw.same rfl hv h.2.2⟩
def GX (w : GP) (U : State) (H : Heap) : Prop := vx_Zq Bundle.tN "UNASSIGNED_STACK" Bundle.steD (gA w) U H ∧ vx_Zq Bundle.tN "SUPPRESSED_SENTINEL" Bundle.listD (gA w) U H ∧ (va_Nw (.castable eA eA) U ∧ va_Nw (.castable eS eS) U ∧ va_Nw (.castable eI eI) U ∧ GDe U) ∧ ∀ q ∈ gStr, ∃ sa, vk_R RX2 q.1 q.2 sa U
theorem GX.moved {w : GP} {u U : State} {H : Heap} (hW : u.WarmedH U.vm) (h : GX w u H) : GX w U H := ⟨h.1.moved hW.alike, h.2.1.moved hW.alike, ⟨va_Nw.warmC hW h.2.2.1.1, va_Nw.warmC hW h.2.2.1.2.1, va_Nw.warmC hW h.2.2.1.2.2.1, h.2.2.1.2.2.2.moved hW⟩, fun q hq => by
  obtain ⟨sa, h9⟩ := h.2.2.2 q hq
  exact ⟨sa, vk_R.warm hW h9⟩⟩
theorem GX.same {w : GP} {u U : State} {H : Heap} (hv : u.vm = U.vm) (h : GX w u H) : GX w U H := ⟨h.1.moved (by rw [hv]; exact Vm.Alike.refl U.vm), h.2.1.moved (by rw [hv]; exact Vm.Alike.refl U.vm), ⟨va_Nw.same rfl hv h.2.2.1.1, va_Nw.same rfl hv h.2.2.1.2.1, va_Nw.same rfl hv h.2.2.1.2.2.1, h.2.2.1.2.2.2.same hv⟩, fun q hq => by
  obtain ⟨sa, h9⟩ := h.2.2.2 q hq
  exact ⟨sa, vk_R.same hv.symm h9⟩⟩
theorem GX.kept {w : GP} {U : State} {H H1 : Heap} (h : GX w U H) (hq : ∀ a : Nat, a < H.size → ¬ gA w a → H1[a]? = H[a]?) : GX w U H1 := ⟨h.1.kept hq, h.2.1.kept hq, h.2.2⟩
def gwx : List Cond := gw ++ ((vx_atS RX2 50 eA exN).filter goodWord ++ ((vx_atS RX2 64 eS exN).filter goodWord ++ (vx_atS RX2 76 eI exN).filter goodWord))
set_option maxRecDepth 100000 in
theorem gwx_good : gwx.all goodWord = true := by decide +kernel
abbrev gxs (y : MethodName) (b : ByteArray) (n : Nat) (r : Option FieldType) : List Cond := .code y b n r :: gwx
theorem gx_in {v : Cond} (h : v ∈ gw) : v ∈ gwx := List.mem_append_left _ h
theorem gx_good {y : MethodName} {b : ByteArray} {n : Nat} {r : Option FieldType} (h : Cond.code y b n r ∈ gw) : GoodIn gwx (gxs y b n r) := fun v hv => by
  rcases List.mem_cons.mp hv with rfl | hv
  · exact ⟨gx_in h, good_of_word (List.all_eq_true.mp gw_good _ h)⟩
  · exact ⟨hv, good_of_word (List.all_eq_true.mp gwx_good _ hv)⟩
/-- an exception of the class E0 leaves; nothing that was there has changed -/
def gT (E0 : String) : String → State → State → Prop := fun E st t => E = E0 ∧ st.heap.size ≤ t.heap.size ∧ ∀ q : Nat, q < st.heap.size → t.heap[q]? = st.heap[q]?
abbrev gPx (w : GP) (f : CS) (av : List Value) : Array Value → State → Prop := va_Pc av (fun U => GV w U f U.heap ∧ GX w U U.heap)
theorem gx_blind {w : GP} {f : CS} {av : List Value} : FrameBlind (gPx w f av) := fun a U g mk q => ⟨q.1, ⟨q.2.1.1.same (U := U.calling g mk a) rfl, q.2.1.2⟩, q.2.2.same (U := U.calling g mk a) rfl⟩
abbrev noQ : Array Value → State → Outcome → State → Prop := fun _ _ _ _ => False
theorem x_read {l : Launch} {y : MethodName} {b : ByteArray} {mL : Nat} {ret : Option FieldType} {rm : Room} {av : List Value} {w : GP} {f : CS} {E0 : String} (hy : plainName y.cls = true) (hsz : (lg_sl av).length ≤ mL)
    (body : ∀ (p : Program) (e : Env) (s : State) (m : MethodId) (below : List Frame) (meth : Method) (c : Code) (ls : Array Slot), Gx p c b mL s av.toArray y.cls m meth ret → (∀ v ∈ gwx, v.before av.toArray s = true) → (∀ x ∈ c.exceptionTable.toList, False) → GX w s s.heap → GV w s f s.heap → lv_has ls mL (lv_args 0 av) → W p l e rm s m av.toArray below meth c s.heap [] 0 0 (vx_MQ below noQ (gT E0) av.toArray s 1 6 (fun _ => False)) (F0 m 0 ls [])) :
    vx_Met l y (gxs y b mL ret) rm (gPx w f av) noQ (gT E0) 1 6 (fun _ => False) := by
  refine vx_ofW (cc := b) (maxL := mL) (ret := ret) hy rfl ?_
  intro p e s m args below meth c s₁ B hml hxt hv
  obtain ⟨rfl, hV, hX⟩ := hv
  rw [lg_entry_eq]
  have hall : ∀ v ∈ gwx, v.before av.toArray s = true := fun v hv => atoms_spec (ws := gxs y b mL ret) B.pre v (List.mem_cons_of_mem _ hv)
  exact body p e s m below meth c _ ⟨⟨B.exec, B.bytes, hml, findClass_of_methodNamed B.named, fun v hv => hall v (gx_in hv)⟩, B.returns, B.notSynchronized⟩ hall hxt hX hV (lv_entry av hsz)
section GTH
variable {p : Program} {l : Launch} {e : Env} {R : Room} {s : State} {m : MethodId} {args : Array Value} {below : List Frame} {meth : Method} {c : Code} {locs : List Loc} {cells slots : Nat} {Q : State → Prop}
variable {cc : ByteArray} {pc : Nat} {ls : Array Slot} {rest : List Value} {w : GP} {f : CS} {A : Nat → Prop} {own : String} {nL : Nat} {E0 : String} {Qc : Array Value → State → Outcome → State → Prop}
theorem gx_hat {ic : Nat} {X : String} (h1 : ∀ v ∈ (vx_atS RX2 ic X exN).filter goodWord, v ∈ gwx) (hall : ∀ v ∈ gwx, v.before args s = true) (hc : va_Nw (.castable X X) s) (hde : GDe s) (h2 : ∀ v ∈ (vx_atS RX2 ic X exN).filter (fun w => !goodWord w), v ∈ Cond.castable X X :: deL) : ∀ v ∈ vx_atS RX2 ic X exN, v.before args s = true :=
  vx_hat (fun v hv => hall v (h1 v hv)) h2 (vx_c (va_Nw.use rfl hc) hde.use)
/-- new X(text), thrown -/
theorem g_thr {ik is ic : Nat} {X text : String} {ret : Option FieldType} (G : Gx p c cc nL s args RX2 m meth ret) (hl : l.stackTraces = false) (hX : GX w s s.heap) (hxt : ∀ x ∈ c.exceptionTable.toList, False) (hfit : Bundle.fit X = true)
    (hk : Cond.classLink RX2 ik X ∈ gw) (hi : Cond.initialized X ∈ gw) (hstr : (is, text) ∈ gStr) (hat : ∀ v ∈ vx_atS RX2 ic X exN, v.before args s = true) (hgood : ∀ v ∈ Cond.classLink RX2 ik X :: Cond.initialized X :: vx_atS RX2 ic X exN, vx_ot v = true) (hsize : ls.size = nL)
    (d0 : decode cc pc = .ok (.new ik, 3)) (d3 : decode cc (pc + 3) = .ok (.dup, 1)) (d4 : decode cc (pc + 4) = .ok (.ldc is, 2)) (d6 : decode cc (pc + 6) = .ok (.invokespecial ic, 3)) (d9 : decode cc (pc + 9) = .ok (.athrow, 1))
    (hR : 5 < R.frames ∧ (rest.map fun v => v.category).sum + 82 ≤ R.locals ∧ 1 ≤ R.cells ∧ 6 ≤ R.slots) :
    W p l e R s m args below meth c s.heap [] 0 0 (vx_MQ below noQ (gT X) args s 1 6 (fun _ => False)) (F0 m pc ls rest) := by
  obtain ⟨sa, hsa⟩ := hX.2.2.2 _ hstr
  exact vx_throwS (names := exN) (A := gA w) G.1.1 G.1.2.1 hl G.1.2.2.2.1 hfit (by decide +kernel) (G.1.2.2.2.2 _ hk) (G.1.2.2.2.2 _ hi) hsa hat hgood hX.1 hX.2.1 va_S.rf (hsize.trans G.1.2.2.1.symm) d0 d3 d4 d6 d9 (fun x hx => (hxt x hx).elim) hR.1 hR.2.1 (by omega) (by omega) G.2.2 (fun t _ hz hk => ⟨rfl, hz, hk⟩) (fun z hz => absurd hz List.not_mem_nil) (by omega) (by omega)
theorem g_thrW {ik is ic : Nat} {X text : String} {ret : Option FieldType} (G : Gx p c cc nL s args RX2 m meth ret) (hl : l.stackTraces = false) (hX : GX w s s.heap) (hxt : ∀ x ∈ c.exceptionTable.toList, False) (hfit : Bundle.fit X = true)
    (hk : Cond.classLink RX2 ik X ∈ gw) (hi : Cond.initialized X ∈ gw) (hstr : (is, text) ∈ gStr) (hat : ∀ v ∈ vx_atS RX2 ic X exN, v.before args s = true) (hgood : ∀ v ∈ Cond.classLink RX2 ik X :: Cond.initialized X :: vx_atS RX2 ic X exN, vx_ot v = true) (hsize : ls.size = nL)
    (d0 : decode cc pc = .ok (.new ik, 3)) (d3 : decode cc (pc + 3) = .ok (.dup, 1)) (d4 : decode cc (pc + 4) = .ok (.ldc_w is, 3)) (d7 : decode cc (pc + 7) = .ok (.invokespecial ic, 3)) (d10 : decode cc (pc + 10) = .ok (.athrow, 1))
    (hR : 5 < R.frames ∧ (rest.map fun v => v.category).sum + 82 ≤ R.locals ∧ 1 ≤ R.cells ∧ 6 ≤ R.slots) :
    W p l e R s m args below meth c s.heap [] 0 0 (vx_MQ below noQ (gT X) args s 1 6 (fun _ => False)) (F0 m pc ls rest) := by
  obtain ⟨sa, hsa⟩ := hX.2.2.2 _ hstr
  exact vx_throwSW (names := exN) (A := gA w) G.1.1 G.1.2.1 hl G.1.2.2.2.1 hfit (by decide +kernel) (G.1.2.2.2.2 _ hk) (G.1.2.2.2.2 _ hi) hsa hat hgood hX.1 hX.2.1 va_S.rf (hsize.trans G.1.2.2.1.symm) d0 d3 d4 d7 d10 (fun x hx => (hxt x hx).elim) hR.1 hR.2.1 (by omega) (by omega) G.2.2 (fun t _ hz hk => ⟨rfl, hz, hk⟩) (fun z hz => absurd hz List.not_mem_nil) (by omega) (by omega)
end GTH
theorem gx_at50 : ∀ v ∈ (vx_atS RX2 50 eA exN).filter goodWord, v ∈ gwx := fun _ h => List.mem_append_right _ (List.mem_append_left _ h)
theorem gx_at64 : ∀ v ∈ (vx_atS RX2 64 eS exN).filter goodWord, v ∈ gwx := fun _ h => List.mem_append_right _ (List.mem_append_right _ (List.mem_append_left _ h))
theorem gx_at76 : ∀ v ∈ (vx_atS RX2 76 eI exN).filter goodWord, v ∈ gwx := fun _ h => List.mem_append_right _ (List.mem_append_right _ (List.mem_append_right _ h))
theorem gx_no50 : ∀ v ∈ (vx_atS RX2 50 eA exN).filter (fun w => !goodWord w), v ∈ Cond.castable eA eA :: deL := by decide +kernel
theorem gx_no64 : ∀ v ∈ (vx_atS RX2 64 eS exN).filter (fun w => !goodWord w), v ∈ Cond.castable eS eS :: deL := by decide +kernel
theorem gx_no76 : ∀ v ∈ (vx_atS RX2 76 eI exN).filter (fun w => !goodWord w), v ∈ Cond.castable eI eI :: deL := by decide +kernel
theorem gx_ot50 : ∀ v ∈ Cond.classLink RX2 46 eA :: Cond.initialized eA :: vx_atS RX2 50 eA exN, vx_ot v = true := by decide +kernel
theorem gx_ot64 : ∀ v ∈ Cond.classLink RX2 60 eS :: Cond.initialized eS :: vx_atS RX2 64 eS exN, vx_ot v = true := by decide +kernel
theorem gx_ot76 : ∀ v ∈ Cond.classLink RX2 72 eI :: Cond.initialized eI :: vx_atS RX2 76 eI exN, vx_ot v = true := by decide +kernel
section GXO
variable {p : Program} {l : Launch} {e : Env} {R : Room} {s : State} {m : MethodId} {args : Array Value} {below : List Frame} {meth : Method} {c : Code} {H : Heap} {locs : List Loc} {cells slots : Nat} {Q : State → Prop}
variable {cc : ByteArray} {pc : Nat} {ls : Array Slot} {rest st As : List Value} {w : GP} {f : CS} {own : String} {nL mL n index : Nat} {E0 : String} {a : Array Value} {y : MethodName} {b : ByteArray} {ret : Option FieldType} {rm : Room}
theorem g_xout (hr : vx_Run p l e R s m args below meth c s.heap [] 0 0 1 6 (F0 m pc ls st) rest (noQ a) (gT E0) (fun _ => False)) (hxt : ∀ x ∈ c.exceptionTable.toList, False) (hlocks : meth.locks = false) : W p l e R s m args below meth c s.heap [] 0 0 (vx_MQ below noQ (gT E0) args s 1 6 (fun _ => False)) (F0 m pc ls st) := by
  intro T hT X
  rcases hr T hT X with ⟨v, st₀, t, T', L, h0, X', hL, e1, e2, hq, stp⟩ | ⟨q, st₀, t, T', L, E, ce, h0, X', hL, e1, e2, ⟨rfl, hz, hk⟩, hce, hcv, hcl, stp⟩
  · exact hq.elim
  · rw [h0] at hz hk
    obtain ⟨t2, a1, b1⟩ := vx_out (mc := 1) (ms := 6) (Qc := noQ) (XC := gT E) (free := fun _ => False) (fun x hx => (hxt x hx).elim) hlocks (by rw [e1]; exact hce) hcv hcl (fun t9 ht9 _ => ⟨rfl, by rw [ht9, e1]; exact hz, fun q9 hq9 => by rw [ht9, e1]; exact hk q9 hq9⟩) (fun z hz9 => by rcases List.mem_append.mp hz9 with h | h; exact absurd h List.not_mem_nil; exact hL z h) (by omega) (by omega) T' rfl X'
    exact ⟨t2, stp.trans a1, b1⟩
theorem g_cbx (hall : ∀ v ∈ gwx, v.before args s = true) (ok : gOK y b mL ret n) (hlk : Cond.methodLink own index y ∈ gw) (hrm : rm.cells = 1 ∧ rm.slots = 6) (hR : rm.frames + 1 ≤ R.frames ∧ 8 + (mL + 11) + rm.locals ≤ R.locals) : CallB R s args own index y b mL ret (gxs y b mL ret) rm 1 6 n :=
  callB_of n hall (gx_good ok.1) rfl hrm.1 hrm.2 (hall _ (gx_in ok.2.1)) (hall _ (gx_in hlk)) ok.2.2 hR
theorem gx_preV (hV : GV w s f H) (hX : GX w s H) (j : Nat) (hj : j < 56) {ci N : Nat} {C : String} {T : u_T} {fs : List Value} (he : gE w f j = .inr (ci, fs)) (hc : gcl[ci]? = some (C, T, N)) : PreV s H C (w.2.2.2 j) (gPx w f (.ref (w.2.2.2 j) :: As)) As :=
  ⟨gx_blind, va_recv hV.1.1 hV.2.1 hc (by rw [gW_get hj, he]), fun U hU hW => ⟨rfl, by rw [hU]; exact hV.moved hW, by rw [hU]; exact hX.moved hW⟩⟩
/-- a call of a method of the object j that throws -/
theorem g_callX (S : CallFix p m c cc nL s args gw own) (hall : ∀ v ∈ gwx, v.before args s = true) (hV : GV w s f s.heap) (hX : GX w s s.heap) (hxt : ∀ x ∈ c.exceptionTable.toList, False) (hlocks : meth.locks = false) (j : Nat) (hj : j < 56) {ci N : Nat} {T : u_T} {fs : List Value} (he : gE w f j = .inr (ci, fs)) (hc : gcl[ci]? = some (y.cls, T, N)) (ok : gOK y b mL ret n) (hin : Cond.instanceMethod y ∈ gw) (hse : Cond.selects y.cls y y ∈ gw) (hlk : Cond.methodLink own index y ∈ gw)
    (hM : vx_Met l y (gxs y b mL ret) rm (gPx w f (.ref (w.2.2.2 j) :: As)) noQ (gT E0) 1 6 (fun _ => False)) (hrm : rm.cells = 1 ∧ rm.slots = 6) (hR : rm.frames + 1 ≤ R.frames ∧ 8 + (mL + 11) + rm.locals ≤ R.locals) (hn : As.length = n) (hsz : ls.size = nL) (hst : st = As.reverse ++ .ref (w.2.2.2 j) :: rest) (hW : (rest.map fun v => v.category).sum ≤ 8) (hcs : 1 ≤ R.cells ∧ 6 ≤ R.slots) (hdg : decode cc pc = .ok (.invokevirtual index, 3)) :
    W p l e R s m args below meth c s.heap [] 0 0 (vx_MQ below noQ (gT E0) args s 1 6 (fun _ => False)) (F0 m pc ls st) :=
  g_xout (vx_runV ⟨S.1, S.2.1, S.2.2.1, S.2.2.2.1, hall⟩ hM ⟨g_cbx hall ok hlk hrm hR, hall _ (gx_in hin), hall _ (gx_in hse)⟩ (gx_preV hV hX j hj he hc) rfl hn hsz hst (lv_room hW) hdg (by simpa using hcs)) hxt hlocks
end GXO
