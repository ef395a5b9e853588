/-! The law's own methods: their arrays beside the class's world. -/
def LV (w : GP) (s : State) (H : Heap) (locs : List Loc) (f : CS) (ar : va_W) : Prop := GV w s f H ∧ (∀ j, j < 56 → w.2.2.2 j < s.heap.size) ∧ va_P w.1 gcl ar H ∧ va_D (fun q => s.heap.size ≤ q) ar ∧ va_S (fun q => s.heap.size ≤ q) s.heap H locs
theorem LV.start {w : GP} {s : State} {f : CS} (hV : GV w s f s.heap) : LV w s s.heap [] f [] := ⟨hV, fun j hj => (hV.2.1 j _ (gW_get hj)).lt, fun k q h => by simp at h, ⟨fun i j p q h => by simp at h, fun k q h => by simp at h⟩, va_S.rf⟩
/-- an answer; nothing that was there before has changed -/
def gRn (v : Value) : Array Value → State → Outcome → State → Prop := fun _ st o t => o = .returned (some v) ∧ st.heap.size ≤ t.heap.size ∧ ∀ q : Nat, q < st.heap.size → t.heap[q]? = st.heap[q]?
section LK
variable {p : Program} {l : Launch} {e : Env} {R : Room} {s : State} {m : MethodId} {args : Array Value} {below : List Frame} {meth : Method} {c : Code} {H : Heap} {locs : List Loc} {cells slots : Nat} {Q : State → Prop}
variable {cc : ByteArray} {pc : Nat} {ls : Array Slot} {rest st : List Value} {w : GP} {f : CS} {own : String} {nL : Nat} {ar : va_W} {a : Array Value} {fr : Nat → Prop}
theorem l_newa (hx : p.tables.exec = Jvm.exec) (hb : c.code = cc) (hL : LV w s H locs f ar) (hts : ∀ w ∈ gw, w.before args s = true) {N : Nat} (hN : N < 1000) (hdg : decode cc pc = .ok (.newarray .int, 2)) (hc : cells + 1 ≤ R.cells) (hs : slots + N ≤ R.slots)
    (kk : ∀ (q : Nat) (H1 : Heap), LV w s H1 locs f (ar ++ [(q, .inl (w.2.1, N, .inl (fun _ => 0)))]) → W p l e R s m args below meth c H1 locs (cells + 1) (slots + N) Q (F0 m (pc + 2) ls (.ref q :: rest))) : W p l e R s m args below meth c H locs cells slots Q (F0 m pc ls (.int (nI N) :: rest)) := by
  obtain ⟨hV, hlt, hP, hD, hS⟩ := hL
  refine va_newaK (atype := .int) hx hb (hts _ gm_5) rfl hdg rfl (nI_pos (by omega)) (nI_clamp (by omega)) (by show N * 4 ≤ _; omega) hc hs rfl (fun H1 cA e1 z1 o1 hAr hNm => ?_)
  have ec : cA = w.2.1 := Option.some.inj (hNm.symm.trans (hV.1.1.2 0 _ rfl).2)
  rw [ec] at e1
  refine kk H.size H1 ⟨⟨hV.1, hV.2.1.kept (fun k x hx9 => o1 x.1 ((hV.2.1 k x hx9).lt)), hV.2.2⟩, hlt, (hP.kept (fun k x hx9 => o1 x.1 ((hP k x hx9).lt))).app (fun k x hx9 => ?_), hD.push hP rfl hS.1, ⟨Nat.le_trans hS.1 (by omega), fun q h1 h2 => (o1 q (Nat.lt_of_lt_of_le h1 hS.1)).trans (hS.2.1 q h1 h2), hS.2.2⟩⟩
  have h0 : k < 1 := (List.getElem?_eq_some_iff.mp hx9).1
  rw [show k = 0 by omega] at hx9
  cases hx9
  exact e1
theorem l_iald (hx : p.tables.exec = Jvm.exec) (hb : c.code = cc) (hL : LV w s H locs f ar) (k : Nat) {q N : Nat} {u : Nat → Int32} (he : ar[k]? = some (q, .inl (w.2.1, N, .inl u))) {i : Nat} (hi : i < N) (hN : N < 1000) (hdg : decode cc pc = .ok (.iaload, 1))
    (kk : W p l e R s m args below meth c H locs cells slots Q (F0 m (pc + 1) ls (.int (u i) :: rest))) : W p l e R s m args below meth c H locs cells slots Q (F0 m pc ls (.int (nI i) :: .ref q :: rest)) := by
  refine va_iald hx hb hL.1.1.1 hL.2.2.1 k 0 he rfl (nI_in hi (by omega)) hdg ?_
  rw [nI_clamp (by omega)]
  exact kk
theorem l_iast (hx : p.tables.exec = Jvm.exec) (hb : c.code = cc) (hL : LV w s H locs f ar) (k : Nat) {q N : Nat} {u : Nat → Int32} (he : ar[k]? = some (q, .inl (w.2.1, N, .inl u))) {i : Nat} {x : Int32} (hi : i < N) (hN : N < 1000) (hdg : decode cc pc = .ok (.iastore, 1))
    (kk : ∀ (H1 : Heap) (locs1 : List Loc), LV w s H1 locs1 f (ar.set k (q, .inl (w.2.1, N, .inl (upd u i x)))) → W p l e R s m args below meth c H1 locs1 cells slots Q (F0 m (pc + 1) ls rest)) : W p l e R s m args below meth c H locs cells slots Q (F0 m pc ls (.int x :: .int (nI i) :: .ref q :: rest)) := by
  obtain ⟨hV, hlt, hP, hD, hS⟩ := hL
  have hq : s.heap.size ≤ q := hD.2 k _ he
  have hi2 : (nI i).toNatClampNeg = i := nI_clamp (by omega)
  refine W.iast hx hb (hP k _ he) ((hV.1.1.2 0 _ rfl).1 N (fun j => .int (u j))) (fun z => by cases z) (by show ¬ (_ ∨ (arrV _ _ _).slots.size ≤ _); rw [arrV_size]; exact nI_in (N := N) hi (show N < 2 ^ 31 by omega)) rfl rfl hdg (fun H1 e1 z1 oq => ?_)
  rw [hi2] at e1 ⊢
  refine kk H1 _ ⟨⟨hV.1, fun j x9 hx9 => ?_, hV.2.2⟩, hlt, hP.set hD he ?_ oq, hD.set he, ⟨by rw [z1]; exact hS.1, fun q9 h1 h2 => (oq q9 (fun z => by have z2 : q9 = q := z; omega)).trans (hS.2.1 q9 h1 h2), fun z hz => ?_⟩⟩
  · have h9 := hV.2.1 j x9 hx9
    refine h9.kept (oq x9.1 (fun z => ?_))
    obtain ⟨hj, rfl⟩ := gW_of hx9
    have := hlt j hj
    have z2 : w.2.2.2 j = q := z
    omega
  · show H1[q]? = some (vp_cell _ _)
    rw [e1]
    rw [vp_cell_i, vp_cell_i, arrV_store]
    congr 2
    funext q9
    by_cases hq9 : q9 = i
    · subst hq9
      simp [updV, upd]
    · simp [updV, upd, hq9]
  · rcases List.mem_append.mp hz with h | h
    · exact hS.2.2 z h
    · rw [List.mem_singleton.mp h]; exact hq
theorem n_zret (G : Gx p c cc nL s args own m meth (some .boolean)) (hL : LV w s H locs f ar) {v : Int32} {r : Value} (hv : Value.int v = r) (hn : v = 0 ∨ v = 1) (hdg : decode cc pc = .ok (.ireturn, 1)) : W p l e R s m args below meth c H locs cells slots (MQ below (gRn r) args s cells slots fr) (F0 m pc ls [.int v]) :=
  va_forget (fun q hq => hL.2.2.2.2.2.2 q hq) (W.zret (ty := .boolean) G.1.1 G.1.2.1 G.2.1 (by rcases hn with rfl | rfl <;> decide) (fun t ht _ => ⟨by rw [hv], by rw [ht]; exact hL.2.2.2.2.1, fun q hq => by rw [ht]; exact hL.2.2.2.2.2.1 q hq (by omega)⟩) (fun q hq => absurd hq List.not_mem_nil) hdg G.2.2)
end LK
theorem n_read {l : Launch} {y : MethodName} {b : ByteArray} {mL : Nat} {ret : Option FieldType} {rm : Room} {av : List Value} {w : GP} {f : CS} {Qc : Array Value → State → Outcome → State → Prop} {fr : Nat → Prop} {mc ms : Nat} (hy : plainName y.cls = true) (hsz : (lg_sl av).length ≤ mL)
    (body : ∀ (p : Program) (e : Env) (s : State) (m : MethodId) (below : List Frame) (meth : Method) (c : Code) (ls : Array Slot), Gx p c b mL s av.toArray y.cls m meth ret → GV w s f s.heap → lv_has ls mL (lv_args 0 av) → W p l e rm s m av.toArray below meth c s.heap [] 0 0 (MQ below Qc av.toArray s mc ms fr) (F0 m 0 ls [])) :
    Met l y (gws y b mL ret) rm (gPc w f av) Qc mc ms fr := by
  refine Met.ofW (cc := b) (maxL := mL) (ret := ret) hy rfl ?_
  intro p e s m args below meth c s₁ B hml hv
  obtain ⟨rfl, hV⟩ := hv
  rw [lg_entry_eq]
  exact body p e s m below meth c _ ⟨⟨B.exec, B.bytes, hml, findClass_of_methodNamed B.named, fun v hv => atoms_spec (ws := gws y b mL ret) B.pre v (List.mem_cons_of_mem _ hv)⟩, B.returns, B.notSynchronized⟩ hV (lv_entry av hsz)
