/-! The law's own body: its calls, what it knows of the start. -/
abbrev nA (s : State) : Nat → Prop := fun q => s.heap.size ≤ q
def LB (s : State) : Prop := vx_Zq Bundle.tN "UNASSIGNED_STACK" Bundle.steD (nA s) s s.heap ∧ vx_Zq Bundle.tN "SUPPRESSED_SENTINEL" Bundle.listD (nA s) s s.heap ∧ (va_Nw (.castable eA eA) s ∧ va_Nw (.castable eS eS) s ∧ va_Nw (.castable eI eI) s ∧ GDe s) ∧ ∀ q ∈ gStr, ∃ sa, vk_R RX2 q.1 q.2 sa s
section LK2
variable {p : Program} {l : Launch} {e : Env} {R : Room} {s : State} {m : MethodId} {args : Array Value} {below : List Frame} {meth : Method} {c : Code} {H : Heap} {locs : List Loc} {cells slots : Nat} {Q : State → Prop}
variable {cc : ByteArray} {pc : Nat} {ls : Array Slot} {rest st As : List Value} {w : GP} {f : CS} {A : Nat → Prop} {own : String} {nL mL n index mc ms : Nat} {y : MethodName} {b : ByteArray} {ret : Option FieldType} {rm : Room}
theorem LB.X (h : LB s) (hG : GS w (nA s) s H locs f) : GX w s H :=
  ⟨(h.1.kept (fun a h1 h2 => hG.2.1.2.1 a h1 h2)).narrow hG.2.2, (h.2.1.kept (fun a h1 h2 => hG.2.1.2.1 a h1 h2)).narrow hG.2.2, h.2.2.1, h.2.2.2⟩
theorem l_act (S : CallFix p m c cc nL s args gw RL) (hall : ∀ v ∈ gwx, v.before args s = true) (hLB : LB s) (hN : GNc s) (hfl : l.stackTraces = false) (hG : GS w (nA s) s H locs f) {x : Int32} {dy : Nat} (hJ : J f dy) (hR : aR.frames + 1 ≤ R.frames ∧ 8 + (16 + 11) + aR.locals ≤ R.locals) (hsz : ls.size = nL) (hW : (rest.map fun v => v.category).sum ≤ 8) (hcs : cells + 1 ≤ R.cells ∧ slots + 6 ≤ R.slots) (hdg : decode cc pc = .ok (.invokestatic 33, 3))
    (kk : ∀ (f' : CS) (dy' : Nat) (H1 : Heap) (locs1 : List Loc), J f' dy' → (blN x 20 < 13 → tsN f (nI 2) ≤ tsN f' (nI 2)) → GS w (nA s) s H1 locs1 f' → W p l e R s m args below meth c H1 locs1 (cells + 1) (slots + 6) Q (F0 m (pc + 3) ls (.int 1 :: rest))) : W p l e R s m args below meth c H locs cells slots Q (F0 m pc ls (.int x :: .ref (w.2.2.2 0) :: rest)) := by
  have hd : (parseMethodDescriptor yL_act.desc).map (fun d => d.parameters.length) = some 2 := by decide +kernel
  have cw : vx_CSW R s args RL 33 yL_act cL_act 16 (some .boolean) actH (ghs yL_act cL_act 16 (some .boolean) actH) aR 1 6 2 :=
    ⟨⟨rfl, rfl, hR.1, hR.2, pay_in hall (gh_good gm_512), List.mem_cons_self⟩, hall _ (gx_in gm_512), hall _ (gx_in gm_468), ⟨by decide +kernel, by decide +kernel⟩, fun sig h => by
      rw [h] at hd
      exact (Option.some.inj hd).symm, hall _ (gx_in gm_510), hall _ (gx_in gm_511)⟩
  have hp : PreS s H (gPa w f [.ref (w.2.2.2 0), .int x]) [.ref (w.2.2.2 0), .int x] := ⟨ga_blind, fun U hU hW9 => ⟨rfl, by rw [hU]; exact hG.1.moved hW9, by rw [hU]; exact (hLB.X hG).moved hW9, hN.moved hW9.alike⟩⟩
  refine g_backW (mc := 1) (ms := 6) (st := .int x :: .ref (w.2.2.2 0) :: rest) (rest := rest) hG (vx_runSW (As := [.ref (w.2.2.2 0), .int x]) S (c_L_act l hfl w f x hJ) cw hp rfl rfl hsz rfl (lv_room hW) hdg hcs) (fun v f' H1 locs1 hp9 hG1 => ?_)
  obtain ⟨rfl, dy', hJ', h2⟩ := hp9
  exact kk f' dy' H1 locs1 hJ' h2 hG1
theorem l_chk (S : CallFix p m c cc nL s args gw own) (hG : GS w A s H locs f) {v : Value} (ok : gOK y b mL ret n) (hin : Cond.static y ∈ gw) (hlk : Cond.methodLink own index y ∈ gw)
    (hM : Met l y (gws y b mL ret) rm (gPc w f As) (gRn v) mc ms (fun _ => False)) (hrm : rm.cells = mc ∧ rm.slots = ms) (hR : rm.frames + 1 ≤ R.frames ∧ 8 + (mL + 11) + rm.locals ≤ R.locals) (hn : As.length = n) (hsz : ls.size = nL) (hst : st = As.reverse ++ rest) (hW : (rest.map fun v => v.category).sum ≤ 8) (hcs : cells + mc ≤ R.cells ∧ slots + ms ≤ R.slots) (hdg : decode cc pc = .ok (.invokestatic index, 3))
    (kk : ∀ H1 : Heap, GS w A s H1 locs f → W p l e R s m args below meth c H1 locs (cells + mc) (slots + ms) Q (F0 m (pc + 3) ls (v :: rest))) : W p l e R s m args below meth c H locs cells slots Q (F0 m pc ls st) := by
  intro T hT X
  obtain ⟨v', st₀, t, T', L, h0, X', hL, e1, e2, ⟨hv, hz, hk⟩, stp⟩ := (va_runS (g := F0 m pc ls st) S hM ⟨g_cb S.2.2.2.2 ok hlk hrm.1 hrm.2 hR, S.2.2.2.2 _ hin⟩ (g_preS hG.1) rfl hn hsz hst (lv_room hW) hdg hcs) T hT X
  cases hv
  rw [h0] at hz hk
  obtain ⟨t2, a1, b1⟩ := kk T'.heap (hG.more (by rw [e1]; exact hz) (fun i hi => by rw [e1]; exact hk i hi)) T' rfl (Stand.forget X' (fun q h => (hL q h).elim))
  exact ⟨t2, stp t2 a1, b1⟩
end LK2
/-! cell: some number. -/
theorem ok_L_cell : gOK yL_cell cL_cell 2 (some .int) 2 := ⟨gm_509, gm_468, by decide +kernel⟩
def gAny : Array Value → State → Outcome → State → Prop := fun _ st o t => ∃ v : Int32, o = .returned (some (.int v)) ∧ t.heap = st.heap
set_option maxRecDepth 100000 in
theorem c_L_cell (l : Launch) (q k L : Nat) (xs : Nat → Int32) (hL : L ≤ 260) (hk : k < 29) : Met l yL_cell (gws yL_cell cL_cell 2 (some .int)) ({ frames := 0, cells := 0, slots := 0, locals := 0 }) (va_Pc [.ref q, .int (nI k)] (fun U => va_X q L xs U U.heap)) gAny 0 0 (fun _ => False) := by
  refine Met.ofW (cc := cL_cell) (maxL := 2) (ret := some .int) (by decide) rfl ?_
  intro p e s m args below meth c s₁ B hml hv
  obtain ⟨rfl, hX⟩ := hv
  have hx := B.exec
  have hb := B.bytes
  have hr := B.returns
  have hts : ∀ v ∈ gw, v.before _ s = true := fun v hv => atoms_spec (ws := gws yL_cell cL_cell 2 (some .int)) B.pre v (List.mem_cons_of_mem _ hv)
  have hown : s.vm.findClass RL = some m.cls := findClass_of_methodNamed B.named
  have hlocks := B.notSynchronized
  have hbl : q < s.heap.size := by
    obtain ⟨scr, h1, _⟩ := hX
    exact (Array.getElem?_eq_some_iff.mp h1).1
  have hS : va_S (fun _ => False) s.heap s.heap [] := va_S.rf
  have hl := lv_entry ([.ref q, .int (nI k)]) (n := 2) (Nat.le_of_ble_eq_true rfl)
  rw [lg_entry_eq]
  generalize (lg_sl ([.ref q, .int (nI k)]) ++ List.replicate (2 - (lg_sl ([.ref q, .int (nI k)])).length) Slot.unset).toArray = ls at hl ⊢
  have hl : lv_has ls 2 [(0, .ref q), (1, .int (nI k))] := hl
  refine lv_iload_n hx hb dL_cell_0 rfl (lv_at hl 1 rfl) ?_
  refine lv_aload_n hx hb dL_cell_1 rfl (lv_at hl 0 rfl) ?_
  refine va_slen hx hb hX hbl (fun h => h) hS dL_cell_2 ?_
  refine lv_icmp_ge (tgt := 12) hx hb dL_cell_3 (by decide) (fun c3 => ?_) (fun c3 => ?_)
  · refine lv_ldc hx hb hown (hts _ gm_464) dL_cell_12 ?_
    refine lv_iload_n hx hb dL_cell_14 rfl (lv_at hl 1 rfl) ?_
    refine lv_iconst (v := nI 3) hx hb dL_cell_15 (by decide) ?_
    refine lv_iadd hx hb dL_cell_16 ?_
    refine lv_imul hx hb dL_cell_17 ?_
    exact W.iret hx hb hr (fun t ht _ => ⟨_, rfl, ht⟩) (fun q hq => absurd hq List.not_mem_nil) dL_cell_18 hlocks
  · have hkL : k < L := by
      rcases Nat.lt_or_ge k L with z | z
      · exact z
      · exact absurd ((g_le (a := L) (b := k) (by omega) (by omega)).mpr z) c3
    refine lv_aload_n hx hb dL_cell_6 rfl (lv_at hl 0 rfl) ?_
    refine lv_iload_n hx hb dL_cell_7 rfl (lv_at hl 1 rfl) ?_
    refine va_sld hx hb hX hbl (fun h => h) hS (nI_in hkL (by omega)) dL_cell_8 ?_
    refine lv_goto (tgt := 18) hx hb dL_cell_9 (by decide) ?_
    exact W.iret hx hb hr (fun t ht _ => ⟨_, rfl, ht⟩) (fun q hq => absurd hq List.not_mem_nil) dL_cell_18 hlocks
theorem l_cell {p : Program} {l : Launch} {e : Env} {R : Room} {s : State} {m : MethodId} {args : Array Value} {below : List Frame} {meth : Method} {c : Code} {H : Heap} {locs : List Loc} {cells slots : Nat} {Q : State → Prop} {cc : ByteArray} {pc nL : Nat} {ls : Array Slot} {rest : List Value} {w : GP} {f : CS} {q k L : Nat} {xs : Nat → Int32}
    (S : CallFix p m c cc nL s args gw RL) (hG : GS w (nA s) s H locs f) (hX : va_X q L xs s s.heap) (hL : L ≤ 260) (hk : k < 29) (hR : 0 + 1 ≤ R.frames ∧ 8 + (2 + 11) + 0 ≤ R.locals) (hsz : ls.size = nL) (hW : (rest.map fun v => v.category).sum ≤ 8) (hcs : cells ≤ R.cells ∧ slots ≤ R.slots) (hdg : decode cc pc = .ok (.invokestatic 24, 3))
    (kk : ∀ v : Int32, W p l e R s m args below meth c H locs cells slots Q (F0 m (pc + 3) ls (.int v :: rest))) : W p l e R s m args below meth c H locs cells slots Q (F0 m pc ls (.int (nI k) :: .ref q :: rest)) := by
  have hbl : q < s.heap.size := by
    obtain ⟨scr, h1, _⟩ := hX
    exact (Array.getElem?_eq_some_iff.mp h1).1
  have hXH : va_X q L xs s H := hX.kept (hG.2.1.2.1 q hbl (Nat.not_le.mpr hbl))
  have hp : PreS s H (va_Pc [.ref q, .int (nI k)] (fun U => va_X q L xs U U.heap)) [.ref q, .int (nI k)] := ⟨fun a U g mk z => ⟨z.1, z.2.moved (Vm.Alike.refl U.vm)⟩, fun U hU hW9 => ⟨rfl, by show va_X q L xs U U.heap; rw [hU]; exact hXH.moved hW9.alike⟩⟩
  intro T hT X
  obtain ⟨v', st₀, t, T', Ls, h0, X', hLs, e1, e2, ⟨v, hv, hh⟩, stp⟩ := (va_runS (g := F0 m pc ls (.int (nI k) :: .ref q :: rest)) (As := [.ref q, .int (nI k)]) (rest := rest) S (c_L_cell l q k L xs hL hk) ⟨g_cb S.2.2.2.2 ok_L_cell gm_507 rfl rfl hR, S.2.2.2.2 _ gm_508⟩ hp rfl rfl hsz rfl (lv_room hW) hdg hcs) T hT X
  cases hv
  obtain ⟨t2, a1, b1⟩ := kk v T' (by rw [e1, hh, h0]) (Stand.forget X' (fun z h => (hLs z h).elim))
  exact ⟨t2, stp t2 a1, b1⟩
