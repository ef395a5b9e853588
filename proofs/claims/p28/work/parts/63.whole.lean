/-! THE CLAIM OUT OF ONE WALK OF THE LAW'S BODY. Your part is whole_start (and what it stands on); all else here is the same for every law, but numbers. -/
def R_law : String := "GlossaryCrownLaw"
def lw_P (b : Addr) (xs : List Int32) (args : Array Value) (s : State) : Prop := args = #[.ref b] ∧ s.IntsAt b xs ∧ xs.length ≤ 260 ∧ (Jvm.Cond.and given_1 narrow_1).before args s = true
/-- what a walk over the start with the record d0 says of its end, said of the start itself -/
theorem lw_closed {s t : State} {o : Outcome} {d0 : Drawn} {L : List Loc} {k n : Nat} (hd0 : s.drawn.sameBut d0 lw_cs) (hv : ∃ v, o = .returned v) (hW : (s.setDrawn d0).WarmedH t.vm) (hs : (s.setDrawn d0).sameButNew ({ t with vm := s.vm } : State) L k n) : State.butDraws s t lw_cs (fun t1 => Framed s o t1 L k n) := by
  have h2 : t.drawn = d0 := congrArg State.drawn hs.1
  refine ⟨⟨hv, hW, State.sameButNew.setDrawn hs s.drawn⟩, ?_, by decide⟩
  rw [h2]
  exact hd0
def lw_Q (_ : Array Value) (s : State) (o : Outcome) (t : State) : Prop := o = .returned (some (.int 1)) ∧ State.butDraws s t lw_cs (fun t1 => Framed s o t1 [] 600104 7301313)
def lw_Z (below : List Frame) (a : Array Value) (s : State) : State → Prop := fun t => ∃ o, t.status = .running ∧ Ended t below o ∧ lw_Q a s o t
/-- the law's own end, with 1 on the stack, nothing written that was there before, its room as the claim has it; d0: the record of draws at this point (at the entry s.drawn: begin with 'refine W.base ?_' and 'have hd0 := Drawn.sameBut.refl s.drawn lw_cs') -/
theorem lw_ret {p : Program} {l : Launch} {e : Env} {s : State} {m : MethodId} {below : List Frame} {meth : Method} {c : Code} {b : Nat} {d0 : Drawn} (hd0 : s.drawn.sameBut d0 lw_cs) (hx : p.tables.exec = Jvm.exec) (hb : c.code = code) (hr : meth.sig.returnType = ret) (hlocks : meth.locks = false) {pc : Nat} {H : Heap} {ls : Array Slot} (hdg : decode code pc = .ok (.ireturn, 1)) : W p l e room_1 (s.setDrawn d0) m #[Value.ref b] below meth c H [] 600104 7301313 (lw_Z below #[Value.ref b] s) (F0 m pc ls [.int 1]) := by
  intro T hT X
  obtain ⟨fs, hret, hrun, hended, hW, hframe⟩ := X.leave (v := some (.int 1)) (hlocks := hlocks) (fun h => by rw [hr] at h; cases h)
  have hmeth' : T.vm.method? m = some meth := X.method'
  refine ⟨T.setFrames fs, ?_, .returned (some (.int 1)), hrun, hended, rfl, lw_closed hd0 ⟨_, rfl⟩ hW hframe⟩
  jvm_step X.here [X.here.top, hx, hb, hdg, hmeth', hr, ret, narrow_b1]
  (try refine ⟨rfl, ?_⟩); (try refine ⟨rfl, ?_⟩)
  first | (intro acts; rw [hret _ acts rfl rfl rfl]) | rw [hret _ _ rfl rfl rfl]
  exact Steps.refl _
/-- what holds at the law's entry: the machine, the code, the tables' words (any of lw_tbl by 'hts w (by decide +kernel)'), the script of L ints xs at the cell b, what the Statement gives of the start (any of its parts by flat_of_before) -/
def lw_At (p : Program) (s : State) (m : MethodId) (meth : Method) (c : Code) (b L : Nat) (xs : Nat → Int32) : Prop :=
  p.tables.exec = Jvm.exec ∧ c.code = code ∧ meth.sig.returnType = ret ∧ c.maxLocals = 7 ∧ s.vm.findClass R_law = some m.cls ∧ (∀ w ∈ lw_tbl, w.before #[Value.ref b] s = true) ∧ va_X b L xs s s.heap ∧ b < s.heap.size ∧ meth.locks = false ∧ (Jvm.Cond.and given_1 narrow_1).before #[Value.ref b] s = true
-- ===== YOUR PART BEGINS =====
theorem law_loop {p : Program} {e : Env} {S_ : State} {M_ : MethodId} {below : List Frame} {meth : Method} {c : Code} {l : Launch} (hfl : l.stackTraces = false) {q L : Nat} {xs : Nat → Int32} (hL : L ≤ 260) (G : CallFix p M_ c cL_law 7 S_ #[Value.ref q] gw RL ∧ True) (hall : ∀ v ∈ gwx, v.before #[Value.ref q] S_ = true) (hLB : LB S_) (hN : GNc S_) (hXs : va_X q L xs S_ S_.heap) (hr : meth.sig.returnType = ret) (hlocks : meth.locks = false) {w : GP} : ∀ n t : Nat, t + n = 80 → ∀ (f : CS) (dy : Nat) (H : Heap) (locs : List Loc) (ls : Array Slot), J f dy → GS w (nA S_) S_ H locs f → lv_has ls 7 [(0, .ref q), (1, .ref (w.2.2.2 0)), (2, .int (nI t))] → W p l e room_1 S_ M_ #[Value.ref q] below meth c H locs (56 + 7 * t) (792 + 121 * t) (lw_Z below #[Value.ref q] S_) (F0 M_ 84 ls [])
  | 0, t, ht, f, dy, H, locs, ls, hJ, hG, hl => by
    obtain ⟨hx, hb, hml, hown, hts⟩ := id G.1
    refine lv_iload_n hx hb dL_law_84 rfl (lv_at hl 2 rfl) ?_
    refine lv_bipush (v := nI 80) hx hb dL_law_85 (by decide) ?_
    refine lv_icmp_ge (tgt := 204) hx hb dL_law_87 (by decide) (fun c87 => ?_) (fun c87 => ?_)
    · refine lv_iconst (v := 1) hx hb dL_law_204 (by decide) ?_
      refine va_forget (fun z hz => hG.2.1.2.2 z hz) (W.widen (k := 600104) (n := 7301313) (by omega) (by omega) ?_)
      exact W.base (lw_ret (d0 := S_.drawn) (Drawn.sameBut.refl S_.drawn lw_cs) hx hb hr hlocks dL_law_205)
    · exact absurd ((g_le (a := 80) (b := t) (by omega) (by omega)).mpr (by omega)) c87
  | n + 1, t, ht, f, dy, H, locs, ls, hJ, hG, hl =>
    law_turn hfl hL G hall hLB hN hXs (by omega) hJ (by omega) (by omega) hG hl (fun f1 dy1 H1 locs1 ls1 J1 hG1 hl1 => by
      have K := law_loop (e := e) (below := below) hfl hL G hall hLB hN hXs hr hlocks n (t + 1) (by omega) f1 dy1 H1 locs1 ls1 J1 hG1 hl1
      rw [show 56 + 7 * (t + 1) = 56 + 7 * t + 7 by omega, show 792 + 121 * (t + 1) = 792 + 121 * t + 121 by omega] at K
      exact K)
set_option maxRecDepth 100000 in
set_option maxHeartbeats 4000000 in
theorem whole_start {p : Program} {e : Env} {s : State} {m : MethodId} {below : List Frame} {meth : Method} {c : Code} (l : Launch) (hflags : l.flags = flags0) {b L : Nat} {xs : Nat → Int32} (hL : L ≤ 260) (C0 : lw_At p s m meth c b L xs) : W p l e room_1 s m #[Value.ref b] below meth c s.heap [] 0 0 (lw_Z below #[Value.ref b] s) (entryFrame m ([Value.ref b] : List Value).toArray 7) := by
  obtain ⟨hx, hb, hr, hml, hown, hts, hX, hbl, hlocks, hgv⟩ := id C0
  have hfl := st_tr hflags
  have htg : ∀ v ∈ gw, v.before #[Value.ref b] s = true := fun v hv => hts v (gw_in v hv)
  have hall : ∀ v ∈ gwx, v.before #[Value.ref b] s = true := fun v hv => hts v (gwx_in v hv)
  obtain ⟨hLB, hN⟩ := st_LB hts hgv
  obtain ⟨_, _, _, _, _, _, t7, t8, t9, t10⟩ := st_tb
  have n0 : va_Nw (.methodLinkNest RX2 11 yX0_init "GlossaryCrown") s := va_Nw.of rfl (hts _ t7)
  have n1 : va_Nw (.methodLinkNest RX0 51 yX2_has "GlossaryCrown") s := va_Nw.of rfl (hts _ t8)
  have n2 : va_Nw (.methodLinkNest RX1 65 yX2_has "GlossaryCrown") s := va_Nw.of rfl (hts _ t9)
  have hover : va_AOA .int s := hts _ t10
  have G : CallFix p m c cL_law 7 s #[Value.ref b] gw RL ∧ True := ⟨⟨hx, hb, hml, hown, htg⟩, trivial⟩
  obtain ⟨c0, i0, k0⟩ := u_known (C := RX0) (T := TX0) (N := 12) (n := 12) htg gin0 (htg _ gm_154)
  obtain ⟨c1, i1, k1⟩ := u_known (C := RX1) (T := TX1) (N := 6) (n := 6) htg gin1 (htg _ gm_157)
  obtain ⟨c2, i2, k2⟩ := u_known (C := RX2) (T := TX2) (N := 3) (n := 3) htg gin2 (htg _ gm_443)
  obtain ⟨D, hKc⟩ : ∃ D : va_G, ∀ (k : Nat) (q : vw_C), gcl[k]? = some q → u_Kn s q.1 q.2.1 q.2.2 (D.1 k) (D.2 k) := by
    refine ⟨(fun k => if k = 0 then c0 else if k = 1 then c1 else c2, fun k => if k = 0 then i0 else if k = 1 then i1 else i2), ?_⟩
    intro k q hq
    match k, hq with
    | 0, hq => cases hq; exact k0
    | 1, hq => cases hq; exact k1
    | 2, hq => cases hq; exact k2
    | k + 3, hq => simp [gcl] at hq
  have hA : ∀ q : Nat, s.heap.size ≤ q → nA s q := fun _ h => h
  have hS : va_S (nA s) s.heap s.heap [] := va_S.rf
  have hK : va_K D gcl [] s := ⟨hKc, fun k q h => by simp at h⟩
  have hP : va_P D gcl [] s.heap := fun k q h => by simp at h
  have hD : va_D (nA s) [] := ⟨fun i j p q h => by simp at h, fun k q h => by simp at h⟩
  have hl := lv_entry ([.ref b]) (n := 7) (Nat.le_of_ble_eq_true rfl)
  rw [lg_entry_eq]
  generalize (lg_sl ([.ref b]) ++ List.replicate (7 - (lg_sl ([.ref b])).length) Slot.unset).toArray = ls at hl ⊢
  have hl : lv_has ls 7 [(0, .ref b)] := hl
  refine va_new (ci := 2) (fs := [.null, .null, .int 0]) (C := RX2) (T := TX2) (N := 3) hx hb htg gin2 tyX2 tyX2_ok hown (htg _ gm_503) (htg _ gm_443) (htg _ gm_18) hK hP hD hS hA rfl (fun j hj => by rcases (show j = 0 ∨ j = 1 ∨ j = 2 by omega) with rfl | rfl | rfl <;> rfl) (Nat.le_of_ble_eq_true rfl) (Nat.le_of_ble_eq_true rfl) dL_law_0 (fun q0 H hP hD hS => ?_)
  have hP : va_P D gcl [(q0, .inr (2, [.null, .null, .int 0]))] H := hP
  have hD : va_D (nA s) [(q0, .inr (2, [.null, .null, .int 0]))] := hD
  refine lv_dup hx hb dL_law_3 rfl ?_
  have hPc := hP.sub (ws' := [(q0, .inr (2, [.null, .null, .int 0]))]) [0] rfl
  have hDc := hD.sub (ws' := [(q0, .inr (2, [.null, .null, .int 0]))]) [0] (by decide) rfl
  have hKc := hK.sub (tys' := []) [] rfl
  have hFc := va_free (wc := [(q0, .inr (2, [.null, .null, .int 0]))]) hD hS hA [0] rfl
  have hq0 : nA s q0 := hD.2 0 (q0, .inr (2, [.null, .null, .int 0])) rfl
  have hHs : s.heap.size ≤ H.size := hS.1
  refine va_callv (va_runI (As := []) (rest := [.ref q0]) G.1 (c_X2_init l D q0 H.size) ⟨g_cb htg ok_X2_init gm_504 rfl rfl ⟨Nat.le_of_ble_eq_true rfl, Nat.le_of_ble_eq_true rfl⟩, rfl, htg _ gm_444⟩ ⟨fun a U g mk z => by obtain ⟨z0, z1, z2, z3, z4, z5, z6, z7, z8⟩ := z; exact ⟨z0, z1, z2, va_K.moved (u := U) (U := U.calling g mk a) (Vm.Alike.refl U.vm) z3, z4, z5.same rfl, va_Nw.same (u := U) rfl rfl z6, va_Nw.same (u := U) rfl rfl z7, va_Nw.same (u := U) rfl rfl z8⟩, fun U hU hW => ⟨rfl, by rw [hU], by rw [hU]; exact hPc, va_K.moved hW.alike hKc, hDc.weaken (fun _ _ _ _ => trivial), hover.warm hW, va_Nw.warmM hW n0, va_Nw.warmM hW n1, va_Nw.warmM hW n2⟩⟩ rfl rfl hl.1 rfl (lv_room (Nat.le_of_ble_eq_true rfl)) dL_law_4 ⟨Nat.le_of_ble_eq_true rfl, Nat.le_of_ble_eq_true rfl⟩) hS (fun q _ h => hFc q h) hFc (fun w t H1 locs ht hvm hw hB hz1 hk1 hS => ?_)
  obtain ⟨hV, hDw⟩ := hB
  have hPw := hV.2.1
  rw [ht] at hPw
  have hG : GS w (nA s) s H1 locs f0 := ⟨⟨⟨va_K.moved hvm.symm hV.1.1, n1, n2⟩, hPw, hV.2.2⟩, hS, fun z hz => by
    obtain ⟨j, hj, rfl⟩ := hz
    have := hDw.2 j _ (gW_get hj)
    rcases this with ⟨k, e9, hk9⟩ | h9
    · have hk0 : k < 1 := (List.getElem?_eq_some_iff.mp hk9).1
      rw [show k = 0 by omega] at hk9
      have e0 : q0 = w.2.2.2 j := congrArg Prod.fst (Option.some.inj hk9)
      rw [← e0]
      exact hq0
    · exact Nat.le_trans hHs h9⟩
  refine W.eq (g2 := F0 m 7 ls [.ref (w.2.2.2 0)]) (by rw [hw.2]) ?_
  exact law_house G hG hl (fun H2 locs2 ls2 hG2 hl2 => law_loop hfl hL G hall hLB hN hX hr hlocks 80 0 rfl fB 0 H2 locs2 ls2 fB_J hG2 hl2)
