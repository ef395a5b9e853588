/-! The first add to a list. -/
theorem va_Any.moved {E : String} {s U : State} {H : Heap} {v : Nat} (hW : s.WarmedH U.vm) (h : va_Any E s H v) : va_Any E U H v := by
  obtain ⟨cellV, g1, g2, ⟨kC, hk⟩, g4⟩ := h
  obtain ⟨k', hk', he⟩ := hW.alike.2.2 _ _ hk
  exact ⟨cellV, g1, g2, ⟨k', hk'⟩, fun comp hc => by rw [hW.alike.assignable]; exact g4 comp (by rw [← hW.alike.findClass]; exact hc)⟩
theorem va_Any.same {E : String} {s U : State} {H : Heap} {v : Nat} (hv : s.vm = U.vm) (h : va_Any E s H v) : va_Any E U H v := by
  obtain ⟨cellV, g1, g2, g3, g4⟩ := h
  exact ⟨cellV, g1, g2, by rw [← hv]; exact g3, by rw [← hv]; exact g4⟩
theorem ok_Jx4a65c_grow_92f84 : gOK yJx4a65c_grow_92f84 cJx4a65c_grow_92f84 4 (some (.array (.object "java/lang/Object"))) 1 := ⟨gm_475, gm_416, by decide +kernel⟩
theorem ok_Jx4a65c_grow_d5877 : gOK yJx4a65c_grow_d5877 cJx4a65c_grow_d5877 1 (some (.array (.object "java/lang/Object"))) 0 := ⟨gm_479, gm_416, by decide +kernel⟩
theorem ok_Jx4a65c_add_72be8 : gOK yJx4a65c_add_72be8 cJx4a65c_add_72be8 4 none 3 := ⟨gm_485, gm_416, by decide +kernel⟩
theorem ok_Jx4a65c_add_9ea2d : gOK yJx4a65c_add_9ea2d cJx4a65c_add_9ea2d 2 (some .boolean) 1 := ⟨gm_496, gm_416, by decide +kernel⟩
/-- the empty array of the library, apart from h -/
def mEm (em h : Nat) (U : State) (H : Heap) : Prop := mZ em (fun q => q = h) U H ∧ va_T (.object "java/lang/Object") em 0 (fun _ => .null) (fun q => q = h) U H ∧ va_AO "java/lang/Object" U
theorem mEm.moved {em h : Nat} {s U : State} {H : Heap} (hW : s.WarmedH U.vm) (hB : mEm em h s H) : mEm em h U H := ⟨va_Z.moved hW.alike hB.1, va_T.moved hW.alike hB.2.1, va_AO.moved hW.alike hB.2.2⟩
theorem mEm.same {em h : Nat} {s U : State} {H : Heap} (hv : s.vm = U.vm) (hB : mEm em h s H) : mEm em h U H := ⟨va_Z.moved (by rw [hv]; exact Vm.Alike.refl U.vm) hB.1, va_T.moved (by rw [hv]; exact Vm.Alike.refl U.vm) hB.2.1, va_AO.moved (by rw [hv]; exact Vm.Alike.refl U.vm) hB.2.2⟩
theorem mEm.kept {em h : Nat} {U : State} {H H1 : Heap} (hB : mEm em h U H) (hq : ∀ a : Nat, a < H.size → ¬ a = h → H1[a]? = H[a]?) : mEm em h U H1 := ⟨hB.1.kept hq, hB.2.1.kept hq, hB.2.2⟩
theorem mZ.wide {em h : Nat} {s : State} (hZ : mZ em (fun q => q = h) s s.heap) : mZ em (fun z => z = h ∨ s.heap.size ≤ z) s s.heap := by
  obtain ⟨cf, kf, fi, f, a, cell, h1, h2, h3, h4, h5, h6, h7, h8⟩ := hZ
  refine ⟨cf, kf, fi, f, a, cell, h1, h2, h3, h4, h5, h6, h7, fun z => ?_⟩
  have := (Array.getElem?_eq_some_iff.mp h5).1
  rcases z with z | z
  · exact h8 z
  · omega
theorem mT.wide {em h : Nat} {s : State} (hT : va_T (.object "java/lang/Object") em 0 (fun _ => .null) (fun q => q = h) s s.heap) : va_T (.object "java/lang/Object") em 0 (fun _ => .null) (fun z => z = h ∨ s.heap.size ≤ z) s s.heap := by
  obtain ⟨cell, h1, h2, h3, h4, h5, h6, h7⟩ := hT
  refine ⟨cell, h1, h2, h3, h4, h5, h6, fun z => ?_⟩
  have := (Array.getElem?_eq_some_iff.mp h1).1
  rcases z with z | z
  · exact h7 z
  · omega
abbrev mFr (h sz : Nat) : Nat → Prop := fun z => z = h ∨ sz ≤ z
def mGr (D : va_G) (h : Nat) : Array Value → State → Outcome → State → Prop := fun _ st o t => ∃ (q : Nat) (cA : ClassId), o = .returned (some (.ref q)) ∧ va_P D gcl [(h, .inr (4, [.int 1, .ref q, .int 0])), (q, .inl (cA, 10, .inr (.inr (.inr (.inr (fun _ => none))))))] t.heap ∧ va_K D gcl [(cA, .object "java/lang/Object")] t ∧ va_D (fun z => z = h ∨ st.heap.size ≤ z) [(h, .inr (4, [.int 1, .ref q, .int 0])), (q, .inl (cA, 10, .inr (.inr (.inr (.inr (fun _ => none))))))] ∧ va_F (fun z => z = h) st t
def mG0 (D : va_G) (h em sz : Nat) : State → Prop := fun U => U.heap.size = sz ∧ va_K D gcl [] U ∧ va_P D gcl [(h, .inr (4, [.int 1, .ref em, .int 0]))] U.heap ∧ mEm em h U U.heap
theorem mG0.call {D : va_G} {h em sz : Nat} {U : State} {g : JFrame} {mk : MethodId} {a : Array Value} (z : mG0 D h em sz U) : mG0 D h em sz (U.calling g mk a) := ⟨z.1, va_K.moved (u := U) (U := U.calling g mk a) (Vm.Alike.refl U.vm) z.2.1, z.2.2.1, z.2.2.2.same (U := U.calling g mk a) rfl⟩
/-- a place of a heap that a walk has not touched -/
theorem va_F.of {A B : Nat → Prop} {s t : State} (h : va_F A s t) (hAB : ∀ z, z < s.heap.size → A z → B z) : va_F B s t := ⟨h.1, fun q h1 h2 => h.2 q h1 (fun z => h2 (hAB q h1 z))⟩
set_option maxRecDepth 100000 in
theorem c_Jx4a65c_grow_92f84 (l : Launch) (D : va_G) (h em sz : Nat) : Met l yJx4a65c_grow_92f84 (gws yJx4a65c_grow_92f84 cJx4a65c_grow_92f84 4 (some (.array (.object "java/lang/Object")))) ({ frames := 1, cells := 1, slots := 10, locals := 21 }) (va_Pc [.ref h, .int (nI 1)] (mG0 D h em sz)) (mGr D h) 1 10 (mFr h sz) := by
  refine b_read (by decide) (Nat.le_of_ble_eq_true rfl) ?_
  intro P_ E_ S_ M_ B_ T_ C_ ls G hnm hV hl
  obtain ⟨hx, hb, hml, hown, hts⟩ := id G.1
  have hl : lv_has ls 4 [(0, .ref h), (1, .int (nI 1))] := hl
  obtain ⟨rfl, hK, hP, hB⟩ := hV
  have hA : ∀ z : Nat, S_.heap.size ≤ z → mFr h S_.heap.size z := fun _ z => Or.inr z
  have hD : va_D (mFr h S_.heap.size) [(h, .inr (4, [.int 1, .ref em, .int 0]))] := m1_D.weaken (fun _ _ _ z => Or.inl z)
  have hS : va_S (mFr h S_.heap.size) S_.heap S_.heap [] := va_S.rf
  refine lv_aload_n hx hb dJx4a65c_grow_92f84_0 rfl (lv_at hl 0 rfl) ?_
  refine va_get hx hb hts gin4 hown hK hP 0 rfl rfl 1 (by decide) (v := .ref em) (hts _ gm_408) (fun _ z => z) rfl dJx4a65c_grow_92f84_1 ?_
  refine va_tlen hx hb (mT.wide hB.2.1) hS (v := nI 0) rfl dJx4a65c_grow_92f84_4 ?_
  refine lv_istore_n (lv' := [(2, .int (nI 0)), (0, .ref h), (1, .int (nI 1))]) hx hb dJx4a65c_grow_92f84_5 rfl hl (by decide) rfl (fun ls hl => ?_)
  refine lv_iload_n hx hb dJx4a65c_grow_92f84_6 rfl (lv_at hl 0 rfl) ?_
  refine lv_if_gt (tgt := 20) hx hb dJx4a65c_grow_92f84_7 (by decide) (fun c7 => absurd c7 (by decide)) (fun _ => ?_)
  refine lv_aload_n hx hb dJx4a65c_grow_92f84_10 rfl (lv_at hl 1 rfl) ?_
  refine va_get hx hb hts gin4 hown hK hP 0 rfl rfl 1 (by decide) (v := .ref em) (hts _ gm_408) (fun _ z => z) rfl dJx4a65c_grow_92f84_11 ?_
  refine va_gets hx hb (mZ.wide hB.1) hS hown (hts _ gm_407) (fun _ z => z) dJx4a65c_grow_92f84_14 ?_
  refine lv_acmp_eq (rx := some em) (ry := some em) (tgt := 45) hx hb dJx4a65c_grow_92f84_17 (by decide) (fun _ => ?_) (fun c => absurd rfl c)
  refine lv_aload_n hx hb dJx4a65c_grow_92f84_45 rfl (lv_at hl 1 rfl) ?_
  refine lv_bipush (v := nI 10) hx hb dJx4a65c_grow_92f84_46 (by decide) ?_
  refine lv_iload_n hx hb dJx4a65c_grow_92f84_48 rfl (lv_at hl 2 rfl) ?_
  refine va_mmax hx hb (hml.trans hl.1.symm) hown (hts _ gm_470) (hts _ gm_48) (hts _ gm_49) (hts _ gm_50) (Nat.le_of_ble_eq_true rfl) (Nat.le_of_ble_eq_true rfl) (Nat.zero_le _) (Nat.zero_le _) dJx4a65c_grow_92f84_49 ?_
  refine W.eq (g2 := F0 M_ _ ls [.int (nI 10), .ref h]) (by rw [show (if nI 10 < nI 1 then nI 1 else nI 10) = nI 10 from by decide]) ?_
  refine va_newq hx hb hown (hts _ gm_471) hB.2.2 hK hP hD hS hA (N' := 10) (by decide) (by decide) (by decide) (Nat.le_of_ble_eq_true rfl) (Nat.le_of_ble_eq_true rfl) dJx4a65c_grow_92f84_52 (fun q cA H hK hP hD hS => ?_)
  refine lv_dup_x1 hx hb dJx4a65c_grow_92f84_55 rfl rfl ?_
  refine va_put (ty := .array (.object "java/lang/Object")) (v := .ref q) hx hb hts gin4 tyJx4a65c tyJx4a65c_ok nmJx4a65c hown hK hP hD hS 0 rfl rfl 1 (by decide) (hts _ gm_408) (fun _ z => z) rfl (by decide +kernel) rfl rfl (Nat.le_of_ble_eq_true rfl) dJx4a65c_grow_92f84_56 (fun H locs hP hD hS => ?_)
  exact W.aret G.1.1 G.1.2.1 G.2.1 (Or.inr ⟨_, rfl⟩) (Or.inr ⟨_, rfl⟩) (fun t ht hW => ⟨q, cA, rfl, by rw [ht]; exact hP, va_K.moved hW.alike hK, hD, (hS.F ht).of (fun z h1 h2 => h2.elim id (fun h3 => absurd h3 (Nat.not_le.mpr h1)))⟩) hS.2.2 dJx4a65c_grow_92f84_59 G.2.2
section MK4
variable {p : Program} {l : Launch} {e : Env} {R : Room} {s : State} {m : MethodId} {args : Array Value} {below : List Frame} {meth : Method} {c : Code} {H : Heap} {locs : List Loc} {cells slots : Nat} {Q : State → Prop}
variable {cc : ByteArray} {pc : Nat} {ls : Array Slot} {rest st : List Value} {mc ms : Nat} {a : Array Value}
theorem mGr_back {D : va_G} {h sz : Nat} (hr : va_Run p l e R s m args below meth c H locs cells slots mc ms (F0 m pc ls st) rest (mGr D h a) (mFr h sz)) (kk : ∀ (q : Nat) (cA : ClassId) (H1 : Heap) (L : List Loc), va_P D gcl [(h, .inr (4, [.int 1, .ref q, .int 0])), (q, .inl (cA, 10, .inr (.inr (.inr (.inr (fun _ => none))))))] H1 → (∀ U : State, U.vm = s.vm → va_K D gcl [(cA, .object "java/lang/Object")] U) → va_D (mFr h H.size) [(h, .inr (4, [.int 1, .ref q, .int 0])), (q, .inl (cA, 10, .inr (.inr (.inr (.inr (fun _ => none))))))] → H.size ≤ H1.size → (∀ z : Nat, z < H.size → ¬ z = h → H1[z]? = H[z]?) → (∀ z ∈ L, mFr h sz z.base) → W p l e R s m args below meth c H1 (locs ++ L) (cells + mc) (slots + ms) Q (F0 m (pc + 3) ls (.ref q :: rest))) : W p l e R s m args below meth c H locs cells slots Q (F0 m pc ls st) := by
  intro T hT X
  obtain ⟨v', st₀, t, T', L, h0, X', hL, e1, e2, ⟨q, cA, hv, hP, hK, hD, hz, hk⟩, stp⟩ := hr T hT X
  cases hv
  rw [h0] at hz hk hD
  have hvm : s.vm.Alike t.vm := by rw [← e2]; exact X'.warmed.alike
  obtain ⟨t2, a1, b1⟩ := kk q cA T'.heap L (by rw [e1]; exact hP) (fun U hU => va_K.moved (by rw [hU]; exact hvm.symm) hK) hD (by rw [e1]; exact hz) (fun z h1 h2 => by rw [e1]; exact hk z h1 h2) hL T' rfl X'
  exact ⟨t2, stp t2 a1, b1⟩
end MK4
set_option maxRecDepth 100000 in
theorem c_Jx4a65c_grow_d5877 (l : Launch) (D : va_G) (h em sz : Nat) : Met l yJx4a65c_grow_d5877 (gws yJx4a65c_grow_d5877 cJx4a65c_grow_d5877 1 (some (.array (.object "java/lang/Object")))) ({ frames := 2, cells := 1, slots := 10, locals := 44 }) (va_Pc [.ref h] (mG0 D h em sz)) (mGr D h) 1 10 (mFr h sz) := by
  refine b_read (by decide) (Nat.le_of_ble_eq_true rfl) ?_
  intro P_ E_ S_ M_ B_ T_ C_ ls G hnm hV hl
  obtain ⟨hx, hb, hml, hown, hts⟩ := id G.1
  have hl : lv_has ls 1 [(0, .ref h)] := hl
  have hV9 := hV
  obtain ⟨rfl, hK, hP, hB⟩ := hV
  refine lv_aload_n hx hb dJx4a65c_grow_d5877_0 rfl (lv_at hl 0 rfl) ?_
  refine lv_aload_n hx hb dJx4a65c_grow_d5877_1 rfl (lv_at hl 0 rfl) ?_
  refine va_get hx hb hts gin4 hown hK hP 0 rfl rfl 2 (by decide) (v := .int 0) (hts _ gm_428) (fun _ z => z) rfl dJx4a65c_grow_d5877_2 ?_
  refine lv_iconst (v := nI 1) hx hb dJx4a65c_grow_d5877_5 (by decide) ?_
  refine lv_iadd hx hb dJx4a65c_grow_d5877_6 ?_
  refine W.eq (g2 := F0 M_ _ ls [.int (nI 1), .ref h]) (by rw [show (0 : Int32) + nI 1 = nI 1 from by decide]) ?_
  refine mGr_back (va_runV (C := RJx4a65c) (As := [.int (nI 1)]) (rest := []) G.1 (c_Jx4a65c_grow_92f84 l D h em S_.heap.size) ⟨g_cb hts ok_Jx4a65c_grow_92f84 gm_472 rfl rfl ⟨Nat.le_of_ble_eq_true rfl, Nat.le_of_ble_eq_true rfl⟩, hts _ gm_473, hts _ gm_474⟩ ⟨fun a U g mk z => ⟨z.1, z.2.call⟩, va_recv (q0 := 0) hK hP (ci := 4) rfl rfl, fun U hU hW9 => ⟨rfl, by rw [hU], va_K.moved hW9.alike hK, by rw [hU]; exact hP, by rw [hU]; exact hB.moved hW9⟩⟩ rfl rfl hl.1 rfl (lv_room (Nat.le_of_ble_eq_true rfl)) dJx4a65c_grow_d5877_7 ⟨Nat.le_of_ble_eq_true rfl, Nat.le_of_ble_eq_true rfl⟩) (fun q cA H L hP hK hD hz hk hL => ?_)
  exact W.aret G.1.1 G.1.2.1 G.2.1 (Or.inr ⟨_, rfl⟩) (Or.inr ⟨_, rfl⟩) (fun t ht hW => ⟨q, cA, rfl, by rw [ht]; exact hP, va_K.moved hW.alike (hK S_ rfl), hD, by rw [ht]; exact hz, fun z h1 h2 => by rw [ht]; exact hk z h1 h2⟩) (fun z hz9 => hL z (by simpa using hz9)) dJx4a65c_grow_d5877_10 G.2.2
def mAd (D : va_G) (h : Nat) (r : Option Value) : Array Value → State → Outcome → State → Prop := fun _ st o t => o = .returned r ∧ (∃ q : Nat, va_P D gcl [(h, .inr (4, [.int 1, .ref q, .int 1]))] t.heap) ∧ va_F (fun z => z = h) st t
set_option maxRecDepth 100000 in
theorem c_Jx4a65c_add_72be8 (l : Launch) (D : va_G) (h em v sz : Nat) (hvh : ¬ v = h) : Met l yJx4a65c_add_72be8 (gws yJx4a65c_add_72be8 cJx4a65c_add_72be8 4 none) ({ frames := 3, cells := 1, slots := 10, locals := 66 }) (va_Pc [.ref h, .ref v, .ref em, .int (nI 0)] (fun U => mG0 D h em sz U ∧ va_Any "java/lang/Object" U U.heap v)) (mAd D h none) 1 10 (mFr h sz) := by
  refine b_read (by decide) (Nat.le_of_ble_eq_true rfl) ?_
  intro P_ E_ S_ M_ B_ T_ C_ ls G hnm hV hl
  obtain ⟨hx, hb, hml, hown, hts⟩ := id G.1
  have hl : lv_has ls 4 [(0, .ref h), (1, .ref v), (2, .ref em), (3, .int (nI 0))] := hl
  obtain ⟨⟨rfl, hK, hP, hB⟩, hAny⟩ := hV
  have hS : va_S (mFr h S_.heap.size) S_.heap S_.heap [] := va_S.rf
  refine lv_iload_n hx hb dJx4a65c_add_72be8_0 rfl (lv_at hl 3 rfl) ?_
  refine lv_aload_n hx hb dJx4a65c_add_72be8_1 rfl (lv_at hl 2 rfl) ?_
  refine va_tlen hx hb (mT.wide hB.2.1) hS (v := nI 0) rfl dJx4a65c_add_72be8_2 ?_
  refine lv_icmp_ne (tgt := 11) hx hb dJx4a65c_add_72be8_3 (by decide) (fun c3 => absurd rfl c3) (fun _ => ?_)
  refine lv_aload_n hx hb dJx4a65c_add_72be8_6 rfl (lv_at hl 0 rfl) ?_
  refine mGr_back (va_runV (C := RJx4a65c) (As := []) (rest := []) G.1 (c_Jx4a65c_grow_d5877 l D h em S_.heap.size) ⟨g_cb hts ok_Jx4a65c_grow_d5877 gm_476 rfl rfl ⟨Nat.le_of_ble_eq_true rfl, Nat.le_of_ble_eq_true rfl⟩, hts _ gm_477, hts _ gm_478⟩ ⟨fun a U g mk z => ⟨z.1, z.2.call⟩, va_recv (q0 := 0) hK hP (ci := 4) rfl rfl, fun U hU hW9 => ⟨rfl, by rw [hU], va_K.moved hW9.alike hK, by rw [hU]; exact hP, by rw [hU]; exact hB.moved hW9⟩⟩ rfl rfl hl.1 rfl (lv_room (Nat.le_of_ble_eq_true rfl)) dJx4a65c_add_72be8_7 ⟨Nat.le_of_ble_eq_true rfl, Nat.le_of_ble_eq_true rfl⟩) (fun q cA H L hP hK hD hz hk hL => ?_)
  refine lv_astore_n (lv' := [(2, .ref q), (0, .ref h), (1, .ref v), (3, .int (nI 0))]) hx hb dJx4a65c_add_72be8_10 rfl hl (by decide) rfl (fun ls hl => ?_)
  have hS : va_S (mFr h S_.heap.size) S_.heap H ([] ++ L) := ⟨hz, fun z h1 h2 => hk z h1 (fun h3 => h2 (Or.inl h3)), fun z hz9 => hL z (by simpa using hz9)⟩
  have hAny : va_Any "java/lang/Object" S_ H v := by
    obtain ⟨cellV, g1, g2⟩ := hAny
    exact ⟨cellV, by rw [hk v (Array.getElem?_eq_some_iff.mp g1).1 hvh]; exact g1, g2⟩
  refine lv_aload_n hx hb dJx4a65c_add_72be8_11 rfl (lv_at hl 0 rfl) ?_
  refine lv_iload_n hx hb dJx4a65c_add_72be8_12 rfl (lv_at hl 3 rfl) ?_
  refine lv_aload_n hx hb dJx4a65c_add_72be8_13 rfl (lv_at hl 2 rfl) ?_
  refine va_astqM (n := 10) hx hb (hK S_ rfl) hP hD hS 1 0 rfl rfl hAny (nI_in (by omega) (by omega)) dJx4a65c_add_72be8_14 (fun H locs hP hD hS => ?_)
  refine lv_aload_n hx hb dJx4a65c_add_72be8_15 rfl (lv_at hl 1 rfl) ?_
  refine lv_iload_n hx hb dJx4a65c_add_72be8_16 rfl (lv_at hl 3 rfl) ?_
  refine lv_iconst (v := nI 1) hx hb dJx4a65c_add_72be8_17 (by decide) ?_
  refine lv_iadd hx hb dJx4a65c_add_72be8_18 ?_
  refine W.eq (g2 := F0 M_ _ ls [.int 1, .ref h]) (by rw [show nI 0 + nI 1 = (1 : Int32) from by decide]) ?_
  refine va_put (ty := .int) (v := .int 1) hx hb hts gin4 tyJx4a65c tyJx4a65c_ok nmJx4a65c hown (hK S_ rfl) hP hD hS 0 rfl rfl 2 (by decide) (hts _ gm_428) (fun _ z => z) rfl (by decide +kernel) rfl rfl (Nat.le_of_ble_eq_true rfl) dJx4a65c_add_72be8_19 (fun H locs hP hD hS => ?_)
  exact W.vret G.1.1 G.1.2.1 G.2.1 (fun t ht hW => ⟨rfl, ⟨q, by rw [ht]; exact va_P1 hP (k := 0) rfl⟩, (hS.F ht).of (fun z h1 h2 => h2.elim id (fun h3 => absurd h3 (Nat.not_le.mpr h1)))⟩) hS.2.2 dJx4a65c_add_72be8_22 G.2.2
section MK5
variable {p : Program} {l : Launch} {e : Env} {R : Room} {s : State} {m : MethodId} {args : Array Value} {below : List Frame} {meth : Method} {c : Code} {H : Heap} {locs : List Loc} {cells slots : Nat} {Q : State → Prop}
variable {cc : ByteArray} {pc : Nat} {ls : Array Slot} {rest st : List Value} {mc ms : Nat} {a : Array Value}
theorem mAd_back {D : va_G} {h sz : Nat} {r : Option Value} (hr : va_Run p l e R s m args below meth c H locs cells slots mc ms (F0 m pc ls st) rest (mAd D h r a) (mFr h sz)) (kk : ∀ (q : Nat) (H1 : Heap) (L : List Loc), va_P D gcl [(h, .inr (4, [.int 1, .ref q, .int 1]))] H1 → H.size ≤ H1.size → (∀ z : Nat, z < H.size → ¬ z = h → H1[z]? = H[z]?) → (∀ z ∈ L, mFr h sz z.base) → W p l e R s m args below meth c H1 (locs ++ L) (cells + mc) (slots + ms) Q (F0 m (pc + 3) ls (r.toList ++ rest))) : W p l e R s m args below meth c H locs cells slots Q (F0 m pc ls st) := by
  intro T hT X
  obtain ⟨v', st₀, t, T', L, h0, X', hL, e1, e2, ⟨hv, ⟨q, hP⟩, hz, hk⟩, stp⟩ := hr T hT X
  cases hv
  rw [h0] at hz hk
  obtain ⟨t2, a1, b1⟩ := kk q T'.heap L (by rw [e1]; exact hP) (by rw [e1]; exact hz) (fun z h1 h2 => by rw [e1]; exact hk z h1 h2) hL T' rfl X'
  exact ⟨t2, stp t2 a1, b1⟩
end MK5
set_option maxRecDepth 100000 in
theorem c_Jx4a65c_add_9ea2d (l : Launch) (D : va_G) (h em v sz : Nat) (hvh : ¬ v = h) : Met l yJx4a65c_add_9ea2d (gws yJx4a65c_add_9ea2d cJx4a65c_add_9ea2d 2 (some .boolean)) ({ frames := 4, cells := 1, slots := 10, locals := 89 }) (va_Pc [.ref h, .ref v] (fun U => U.heap.size = sz ∧ va_K D gcl [] U ∧ va_P D gcl [(h, .inr (4, [.int 0, .ref em, .int 0]))] U.heap ∧ mEm em h U U.heap ∧ va_Any "java/lang/Object" U U.heap v)) (mAd D h (some (.int (nI 1)))) 1 10 (mFr h sz) := by
  refine b_read (by decide) (Nat.le_of_ble_eq_true rfl) ?_
  intro P_ E_ S_ M_ B_ T_ C_ ls G hnm hV hl
  obtain ⟨hx, hb, hml, hown, hts⟩ := id G.1
  have hl : lv_has ls 2 [(0, .ref h), (1, .ref v)] := hl
  obtain ⟨rfl, hK, hP, hB, hAny⟩ := hV
  refine lv_aload_n hx hb dJx4a65c_add_9ea2d_0 rfl (lv_at hl 0 rfl) ?_
  refine lv_dup hx hb dJx4a65c_add_9ea2d_1 rfl ?_
  refine va_get hx hb hts gin4 hown hK hP 0 rfl rfl 0 (by decide) (v := .int 0) (hts _ gm_480) (u_same (hts _ gm_481)) rfl dJx4a65c_add_9ea2d_2 ?_
  refine lv_iconst (v := nI 1) hx hb dJx4a65c_add_9ea2d_5 (by decide) ?_
  refine lv_iadd hx hb dJx4a65c_add_9ea2d_6 ?_
  refine W.eq (g2 := F0 M_ _ ls [.int 1, .ref h]) (by rw [show (0 : Int32) + nI 1 = (1 : Int32) from by decide]) ?_
  refine va_put (ty := .int) (v := .int 1) hx hb hts gin4 tyJx4a65c tyJx4a65c_ok nmJx4a65c hown hK hP m1_D (va_S.rf (A := fun z => z = h)) 0 rfl rfl 0 (by decide) (hts _ gm_480) (u_same (hts _ gm_481)) rfl (by decide +kernel) rfl rfl (Nat.le_of_ble_eq_true rfl) dJx4a65c_add_9ea2d_7 (fun H locs hP hD hS => ?_)
  have hP : va_P D gcl [(h, .inr (4, [.int 1, .ref em, .int 0]))] H := hP
  have hB : mEm em h S_ H := hB.kept (fun z h1 h2 => hS.2.1 z h1 h2)
  have hAny : va_Any "java/lang/Object" S_ H v := by
    obtain ⟨cellV, g1, g2⟩ := hAny
    exact ⟨cellV, by rw [hS.2.1 v (Array.getElem?_eq_some_iff.mp g1).1 hvh]; exact g1, g2⟩
  refine lv_aload_n hx hb dJx4a65c_add_9ea2d_10 rfl (lv_at hl 0 rfl) ?_
  refine lv_aload_n hx hb dJx4a65c_add_9ea2d_11 rfl (lv_at hl 1 rfl) ?_
  refine lv_aload_n hx hb dJx4a65c_add_9ea2d_12 rfl (lv_at hl 0 rfl) ?_
  refine va_get hx hb hts gin4 hown hK hP 0 rfl rfl 1 (by decide) (v := .ref em) (hts _ gm_408) (fun _ z => z) rfl dJx4a65c_add_9ea2d_13 ?_
  refine lv_aload_n hx hb dJx4a65c_add_9ea2d_16 rfl (lv_at hl 0 rfl) ?_
  refine va_get hx hb hts gin4 hown hK hP 0 rfl rfl 2 (by decide) (v := .int 0) (hts _ gm_428) (fun _ z => z) rfl dJx4a65c_add_9ea2d_17 ?_
  refine mAd_back (va_runV (C := RJx4a65c) (As := [.ref v, .ref em, .int (nI 0)]) (rest := []) G.1 (c_Jx4a65c_add_72be8 l D h em v H.size hvh) ⟨g_cb hts ok_Jx4a65c_add_72be8 gm_482 rfl rfl ⟨Nat.le_of_ble_eq_true rfl, Nat.le_of_ble_eq_true rfl⟩, hts _ gm_483, hts _ gm_484⟩ ⟨fun a U g mk z => ⟨z.1, z.2.1.call, z.2.2.same (U := U.calling g mk a) rfl⟩, va_recv (q0 := 0) hK hP (ci := 4) rfl rfl, fun U hU hW9 => ⟨rfl, ⟨by rw [hU], va_K.moved hW9.alike hK, by rw [hU]; exact hP, by rw [hU]; exact hB.moved hW9⟩, by rw [hU]; exact hAny.moved hW9⟩⟩ rfl rfl hl.1 rfl (lv_room (Nat.le_of_ble_eq_true rfl)) dJx4a65c_add_9ea2d_20 ⟨Nat.le_of_ble_eq_true rfl, Nat.le_of_ble_eq_true rfl⟩) (fun q H1 L hP1 hz hk hL => ?_)
  refine lv_iconst (v := nI 1) hx hb dJx4a65c_add_9ea2d_23 (by decide) ?_
  exact W.zret (ty := .boolean) G.1.1 G.1.2.1 G.2.1 (by decide) (fun t ht hW => ⟨rfl, ⟨q, by rw [ht]; exact hP1⟩, by rw [ht]; exact Nat.le_trans hS.1 hz, fun z h1 h2 => by rw [ht, hk z (Nat.lt_of_lt_of_le h1 hS.1) h2]; exact hS.2.1 z h1 h2⟩) (fun z hz9 => by rcases List.mem_append.mp hz9 with h9 | h9; exact Or.inl (hS.2.2 z h9); exact (hL z h9).imp id (fun h8 => Nat.le_trans hS.1 h8)) dJx4a65c_add_9ea2d_24 G.2.2
