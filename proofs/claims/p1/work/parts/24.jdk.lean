/-! The list's own methods. -/
theorem ok_Jx4a65c_size_8abf5 : gOK yJx4a65c_size_8abf5 cJx4a65c_size_8abf5 1 (some .int) 0 := ⟨gm_433, gm_416, by decide +kernel⟩
theorem ok_Jx4a65c_iterator_32c93 : gOK yJx4a65c_iterator_32c93 cJx4a65c_iterator_32c93 1 (some (.object "java/util/Iterator")) 0 := ⟨gm_517, gm_416, by decide +kernel⟩
theorem ok_Jx35411_hasNext_aae02 : gOK yJx35411_hasNext_aae02 cJx35411_hasNext_aae02 1 (some .boolean) 0 := ⟨gm_521, gm_504, by decide +kernel⟩
theorem ok_Jx35411_init_45d68 : gOK yJx35411_init_45d68 cJx35411_init_45d68 2 none 1 := ⟨gm_507, gm_504, by decide +kernel⟩
theorem ok_Jx4a65c_init_da8c8 : gOK yJx4a65c_init_da8c8 cJx4a65c_init_da8c8 1 none 0 := ⟨gm_420, gm_416, by decide +kernel⟩
theorem ok_Jxc12de_init_da8c8 : gOK yJxc12de_init_da8c8 cJxc12de_init_da8c8 1 none 0 := ⟨gm_412, gm_411, by decide +kernel⟩
theorem ok_Jxa1e45_init_da8c8 : gOK yJxa1e45_init_da8c8 cJxa1e45_init_da8c8 1 none 0 := ⟨gm_406, gm_405, by decide +kernel⟩
set_option maxRecDepth 100000 in
theorem c_Jx4a65c_size_8abf5 (l : Launch) (D : va_G) (h em : Nat) (n : Int32) : Met l yJx4a65c_size_8abf5 (gws yJx4a65c_size_8abf5 cJx4a65c_size_8abf5 1 (some .int)) ({ frames := 0, cells := 0, slots := 0, locals := 0 }) (va_Pc [.ref h] (mL D h em n)) (gRd (.int n)) 0 0 (fun _ => False) := by
  refine b_read (by decide) (Nat.le_of_ble_eq_true rfl) ?_
  intro P_ E_ S_ M_ B_ T_ C_ ls G hnm hV hl
  obtain ⟨hx, hb, hml, hown, hts⟩ := id G.1
  have hl : lv_has ls 1 [(0, .ref h)] := hl
  refine lv_aload_n hx hb dJx4a65c_size_8abf5_0 rfl (lv_at hl 0 rfl) ?_
  refine va_get hx hb hts gin4 hown hV.1 hV.2 0 rfl rfl 2 (by decide) (v := .int n) (hts _ gm_428) (fun _ z => z) rfl dJx4a65c_size_8abf5_1 ?_
  exact g_iret G rfl dJx4a65c_size_8abf5_4
set_option maxRecDepth 100000 in
theorem c_Jx35411_hasNext_aae02 (l : Launch) (D : va_G) (q h em : Nat) : Met l yJx35411_hasNext_aae02 (gws yJx35411_hasNext_aae02 cJx35411_hasNext_aae02 1 (some .boolean)) ({ frames := 0, cells := 0, slots := 0, locals := 0 }) (va_Pc [.ref q] (mI D q h em)) (gRd (.int (nI 0))) 0 0 (fun _ => False) := by
  refine b_read (by decide) (Nat.le_of_ble_eq_true rfl) ?_
  intro P_ E_ S_ M_ B_ T_ C_ ls G hnm hV hl
  obtain ⟨hx, hb, hml, hown, hts⟩ := id G.1
  have hl : lv_has ls 1 [(0, .ref q)] := hl
  refine lv_aload_n hx hb dJx35411_hasNext_aae02_0 rfl (lv_at hl 0 rfl) ?_
  refine va_get hx hb hts gin5 hown hV.1 hV.2.1 0 rfl rfl 0 (by decide) (v := .int 0) (hts _ gm_508) (fun _ z => z) rfl dJx35411_hasNext_aae02_1 ?_
  refine lv_aload_n hx hb dJx35411_hasNext_aae02_4 rfl (lv_at hl 0 rfl) ?_
  refine va_get hx hb hts gin5 hown hV.1 hV.2.1 0 rfl rfl 3 (by decide) (v := .ref h) (hts _ gm_497) (fun _ z => z) rfl dJx35411_hasNext_aae02_5 ?_
  refine va_getN hx hb hts gin4 hown hV.1 hV.2.1 1 rfl rfl 2 (by decide) (v := .int 0) (va_Nw.use rfl hV.2.2) (fun _ z => z) rfl dJx35411_hasNext_aae02_8 ?_
  refine lv_icmp_eq (tgt := 18) hx hb dJx35411_hasNext_aae02_11 (by decide) (fun c11 => ?_) (fun c11 => ?_)
  · refine lv_iconst (v := nI 0) hx hb dJx35411_hasNext_aae02_18 (by decide) ?_
    exact g_zret G rfl (Or.inl rfl) dJx35411_hasNext_aae02_19
  · exact absurd rfl c11
set_option maxRecDepth 100000 in
theorem c_Jxa1e45_init_da8c8 (l : Launch) (h : Nat) : Met l yJxa1e45_init_da8c8 (gws yJxa1e45_init_da8c8 cJxa1e45_init_da8c8 1 none) ({ frames := 1, cells := 0, slots := 0, locals := 12 }) (va_Pc [.ref h] (fun _ => True)) gRv 0 0 (fun _ => False) := by
  refine b_read (by decide) (Nat.le_of_ble_eq_true rfl) ?_
  intro P_ E_ S_ M_ B_ T_ C_ ls G hnm hV hl
  obtain ⟨hx, hb, hml, hown, hts⟩ := id G.1
  have hl : lv_has ls 1 [(0, .ref h)] := hl
  refine lv_aload_n hx hb dJxa1e45_init_da8c8_0 rfl (lv_at hl 0 rfl) ?_
  refine W.objInit hx hb hown (hts _ gm_401) (hts _ gm_1) (hts _ gm_2) rfl (by rw [hml]; exact hl.1) rfl dJxa1e45_init_da8c8_1 (Nat.le_of_ble_eq_true rfl) (Nat.le_of_ble_eq_true rfl) ?_
  refine W.eq (g2 := F0 M_ 4 ls []) rfl ?_
  exact g_vret G dJxa1e45_init_da8c8_4
/-- one list, what its fields hold -/
abbrev m1 (D : va_G) (h : Nat) (fs : List Value) : State → Prop := fun U => va_K D gcl [] U ∧ va_P D gcl [(h, .inr (4, fs))] U.heap
def m1Q (D : va_G) (h : Nat) (x : va_E) : Array Value → State → Outcome → State → Prop := fun _ st o t => o = .returned none ∧ va_P D gcl [(h, x)] t.heap ∧ va_F (fun q => q = h) st t
theorem m1_D {h : Nat} {x : va_E} : va_D (fun q => q = h) [(h, x)] := ⟨fun i j p q hp hq hpq => by
  have hi : i < 1 := (List.getElem?_eq_some_iff.mp hp).1
  have hj : j < 1 := (List.getElem?_eq_some_iff.mp hq).1
  omega, fun k q hq => by
  have hk : k < 1 := (List.getElem?_eq_some_iff.mp hq).1
  rw [show k = 0 by omega] at hq
  cases hq
  rfl⟩
section MK2
variable {p : Program} {l : Launch} {e : Env} {R : Room} {s : State} {m : MethodId} {args : Array Value} {below : List Frame} {meth : Method} {c : Code} {H : Heap} {locs : List Loc} {cells slots : Nat} {Q : State → Prop}
variable {cc : ByteArray} {pc : Nat} {ls : Array Slot} {rest st : List Value} {mc ms : Nat} {a : Array Value}
theorem m1_back {D : va_G} {h : Nat} {x : va_E} (hr : va_Run p l e R s m args below meth c H locs cells slots mc ms (F0 m pc ls st) rest (m1Q D h x a) (fun q => q = h)) (kk : ∀ (H1 : Heap) (L : List Loc), va_P D gcl [(h, x)] H1 → H.size ≤ H1.size → (∀ q : Nat, q < H.size → ¬ q = h → H1[q]? = H[q]?) → (∀ z ∈ L, z.base = h) → W p l e R s m args below meth c H1 (locs ++ L) (cells + mc) (slots + ms) Q (F0 m (pc + 3) ls rest)) : W p l e R s m args below meth c H locs cells slots Q (F0 m pc ls st) := by
  intro T hT X
  obtain ⟨v', st₀, t, T', L, h0, X', hL, e1, e2, ⟨hv, hP, hz, hk⟩, stp⟩ := hr T hT X
  cases hv
  rw [h0] at hz hk
  obtain ⟨t2, a1, b1⟩ := kk T'.heap L (by rw [e1]; exact hP) (by rw [e1]; exact hz) (fun q h1 h2 => by rw [e1]; exact hk q h1 h2) hL T' rfl X'
  exact ⟨t2, stp t2 a1, b1⟩
end MK2
set_option maxRecDepth 100000 in
theorem c_Jxc12de_init_da8c8 (l : Launch) (D : va_G) (h : Nat) (ev : Value) : Met l yJxc12de_init_da8c8 (gws yJxc12de_init_da8c8 cJxc12de_init_da8c8 1 none) ({ frames := 2, cells := 0, slots := 0, locals := 32 }) (va_Pc [.ref h] (m1 D h [.int 0, ev, .int 0])) (m1Q D h (.inr (4, [.int 0, ev, .int 0]))) 0 0 (fun q => q = h) := by
  refine b_read (by decide) (Nat.le_of_ble_eq_true rfl) ?_
  intro P_ E_ S_ M_ B_ T_ C_ ls G hnm hV hl
  obtain ⟨hx, hb, hml, hown, hts⟩ := id G.1
  have hl : lv_has ls 1 [(0, .ref h)] := hl
  refine lv_aload_n hx hb dJxc12de_init_da8c8_0 rfl (lv_at hl 0 rfl) ?_
  refine g_backV (va_runI (As := []) (rest := []) G.1 (c_Jxa1e45_init_da8c8 l h) ⟨g_cb hts ok_Jxa1e45_init_da8c8 gm_403 rfl rfl ⟨Nat.le_of_ble_eq_true rfl, Nat.le_of_ble_eq_true rfl⟩, rfl, hts _ gm_404⟩ ⟨fun a U g mk q => ⟨q.1, trivial⟩, fun U hU hW9 => ⟨rfl, trivial⟩⟩ rfl rfl hl.1 rfl (lv_room (Nat.le_of_ble_eq_true rfl)) dJxc12de_init_da8c8_1 ⟨Nat.le_of_ble_eq_true rfl, Nat.le_of_ble_eq_true rfl⟩) ?_
  refine lv_aload_n hx hb dJxc12de_init_da8c8_4 rfl (lv_at hl 0 rfl) ?_
  refine lv_iconst (v := 0) hx hb dJxc12de_init_da8c8_5 (by decide) ?_
  refine va_put (ty := .int) hx hb hts gin4 tyJx4a65c tyJx4a65c_ok nmJx4a65c hown hV.1 hV.2 m1_D (va_S.rf (A := fun q => q = h)) 0 rfl rfl 0 (by decide) (hts _ gm_402) (fun _ z => z) rfl (by decide +kernel) rfl rfl (Nat.le_of_ble_eq_true rfl) dJxc12de_init_da8c8_6 (fun H locs hP hD hS => ?_)
  exact W.vret G.1.1 G.1.2.1 G.2.1 (fun t ht hW => ⟨rfl, by rw [ht]; exact hP, hS.F ht⟩) hS.2.2 dJxc12de_init_da8c8_9 G.2.2
abbrev mZ (em : Nat) (A : Nat → Prop) (U : State) (H : Heap) : Prop := va_Z "java/util/ArrayList" "DEFAULTCAPACITY_EMPTY_ELEMENTDATA" "[Ljava/lang/Object;" (.ref em) A U H
set_option maxRecDepth 100000 in
theorem c_Jx4a65c_init_da8c8 (l : Launch) (D : va_G) (h em : Nat) : Met l yJx4a65c_init_da8c8 (gws yJx4a65c_init_da8c8 cJx4a65c_init_da8c8 1 none) ({ frames := 3, cells := 0, slots := 0, locals := 52 }) (va_Pc [.ref h] (fun U => m1 D h [.int 0, .null, .int 0] U ∧ mZ em (fun q => q = h) U U.heap)) (m1Q D h (.inr (4, [.int 0, .ref em, .int 0]))) 0 0 (fun q => q = h) := by
  refine b_read (by decide) (Nat.le_of_ble_eq_true rfl) ?_
  intro P_ E_ S_ M_ B_ T_ C_ ls G hnm hV hl
  obtain ⟨hx, hb, hml, hown, hts⟩ := id G.1
  have hl : lv_has ls 1 [(0, .ref h)] := hl
  obtain ⟨⟨hK, hP⟩, hZ⟩ := hV
  refine lv_aload_n hx hb dJx4a65c_init_da8c8_0 rfl (lv_at hl 0 rfl) ?_
  refine m1_back (va_runI (As := []) (rest := []) G.1 (c_Jxc12de_init_da8c8 l D h .null) ⟨g_cb hts ok_Jxc12de_init_da8c8 gm_409 rfl rfl ⟨Nat.le_of_ble_eq_true rfl, Nat.le_of_ble_eq_true rfl⟩, rfl, hts _ gm_410⟩ ⟨fun a U g mk q => ⟨q.1, va_K.moved (u := U) (U := U.calling g mk a) (Vm.Alike.refl U.vm) q.2.1, q.2.2⟩, fun U hU hW9 => ⟨rfl, va_K.moved hW9.alike hK, by rw [hU]; exact hP⟩⟩ rfl rfl hl.1 rfl (lv_room (Nat.le_of_ble_eq_true rfl)) dJx4a65c_init_da8c8_1 ⟨Nat.le_of_ble_eq_true rfl, Nat.le_of_ble_eq_true rfl⟩) (fun H L hP hz hk hL => ?_)
  have hS : va_S (fun q => q = h) S_.heap H ([] ++ L) := ⟨hz, hk, fun z hz9 => by simpa using hL z (by simpa using hz9)⟩
  refine lv_aload_n hx hb dJx4a65c_init_da8c8_4 rfl (lv_at hl 0 rfl) ?_
  refine va_gets hx hb hZ hS hown (hts _ gm_407) (fun _ z => z) dJx4a65c_init_da8c8_5 ?_
  refine va_put (ty := .array (.object "java/lang/Object")) hx hb hts gin4 tyJx4a65c tyJx4a65c_ok nmJx4a65c hown hK hP m1_D hS 0 rfl rfl 1 (by decide) (hts _ gm_408) (fun _ z => z) rfl (by decide +kernel) rfl rfl (Nat.le_of_ble_eq_true rfl) dJx4a65c_init_da8c8_8 (fun H locs hP hD hS => ?_)
  exact W.vret G.1.1 G.1.2.1 G.2.1 (fun t ht hW => ⟨rfl, by rw [ht]; exact hP, hS.F ht⟩) hS.2.2 dJx4a65c_init_da8c8_11 G.2.2
theorem va_P1 {D : va_G} {cl : List vw_C} {ws : va_W} {H : Heap} {k : Nat} {x : Nat × va_E} (h : va_P D cl ws H) (hk : ws[k]? = some x) : va_P D cl [x] H := fun j q hq => by
  have hj : j < 1 := (List.getElem?_eq_some_iff.mp hq).1
  rw [show j = 0 by omega] at hq
  cases hq
  exact h k _ hk
set_option maxRecDepth 100000 in
theorem c_Jx35411_init_45d68 (l : Launch) (D : va_G) (q h em : Nat) (hne : ¬ h = q) : Met l yJx35411_init_45d68 (gws yJx35411_init_45d68 cJx35411_init_45d68 2 none) ({ frames := 1, cells := 0, slots := 0, locals := 12 }) (va_Pc [.ref q, .ref h] (fun U => va_K D gcl [] U ∧ va_P D gcl [(q, .inr (5, [.int 0, .int 0, .int 0, .null]))] U.heap ∧ va_P D gcl [(h, .inr (4, [.int 0, .ref em, .int 0]))] U.heap)) (m1Q D q (.inr (5, [.int 0, .int (-1), .int 0, .ref h]))) 0 0 (fun z => z = q) := by
  refine b_read (by decide) (Nat.le_of_ble_eq_true rfl) ?_
  intro P_ E_ S_ M_ B_ T_ C_ ls G hnm hV hl
  obtain ⟨hx, hb, hml, hown, hts⟩ := id G.1
  have hl : lv_has ls 2 [(0, .ref q), (1, .ref h)] := hl
  obtain ⟨hK, hP, hPh⟩ := hV
  have hh : h < S_.heap.size := (hPh 0 _ rfl).lt
  refine lv_aload_n hx hb dJx35411_init_45d68_0 rfl (lv_at hl 0 rfl) ?_
  refine lv_aload_n hx hb dJx35411_init_45d68_1 rfl (lv_at hl 1 rfl) ?_
  refine va_putF (v := .ref h) (ty := .object "java/util/ArrayList") hx hb hts gin5 tyJx35411 tyJx35411_ok nmJx35411 hown hK hP m1_D (va_S.rf (A := fun z => z = q)) 0 rfl rfl 3 (by decide) (hts _ gm_497) (fun _ z => z) rfl hnm rfl (by decide +kernel) rfl rfl (Nat.le_of_ble_eq_true rfl) dJx35411_init_45d68_2 (fun H locs hP hD hS => ?_)
  refine lv_aload_n hx hb dJx35411_init_45d68_5 rfl (lv_at hl 0 rfl) ?_
  refine W.objInit hx hb hown (hts _ gm_498) (hts _ gm_1) (hts _ gm_2) rfl (by rw [hml]; exact hl.1) rfl dJx35411_init_45d68_6 (Nat.le_of_ble_eq_true rfl) (Nat.le_of_ble_eq_true rfl) ?_
  refine W.eq (g2 := F0 M_ 9 ls []) rfl ?_
  refine lv_aload_n hx hb dJx35411_init_45d68_9 rfl (lv_at hl 0 rfl) ?_
  refine lv_iconst (v := -1) hx hb dJx35411_init_45d68_10 (by decide) ?_
  refine va_put (ty := .int) (v := .int (-1)) hx hb hts gin5 tyJx35411 tyJx35411_ok nmJx35411 hown hK hP hD hS 0 rfl rfl 1 (by decide) (hts _ gm_499) (fun _ z => z) rfl (by decide +kernel) rfl rfl (Nat.le_of_ble_eq_true rfl) dJx35411_init_45d68_11 (fun H locs hP hD hS => ?_)
  refine lv_aload_n hx hb dJx35411_init_45d68_14 rfl (lv_at hl 0 rfl) ?_
  refine lv_aload_n hx hb dJx35411_init_45d68_15 rfl (lv_at hl 0 rfl) ?_
  refine va_get hx hb hts gin5 hown hK hP 0 rfl rfl 3 (by decide) (v := .ref h) (hts _ gm_497) (fun _ z => z) rfl dJx35411_init_45d68_16 ?_
  have hPh1 : va_P D gcl [(h, .inr (4, [.int 0, .ref em, .int 0]))] H := hPh.kept (fun k x hx9 => by
    have hk : k < 1 := (List.getElem?_eq_some_iff.mp hx9).1
    rw [show k = 0 by omega] at hx9
    cases hx9
    exact hS.2.1 h hh hne)
  refine va_get hx hb hts gin4 hown hK hPh1 0 rfl rfl 0 (by decide) (v := .int 0) (hts _ gm_500) (u_same (hts _ gm_481)) rfl dJx35411_init_45d68_19 ?_
  refine va_put (ty := .int) (v := .int 0) hx hb hts gin5 tyJx35411 tyJx35411_ok nmJx35411 hown hK hP hD hS 0 rfl rfl 2 (by decide) (hts _ gm_501) (fun _ z => z) rfl (by decide +kernel) rfl rfl (Nat.le_of_ble_eq_true rfl) dJx35411_init_45d68_22 (fun H locs hP hD hS => ?_)
  exact W.vret G.1.1 G.1.2.1 G.2.1 (fun t ht hW => ⟨rfl, by rw [ht]; exact hP, hS.F ht⟩) hS.2.2 dJx35411_init_45d68_25 G.2.2
set_option maxRecDepth 100000 in
theorem c_Jx4a65c_iterator_32c93 (l : Launch) (D : va_G) (h em : Nat) : Met l yJx4a65c_iterator_32c93 (gws yJx4a65c_iterator_32c93 cJx4a65c_iterator_32c93 1 (some (.object "java/util/Iterator"))) ({ frames := 2, cells := 1, slots := 4, locals := 33 }) (va_Pc [.ref h] (mL D h em 0)) (mItQ D h) 1 4 (fun _ => False) := by
  refine b_read (by decide) (Nat.le_of_ble_eq_true rfl) ?_
  intro P_ E_ S_ M_ B_ T_ C_ ls G hnm hV hl
  obtain ⟨hx, hb, hml, hown, hts⟩ := id G.1
  have hl : lv_has ls 1 [(0, .ref h)] := hl
  obtain ⟨hK, hPh⟩ := hV
  have hh : h < S_.heap.size := (hPh 0 _ rfl).lt
  have hA : ∀ z : Nat, S_.heap.size ≤ z → (fun z : Nat => S_.heap.size ≤ z) z := fun _ z => z
  refine va_new (ci := 5) (fs := [.int 0, .int 0, .int 0, .null]) (C := RJx35411) (T := TJx35411) (N := 4) hx hb hts gin5 tyJx35411 tyJx35411_ok hown (hts _ gm_502) (hts _ gm_503) (hts _ gm_504) hK (ws := []) (fun k q hq => by simp at hq) (A := fun z : Nat => S_.heap.size ≤ z) ⟨fun i j p q hp => by simp at hp, fun k q hq => by simp at hq⟩ va_S.rf hA rfl (fun j hj => by rcases (show j = 0 ∨ j = 1 ∨ j = 2 ∨ j = 3 by omega) with rfl | rfl | rfl | rfl <;> rfl) (Nat.le_of_ble_eq_true rfl) (Nat.le_of_ble_eq_true rfl) dJx4a65c_iterator_32c93_0 (fun q H hP hD hS => ?_)
  have hP : va_P D gcl [(q, .inr (5, [.int 0, .int 0, .int 0, .null]))] H := hP
  have hq : S_.heap.size ≤ q := hD.2 0 _ rfl
  have hne : ¬ h = q := by omega
  have hPh1 : va_P D gcl [(h, .inr (4, [.int 0, .ref em, .int 0]))] H := hPh.kept (fun k x hx9 => by
    have hk : k < 1 := (List.getElem?_eq_some_iff.mp hx9).1
    rw [show k = 0 by omega] at hx9
    cases hx9
    exact hS.2.1 h hh (Nat.not_le.mpr hh))
  refine lv_dup hx hb dJx4a65c_iterator_32c93_3 rfl ?_
  refine lv_aload_n hx hb dJx4a65c_iterator_32c93_4 rfl (lv_at hl 0 rfl) ?_
  refine m1_back (va_runI (As := [.ref h]) (rest := [.ref q]) G.1 (c_Jx35411_init_45d68 l D q h em hne) ⟨g_cb hts ok_Jx35411_init_45d68 gm_505 rfl rfl ⟨Nat.le_of_ble_eq_true rfl, Nat.le_of_ble_eq_true rfl⟩, rfl, hts _ gm_506⟩ ⟨fun a U g mk z => ⟨z.1, va_K.moved (u := U) (U := U.calling g mk a) (Vm.Alike.refl U.vm) z.2.1, z.2.2⟩, fun U hU hW9 => ⟨rfl, va_K.moved hW9.alike hK, by rw [hU]; exact hP, by rw [hU]; exact hPh1⟩⟩ rfl rfl hl.1 rfl (lv_room (Nat.le_of_ble_eq_true rfl)) dJx4a65c_iterator_32c93_5 ⟨Nat.le_of_ble_eq_true rfl, Nat.le_of_ble_eq_true rfl⟩) (fun H1 L hP1 hz hk hL => ?_)
  refine va_forget (fun z hz9 => by rw [hL z (by simpa using hz9)]; exact hq) ?_
  exact W.aret G.1.1 G.1.2.1 G.2.1 (Or.inl ⟨_, rfl⟩) (Or.inr ⟨_, rfl⟩) (fun t ht hW => ⟨q, rfl, by rw [ht]; exact hP1, by rw [ht]; exact Nat.le_trans hS.1 hz, fun z h1 _ => by rw [ht, hk z (Nat.lt_of_lt_of_le h1 hS.1) (by omega)]; exact hS.2.1 z h1 (Nat.not_le.mpr h1)⟩) (fun z hz9 => absurd hz9 List.not_mem_nil) dJx4a65c_iterator_32c93_8 G.2.2
theorem mE_at {u : MP} {th dy : Int32} {sm : Int64} {j : Nat} (h : 0 < j ∧ j < 4) : (mE u th dy sm)[j]? = some (u.2.1 j, .inr (4, [.int 0, .ref u.2.2, .int 0])) := by
  have : j = 1 ∨ j = 2 ∨ j = 3 := by omega
  rcases this with rfl | rfl | rfl <;> rfl
section MK3
variable {p : Program} {l : Launch} {e : Env} {R : Room} {s : State} {m : MethodId} {args : Array Value} {below : List Frame} {meth : Method} {c : Code} {H : Heap} {locs : List Loc} {cells slots : Nat} {Q : State → Prop}
variable {cc : ByteArray} {pc : Nat} {ls : Array Slot} {rest : List Value} {u : MP} {th dy : Int32} {sm : Int64} {own : String} {nL index j : Nat}
theorem m_size (S : CallFix p m c cc nL s args gw own) (hM : MS u s H locs th dy sm) (hj : 0 < j ∧ j < 4) (hlk : Cond.methodLink own index yJx4a65c_size_8abf5 ∈ gw) (hsz : ls.size = nL) (hW : (rest.map fun v => v.category).sum ≤ 8) (hR : 0 + 1 ≤ R.frames ∧ 8 + (1 + 11) + 0 ≤ R.locals) (hcs : cells ≤ R.cells ∧ slots ≤ R.slots) (hdg : decode cc pc = .ok (.invokevirtual index, 3))
    (kk : W p l e R s m args below meth c H locs cells slots Q (F0 m (pc + 3) ls (.int (nI 0) :: rest))) : W p l e R s m args below meth c H locs cells slots Q (F0 m pc ls (.ref (u.2.1 j) :: rest)) := by
  have hP := va_P1 hM.1.2.1 (mE_at (u := u) (th := th) (dy := dy) (sm := sm) hj)
  exact b_callV (v := .int 0) (As := []) S ⟨fun a U g mk z => ⟨z.1, va_K.moved (u := U) (U := U.calling g mk a) (Vm.Alike.refl U.vm) z.2.1, z.2.2⟩, va_recv (q0 := 0) hM.1.1 hP (ci := 4) rfl rfl, fun U hU hW9 => ⟨rfl, va_K.moved hW9.alike hM.1.1, by rw [hU]; exact hP⟩⟩ ok_Jx4a65c_size_8abf5 gm_431 gm_432 hlk (c_Jx4a65c_size_8abf5 l u.1 (u.2.1 j) u.2.2 0) ⟨rfl, rfl⟩ hR rfl hsz rfl hW hcs hdg kk
theorem m_iter (S : CallFix p m c cc nL s args gw own) (hM : MS u s H locs th dy sm) (hj : 0 < j ∧ j < 4) (hlk : Cond.methodLink own index yJx4a65c_iterator_32c93 ∈ gw) (hsz : ls.size = nL) (hW : (rest.map fun v => v.category).sum ≤ 8) (hR : 2 + 1 ≤ R.frames ∧ 8 + (1 + 11) + 33 ≤ R.locals) (hcs : cells + 1 ≤ R.cells ∧ slots + 4 ≤ R.slots) (hdg : decode cc pc = .ok (.invokevirtual index, 3))
    (kk : ∀ (it : Nat) (H1 : Heap), MS u s H1 locs th dy sm → va_P u.1 gcl [(it, .inr (5, [.int 0, .int (-1), .int 0, .ref (u.2.1 j)]))] H1 → W p l e R s m args below meth c H1 locs (cells + 1) (slots + 4) Q (F0 m (pc + 3) ls (.ref it :: rest))) : W p l e R s m args below meth c H locs cells slots Q (F0 m pc ls (.ref (u.2.1 j) :: rest)) := by
  have hP := va_P1 hM.1.2.1 (mE_at (u := u) (th := th) (dy := dy) (sm := sm) hj)
  intro T hT X
  obtain ⟨v', st₀, t, T', L, h0, X', hL, e1, e2, ⟨q, hv, hPq, hz, hk⟩, stp⟩ := (va_runV (g := F0 m pc ls (.ref (u.2.1 j) :: rest)) (As := []) (rest := rest) (C := RJx4a65c) S (c_Jx4a65c_iterator_32c93 l u.1 (u.2.1 j) u.2.2) ⟨g_cb S.2.2.2.2 ok_Jx4a65c_iterator_32c93 hlk rfl rfl hR, S.2.2.2.2 _ gm_515, S.2.2.2.2 _ gm_516⟩ ⟨fun a U g mk z => ⟨z.1, va_K.moved (u := U) (U := U.calling g mk a) (Vm.Alike.refl U.vm) z.2.1, z.2.2⟩, va_recv (q0 := 0) hM.1.1 hP (ci := 4) rfl rfl, fun U hU hW9 => ⟨rfl, va_K.moved hW9.alike hM.1.1, by rw [hU]; exact hP⟩⟩ rfl rfl hsz rfl (lv_room hW) hdg hcs) T hT X
  cases hv
  rw [h0] at hz hk
  obtain ⟨t2, a1, b1⟩ := kk q T'.heap (hM.more (by rw [e1]; exact hz) (fun i hi => by rw [e1]; exact hk i hi (fun z => z))) (by rw [e1]; exact hPq) T' rfl (Stand.forget X' (fun z h => (hL z h).elim))
  exact ⟨t2, stp t2 a1, b1⟩
theorem m_hasNext {it count : Nat} (S : CallFix p m c cc nL s args gw own) (hM : MS u s H locs th dy sm) (hj : 0 < j ∧ j < 4) (hIt : va_P u.1 gcl [(it, .inr (5, [.int 0, .int (-1), .int 0, .ref (u.2.1 j)]))] H) (hlk : Cond.methodLink own index yHN ∈ gw) (hsz : ls.size = nL) (hW : (rest.map fun v => v.category).sum ≤ 8) (hR : 0 + 1 ≤ R.frames ∧ 8 + (1 + 11) + 0 ≤ R.locals) (hcs : cells ≤ R.cells ∧ slots ≤ R.slots) (hdg : decode cc pc = .ok (.invokeinterface index count, 5))
    (kk : W p l e R s m args below meth c H locs cells slots Q (F0 m (pc + 5) ls (.int (nI 0) :: rest))) : W p l e R s m args below meth c H locs cells slots Q (F0 m pc ls (.ref it :: rest)) := by
  have hP := va_P1 hM.1.2.1 (mE_at (u := u) (th := th) (dy := dy) (sm := sm) hj)
  have hP2 : va_P u.1 gcl [(it, .inr (5, [.int 0, .int (-1), .int 0, .ref (u.2.1 j)])), (u.2.1 j, .inr (4, [.int 0, .ref u.2.2, .int 0]))] H := hIt.app hP
  have hts := S.2.2.2.2
  have hF := hM.1.2.2.2.1
  have hd : (parseMethodDescriptor yHN.desc).map (fun d => d.parameters.length) = some 0 := by decide +kernel
  have cw : va_CI R s args own RJx35411 index yHN yJx35411_hasNext_aae02 cJx35411_hasNext_aae02 1 (some .boolean) (gws yJx35411_hasNext_aae02 cJx35411_hasNext_aae02 1 (some .boolean)) { frames := 0, cells := 0, slots := 0, locals := 0 } 0 0 0 :=
    ⟨⟨rfl, rfl, hR.1, hR.2, pay_in hts (g_good ok_Jx35411_hasNext_aae02.1), List.mem_cons_self⟩, hts _ hlk, va_any rfl hF.1, va_any rfl hF.2.1, hts _ gm_519, hts _ gm_520, va_any rfl hF.2.2.1, va_any rfl hF.2.2.2.1, va_any rfl hF.2.2.2.2, hts _ ok_Jx35411_hasNext_aae02.2.1, hts _ ok_Jx35411_hasNext_aae02.1, ⟨by decide +kernel, by decide +kernel⟩, fun sig h => by
      rw [h] at hd
      exact (Option.some.inj hd).symm⟩
  intro T hT X
  obtain ⟨v', st₀, t, T', L, h0, X', hL, e1, e2, ⟨hv, hh⟩, stp⟩ := (va_runF (g := F0 m pc ls (.ref it :: rest)) (As := []) (rest := rest) (hM.1.1.1 5 _ rfl).2 S (c_Jx35411_hasNext_aae02 l u.1 it (u.2.1 j) u.2.2) cw ⟨fun a U g mk z => ⟨z.1, va_K.moved (u := U) (U := U.calling g mk a) (Vm.Alike.refl U.vm) z.2.1, z.2.2.1, va_Nw.same (u := U) rfl rfl z.2.2.2⟩, va_recv (q0 := 0) hM.1.1 hIt (ci := 5) rfl rfl, fun U hU hW9 => ⟨rfl, va_K.moved hW9.alike hM.1.1, by rw [hU]; exact hP2, va_Nw.warmF hW9 hM.1.2.2.2.2.1⟩⟩ rfl rfl hsz rfl (lv_room hW) hdg hcs) T hT X
  cases hv
  obtain ⟨t2, a1, b1⟩ := kk T' (by rw [e1, hh, h0]) (Stand.forget X' (fun q h => (hL q h).elim))
  exact ⟨t2, stp t2 a1, b1⟩
end MK3
theorem neg_is {x : Int32} : ¬ (0 ≤ x ∧ x ≤ -1) := fun q => absurd (Int32.le_trans q.1 q.2) (by decide)
theorem is_in {n a b : Nat} (ha : a ≤ n) (hb : n ≤ b) (h : b < 2 ^ 31) : nI a ≤ nI n ∧ nI n ≤ nI b := ⟨(g_le (by omega) (by omega)).mpr ha, (g_le (by omega) h).mpr hb⟩
def mdg : Nat → Int64
  | 0 => 58116
  | n + 1 => mdg n * 31 + (nI 0).toInt64
