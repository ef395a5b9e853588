/-! The reference's Text(), document() and its own constructor. -/
theorem ok_X4_init : gOK yX4_init cX4_init 1 none 0 := ⟨gm_537, gm_535, by decide +kernel⟩
theorem ok_X5_init : gOK yX5_init cX5_init 1 none 0 := ⟨gm_647, gm_434, by decide +kernel⟩
theorem m_step {A : Nat → Prop} {D : va_G} {cl : List vw_C} {ws : va_W} {H0 H H1 : Heap} {locs L : List Loc} {q k : Nat} {e0 e : va_E} (hP : va_P D cl ws H) (hD : va_D A ws) (hS : va_S A H0 H locs) (hA : ∀ z, H0.size ≤ z → A z) (hq : ws[k]? = some (q, e0)) (hP1 : va_P D cl [(q, e)] H1) (hz : H.size ≤ H1.size) (hk : ∀ z : Nat, z < H.size → ¬ z = q → H1[z]? = H[z]?) (hL : ∀ z ∈ L, z.base = q ∨ H.size ≤ z.base) : va_P D cl (ws.set k (q, e)) H1 ∧ va_D A (ws.set k (q, e)) ∧ va_S A H0 H1 (locs ++ L) := by
  have hAq : A q := hD.2 k _ hq
  refine ⟨fun j x hx => ?_, hD.set hq, Nat.le_trans hS.1 hz, fun z h1 h2 => ?_, fun z hz9 => ?_⟩
  · by_cases hj : k = j
    · subst hj
      have hlt : k < ws.length := (List.getElem?_eq_some_iff.mp hq).1
      rw [List.getElem?_set_self hlt] at hx
      cases hx
      exact hP1 0 _ rfl
    · rw [List.getElem?_set_ne hj] at hx
      exact (hP j x hx).kept (hk x.1 (hP j x hx).lt (fun e9 => hj (hD.1 k j _ _ hq hx e9.symm)))
  · rw [hk z (Nat.lt_of_lt_of_le h1 hS.1) (fun e9 => h2 (by rw [e9]; exact hAq))]
    exact hS.2.1 z h1 h2
  · rcases List.mem_append.mp hz9 with h9 | h9
    · exact hS.2.2 z h9
    · rcases hL z h9 with h8 | h8
      · rw [h8]; exact hAq
      · exact hA _ (Nat.le_trans hS.1 h8)
def mTx (D : va_G) (h : Nat) : Array Value → State → Outcome → State → Prop := fun _ st o t => o = .returned none ∧ (∃ q : Nat, va_P D gcl [(h, .inr (6, [.ref q, .int 0]))] t.heap) ∧ va_F (fun z => z = h) st t
def mMx (D : va_G) (h em sz : Nat) : Array Value → State → Outcome → State → Prop := fun _ st o t => o = .returned none ∧ (∃ u : MP, (u.1 = D ∧ u.2.1 0 = h ∧ u.2.2 = em) ∧ va_P D gcl (mE u 0 0 0) t.heap ∧ va_D (mFr h sz) (mE u 0 0 0)) ∧ va_F (fun z => z = h) st t
set_option maxRecDepth 100000 in
theorem c_X4_init (l : Launch) (D : va_G) (h em sz : Nat) : Met l yX4_init (gws yX4_init cX4_init 1 none) ({ frames := 4, cells := 1, slots := 3, locals := 72 }) (va_Pc [.ref h] (fun U => U.heap.size = sz ∧ va_K D gcl [] U ∧ va_P D gcl [(h, .inr (6, [.null, .int 0]))] U.heap ∧ mZ em (mFr h sz) U U.heap)) (mTx D h) 1 3 (mFr h sz) := by
  refine b_read (by decide) (Nat.le_of_ble_eq_true rfl) ?_
  intro P_ E_ S_ M_ B_ T_ C_ ls G hnm hV hl
  obtain ⟨hx, hb, hml, hown, hts⟩ := id G.1
  have hl : lv_has ls 1 [(0, .ref h)] := hl
  obtain ⟨rfl, hK, hP, hZ⟩ := hV
  have hA : ∀ z : Nat, S_.heap.size ≤ z → mFr h S_.heap.size z := fun _ z => Or.inr z
  have hS : va_S (mFr h S_.heap.size) S_.heap S_.heap [] := va_S.rf
  refine lv_aload_n hx hb dX4_init_0 rfl (lv_at hl 0 rfl) ?_
  refine W.objInit hx hb hown (hts _ gm_413) (hts _ gm_1) (hts _ gm_2) rfl (by rw [hml]; exact hl.1) rfl dX4_init_1 (Nat.le_of_ble_eq_true rfl) (Nat.le_of_ble_eq_true rfl) ?_
  refine W.eq (g2 := F0 M_ 4 ls []) rfl ?_
  have hD : va_D (mFr h S_.heap.size) [(h, .inr (6, [.null, .int 0]))] := m1_D.weaken (fun _ _ _ z => Or.inl z)
  refine lv_aload_n hx hb dX4_init_4 rfl (lv_at hl 0 rfl) ?_
  refine va_new (ci := 4) (fs := [.int 0, .null, .int 0]) (C := RJx4a65c) (T := TJx4a65c) (N := 3) hx hb hts gin4 tyJx4a65c tyJx4a65c_ok hown (hts _ gm_414) (hts _ gm_415) (hts _ gm_416) hK hP hD hS hA rfl (fun j hj => by rcases (show j = 0 ∨ j = 1 ∨ j = 2 by omega) with rfl | rfl | rfl <;> rfl) (Nat.le_of_ble_eq_true rfl) (Nat.le_of_ble_eq_true rfl) dX4_init_5 (fun q H hP hD hS => ?_)
  refine lv_dup hx hb dX4_init_8 rfl ?_
  have hAq := hD.2 1 _ rfl
  have hZq : mZ em (fun z => z = q) S_ H := (hZ.kept (fun z h1 h2 => hS.2.1 z h1 h2)).narrow (fun z hz => by rw [hz]; exact hAq)
  refine m1_back (va_runI (As := []) (rest := [.ref q, .ref h]) G.1 (c_Jx4a65c_init_da8c8 l D q em) ⟨g_cb hts ok_Jx4a65c_init_da8c8 gm_418 rfl rfl ⟨Nat.le_of_ble_eq_true rfl, Nat.le_of_ble_eq_true rfl⟩, rfl, hts _ gm_419⟩ ⟨fun a U g mk z => ⟨z.1, ⟨va_K.moved (u := U) (U := U.calling g mk a) (Vm.Alike.refl U.vm) z.2.1.1, z.2.1.2⟩, va_Z.moved (u := U) (U := U.calling g mk a) (Vm.Alike.refl U.vm) z.2.2⟩, fun U hU hW9 => ⟨rfl, ⟨va_K.moved hW9.alike hK, by rw [hU]; exact va_P1 hP (k := 1) rfl⟩, by rw [hU]; exact va_Z.moved hW9.alike hZq⟩⟩ rfl rfl hl.1 rfl (lv_room (Nat.le_of_ble_eq_true rfl)) dX4_init_9 ⟨Nat.le_of_ble_eq_true rfl, Nat.le_of_ble_eq_true rfl⟩) (fun H1 L hP1 hz hk hL => ?_)
  obtain ⟨hP, hD, hS⟩ := m_step hP hD hS hA (k := 1) rfl hP1 hz hk (fun z h => Or.inl (hL z h))
  have hP : va_P D gcl [(h, .inr (6, [.null, .int 0])), (q, .inr (4, [.int 0, .ref em, .int 0]))] H1 := hP
  have hD : va_D (mFr h S_.heap.size) [(h, .inr (6, [.null, .int 0])), (q, .inr (4, [.int 0, .ref em, .int 0]))] := hD
  generalize H1 = H at hP hS ⊢
  refine va_putF (ty := .object "java/util/ArrayList") (v := .ref q) hx hb hts gin6 tyX4 tyX4_ok nmX4 hown hK hP hD hS 0 rfl rfl 0 (by decide) (hts _ gm_417) (fun _ z => z) rfl hnm rfl (by decide +kernel) rfl rfl (Nat.le_of_ble_eq_true rfl) dX4_init_12 (fun H locs hP hD hS => ?_)
  exact W.vret G.1.1 G.1.2.1 G.2.1 (fun t ht hW => ⟨rfl, ⟨q, by rw [ht]; exact va_P1 hP (k := 0) rfl⟩, (hS.F ht).of (fun z h1 h2 => h2.elim id (fun h3 => absurd h3 (Nat.not_le.mpr h1)))⟩) hS.2.2 dX4_init_15 G.2.2
set_option maxRecDepth 100000 in
theorem c_X5_init (l : Launch) (D : va_G) (h em sz : Nat) : Met l yX5_init (gws yX5_init cX5_init 1 none) ({ frames := 4, cells := 3, slots := 9, locals := 72 }) (va_Pc [.ref h] (fun U => U.heap.size = sz ∧ va_K D gcl [] U ∧ va_P D gcl [(h, .inr (3, [.int 0, .null, .null, .null, .int 0, .long 0]))] U.heap ∧ mZ em (mFr h sz) U U.heap)) (mMx D h em sz) 3 9 (mFr h sz) := by
  refine b_read (by decide) (Nat.le_of_ble_eq_true rfl) ?_
  intro P_ E_ S_ M_ B_ T_ C_ ls G hnm hV hl
  obtain ⟨hx, hb, hml, hown, hts⟩ := id G.1
  have hl : lv_has ls 1 [(0, .ref h)] := hl
  obtain ⟨rfl, hK, hP, hZ⟩ := hV
  have hA : ∀ z : Nat, S_.heap.size ≤ z → mFr h S_.heap.size z := fun _ z => Or.inr z
  have hS : va_S (mFr h S_.heap.size) S_.heap S_.heap [] := va_S.rf
  refine lv_aload_n hx hb dX5_init_0 rfl (lv_at hl 0 rfl) ?_
  refine W.objInit hx hb hown (hts _ gm_421) (hts _ gm_1) (hts _ gm_2) rfl (by rw [hml]; exact hl.1) rfl dX5_init_1 (Nat.le_of_ble_eq_true rfl) (Nat.le_of_ble_eq_true rfl) ?_
  refine W.eq (g2 := F0 M_ 4 ls []) rfl ?_
  have hD : va_D (mFr h S_.heap.size) [(h, .inr (3, [.int 0, .null, .null, .null, .int 0, .long 0]))] := m1_D.weaken (fun _ _ _ z => Or.inl z)
  refine lv_aload_n hx hb dX5_init_4 rfl (lv_at hl 0 rfl) ?_
  refine va_new (ci := 4) (fs := [.int 0, .null, .int 0]) (C := RJx4a65c) (T := TJx4a65c) (N := 3) hx hb hts gin4 tyJx4a65c tyJx4a65c_ok hown (hts _ gm_422) (hts _ gm_415) (hts _ gm_416) hK hP hD hS hA rfl (fun j hj => by rcases (show j = 0 ∨ j = 1 ∨ j = 2 by omega) with rfl | rfl | rfl <;> rfl) (Nat.le_of_ble_eq_true rfl) (Nat.le_of_ble_eq_true rfl) dX5_init_5 (fun q H hP hD hS => ?_)
  refine lv_dup hx hb dX5_init_8 rfl ?_
  have hAq := hD.2 1 _ rfl
  have hZq : mZ em (fun z => z = q) S_ H := (hZ.kept (fun z h1 h2 => hS.2.1 z h1 h2)).narrow (fun z hz => by rw [hz]; exact hAq)
  refine m1_back (va_runI (As := []) (rest := [.ref q, .ref h]) G.1 (c_Jx4a65c_init_da8c8 l D q em) ⟨g_cb hts ok_Jx4a65c_init_da8c8 gm_426 rfl rfl ⟨Nat.le_of_ble_eq_true rfl, Nat.le_of_ble_eq_true rfl⟩, rfl, hts _ gm_419⟩ ⟨fun a U g mk z => ⟨z.1, ⟨va_K.moved (u := U) (U := U.calling g mk a) (Vm.Alike.refl U.vm) z.2.1.1, z.2.1.2⟩, va_Z.moved (u := U) (U := U.calling g mk a) (Vm.Alike.refl U.vm) z.2.2⟩, fun U hU hW9 => ⟨rfl, ⟨va_K.moved hW9.alike hK, by rw [hU]; exact va_P1 hP (k := 1) rfl⟩, by rw [hU]; exact va_Z.moved hW9.alike hZq⟩⟩ rfl rfl hl.1 rfl (lv_room (Nat.le_of_ble_eq_true rfl)) dX5_init_9 ⟨Nat.le_of_ble_eq_true rfl, Nat.le_of_ble_eq_true rfl⟩) (fun H1 L hP1 hz hk hL => ?_)
  obtain ⟨hP, hD, hS⟩ := m_step hP hD hS hA (k := 1) rfl hP1 hz hk (fun z h => Or.inl (hL z h))
  have hP : va_P D gcl [(h, .inr (3, [.int 0, .null, .null, .null, .int 0, .long 0])), (q, .inr (4, [.int 0, .ref em, .int 0]))] H1 := hP
  have hD : va_D (mFr h S_.heap.size) [(h, .inr (3, [.int 0, .null, .null, .null, .int 0, .long 0])), (q, .inr (4, [.int 0, .ref em, .int 0]))] := hD
  generalize H1 = H at hP hS ⊢
  refine va_putF (ty := .object "java/util/ArrayList") (v := .ref q) hx hb hts gin3 tyX5 tyX5_ok nmX5 hown hK hP hD hS 0 rfl rfl 1 (by decide) (hts _ gm_423) (fun _ z => z) rfl hnm rfl (by decide +kernel) rfl rfl (Nat.le_of_ble_eq_true rfl) dX5_init_12 (fun H locs hP hD hS => ?_)
  have hP : va_P D gcl [(h, .inr (3, [.int 0, .ref q, .null, .null, .int 0, .long 0])), (q, .inr (4, [.int 0, .ref em, .int 0]))] H := hP
  have hD : va_D (mFr h S_.heap.size) [(h, .inr (3, [.int 0, .ref q, .null, .null, .int 0, .long 0])), (q, .inr (4, [.int 0, .ref em, .int 0]))] := hD
  obtain ⟨q1, rfl⟩ : ∃ q9, q9 = q := ⟨_, rfl⟩
  refine lv_aload_n hx hb dX5_init_15 rfl (lv_at hl 0 rfl) ?_
  refine va_new (ci := 4) (fs := [.int 0, .null, .int 0]) (C := RJx4a65c) (T := TJx4a65c) (N := 3) hx hb hts gin4 tyJx4a65c tyJx4a65c_ok hown (hts _ gm_422) (hts _ gm_415) (hts _ gm_416) hK hP hD hS hA rfl (fun j hj => by rcases (show j = 0 ∨ j = 1 ∨ j = 2 by omega) with rfl | rfl | rfl <;> rfl) (Nat.le_of_ble_eq_true rfl) (Nat.le_of_ble_eq_true rfl) dX5_init_16 (fun q H hP hD hS => ?_)
  refine lv_dup hx hb dX5_init_19 rfl ?_
  have hAq := hD.2 2 _ rfl
  have hZq : mZ em (fun z => z = q) S_ H := (hZ.kept (fun z h1 h2 => hS.2.1 z h1 h2)).narrow (fun z hz => by rw [hz]; exact hAq)
  refine m1_back (va_runI (As := []) (rest := [.ref q, .ref h]) G.1 (c_Jx4a65c_init_da8c8 l D q em) ⟨g_cb hts ok_Jx4a65c_init_da8c8 gm_426 rfl rfl ⟨Nat.le_of_ble_eq_true rfl, Nat.le_of_ble_eq_true rfl⟩, rfl, hts _ gm_419⟩ ⟨fun a U g mk z => ⟨z.1, ⟨va_K.moved (u := U) (U := U.calling g mk a) (Vm.Alike.refl U.vm) z.2.1.1, z.2.1.2⟩, va_Z.moved (u := U) (U := U.calling g mk a) (Vm.Alike.refl U.vm) z.2.2⟩, fun U hU hW9 => ⟨rfl, ⟨va_K.moved hW9.alike hK, by rw [hU]; exact va_P1 hP (k := 2) rfl⟩, by rw [hU]; exact va_Z.moved hW9.alike hZq⟩⟩ rfl rfl hl.1 rfl (lv_room (Nat.le_of_ble_eq_true rfl)) dX5_init_20 ⟨Nat.le_of_ble_eq_true rfl, Nat.le_of_ble_eq_true rfl⟩) (fun H1 L hP1 hz hk hL => ?_)
  obtain ⟨hP, hD, hS⟩ := m_step hP hD hS hA (k := 2) rfl hP1 hz hk (fun z h => Or.inl (hL z h))
  have hP : va_P D gcl [(h, .inr (3, [.int 0, .ref q1, .null, .null, .int 0, .long 0])), (q1, .inr (4, [.int 0, .ref em, .int 0])), (q, .inr (4, [.int 0, .ref em, .int 0]))] H1 := hP
  have hD : va_D (mFr h S_.heap.size) [(h, .inr (3, [.int 0, .ref q1, .null, .null, .int 0, .long 0])), (q1, .inr (4, [.int 0, .ref em, .int 0])), (q, .inr (4, [.int 0, .ref em, .int 0]))] := hD
  generalize H1 = H at hP hS ⊢
  refine va_putF (ty := .object "java/util/ArrayList") (v := .ref q) hx hb hts gin3 tyX5 tyX5_ok nmX5 hown hK hP hD hS 0 rfl rfl 2 (by decide) (hts _ gm_424) (fun _ z => z) rfl hnm rfl (by decide +kernel) rfl rfl (Nat.le_of_ble_eq_true rfl) dX5_init_23 (fun H locs hP hD hS => ?_)
  have hP : va_P D gcl [(h, .inr (3, [.int 0, .ref q1, .ref q, .null, .int 0, .long 0])), (q1, .inr (4, [.int 0, .ref em, .int 0])), (q, .inr (4, [.int 0, .ref em, .int 0]))] H := hP
  have hD : va_D (mFr h S_.heap.size) [(h, .inr (3, [.int 0, .ref q1, .ref q, .null, .int 0, .long 0])), (q1, .inr (4, [.int 0, .ref em, .int 0])), (q, .inr (4, [.int 0, .ref em, .int 0]))] := hD
  obtain ⟨q2, rfl⟩ : ∃ q9, q9 = q := ⟨_, rfl⟩
  refine lv_aload_n hx hb dX5_init_26 rfl (lv_at hl 0 rfl) ?_
  refine va_new (ci := 4) (fs := [.int 0, .null, .int 0]) (C := RJx4a65c) (T := TJx4a65c) (N := 3) hx hb hts gin4 tyJx4a65c tyJx4a65c_ok hown (hts _ gm_422) (hts _ gm_415) (hts _ gm_416) hK hP hD hS hA rfl (fun j hj => by rcases (show j = 0 ∨ j = 1 ∨ j = 2 by omega) with rfl | rfl | rfl <;> rfl) (Nat.le_of_ble_eq_true rfl) (Nat.le_of_ble_eq_true rfl) dX5_init_27 (fun q H hP hD hS => ?_)
  refine lv_dup hx hb dX5_init_30 rfl ?_
  have hAq := hD.2 3 _ rfl
  have hZq : mZ em (fun z => z = q) S_ H := (hZ.kept (fun z h1 h2 => hS.2.1 z h1 h2)).narrow (fun z hz => by rw [hz]; exact hAq)
  refine m1_back (va_runI (As := []) (rest := [.ref q, .ref h]) G.1 (c_Jx4a65c_init_da8c8 l D q em) ⟨g_cb hts ok_Jx4a65c_init_da8c8 gm_426 rfl rfl ⟨Nat.le_of_ble_eq_true rfl, Nat.le_of_ble_eq_true rfl⟩, rfl, hts _ gm_419⟩ ⟨fun a U g mk z => ⟨z.1, ⟨va_K.moved (u := U) (U := U.calling g mk a) (Vm.Alike.refl U.vm) z.2.1.1, z.2.1.2⟩, va_Z.moved (u := U) (U := U.calling g mk a) (Vm.Alike.refl U.vm) z.2.2⟩, fun U hU hW9 => ⟨rfl, ⟨va_K.moved hW9.alike hK, by rw [hU]; exact va_P1 hP (k := 3) rfl⟩, by rw [hU]; exact va_Z.moved hW9.alike hZq⟩⟩ rfl rfl hl.1 rfl (lv_room (Nat.le_of_ble_eq_true rfl)) dX5_init_31 ⟨Nat.le_of_ble_eq_true rfl, Nat.le_of_ble_eq_true rfl⟩) (fun H1 L hP1 hz hk hL => ?_)
  obtain ⟨hP, hD, hS⟩ := m_step hP hD hS hA (k := 3) rfl hP1 hz hk (fun z h => Or.inl (hL z h))
  have hP : va_P D gcl [(h, .inr (3, [.int 0, .ref q1, .ref q2, .null, .int 0, .long 0])), (q1, .inr (4, [.int 0, .ref em, .int 0])), (q2, .inr (4, [.int 0, .ref em, .int 0])), (q, .inr (4, [.int 0, .ref em, .int 0]))] H1 := hP
  have hD : va_D (mFr h S_.heap.size) [(h, .inr (3, [.int 0, .ref q1, .ref q2, .null, .int 0, .long 0])), (q1, .inr (4, [.int 0, .ref em, .int 0])), (q2, .inr (4, [.int 0, .ref em, .int 0])), (q, .inr (4, [.int 0, .ref em, .int 0]))] := hD
  generalize H1 = H at hP hS ⊢
  refine va_putF (ty := .object "java/util/ArrayList") (v := .ref q) hx hb hts gin3 tyX5 tyX5_ok nmX5 hown hK hP hD hS 0 rfl rfl 3 (by decide) (hts _ gm_425) (fun _ z => z) rfl hnm rfl (by decide +kernel) rfl rfl (Nat.le_of_ble_eq_true rfl) dX5_init_34 (fun H locs hP hD hS => ?_)
  have hP : va_P D gcl [(h, .inr (3, [.int 0, .ref q1, .ref q2, .ref q, .int 0, .long 0])), (q1, .inr (4, [.int 0, .ref em, .int 0])), (q2, .inr (4, [.int 0, .ref em, .int 0])), (q, .inr (4, [.int 0, .ref em, .int 0]))] H := hP
  have hD : va_D (mFr h S_.heap.size) [(h, .inr (3, [.int 0, .ref q1, .ref q2, .ref q, .int 0, .long 0])), (q1, .inr (4, [.int 0, .ref em, .int 0])), (q2, .inr (4, [.int 0, .ref em, .int 0])), (q, .inr (4, [.int 0, .ref em, .int 0]))] := hD
  obtain ⟨q3, rfl⟩ : ∃ q9, q9 = q := ⟨_, rfl⟩
  exact W.vret G.1.1 G.1.2.1 G.2.1 (fun t ht hW => ⟨rfl, ⟨(D, fun j => if j = 0 then h else if j = 1 then q1 else if j = 2 then q2 else q3, em), ⟨rfl, rfl, rfl⟩, by rw [ht]; exact hP, hD⟩, (hS.F ht).of (fun z h1 h2 => h2.elim id (fun h3 => absurd h3 (Nat.not_le.mpr h1)))⟩) hS.2.2 dX5_init_37 G.2.2
