/-! What concept, document and the constructor take out of the library's heap. -/
theorem ok_J6_valueOf_2dffe : gOK yJ6_valueOf_2dffe cJ6_valueOf_2dffe 1 (some (.object "java/lang/Integer")) 1 := ⟨gm_492, gm_29, by decide +kernel⟩
def mEx (b0 : Nat) (u : MP) (ca : Nat) (ad : Nat → Nat) (U : State) (H : Heap) : Prop := (b0 ≤ H.size ∧ ∀ j, j < 4 → b0 ≤ u.2.1 j) ∧ (mZ u.2.2 (fun q => b0 ≤ q) U H ∧ va_T (.object "java/lang/Object") u.2.2 0 (fun _ => .null) (fun q => b0 ≤ q) U H) ∧ (va_Z "java/lang/Integer$IntegerCache" "high" "I" (.int 127) (fun q => b0 ≤ q) U H ∧ va_Z "java/lang/Integer$IntegerCache" "cache" "[Ljava/lang/Integer;" (.ref ca) (fun q => b0 ≤ q) U H ∧ va_T (.object "java/lang/Integer") ca 256 (fun j => .ref (ad j)) (fun q => b0 ≤ q) U H ∧ ∀ k, k < 256 → va_O "java/lang/Integer" (ad k) (fun q => b0 ≤ q) U H) ∧ (va_AO "java/lang/Object" U ∧ va_AO RX4 U ∧ va_Nw (.castable "java/lang/Integer" "java/lang/Object") U ∧ va_Nw (.castable "[LGlossaryCrownModel$Text;" "java/lang/Object") U)
theorem mEx.moved {b0 : Nat} {u : MP} {ca : Nat} {ad : Nat → Nat} {s U : State} {H : Heap} (hW : s.WarmedH U.vm) (h : mEx b0 u ca ad s H) : mEx b0 u ca ad U H := ⟨h.1, ⟨va_Z.moved hW.alike h.2.1.1, va_T.moved hW.alike h.2.1.2⟩, ⟨va_Z.moved hW.alike h.2.2.1.1, va_Z.moved hW.alike h.2.2.1.2.1, va_T.moved hW.alike h.2.2.1.2.2.1, fun k hk => va_O.moved hW.alike (h.2.2.1.2.2.2 k hk)⟩, va_AO.moved hW.alike h.2.2.2.1, va_AO.moved hW.alike h.2.2.2.2.1, va_Nw.warmC hW h.2.2.2.2.2.1, va_Nw.warmC hW h.2.2.2.2.2.2⟩
theorem mEx.same {b0 : Nat} {u : MP} {ca : Nat} {ad : Nat → Nat} {s U : State} {H : Heap} (hv : s.vm = U.vm) (h : mEx b0 u ca ad s H) : mEx b0 u ca ad U H := by
  have hA : s.vm.Alike U.vm := by rw [hv]; exact Vm.Alike.refl U.vm
  exact ⟨h.1, ⟨va_Z.moved hA h.2.1.1, va_T.moved hA h.2.1.2⟩, ⟨va_Z.moved hA h.2.2.1.1, va_Z.moved hA h.2.2.1.2.1, va_T.moved hA h.2.2.1.2.2.1, fun k hk => va_O.moved hA (h.2.2.1.2.2.2 k hk)⟩, va_AO.moved hA h.2.2.2.1, va_AO.moved hA h.2.2.2.2.1, va_Nw.same rfl hv h.2.2.2.2.2.1, va_Nw.same rfl hv h.2.2.2.2.2.2⟩
theorem mEx.kept {b0 : Nat} {u : MP} {ca : Nat} {ad : Nat → Nat} {U : State} {H H1 : Heap} (h : mEx b0 u ca ad U H) (hz : H.size ≤ H1.size) (hq : ∀ a : Nat, a < H.size → ¬ b0 ≤ a → H1[a]? = H[a]?) : mEx b0 u ca ad U H1 := ⟨⟨Nat.le_trans h.1.1 hz, h.1.2⟩, ⟨h.2.1.1.kept hq, h.2.1.2.kept hq⟩, ⟨h.2.2.1.1.kept hq, h.2.2.1.2.1.kept hq, h.2.2.1.2.2.1.kept hq, fun k hk => (h.2.2.1.2.2.2 k hk).kept hq⟩, h.2.2.2⟩
theorem mEx.em {b0 : Nat} {u : MP} {ca : Nat} {ad : Nat → Nat} {U : State} {H : Heap} (h : mEx b0 u ca ad U H) {q : Nat} (hq : b0 ≤ q) : mEm u.2.2 q U H := ⟨va_Z.narrow h.2.1.1 (fun z (hz : z = q) => by show b0 ≤ z; rw [hz]; exact hq), va_T.narrow h.2.1.2 (fun z (hz : z = q) => by show b0 ≤ z; rw [hz]; exact hq), h.2.2.2.1⟩
set_option maxRecDepth 100000 in
theorem c_J6_valueOf_2dffe (l : Launch) (b0 : Nat) (u : MP) (ca : Nat) (ad : Nat → Nat) (k : Nat) (hk : k < 4) : Met l yJ6_valueOf_2dffe (gws yJ6_valueOf_2dffe cJ6_valueOf_2dffe 1 (some (.object "java/lang/Integer"))) ({ frames := 0, cells := 0, slots := 0, locals := 0 }) (va_Pc [.int (nI k)] (fun U => mEx b0 u ca ad U U.heap)) (gRd (.ref (ad (k + 128)))) 0 0 (fun _ => False) := by
  refine b_read (by decide) (Nat.le_of_ble_eq_true rfl) ?_
  intro P_ E_ S_ M_ B_ T_ C_ ls G hnm hV hl
  obtain ⟨hx, hb, hml, hown, hts⟩ := id G.1
  have hl : lv_has ls 1 [(0, .int (nI k))] := hl
  have hS : va_S (fun q => b0 ≤ q) S_.heap S_.heap [] := va_S.rf
  refine lv_iload_n hx hb dJ6_valueOf_2dffe_0 rfl (lv_at hl 0 rfl) ?_
  refine lv_bipush (v := -128) hx hb dJ6_valueOf_2dffe_1 (by decide) ?_
  refine lv_icmp_lt (tgt := 23) hx hb dJ6_valueOf_2dffe_3 (by decide) (fun c3 => absurd c3 (Int32.not_lt.mpr (Int32.le_trans (show (-128 : Int32) ≤ nI 0 by decide) (nI_pos' (by omega))))) (fun _ => ?_)
  refine lv_iload_n hx hb dJ6_valueOf_2dffe_6 rfl (lv_at hl 0 rfl) ?_
  refine va_gets hx hb hV.2.2.1.1 hS hown (hts _ gm_459) (fun _ z => z) dJ6_valueOf_2dffe_7 ?_
  refine lv_icmp_gt (tgt := 23) hx hb dJ6_valueOf_2dffe_10 (by decide) (fun c10 => absurd ((g_lt (a := 127) (b := k) (by omega) (by omega)).mp c10) (by omega)) (fun _ => ?_)
  refine va_gets hx hb hV.2.2.1.2.1 hS hown (hts _ gm_460) (fun _ z => z) dJ6_valueOf_2dffe_13 ?_
  refine lv_iload_n hx hb dJ6_valueOf_2dffe_16 rfl (lv_at hl 0 rfl) ?_
  refine lv_sipush (v := nI 128) hx hb dJ6_valueOf_2dffe_17 (by decide) ?_
  refine g_iaddn hx hb dJ6_valueOf_2dffe_20 ?_
  refine vb_tq (v := .ref (ad (k + 128))) hx hb hV.2.2.1.2.2.1 hS (nI_in (by omega) (by omega)) (by rw [nI_clamp (by omega)]) dJ6_valueOf_2dffe_21 ?_
  exact W.aret G.1.1 G.1.2.1 G.2.1 (Or.inl ⟨_, rfl⟩) (Or.inr ⟨_, rfl⟩) (fun t ht hW => ⟨rfl, ht⟩) (fun z hz9 => absurd hz9 List.not_mem_nil) dJ6_valueOf_2dffe_22 G.2.2
/-- what a call of the reference leaves: its number thrown -/
def mFin (u : MP) (v : Value) (th : Int32) : Array Value → State → Outcome → State → Prop := fun _ st o t => o = .returned (some v) ∧ (∃ fs : List Value, va_P u.1 gcl [(u.2.1 0, .inr (3, .int th :: fs))] t.heap) ∧ va_F (mA u) st t
abbrev mFz (u : MP) (sz : Nat) : Nat → Prop := fun z => mA u z ∨ sz ≤ z
def mPx (b0 : Nat) (u : MP) (ca : Nat) (ad : Nat → Nat) (sz : Nat) (th dy : Int32) (sm : Int64) : State → Prop := fun U => U.heap.size = sz ∧ MV u U th dy sm U.heap ∧ mEx b0 u ca ad U U.heap
theorem mEx.run {b0 : Nat} {u : MP} {ca : Nat} {ad : Nat → Nat} {s : State} {H : Heap} {A : Nat → Prop} {locs : List Loc} (h : mEx b0 u ca ad s s.heap) (hS : va_S A s.heap H locs) (hA : ∀ z, z < s.heap.size → A z → b0 ≤ z) : mEx b0 u ca ad s H := h.kept hS.1 (fun z h1 h2 => hS.2.1 z h1 (fun h3 => h2 (hA z h1 h3)))
theorem mA_b0 {b0 : Nat} {u : MP} {ca : Nat} {ad : Nat → Nat} {s : State} {H : Heap} (h : mEx b0 u ca ad s H) {z : Nat} (hz : mA u z) : b0 ≤ z := by
  obtain ⟨j, hj, rfl⟩ := hz
  exact h.1.2 j hj
theorem mE_ne {u : MP} {th dy : Int32} {sm : Int64} {A : Nat → Prop} (hD : va_D A (mE u th dy sm)) {j : Nat} (hj : 0 < j ∧ j < 4) : ¬ u.2.1 0 = u.2.1 j := fun e => by
  have := hD.1 0 j _ _ (show (mE u th dy sm)[0]? = some (u.2.1 0, _) from rfl) (mE_at hj) e
  omega
set_option maxRecDepth 100000 in
set_option maxHeartbeats 4000000 in
theorem c_X5_concept (l : Launch) (b0 : Nat) (u : MP) (ca : Nat) (ad : Nat → Nat) (sz : Nat) (th dy : Int32) (sm : Int64) (k : Nat) (hk : k < 4) : Met l yX5_concept (gws yX5_concept cX5_concept 2 (some .int)) ({ frames := 5, cells := 1, slots := 10, locals := 120 }) (va_Pc [.ref (u.2.1 0), .int (nI k)] (mPx b0 u ca ad sz th dy sm)) (mFin u (.int (nI 0)) (nI 0)) 1 10 (mFz u sz) := by
  refine b_read (by decide) (Nat.le_of_ble_eq_true rfl) ?_
  intro P_ E_ S_ M_ B_ T_ C_ ls G hnm hV hl
  obtain ⟨hx, hb, hml, hown, hts⟩ := id G.1
  obtain ⟨rfl, hV, hE0⟩ := hV
  have hl : lv_has ls 2 [(0, .ref (u.2.1 0)), (1, .int (nI k))] := hl
  have hM := MV.start hV
  refine lv_aload_n hx hb dX5_concept_0 rfl (lv_at hl 0 rfl) ?_
  refine lv_iconst (v := nI 0) hx hb dX5_concept_1 (by decide) ?_
  refine m_putT hx hb hts hown hM gm_427 dX5_concept_2 (fun H locs hM => ?_)
  refine lv_iload_n hx hb dX5_concept_5 rfl (lv_at hl 1 rfl) ?_
  refine lv_iconst (v := nI 0) hx hb dX5_concept_6 (by decide) ?_
  refine lv_iconst (v := nI 3) hx hb dX5_concept_7 (by decide) ?_
  refine b_callS (As := [.int (nI k), .int (nI 0), .int (nI 3)]) (rest := []) G.1 ok_X5_is gm_449 gm_448 (c_X5_is l (nI k) (nI 0) (nI 3)) ⟨rfl, rfl⟩ ⟨Nat.le_of_ble_eq_true rfl, Nat.le_of_ble_eq_true rfl⟩ rfl hl.1 rfl (Nat.le_of_ble_eq_true rfl) ⟨Nat.le_of_ble_eq_true rfl, Nat.le_of_ble_eq_true rfl⟩ dX5_concept_8 ?_
  refine lv_if_ne (tgt := 20) hx hb dX5_concept_11 (by decide) (fun c11 => ?_) (fun c11 => ?_)
  · skip
    have c11 : (nI 0) ≤ (nI k) ∧ (nI k) ≤ (nI 3) := g_if1.mp c11
    refine lv_aload_n hx hb dX5_concept_20 rfl (lv_at hl 0 rfl) ?_
    refine m_get hx hb hts hown hM 1 (by decide) (v := .ref (u.2.1 1)) gm_423 rfl dX5_concept_21 ?_
    refine m_size (j := 1) (rest := []) G.1 hM (by decide) gm_430 hl.1 (Nat.le_of_ble_eq_true rfl) ⟨Nat.le_of_ble_eq_true rfl, Nat.le_of_ble_eq_true rfl⟩ ⟨Nat.le_of_ble_eq_true rfl, Nat.le_of_ble_eq_true rfl⟩ dX5_concept_24 ?_
    refine lv_bipush (v := nI 12) hx hb dX5_concept_27 (by decide) ?_
    refine lv_icmp_ne (tgt := 38) hx hb dX5_concept_29 (by decide) (fun c29 => ?_) (fun c29 => ?_)
    · skip
      have c29 : ¬ (0 = 12) := fun q => c29 ((g_eq (by omega) (by omega)).mpr q)
      refine lv_aload_n hx hb dX5_concept_38 rfl (lv_at hl 0 rfl) ?_
      refine m_get hx hb hts hown hM 1 (by decide) (v := .ref (u.2.1 1)) gm_423 rfl dX5_concept_39 ?_
      refine lv_iload_n hx hb dX5_concept_42 rfl (lv_at hl 1 rfl) ?_
      have hE := hE0.run hM.2 (fun z _ h => mA_b0 hE0 h)
      refine g_backR (va_runS (As := [.int (nI k)]) (rest := [.ref (u.2.1 1)]) G.1 (c_J6_valueOf_2dffe l b0 u ca ad k hk) ⟨g_cb hts ok_J6_valueOf_2dffe gm_490 rfl rfl ⟨Nat.le_of_ble_eq_true rfl, Nat.le_of_ble_eq_true rfl⟩, hts _ gm_491⟩ ⟨fun a U g mk z => ⟨z.1, z.2.same (U := U.calling g mk a) rfl⟩, fun U hU hW9 => ⟨rfl, by show mEx b0 u ca ad U U.heap; rw [hU]; exact hE.moved hW9⟩⟩ rfl rfl hl.1 rfl (lv_room (Nat.le_of_ble_eq_true rfl)) dX5_concept_43 ⟨Nat.le_of_ble_eq_true rfl, Nat.le_of_ble_eq_true rfl⟩) ?_
      have hb1 : b0 ≤ u.2.1 1 := hE0.1.2 1 (by omega)
      have hvh : ¬ ad (k + 128) = u.2.1 1 := fun q => by
        obtain ⟨cell, _, _, _, h9⟩ := hE.2.2.1.2.2.2 (k + 128) (by omega)
        exact h9 (by show b0 ≤ ad (k + 128); rw [q]; exact hb1)
      have hAny : va_Any "java/lang/Object" S_ H (ad (k + 128)) := by
        obtain ⟨cell, g1, g2, g3, _⟩ := hE.2.2.1.2.2.2 (k + 128) (by omega)
        obtain ⟨kC, hkC, _⟩ := Vm.findClass_spec g3
        obtain ⟨c3, c4, hc3, hc4, hasg⟩ := Cond.castable_spec (va_Nw.use (A := #[]) rfl hE.2.2.2.2.2.1)
        refine ⟨cell, g1, g2, ⟨kC, hkC⟩, fun comp hc => ?_⟩
        cases Option.some.inj (hc3.symm.trans g3)
        cases Option.some.inj (hc4.symm.trans hc)
        exact hasg
      have hK1 := hM.1.1
      have hPm := hM.1.2.1
      have hDm := hM.1.2.2.1
      have hS : va_S (mFz u S_.heap.size) S_.heap H locs := ⟨hM.2.1, fun z h1 h2 => hM.2.2.1 z h1 (fun h3 => h2 (Or.inl h3)), fun z h => Or.inl (hM.2.2.2 z h)⟩
      have hPl := va_P1 hPm (mE_at (u := u) (j := 1) ⟨by decide, by decide⟩)
      refine mAd_back (va_runV (C := RJx4a65c) (As := [.ref (ad (k + 128))]) (rest := []) G.1 (c_Jx4a65c_add_9ea2d l u.1 (u.2.1 1) u.2.2 (ad (k + 128)) H.size hvh) ⟨g_cb hts ok_Jx4a65c_add_9ea2d gm_493 rfl rfl ⟨Nat.le_of_ble_eq_true rfl, Nat.le_of_ble_eq_true rfl⟩, hts _ gm_494, hts _ gm_495⟩ ⟨fun a U g mk z => ⟨z.1, z.2.1, va_K.moved (u := U) (U := U.calling g mk a) (Vm.Alike.refl U.vm) z.2.2.1, z.2.2.2.1, z.2.2.2.2.1.same (U := U.calling g mk a) rfl, z.2.2.2.2.2.same (U := U.calling g mk a) rfl⟩, va_recv (q0 := 0) hK1 hPl (ci := 4) rfl rfl, fun U hU hW9 => ⟨rfl, by rw [hU], va_K.moved hW9.alike hK1, by rw [hU]; exact hPl, by rw [hU]; exact (hE.em hb1).moved hW9, by rw [hU]; exact hAny.moved hW9⟩⟩ rfl rfl hl.1 rfl (lv_room (Nat.le_of_ble_eq_true rfl)) dX5_concept_46 ⟨Nat.le_of_ble_eq_true rfl, Nat.le_of_ble_eq_true rfl⟩) (fun q H1 L hP1 hz hk1 hL => ?_)
      have hPo : va_P u.1 gcl [(u.2.1 0, .inr (3, [.int (nI 0), .ref (u.2.1 1), .ref (u.2.1 2), .ref (u.2.1 3), .int dy, .long sm]))] H1 := (va_P1 hPm (k := 0) rfl).kept (fun k9 x hx9 => by
        have hk9 : k9 < 1 := (List.getElem?_eq_some_iff.mp hx9).1
        rw [show k9 = 0 by omega] at hx9
        cases hx9
        exact hk1 _ ((hPm 0 _ rfl).lt) (mE_ne hDm ⟨by decide, by decide⟩))
      refine lv_pop hx hb dX5_concept_49 rfl ?_
      refine lv_aload_n hx hb dX5_concept_50 rfl (lv_at hl 0 rfl) ?_
      refine va_get (v := .ref (u.2.1 1)) hx hb hts gin3 hown hK1 hPo 0 rfl rfl 1 (by decide) (hts _ gm_423) (fun _ z => z) rfl dX5_concept_51 ?_
      refine b_callV (v := .int 1) (As := []) G.1 ⟨fun a U g mk z => ⟨z.1, va_K.moved (u := U) (U := U.calling g mk a) (Vm.Alike.refl U.vm) z.2.1, z.2.2⟩, va_recv (q0 := 0) hK1 hP1 (ci := 4) rfl rfl, fun U hU hW9 => ⟨rfl, va_K.moved hW9.alike hK1, by rw [hU]; exact hP1⟩⟩ ok_Jx4a65c_size_8abf5 gm_431 gm_432 gm_430 (c_Jx4a65c_size_8abf5 l u.1 (u.2.1 1) q 1) ⟨rfl, rfl⟩ ⟨Nat.le_of_ble_eq_true rfl, Nat.le_of_ble_eq_true rfl⟩ rfl hl.1 rfl (Nat.le_of_ble_eq_true rfl) ⟨Nat.le_of_ble_eq_true rfl, Nat.le_of_ble_eq_true rfl⟩ dX5_concept_54 ?_
      refine lv_iconst (v := nI 1) hx hb dX5_concept_57 (by decide) ?_
      refine lv_isub hx hb dX5_concept_58 ?_
      refine W.eq (g2 := F0 M_ _ ls [.int (nI 0)]) (by rw [show (1 : Int32) - nI 1 = nI 0 from by decide]; rfl) ?_
      exact W.widen (by decide) (by decide) (W.iret G.1.1 G.1.2.1 G.2.1 (fun t ht hW => ⟨rfl, ⟨_, by rw [ht]; exact hPo⟩, by rw [ht]; exact Nat.le_trans hS.1 hz, fun z h1 h2 => by rw [ht, hk1 z (Nat.lt_of_lt_of_le h1 hS.1) (fun h3 => h2 ⟨1, by decide, h3⟩)]; exact hS.2.1 z h1 (fun h3 => h3.elim h2 (fun h4 => absurd h1 (Nat.not_lt.mpr h4)))⟩) (fun z hz9 => by rcases List.mem_append.mp hz9 with h9 | h9; exact hS.2.2 z h9; rcases hL z h9 with h8 | h8; exact Or.inl ⟨1, by decide, h8⟩; exact Or.inr (Nat.le_trans hS.1 h8)) dX5_concept_59 G.2.2)
    · skip
      have c29 : 0 = 12 := (g_eq (by omega) (by omega)).mp c29
      omega
  · skip
    have c11 : ¬ ((nI 0) ≤ (nI k) ∧ (nI k) ≤ (nI 3)) := g_if0.mp c11
    exact absurd (is_in (by omega) (by omega) (by omega)) c11
