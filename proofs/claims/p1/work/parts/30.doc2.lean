/-! document() of the reference. -/
section MK7
variable {p : Program} {l : Launch} {e : Env} {R : Room} {s : State} {m : MethodId} {args : Array Value} {below : List Frame} {meth : Method} {c : Code} {H : Heap} {locs : List Loc} {cells slots : Nat} {Q : State → Prop}
variable {cc : ByteArray} {pc : Nat} {ls : Array Slot} {rest st : List Value} {mc ms : Nat} {a : Array Value}
theorem mT_back {D : va_G} {h sz : Nat} (hr : va_Run p l e R s m args below meth c H locs cells slots mc ms (F0 m pc ls st) rest (mTx D h a) (mFr h sz)) (kk : ∀ (q : Nat) (H1 : Heap) (L : List Loc), va_P D gcl [(h, .inr (6, [.ref q, .int 0]))] H1 → H.size ≤ H1.size → (∀ z : Nat, z < H.size → ¬ z = h → H1[z]? = H[z]?) → (∀ z ∈ L, mFr h sz z.base) → W p l e R s m args below meth c H1 (locs ++ L) (cells + mc) (slots + ms) Q (F0 m (pc + 3) ls rest)) : W p l e R s m args below meth c H locs cells slots Q (F0 m pc ls st) := by
  intro T hT X
  obtain ⟨v', st₀, t, T', L, h0, X', hL, e1, e2, ⟨hv, ⟨q, hP⟩, hz, hk⟩, stp⟩ := hr T hT X
  cases hv
  rw [h0] at hz hk
  obtain ⟨t2, a1, b1⟩ := kk q T'.heap L (by rw [e1]; exact hP) (by rw [e1]; exact hz) (fun z h1 h2 => by rw [e1]; exact hk z h1 h2) hL T' rfl X'
  exact ⟨t2, stp t2 a1, b1⟩
end MK7
set_option maxRecDepth 100000 in
set_option maxHeartbeats 4000000 in
theorem c_X5_document (l : Launch) (b0 : Nat) (u : MP) (ca : Nat) (ad : Nat → Nat) (sz : Nat) (th dy : Int32) (sm : Int64)  : Met l yX5_document (gws yX5_document cX5_document 3 (some .int)) ({ frames := 5, cells := 8, slots := 28, locals := 120 }) (va_Pc [.ref (u.2.1 0)] (mPx b0 u ca ad sz th dy sm)) (mFin u (.int (nI 0)) (nI 0)) 8 28 (mFz u sz) := by
  refine b_read (by decide) (Nat.le_of_ble_eq_true rfl) ?_
  intro P_ E_ S_ M_ B_ T_ C_ ls G hnm hV hl
  obtain ⟨hx, hb, hml, hown, hts⟩ := id G.1
  obtain ⟨rfl, hV, hE0⟩ := hV
  have hl : lv_has ls 3 [(0, .ref (u.2.1 0))] := hl
  have hM := MV.start hV
  refine lv_aload_n hx hb dX5_document_0 rfl (lv_at hl 0 rfl) ?_
  refine lv_iconst (v := nI 0) hx hb dX5_document_1 (by decide) ?_
  refine m_putT hx hb hts hown hM gm_427 dX5_document_2 (fun H locs hM => ?_)
  refine lv_aload_n hx hb dX5_document_5 rfl (lv_at hl 0 rfl) ?_
  refine m_get hx hb hts hown hM 3 (by decide) (v := .ref (u.2.1 3)) gm_425 rfl dX5_document_6 ?_
  refine m_size (j := 3) (rest := []) G.1 hM (by decide) gm_430 hl.1 (Nat.le_of_ble_eq_true rfl) ⟨Nat.le_of_ble_eq_true rfl, Nat.le_of_ble_eq_true rfl⟩ ⟨Nat.le_of_ble_eq_true rfl, Nat.le_of_ble_eq_true rfl⟩ dX5_document_9 ?_
  refine lv_bipush (v := nI 6) hx hb dX5_document_12 (by decide) ?_
  refine lv_icmp_ne (tgt := 23) hx hb dX5_document_14 (by decide) (fun c14 => ?_) (fun c14 => ?_)
  · skip
    have c14 : ¬ (0 = 6) := fun q => c14 ((g_eq (by omega) (by omega)).mpr q)
    have hK := hM.1.1
    have hA : ∀ z : Nat, S_.heap.size ≤ z → mFz u S_.heap.size z := fun _ z => Or.inr z
    have hP : va_P u.1 gcl (mE u (nI 0) dy sm) H := hM.1.2.1
    have hD : va_D (mFz u S_.heap.size) (mE u (nI 0) dy sm) := hM.1.2.2.1.weaken (fun _ _ _ z => Or.inl z)
    have hS : va_S (mFz u S_.heap.size) S_.heap H locs := ⟨hM.2.1, fun z h1 h2 => hM.2.2.1 z h1 (fun h3 => h2 (Or.inl h3)), fun z h => Or.inl (hM.2.2.2 z h)⟩
    have hDm := hM.1.2.2.1
    have hK1 := hM.1.1
    refine lv_iconst (v := nI 3) hx hb dX5_document_23 (by decide) ?_
    refine va_newq hx hb hown (hts _ gm_533) hE0.2.2.2.2.1 hK hP hD hS hA (N' := 3) (by decide) (by decide) (by decide) (Nat.le_of_ble_eq_true rfl) (Nat.le_of_ble_eq_true rfl) dX5_document_24 (fun q cA H hK hP hD hS => ?_)
    have hP : va_P u.1 gcl [(u.2.1 0, .inr (3, [.int (nI 0), .ref (u.2.1 1), .ref (u.2.1 2), .ref (u.2.1 3), .int dy, .long sm])), (u.2.1 1, .inr (4, [.int 0, .ref u.2.2, .int 0])), (u.2.1 2, .inr (4, [.int 0, .ref u.2.2, .int 0])), (u.2.1 3, .inr (4, [.int 0, .ref u.2.2, .int 0])), (q, .inl (cA, 3, .inr (.inr (.inr (.inr (fun _ => none))))))] H := hP
    have hD : va_D (mFz u S_.heap.size) [(u.2.1 0, .inr (3, [.int (nI 0), .ref (u.2.1 1), .ref (u.2.1 2), .ref (u.2.1 3), .int dy, .long sm])), (u.2.1 1, .inr (4, [.int 0, .ref u.2.2, .int 0])), (u.2.1 2, .inr (4, [.int 0, .ref u.2.2, .int 0])), (u.2.1 3, .inr (4, [.int 0, .ref u.2.2, .int 0])), (q, .inl (cA, 3, .inr (.inr (.inr (.inr (fun _ => none))))))] := hD
    have hK : va_K u.1 gcl [(cA, .object RX4)] S_ := hK
    refine lv_astore_n (lv' := [(1, .ref q), (0, .ref (u.2.1 0))]) hx hb dX5_document_27 rfl hl (by decide) rfl (fun ls hl => ?_)
    refine lv_iconst (v := nI 0) hx hb dX5_document_28 (by decide) ?_
    refine lv_istore_n (lv' := [(2, .int (nI 0)), (1, .ref q), (0, .ref (u.2.1 0))]) hx hb dX5_document_29 rfl hl (by decide) rfl (fun ls hl => ?_)
    obtain ⟨f, hf⟩ : ∃ f : Nat → Option Nat, f = (fun _ => none) := ⟨_, rfl⟩
    rw [← hf] at hP hD
    refine lv_iload_n hx hb dX5_document_30 rfl (lv_at hl 0 rfl) ?_
    refine lv_iconst (v := nI 3) hx hb dX5_document_31 (by decide) ?_
    refine lv_icmp_ge (tgt := 51) hx hb dX5_document_32 (by decide) (fun c => absurd c (by decide)) (fun _ => ?_)
    refine lv_aload_n hx hb dX5_document_35 rfl (lv_at hl 1 rfl) ?_
    refine lv_iload_n hx hb dX5_document_36 rfl (lv_at hl 0 rfl) ?_
    refine va_new (ci := 6) (fs := [.null, .int 0]) (C := RX4) (T := TX4) (N := 2) hx hb hts gin6 tyX4 tyX4_ok hown (hts _ gm_533) (hts _ gm_534) (hts _ gm_535) hK hP hD hS hA rfl (fun j hj => by rcases (show j = 0 ∨ j = 1 by omega) with rfl | rfl <;> rfl) (Nat.le_of_ble_eq_true rfl) (Nat.le_of_ble_eq_true rfl) dX5_document_37 (fun x H hP hD hS => ?_)
    have hP : va_P u.1 gcl [(u.2.1 0, .inr (3, [.int (nI 0), .ref (u.2.1 1), .ref (u.2.1 2), .ref (u.2.1 3), .int dy, .long sm])), (u.2.1 1, .inr (4, [.int 0, .ref u.2.2, .int 0])), (u.2.1 2, .inr (4, [.int 0, .ref u.2.2, .int 0])), (u.2.1 3, .inr (4, [.int 0, .ref u.2.2, .int 0])), (q, .inl (cA, 3, .inr (.inr (.inr (.inr f))))), (x, .inr (6, [.null, .int 0]))] H := hP
    have hD : va_D (mFz u S_.heap.size) [(u.2.1 0, .inr (3, [.int (nI 0), .ref (u.2.1 1), .ref (u.2.1 2), .ref (u.2.1 3), .int dy, .long sm])), (u.2.1 1, .inr (4, [.int 0, .ref u.2.2, .int 0])), (u.2.1 2, .inr (4, [.int 0, .ref u.2.2, .int 0])), (u.2.1 3, .inr (4, [.int 0, .ref u.2.2, .int 0])), (q, .inl (cA, 3, .inr (.inr (.inr (.inr f))))), (x, .inr (6, [.null, .int 0]))] := hD
    refine lv_dup hx hb dX5_document_40 rfl ?_
    have hE := hE0.run hS (fun z h1 h => h.elim (fun h9 => mA_b0 hE0 h9) (fun h9 => absurd h1 (Nat.not_lt.mpr h9)))
    have hxA : mFz u S_.heap.size x := hD.2 5 _ rfl
    have hxb : b0 ≤ x := hxA.elim (fun h9 => mA_b0 hE0 h9) (fun h9 => Nat.le_trans hE0.1.1 h9)
    have hZ : mZ u.2.2 (mFr x H.size) S_ H := va_Z.narrow hE.2.1.1 (fun z hz => hz.elim (fun h9 => by show b0 ≤ z; rw [h9]; exact hxb) (fun h9 => Nat.le_trans hE.1.1 h9))
    refine mT_back (va_runIN (As := []) (rest := [.ref x, .int (nI 0), .ref q]) G.1 (c_X4_init l u.1 x u.2.2 H.size) ⟨g_cn hts ok_X4_init hM.1.2.2.2.2.2 rfl rfl ⟨Nat.le_of_ble_eq_true rfl, Nat.le_of_ble_eq_true rfl⟩, rfl, hts _ gm_536⟩ ⟨fun a U g mk z => ⟨z.1, z.2.1, va_K.moved (u := U) (U := U.calling g mk a) (Vm.Alike.refl U.vm) z.2.2.1, z.2.2.2.1, va_Z.moved (u := U) (U := U.calling g mk a) (Vm.Alike.refl U.vm) z.2.2.2.2⟩, fun U hU hW9 => ⟨rfl, by rw [hU], va_K.moved hW9.alike hK1, by rw [hU]; exact va_P1 hP (k := 5) rfl, by rw [hU]; exact va_Z.moved hW9.alike hZ⟩⟩ rfl rfl hl.1 rfl (lv_room (Nat.le_of_ble_eq_true rfl)) dX5_document_41 ⟨Nat.le_of_ble_eq_true rfl, Nat.le_of_ble_eq_true rfl⟩) (fun r H1 L hP1 hz hk hL => ?_)
    obtain ⟨hP, hD, hS⟩ := m_step hP hD hS hA (k := 5) rfl hP1 hz hk (fun z h => hL z h)
    have hP : va_P u.1 gcl [(u.2.1 0, .inr (3, [.int (nI 0), .ref (u.2.1 1), .ref (u.2.1 2), .ref (u.2.1 3), .int dy, .long sm])), (u.2.1 1, .inr (4, [.int 0, .ref u.2.2, .int 0])), (u.2.1 2, .inr (4, [.int 0, .ref u.2.2, .int 0])), (u.2.1 3, .inr (4, [.int 0, .ref u.2.2, .int 0])), (q, .inl (cA, 3, .inr (.inr (.inr (.inr f))))), (x, .inr (6, [.ref r, .int 0]))] H1 := hP
    have hD : va_D (mFz u S_.heap.size) [(u.2.1 0, .inr (3, [.int (nI 0), .ref (u.2.1 1), .ref (u.2.1 2), .ref (u.2.1 3), .int dy, .long sm])), (u.2.1 1, .inr (4, [.int 0, .ref u.2.2, .int 0])), (u.2.1 2, .inr (4, [.int 0, .ref u.2.2, .int 0])), (u.2.1 3, .inr (4, [.int 0, .ref u.2.2, .int 0])), (q, .inl (cA, 3, .inr (.inr (.inr (.inr f))))), (x, .inr (6, [.ref r, .int 0]))] := hD
    generalize H1 = H at hP hS ⊢
    have hxAny : va_Any RX4 S_ H x := va_rAny hK1 hP (q0 := 5) rfl (r := (RX4, TX4, 2)) rfl (fun comp c0 h1 h2 => by cases Option.some.inj ((hK1.1 6 _ rfl).2.1.symm.trans h1); cases Option.some.inj ((hK1.1 6 _ rfl).2.1.symm.trans h2); exact va_assign (hK1.1 6 _ rfl).2)
    refine va_astqM (n := 3) hx hb hK hP hD hS 4 0 rfl rfl hxAny (nI_in (by omega) (by omega)) dX5_document_44 (fun H locs hP hD hS => ?_)
    obtain ⟨f1, hf1⟩ : ∃ f1 : Nat → Option Nat, f1 = va_up f (nI 0).toNatClampNeg (some x) := ⟨_, rfl⟩
    rw [← hf1] at hP hD
    have hP := hP.sub (ws' := [(u.2.1 0, .inr (3, [.int (nI 0), .ref (u.2.1 1), .ref (u.2.1 2), .ref (u.2.1 3), .int dy, .long sm])), (u.2.1 1, .inr (4, [.int 0, .ref u.2.2, .int 0])), (u.2.1 2, .inr (4, [.int 0, .ref u.2.2, .int 0])), (u.2.1 3, .inr (4, [.int 0, .ref u.2.2, .int 0])), (q, .inl (cA, 3, .inr (.inr (.inr (.inr f1)))))]) [0, 1, 2, 3, 4] rfl
    have hD := hD.sub (ws' := [(u.2.1 0, .inr (3, [.int (nI 0), .ref (u.2.1 1), .ref (u.2.1 2), .ref (u.2.1 3), .int dy, .long sm])), (u.2.1 1, .inr (4, [.int 0, .ref u.2.2, .int 0])), (u.2.1 2, .inr (4, [.int 0, .ref u.2.2, .int 0])), (u.2.1 3, .inr (4, [.int 0, .ref u.2.2, .int 0])), (q, .inl (cA, 3, .inr (.inr (.inr (.inr f1)))))]) [0, 1, 2, 3, 4] (by decide) rfl
    clear hf hf1
    obtain ⟨f, rfl⟩ : ∃ f2, f2 = f1 := ⟨_, rfl⟩
    refine lv_iinc (v := nI 1) (lv' := [(2, .int (nI 1)), (1, .ref q), (0, .ref (u.2.1 0))]) hx hb dX5_document_45 hl (k := 0) rfl (g_inc 0 1) (by decide) rfl (fun ls hl => ?_)
    refine lv_goto (tgt := 30) hx hb dX5_document_48 (by decide) ?_
    refine lv_iload_n hx hb dX5_document_30 rfl (lv_at hl 0 rfl) ?_
    refine lv_iconst (v := nI 3) hx hb dX5_document_31 (by decide) ?_
    refine lv_icmp_ge (tgt := 51) hx hb dX5_document_32 (by decide) (fun c => absurd c (by decide)) (fun _ => ?_)
    refine lv_aload_n hx hb dX5_document_35 rfl (lv_at hl 1 rfl) ?_
    refine lv_iload_n hx hb dX5_document_36 rfl (lv_at hl 0 rfl) ?_
    refine va_new (ci := 6) (fs := [.null, .int 0]) (C := RX4) (T := TX4) (N := 2) hx hb hts gin6 tyX4 tyX4_ok hown (hts _ gm_533) (hts _ gm_534) (hts _ gm_535) hK hP hD hS hA rfl (fun j hj => by rcases (show j = 0 ∨ j = 1 by omega) with rfl | rfl <;> rfl) (Nat.le_of_ble_eq_true rfl) (Nat.le_of_ble_eq_true rfl) dX5_document_37 (fun x H hP hD hS => ?_)
    have hP : va_P u.1 gcl [(u.2.1 0, .inr (3, [.int (nI 0), .ref (u.2.1 1), .ref (u.2.1 2), .ref (u.2.1 3), .int dy, .long sm])), (u.2.1 1, .inr (4, [.int 0, .ref u.2.2, .int 0])), (u.2.1 2, .inr (4, [.int 0, .ref u.2.2, .int 0])), (u.2.1 3, .inr (4, [.int 0, .ref u.2.2, .int 0])), (q, .inl (cA, 3, .inr (.inr (.inr (.inr f))))), (x, .inr (6, [.null, .int 0]))] H := hP
    have hD : va_D (mFz u S_.heap.size) [(u.2.1 0, .inr (3, [.int (nI 0), .ref (u.2.1 1), .ref (u.2.1 2), .ref (u.2.1 3), .int dy, .long sm])), (u.2.1 1, .inr (4, [.int 0, .ref u.2.2, .int 0])), (u.2.1 2, .inr (4, [.int 0, .ref u.2.2, .int 0])), (u.2.1 3, .inr (4, [.int 0, .ref u.2.2, .int 0])), (q, .inl (cA, 3, .inr (.inr (.inr (.inr f))))), (x, .inr (6, [.null, .int 0]))] := hD
    refine lv_dup hx hb dX5_document_40 rfl ?_
    have hE := hE0.run hS (fun z h1 h => h.elim (fun h9 => mA_b0 hE0 h9) (fun h9 => absurd h1 (Nat.not_lt.mpr h9)))
    have hxA : mFz u S_.heap.size x := hD.2 5 _ rfl
    have hxb : b0 ≤ x := hxA.elim (fun h9 => mA_b0 hE0 h9) (fun h9 => Nat.le_trans hE0.1.1 h9)
    have hZ : mZ u.2.2 (mFr x H.size) S_ H := va_Z.narrow hE.2.1.1 (fun z hz => hz.elim (fun h9 => by show b0 ≤ z; rw [h9]; exact hxb) (fun h9 => Nat.le_trans hE.1.1 h9))
    refine mT_back (va_runIN (As := []) (rest := [.ref x, .int (nI 1), .ref q]) G.1 (c_X4_init l u.1 x u.2.2 H.size) ⟨g_cn hts ok_X4_init hM.1.2.2.2.2.2 rfl rfl ⟨Nat.le_of_ble_eq_true rfl, Nat.le_of_ble_eq_true rfl⟩, rfl, hts _ gm_536⟩ ⟨fun a U g mk z => ⟨z.1, z.2.1, va_K.moved (u := U) (U := U.calling g mk a) (Vm.Alike.refl U.vm) z.2.2.1, z.2.2.2.1, va_Z.moved (u := U) (U := U.calling g mk a) (Vm.Alike.refl U.vm) z.2.2.2.2⟩, fun U hU hW9 => ⟨rfl, by rw [hU], va_K.moved hW9.alike hK1, by rw [hU]; exact va_P1 hP (k := 5) rfl, by rw [hU]; exact va_Z.moved hW9.alike hZ⟩⟩ rfl rfl hl.1 rfl (lv_room (Nat.le_of_ble_eq_true rfl)) dX5_document_41 ⟨Nat.le_of_ble_eq_true rfl, Nat.le_of_ble_eq_true rfl⟩) (fun r H1 L hP1 hz hk hL => ?_)
    obtain ⟨hP, hD, hS⟩ := m_step hP hD hS hA (k := 5) rfl hP1 hz hk (fun z h => hL z h)
    have hP : va_P u.1 gcl [(u.2.1 0, .inr (3, [.int (nI 0), .ref (u.2.1 1), .ref (u.2.1 2), .ref (u.2.1 3), .int dy, .long sm])), (u.2.1 1, .inr (4, [.int 0, .ref u.2.2, .int 0])), (u.2.1 2, .inr (4, [.int 0, .ref u.2.2, .int 0])), (u.2.1 3, .inr (4, [.int 0, .ref u.2.2, .int 0])), (q, .inl (cA, 3, .inr (.inr (.inr (.inr f))))), (x, .inr (6, [.ref r, .int 0]))] H1 := hP
    have hD : va_D (mFz u S_.heap.size) [(u.2.1 0, .inr (3, [.int (nI 0), .ref (u.2.1 1), .ref (u.2.1 2), .ref (u.2.1 3), .int dy, .long sm])), (u.2.1 1, .inr (4, [.int 0, .ref u.2.2, .int 0])), (u.2.1 2, .inr (4, [.int 0, .ref u.2.2, .int 0])), (u.2.1 3, .inr (4, [.int 0, .ref u.2.2, .int 0])), (q, .inl (cA, 3, .inr (.inr (.inr (.inr f))))), (x, .inr (6, [.ref r, .int 0]))] := hD
    generalize H1 = H at hP hS ⊢
    have hxAny : va_Any RX4 S_ H x := va_rAny hK1 hP (q0 := 5) rfl (r := (RX4, TX4, 2)) rfl (fun comp c0 h1 h2 => by cases Option.some.inj ((hK1.1 6 _ rfl).2.1.symm.trans h1); cases Option.some.inj ((hK1.1 6 _ rfl).2.1.symm.trans h2); exact va_assign (hK1.1 6 _ rfl).2)
    refine va_astqM (n := 3) hx hb hK hP hD hS 4 0 rfl rfl hxAny (nI_in (by omega) (by omega)) dX5_document_44 (fun H locs hP hD hS => ?_)
    obtain ⟨f1, hf1⟩ : ∃ f1 : Nat → Option Nat, f1 = va_up f (nI 1).toNatClampNeg (some x) := ⟨_, rfl⟩
    rw [← hf1] at hP hD
    have hP := hP.sub (ws' := [(u.2.1 0, .inr (3, [.int (nI 0), .ref (u.2.1 1), .ref (u.2.1 2), .ref (u.2.1 3), .int dy, .long sm])), (u.2.1 1, .inr (4, [.int 0, .ref u.2.2, .int 0])), (u.2.1 2, .inr (4, [.int 0, .ref u.2.2, .int 0])), (u.2.1 3, .inr (4, [.int 0, .ref u.2.2, .int 0])), (q, .inl (cA, 3, .inr (.inr (.inr (.inr f1)))))]) [0, 1, 2, 3, 4] rfl
    have hD := hD.sub (ws' := [(u.2.1 0, .inr (3, [.int (nI 0), .ref (u.2.1 1), .ref (u.2.1 2), .ref (u.2.1 3), .int dy, .long sm])), (u.2.1 1, .inr (4, [.int 0, .ref u.2.2, .int 0])), (u.2.1 2, .inr (4, [.int 0, .ref u.2.2, .int 0])), (u.2.1 3, .inr (4, [.int 0, .ref u.2.2, .int 0])), (q, .inl (cA, 3, .inr (.inr (.inr (.inr f1)))))]) [0, 1, 2, 3, 4] (by decide) rfl
    clear hf1
    obtain ⟨f, rfl⟩ : ∃ f2, f2 = f1 := ⟨_, rfl⟩
    refine lv_iinc (v := nI 2) (lv' := [(2, .int (nI 2)), (1, .ref q), (0, .ref (u.2.1 0))]) hx hb dX5_document_45 hl (k := 0) rfl (g_inc 1 1) (by decide) rfl (fun ls hl => ?_)
    refine lv_goto (tgt := 30) hx hb dX5_document_48 (by decide) ?_
    refine lv_iload_n hx hb dX5_document_30 rfl (lv_at hl 0 rfl) ?_
    refine lv_iconst (v := nI 3) hx hb dX5_document_31 (by decide) ?_
    refine lv_icmp_ge (tgt := 51) hx hb dX5_document_32 (by decide) (fun c => absurd c (by decide)) (fun _ => ?_)
    refine lv_aload_n hx hb dX5_document_35 rfl (lv_at hl 1 rfl) ?_
    refine lv_iload_n hx hb dX5_document_36 rfl (lv_at hl 0 rfl) ?_
    refine va_new (ci := 6) (fs := [.null, .int 0]) (C := RX4) (T := TX4) (N := 2) hx hb hts gin6 tyX4 tyX4_ok hown (hts _ gm_533) (hts _ gm_534) (hts _ gm_535) hK hP hD hS hA rfl (fun j hj => by rcases (show j = 0 ∨ j = 1 by omega) with rfl | rfl <;> rfl) (Nat.le_of_ble_eq_true rfl) (Nat.le_of_ble_eq_true rfl) dX5_document_37 (fun x H hP hD hS => ?_)
    have hP : va_P u.1 gcl [(u.2.1 0, .inr (3, [.int (nI 0), .ref (u.2.1 1), .ref (u.2.1 2), .ref (u.2.1 3), .int dy, .long sm])), (u.2.1 1, .inr (4, [.int 0, .ref u.2.2, .int 0])), (u.2.1 2, .inr (4, [.int 0, .ref u.2.2, .int 0])), (u.2.1 3, .inr (4, [.int 0, .ref u.2.2, .int 0])), (q, .inl (cA, 3, .inr (.inr (.inr (.inr f))))), (x, .inr (6, [.null, .int 0]))] H := hP
    have hD : va_D (mFz u S_.heap.size) [(u.2.1 0, .inr (3, [.int (nI 0), .ref (u.2.1 1), .ref (u.2.1 2), .ref (u.2.1 3), .int dy, .long sm])), (u.2.1 1, .inr (4, [.int 0, .ref u.2.2, .int 0])), (u.2.1 2, .inr (4, [.int 0, .ref u.2.2, .int 0])), (u.2.1 3, .inr (4, [.int 0, .ref u.2.2, .int 0])), (q, .inl (cA, 3, .inr (.inr (.inr (.inr f))))), (x, .inr (6, [.null, .int 0]))] := hD
    refine lv_dup hx hb dX5_document_40 rfl ?_
    have hE := hE0.run hS (fun z h1 h => h.elim (fun h9 => mA_b0 hE0 h9) (fun h9 => absurd h1 (Nat.not_lt.mpr h9)))
    have hxA : mFz u S_.heap.size x := hD.2 5 _ rfl
    have hxb : b0 ≤ x := hxA.elim (fun h9 => mA_b0 hE0 h9) (fun h9 => Nat.le_trans hE0.1.1 h9)
    have hZ : mZ u.2.2 (mFr x H.size) S_ H := va_Z.narrow hE.2.1.1 (fun z hz => hz.elim (fun h9 => by show b0 ≤ z; rw [h9]; exact hxb) (fun h9 => Nat.le_trans hE.1.1 h9))
    refine mT_back (va_runIN (As := []) (rest := [.ref x, .int (nI 2), .ref q]) G.1 (c_X4_init l u.1 x u.2.2 H.size) ⟨g_cn hts ok_X4_init hM.1.2.2.2.2.2 rfl rfl ⟨Nat.le_of_ble_eq_true rfl, Nat.le_of_ble_eq_true rfl⟩, rfl, hts _ gm_536⟩ ⟨fun a U g mk z => ⟨z.1, z.2.1, va_K.moved (u := U) (U := U.calling g mk a) (Vm.Alike.refl U.vm) z.2.2.1, z.2.2.2.1, va_Z.moved (u := U) (U := U.calling g mk a) (Vm.Alike.refl U.vm) z.2.2.2.2⟩, fun U hU hW9 => ⟨rfl, by rw [hU], va_K.moved hW9.alike hK1, by rw [hU]; exact va_P1 hP (k := 5) rfl, by rw [hU]; exact va_Z.moved hW9.alike hZ⟩⟩ rfl rfl hl.1 rfl (lv_room (Nat.le_of_ble_eq_true rfl)) dX5_document_41 ⟨Nat.le_of_ble_eq_true rfl, Nat.le_of_ble_eq_true rfl⟩) (fun r H1 L hP1 hz hk hL => ?_)
    obtain ⟨hP, hD, hS⟩ := m_step hP hD hS hA (k := 5) rfl hP1 hz hk (fun z h => hL z h)
    have hP : va_P u.1 gcl [(u.2.1 0, .inr (3, [.int (nI 0), .ref (u.2.1 1), .ref (u.2.1 2), .ref (u.2.1 3), .int dy, .long sm])), (u.2.1 1, .inr (4, [.int 0, .ref u.2.2, .int 0])), (u.2.1 2, .inr (4, [.int 0, .ref u.2.2, .int 0])), (u.2.1 3, .inr (4, [.int 0, .ref u.2.2, .int 0])), (q, .inl (cA, 3, .inr (.inr (.inr (.inr f))))), (x, .inr (6, [.ref r, .int 0]))] H1 := hP
    have hD : va_D (mFz u S_.heap.size) [(u.2.1 0, .inr (3, [.int (nI 0), .ref (u.2.1 1), .ref (u.2.1 2), .ref (u.2.1 3), .int dy, .long sm])), (u.2.1 1, .inr (4, [.int 0, .ref u.2.2, .int 0])), (u.2.1 2, .inr (4, [.int 0, .ref u.2.2, .int 0])), (u.2.1 3, .inr (4, [.int 0, .ref u.2.2, .int 0])), (q, .inl (cA, 3, .inr (.inr (.inr (.inr f))))), (x, .inr (6, [.ref r, .int 0]))] := hD
    generalize H1 = H at hP hS ⊢
    have hxAny : va_Any RX4 S_ H x := va_rAny hK1 hP (q0 := 5) rfl (r := (RX4, TX4, 2)) rfl (fun comp c0 h1 h2 => by cases Option.some.inj ((hK1.1 6 _ rfl).2.1.symm.trans h1); cases Option.some.inj ((hK1.1 6 _ rfl).2.1.symm.trans h2); exact va_assign (hK1.1 6 _ rfl).2)
    refine va_astqM (n := 3) hx hb hK hP hD hS 4 0 rfl rfl hxAny (nI_in (by omega) (by omega)) dX5_document_44 (fun H locs hP hD hS => ?_)
    obtain ⟨f1, hf1⟩ : ∃ f1 : Nat → Option Nat, f1 = va_up f (nI 2).toNatClampNeg (some x) := ⟨_, rfl⟩
    rw [← hf1] at hP hD
    have hP := hP.sub (ws' := [(u.2.1 0, .inr (3, [.int (nI 0), .ref (u.2.1 1), .ref (u.2.1 2), .ref (u.2.1 3), .int dy, .long sm])), (u.2.1 1, .inr (4, [.int 0, .ref u.2.2, .int 0])), (u.2.1 2, .inr (4, [.int 0, .ref u.2.2, .int 0])), (u.2.1 3, .inr (4, [.int 0, .ref u.2.2, .int 0])), (q, .inl (cA, 3, .inr (.inr (.inr (.inr f1)))))]) [0, 1, 2, 3, 4] rfl
    have hD := hD.sub (ws' := [(u.2.1 0, .inr (3, [.int (nI 0), .ref (u.2.1 1), .ref (u.2.1 2), .ref (u.2.1 3), .int dy, .long sm])), (u.2.1 1, .inr (4, [.int 0, .ref u.2.2, .int 0])), (u.2.1 2, .inr (4, [.int 0, .ref u.2.2, .int 0])), (u.2.1 3, .inr (4, [.int 0, .ref u.2.2, .int 0])), (q, .inl (cA, 3, .inr (.inr (.inr (.inr f1)))))]) [0, 1, 2, 3, 4] (by decide) rfl
    clear hf1
    obtain ⟨f, rfl⟩ : ∃ f2, f2 = f1 := ⟨_, rfl⟩
    refine lv_iinc (v := nI 3) (lv' := [(2, .int (nI 3)), (1, .ref q), (0, .ref (u.2.1 0))]) hx hb dX5_document_45 hl (k := 0) rfl (g_inc 2 1) (by decide) rfl (fun ls hl => ?_)
    refine lv_goto (tgt := 30) hx hb dX5_document_48 (by decide) ?_
    refine lv_iload_n hx hb dX5_document_30 rfl (lv_at hl 0 rfl) ?_
    refine lv_iconst (v := nI 3) hx hb dX5_document_31 (by decide) ?_
    refine lv_icmp_ge (tgt := 51) hx hb dX5_document_32 (by decide) (fun _ => ?_) (fun c => absurd (by decide : nI 3 ≤ nI 3) c)
    have hl : lv_has ls 3 [(2, .int (nI 3)), (1, .ref q), (0, .ref (u.2.1 0))] := hl
    have hPm : va_P u.1 gcl (mE u (nI 0) dy sm) H := hP.sub [0, 1, 2, 3] rfl
    have hE := hE0.run hS (fun z h1 h => h.elim (fun h9 => mA_b0 hE0 h9) (fun h9 => absurd h1 (Nat.not_lt.mpr h9)))
    have hb1 : b0 ≤ u.2.1 3 := hE0.1.2 3 (by omega)
    have hvh : ¬ q = u.2.1 3 := fun e9 => absurd (hD.1 4 3 _ _ rfl rfl e9) (by omega)
    have hAny : va_Any "java/lang/Object" S_ H q := by
      obtain ⟨kA, comp9, hkA, _, _, hcA⟩ := (hK.2 0 _ rfl).2
      rw [show "[" ++ (FieldType.object RX4).toString = "[LGlossaryCrownModel$Text;" by decide +kernel] at hcA
      obtain ⟨c3, c4, hc3, hc4, hasg⟩ := Cond.castable_spec (va_Nw.use (A := #[]) rfl hE.2.2.2.2.2.2)
      refine ⟨_, hP 4 _ rfl, rfl, ⟨kA, hkA⟩, fun comp hc => ?_⟩
      cases Option.some.inj (hc3.symm.trans hcA)
      cases Option.some.inj (hc4.symm.trans hc)
      exact hasg
    refine lv_aload_n hx hb dX5_document_51 rfl (lv_at hl 2 rfl) ?_
    refine va_get (v := .ref (u.2.1 3)) hx hb hts gin3 hown hK1 hPm 0 rfl rfl 3 (by decide) (hts _ gm_425) (fun _ z => z) rfl dX5_document_52 ?_
    refine lv_aload_n hx hb dX5_document_55 rfl (lv_at hl 1 rfl) ?_
    have hPl := va_P1 hPm (mE_at (u := u) (j := 3) ⟨by decide, by decide⟩)
    refine mAd_back (va_runV (C := RJx4a65c) (As := [.ref (q)]) (rest := []) G.1 (c_Jx4a65c_add_9ea2d l u.1 (u.2.1 3) u.2.2 (q) H.size hvh) ⟨g_cb hts ok_Jx4a65c_add_9ea2d gm_493 rfl rfl ⟨Nat.le_of_ble_eq_true rfl, Nat.le_of_ble_eq_true rfl⟩, hts _ gm_494, hts _ gm_495⟩ ⟨fun a U g mk z => ⟨z.1, z.2.1, va_K.moved (u := U) (U := U.calling g mk a) (Vm.Alike.refl U.vm) z.2.2.1, z.2.2.2.1, z.2.2.2.2.1.same (U := U.calling g mk a) rfl, z.2.2.2.2.2.same (U := U.calling g mk a) rfl⟩, va_recv (q0 := 0) hK1 hPl (ci := 4) rfl rfl, fun U hU hW9 => ⟨rfl, by rw [hU], va_K.moved hW9.alike hK1, by rw [hU]; exact hPl, by rw [hU]; exact (hE.em hb1).moved hW9, by rw [hU]; exact hAny.moved hW9⟩⟩ rfl rfl hl.1 rfl (lv_room (Nat.le_of_ble_eq_true rfl)) dX5_document_56 ⟨Nat.le_of_ble_eq_true rfl, Nat.le_of_ble_eq_true rfl⟩) (fun q H1 L hP1 hz hk1 hL => ?_)
    have hPo : va_P u.1 gcl [(u.2.1 0, .inr (3, [.int (nI 0), .ref (u.2.1 1), .ref (u.2.1 2), .ref (u.2.1 3), .int dy, .long sm]))] H1 := (va_P1 hPm (k := 0) rfl).kept (fun k9 x hx9 => by
      have hk9 : k9 < 1 := (List.getElem?_eq_some_iff.mp hx9).1
      rw [show k9 = 0 by omega] at hx9
      cases hx9
      exact hk1 _ ((hPm 0 _ rfl).lt) (mE_ne hDm ⟨by decide, by decide⟩))
    refine lv_pop hx hb dX5_document_59 rfl ?_
    refine lv_aload_n hx hb dX5_document_60 rfl (lv_at hl 2 rfl) ?_
    refine va_get (v := .ref (u.2.1 3)) hx hb hts gin3 hown hK1 hPo 0 rfl rfl 3 (by decide) (hts _ gm_425) (fun _ z => z) rfl dX5_document_61 ?_
    refine b_callV (v := .int 1) (As := []) G.1 ⟨fun a U g mk z => ⟨z.1, va_K.moved (u := U) (U := U.calling g mk a) (Vm.Alike.refl U.vm) z.2.1, z.2.2⟩, va_recv (q0 := 0) hK1 hP1 (ci := 4) rfl rfl, fun U hU hW9 => ⟨rfl, va_K.moved hW9.alike hK1, by rw [hU]; exact hP1⟩⟩ ok_Jx4a65c_size_8abf5 gm_431 gm_432 gm_430 (c_Jx4a65c_size_8abf5 l u.1 (u.2.1 3) q 1) ⟨rfl, rfl⟩ ⟨Nat.le_of_ble_eq_true rfl, Nat.le_of_ble_eq_true rfl⟩ rfl hl.1 rfl (Nat.le_of_ble_eq_true rfl) ⟨Nat.le_of_ble_eq_true rfl, Nat.le_of_ble_eq_true rfl⟩ dX5_document_64 ?_
    refine lv_iconst (v := nI 1) hx hb dX5_document_67 (by decide) ?_
    refine lv_isub hx hb dX5_document_68 ?_
    refine W.eq (g2 := F0 M_ _ ls [.int (nI 0)]) (by rw [show (1 : Int32) - nI 1 = nI 0 from by decide]; rfl) ?_
    exact W.widen (by decide) (by decide) (W.iret G.1.1 G.1.2.1 G.2.1 (fun t ht hW => ⟨rfl, ⟨_, by rw [ht]; exact hPo⟩, by rw [ht]; exact Nat.le_trans hS.1 hz, fun z h1 h2 => by rw [ht, hk1 z (Nat.lt_of_lt_of_le h1 hS.1) (fun h3 => h2 ⟨3, by decide, h3⟩)]; exact hS.2.1 z h1 (fun h3 => h3.elim h2 (fun h4 => absurd h1 (Nat.not_lt.mpr h4)))⟩) (fun z hz9 => by rcases List.mem_append.mp hz9 with h9 | h9; exact hS.2.2 z h9; rcases hL z h9 with h8 | h8; exact Or.inl ⟨3, by decide, h8⟩; exact Or.inr (Nat.le_trans hS.1 h8)) dX5_document_69 G.2.2)
  · skip
    have c14 : 0 = 6 := (g_eq (by omega) (by omega)).mp c14
    omega
