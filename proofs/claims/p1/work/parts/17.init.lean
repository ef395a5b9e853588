/-! The constructors. -/
def f0 : CS := fun _ _ => 0
def gL (w : GP) (f : CS) (js : List Nat) : va_W := js.map (fun j => (w.2.2.2 j, gE w f j))
def js0 : List Nat := [1, 3, 4, 5, 6, 7, 8, 9, 10, 11, 12, 13, 14, 15]
def js1 : List Nat := [2, 16, 17, 18, 19, 20, 21, 22, 23, 24, 25, 26, 27, 28, 29, 30, 31, 32, 33, 34, 35, 36, 37, 38, 39, 40, 41, 42, 43, 44, 45, 46, 47, 48, 49, 50, 51, 52, 53, 54, 55]
theorem va_AOA.moved {ty : FieldType} {u U : State} (hvm : u.vm.Alike U.vm) (h : va_AOA ty u) : va_AOA ty U := by
  obtain ⟨comp, c, k, h1, h2, h3, h4, h5⟩ : ∃ comp c k, u.vm.findClass (FieldType.array ty).toString = some comp ∧ (u.vm.classes.findIdx? fun (x : Class) => match x.kind with | .array component _ => component == comp | _ => false) = some c ∧ u.vm.classes[c]? = some k ∧ k.kind = .array comp (.array ty) ∧ u.vm.findClass ("[" ++ (FieldType.array ty).toString) = some c := by
    have h := h
    simp only [va_AOA, Cond.before, Cond.holds, Cond.value, beq_iff_eq] at h
    cases hc : u.vm.findClass (FieldType.array ty).toString with
    | none => simp [hc] at h
    | some comp =>
      simp only [hc, Option.bind_some, Option.bind_eq_some_iff, Option.map_eq_some_iff] at h
      obtain ⟨c, hf, k, hk, hm⟩ := h
      have hf2 := hf
      rw [Array.findIdx?_eq_some_iff_getElem] at hf2
      obtain ⟨hlt, hp, -⟩ := hf2
      have hkc : u.vm.classes[c] = k := by have := Array.getElem?_eq_getElem hlt; rw [this] at hk; exact Option.some.inj hk
      rw [hkc] at hp
      cases hkk : k.kind with
      | array component t9 =>
        rw [hkk] at hp hm
        simp at hp hm
        obtain ⟨rfl, h9⟩ := hm
        subst hp
        exact ⟨component, c, k, rfl, hf, hk, hkk, h9⟩
      | _ => rw [hkk] at hp; simp at hp
  obtain ⟨k', hk', he⟩ := hvm.2.2 _ _ h3
  have hi : (U.vm.classes.findIdx? fun (x : Class) => match x.kind with | .array component _ => component == comp | _ => false) = some c := by
    have g1 := va_idx_bare U.vm comp
    have g2 := va_idx_bare u.vm comp
    have g3 : U.vm.bare = u.vm.bare := by first | exact hvm.bare_eq | exact hvm.bare_eq.symm
    rw [g3] at g1
    exact (g1.symm.trans g2).trans h2
  have hkind : k'.kind = .array comp (.array ty) := by rw [he]; exact h4
  have f1 := h1
  rw [← hvm.findClass] at f1
  have f2 := h5
  rw [← hvm.findClass] at f2
  unfold va_AOA Cond.before Cond.holds
  simp only [Cond.value]
  rw [f1, Option.bind_some]
  refine (congrArg (fun o : Option Nat => (o.bind (fun c => (U.vm.classes[c]?).map fun (k : Class) => match k.kind with | .array _ t9 => decide (t9 = FieldType.array ty) && decide (U.vm.findClass ("[" ++ (FieldType.array ty).toString) = some c) | _ => false) == some true)) hi).trans ?_
  simp [hk', hkind, f2]
theorem va_AOA.warm {ty : FieldType} {s U : State} (hW : s.WarmedH U.vm) (h : va_AOA ty s) : va_AOA ty U := h.moved hW.alike
theorem va_AOA.same {ty : FieldType} {u U : State} (h : u.vm = U.vm) (hZ : va_AOA ty u) : va_AOA ty U := hZ.moved (by rw [h]; exact Vm.Alike.refl U.vm)
abbrev oX0 : List Value := [.int 0, .int 0, .null, .null, .null, .null, .null, .null, .null, .null, .null, .null]
abbrev oX1 : List Value := [.null, .int 0, .null, .null, .null, .null]
set_option maxHeartbeats 4000000 in
set_option maxRecDepth 100000 in
theorem c_X0_init (l : Launch) (D : va_G) (h sz : Nat) : Met l yX0_init (gws yX0_init cX0_init 1 none) ({ frames := 1, cells := 13, slots := 267, locals := 12 }) (va_Pc [.ref h] (fun U => U.heap.size = sz ∧ va_P D gcl [(h, .inr (0, oX0))] U.heap ∧ va_K D gcl [] U ∧ va_D (fun _ => True) [(h, .inr (0, oX0))] ∧ va_AOA .int U)) (va_Qv (fun w : GP => w.1 = D ∧ w.2.2.2 1 = h) (fun w t => va_P w.1 gcl (gL w f0 js0) t.heap ∧ va_K w.1 gcl [(w.2.1, .int), (w.2.2.1, .array .int)] t ∧ va_D (va_A [(h, .inr (0, oX0))] sz) (gL w f0 js0)) (va_A [(h, .inr (0, oX0))] sz)) 13 267 (va_A [(h, .inr (0, oX0))] sz) := by
  refine Met.ofW (cc := cX0_init) (maxL := 1) (ret := none) (by decide) rfl ?_
  intro p e s m args below meth c s₁ B hml hv
  obtain ⟨rfl, hsz, hP, hK, hD0, hover⟩ := hv
  have hx := B.exec
  have hb := B.bytes
  have hr := B.returns
  have hts : ∀ v ∈ gw, v.before _ s = true := fun v hv => atoms_spec (ws := gws yX0_init cX0_init 1 none) B.pre v (List.mem_cons_of_mem _ hv)
  have hown : s.vm.findClass RX0 = some m.cls := findClass_of_methodNamed B.named
  have hlocks := B.notSynchronized
  have hin : meth.name = "<init>" := (name_of_methodNamed B.named B.method).1
  subst hsz
  have hD := hD0.self (sz := s.heap.size)
  generalize hAe : va_A [(h, .inr (0, oX0))] s.heap.size = A at hD ⊢
  have hA : ∀ q : Nat, s.heap.size ≤ q → A q := fun q h => by rw [← hAe]; exact Or.inr h
  have hS : va_S A s.heap s.heap [] := va_S.rf
  have hP : va_P D gcl [(h, .inr (0, oX0))] s.heap := hP
  have hl := lv_entry ([.ref h]) (n := 1) (Nat.le_of_ble_eq_true rfl)
  rw [lg_entry_eq]
  generalize (lg_sl ([.ref h]) ++ List.replicate (1 - (lg_sl ([.ref h])).length) Slot.unset).toArray = ls at hl ⊢
  have hl : lv_has ls 1 [(0, .ref h)] := hl
  refine lv_aload_n hx hb dX0_init_0 rfl (lv_at hl 0 rfl) ?_
  refine W.objInit hx hb hown (hts _ gm_0) (hts _ gm_1) (hts _ gm_2) rfl (by rw [hml]; exact hl.1) rfl dX0_init_1 (Nat.le_of_ble_eq_true rfl) (Nat.le_of_ble_eq_true rfl) ?_
  refine W.eq (g2 := F0 m 4 ls []) rfl ?_
  have hP : va_P D gcl ([(h, .inr (0, [.int 0, .int 0, .null, .null, .null, .null, .null, .null, .null, .null, .null, .null]))]) s.heap := hP
  refine lv_aload_n hx hb dX0_init_4 rfl (lv_at hl 0 rfl) ?_
  refine lv_iconst (v := 0) hx hb dX0_init_5 (by decide) ?_
  refine va_put (D := D) (ci := 0) (v := .int 0) (ty := .int) (C := RX0) (T := TX0) (N := 12) hx hb hts gin0 tyX0 tyX0_ok nmX0 hown hK hP hD hS 0 rfl rfl 0 (by decide) (hts _ gm_3) (fun _ h9 => h9) rfl (by decide +kernel) rfl rfl (Nat.le_of_ble_eq_true rfl) dX0_init_6 (fun H locs hP hD hS => ?_)
  have hP : va_P D gcl ([(h, .inr (0, [.int 0, .int 0, .null, .null, .null, .null, .null, .null, .null, .null, .null, .null]))]) H := hP
  have hD : va_D A ([(h, .inr (0, [.int 0, .int 0, .null, .null, .null, .null, .null, .null, .null, .null, .null, .null]))]) := hD
  refine lv_aload_n hx hb dX0_init_9 rfl (lv_at hl 0 rfl) ?_
  refine lv_iconst (v := 0) hx hb dX0_init_10 (by decide) ?_
  refine va_put (D := D) (ci := 0) (v := .int 0) (ty := .int) (C := RX0) (T := TX0) (N := 12) hx hb hts gin0 tyX0 tyX0_ok nmX0 hown hK hP hD hS 0 rfl rfl 1 (by decide) (hts _ gm_4) (fun _ h9 => h9) rfl (by decide +kernel) rfl rfl (Nat.le_of_ble_eq_true rfl) dX0_init_11 (fun H locs hP hD hS => ?_)
  have hP : va_P D gcl ([(h, .inr (0, [.int 0, .int 0, .null, .null, .null, .null, .null, .null, .null, .null, .null, .null]))]) H := hP
  have hD : va_D A ([(h, .inr (0, [.int 0, .int 0, .null, .null, .null, .null, .null, .null, .null, .null, .null, .null]))]) := hD
  refine lv_aload_n hx hb dX0_init_14 rfl (lv_at hl 0 rfl) ?_
  refine lv_bipush (v := nI 12) hx hb dX0_init_15 (by decide) ?_
  refine va_newa (atype := .int) (a0 := (12, .inl (fun _ => 0))) hx hb (hts _ gm_5) rfl hK hP hD hS hA (fun _ => rfl) (by decide) (by decide) (by decide) (Nat.le_of_ble_eq_true rfl) (Nat.le_of_ble_eq_true rfl) dX0_init_17 (fun a3 cA H hK hP hD hS => ?_)
  obtain ⟨cI, rfl⟩ : ∃ c9, c9 = cA := ⟨_, rfl⟩
  have hK : va_K D gcl [(cI, .int)] s := hK
  have hP : va_P D gcl ([(h, .inr (0, [.int 0, .int 0, .null, .null, .null, .null, .null, .null, .null, .null, .null, .null])), (a3, .inl (cI, 12, .inl (fun _ => 0)))]) H := hP
  have hD : va_D A ([(h, .inr (0, [.int 0, .int 0, .null, .null, .null, .null, .null, .null, .null, .null, .null, .null])), (a3, .inl (cI, 12, .inl (fun _ => 0)))]) := hD
  refine W.widen (k := 1) (n := 12) (by omega) (by omega) ?_
  refine va_putF (D := D) (ci := 0) (v := .ref a3) (ty := .array .int) (C := RX0) (T := TX0) (N := 12) hx hb hts gin0 tyX0 tyX0_ok nmX0 hown hK hP hD hS 0 rfl rfl 2 (by decide) (hts _ gm_6) (fun _ h9 => h9) rfl hin rfl (by decide +kernel) rfl rfl (Nat.le_of_ble_eq_true rfl) dX0_init_19 (fun H locs hP hD hS => ?_)
  have hP : va_P D gcl ([(h, .inr (0, [.int 0, .int 0, .ref a3, .null, .null, .null, .null, .null, .null, .null, .null, .null])), (a3, .inl (cI, 12, .inl (fun _ => 0)))]) H := hP
  have hD : va_D A ([(h, .inr (0, [.int 0, .int 0, .ref a3, .null, .null, .null, .null, .null, .null, .null, .null, .null])), (a3, .inl (cI, 12, .inl (fun _ => 0)))]) := hD
  refine lv_aload_n hx hb dX0_init_22 rfl (lv_at hl 0 rfl) ?_
  refine lv_bipush (v := nI 24) hx hb dX0_init_23 (by decide) ?_
  refine va_newa (atype := .int) (a0 := (24, .inl (fun _ => 0))) hx hb (hts _ gm_5) rfl hK hP hD hS hA (fun _ => rfl) (by decide) (by decide) (by decide) (Nat.le_of_ble_eq_true rfl) (Nat.le_of_ble_eq_true rfl) dX0_init_25 (fun a4 cA H hK hP hD hS => ?_)
  have ec : cA = cI := Option.some.inj ((show s.vm.findClass _ = some cA from (hK.2 1 _ rfl).2).symm.trans (show s.vm.findClass _ = some cI from (hK.2 0 _ rfl).2))
  subst ec
  have hK : va_K D gcl [(cA, .int)] s := hK.sub [0] rfl
  obtain ⟨cI, rfl⟩ : ∃ c9, c9 = cA := ⟨_, rfl⟩
  have hP : va_P D gcl ([(h, .inr (0, [.int 0, .int 0, .ref a3, .null, .null, .null, .null, .null, .null, .null, .null, .null])), (a3, .inl (cI, 12, .inl (fun _ => 0))), (a4, .inl (cI, 24, .inl (fun _ => 0)))]) H := hP
  have hD : va_D A ([(h, .inr (0, [.int 0, .int 0, .ref a3, .null, .null, .null, .null, .null, .null, .null, .null, .null])), (a3, .inl (cI, 12, .inl (fun _ => 0))), (a4, .inl (cI, 24, .inl (fun _ => 0)))]) := hD
  refine W.widen (k := 2) (n := 36) (by omega) (by omega) ?_
  refine va_putF (D := D) (ci := 0) (v := .ref a4) (ty := .array .int) (C := RX0) (T := TX0) (N := 12) hx hb hts gin0 tyX0 tyX0_ok nmX0 hown hK hP hD hS 0 rfl rfl 3 (by decide) (hts _ gm_7) (fun _ h9 => h9) rfl hin rfl (by decide +kernel) rfl rfl (Nat.le_of_ble_eq_true rfl) dX0_init_27 (fun H locs hP hD hS => ?_)
  have hP : va_P D gcl ([(h, .inr (0, [.int 0, .int 0, .ref a3, .ref a4, .null, .null, .null, .null, .null, .null, .null, .null])), (a3, .inl (cI, 12, .inl (fun _ => 0))), (a4, .inl (cI, 24, .inl (fun _ => 0)))]) H := hP
  have hD : va_D A ([(h, .inr (0, [.int 0, .int 0, .ref a3, .ref a4, .null, .null, .null, .null, .null, .null, .null, .null])), (a3, .inl (cI, 12, .inl (fun _ => 0))), (a4, .inl (cI, 24, .inl (fun _ => 0)))]) := hD
  refine lv_aload_n hx hb dX0_init_30 rfl (lv_at hl 0 rfl) ?_
  refine lv_bipush (v := nI 24) hx hb dX0_init_31 (by decide) ?_
  refine va_newa (atype := .int) (a0 := (24, .inl (fun _ => 0))) hx hb (hts _ gm_5) rfl hK hP hD hS hA (fun _ => rfl) (by decide) (by decide) (by decide) (Nat.le_of_ble_eq_true rfl) (Nat.le_of_ble_eq_true rfl) dX0_init_33 (fun a5 cA H hK hP hD hS => ?_)
  have ec : cA = cI := Option.some.inj ((show s.vm.findClass _ = some cA from (hK.2 1 _ rfl).2).symm.trans (show s.vm.findClass _ = some cI from (hK.2 0 _ rfl).2))
  subst ec
  have hK : va_K D gcl [(cA, .int)] s := hK.sub [0] rfl
  obtain ⟨cI, rfl⟩ : ∃ c9, c9 = cA := ⟨_, rfl⟩
  have hP : va_P D gcl ([(h, .inr (0, [.int 0, .int 0, .ref a3, .ref a4, .null, .null, .null, .null, .null, .null, .null, .null])), (a3, .inl (cI, 12, .inl (fun _ => 0))), (a4, .inl (cI, 24, .inl (fun _ => 0))), (a5, .inl (cI, 24, .inl (fun _ => 0)))]) H := hP
  have hD : va_D A ([(h, .inr (0, [.int 0, .int 0, .ref a3, .ref a4, .null, .null, .null, .null, .null, .null, .null, .null])), (a3, .inl (cI, 12, .inl (fun _ => 0))), (a4, .inl (cI, 24, .inl (fun _ => 0))), (a5, .inl (cI, 24, .inl (fun _ => 0)))]) := hD
  refine W.widen (k := 3) (n := 60) (by omega) (by omega) ?_
  refine va_putF (D := D) (ci := 0) (v := .ref a5) (ty := .array .int) (C := RX0) (T := TX0) (N := 12) hx hb hts gin0 tyX0 tyX0_ok nmX0 hown hK hP hD hS 0 rfl rfl 4 (by decide) (hts _ gm_8) (fun _ h9 => h9) rfl hin rfl (by decide +kernel) rfl rfl (Nat.le_of_ble_eq_true rfl) dX0_init_35 (fun H locs hP hD hS => ?_)
  have hP : va_P D gcl ([(h, .inr (0, [.int 0, .int 0, .ref a3, .ref a4, .ref a5, .null, .null, .null, .null, .null, .null, .null])), (a3, .inl (cI, 12, .inl (fun _ => 0))), (a4, .inl (cI, 24, .inl (fun _ => 0))), (a5, .inl (cI, 24, .inl (fun _ => 0)))]) H := hP
  have hD : va_D A ([(h, .inr (0, [.int 0, .int 0, .ref a3, .ref a4, .ref a5, .null, .null, .null, .null, .null, .null, .null])), (a3, .inl (cI, 12, .inl (fun _ => 0))), (a4, .inl (cI, 24, .inl (fun _ => 0))), (a5, .inl (cI, 24, .inl (fun _ => 0)))]) := hD
  refine lv_aload_n hx hb dX0_init_38 rfl (lv_at hl 0 rfl) ?_
  refine lv_bipush (v := nI 24) hx hb dX0_init_39 (by decide) ?_
  refine va_newa (atype := .int) (a0 := (24, .inl (fun _ => 0))) hx hb (hts _ gm_5) rfl hK hP hD hS hA (fun _ => rfl) (by decide) (by decide) (by decide) (Nat.le_of_ble_eq_true rfl) (Nat.le_of_ble_eq_true rfl) dX0_init_41 (fun a6 cA H hK hP hD hS => ?_)
  have ec : cA = cI := Option.some.inj ((show s.vm.findClass _ = some cA from (hK.2 1 _ rfl).2).symm.trans (show s.vm.findClass _ = some cI from (hK.2 0 _ rfl).2))
  subst ec
  have hK : va_K D gcl [(cA, .int)] s := hK.sub [0] rfl
  obtain ⟨cI, rfl⟩ : ∃ c9, c9 = cA := ⟨_, rfl⟩
  have hP : va_P D gcl ([(h, .inr (0, [.int 0, .int 0, .ref a3, .ref a4, .ref a5, .null, .null, .null, .null, .null, .null, .null])), (a3, .inl (cI, 12, .inl (fun _ => 0))), (a4, .inl (cI, 24, .inl (fun _ => 0))), (a5, .inl (cI, 24, .inl (fun _ => 0))), (a6, .inl (cI, 24, .inl (fun _ => 0)))]) H := hP
  have hD : va_D A ([(h, .inr (0, [.int 0, .int 0, .ref a3, .ref a4, .ref a5, .null, .null, .null, .null, .null, .null, .null])), (a3, .inl (cI, 12, .inl (fun _ => 0))), (a4, .inl (cI, 24, .inl (fun _ => 0))), (a5, .inl (cI, 24, .inl (fun _ => 0))), (a6, .inl (cI, 24, .inl (fun _ => 0)))]) := hD
  refine W.widen (k := 4) (n := 84) (by omega) (by omega) ?_
  refine va_putF (D := D) (ci := 0) (v := .ref a6) (ty := .array .int) (C := RX0) (T := TX0) (N := 12) hx hb hts gin0 tyX0 tyX0_ok nmX0 hown hK hP hD hS 0 rfl rfl 5 (by decide) (hts _ gm_9) (fun _ h9 => h9) rfl hin rfl (by decide +kernel) rfl rfl (Nat.le_of_ble_eq_true rfl) dX0_init_43 (fun H locs hP hD hS => ?_)
  have hP : va_P D gcl ([(h, .inr (0, [.int 0, .int 0, .ref a3, .ref a4, .ref a5, .ref a6, .null, .null, .null, .null, .null, .null])), (a3, .inl (cI, 12, .inl (fun _ => 0))), (a4, .inl (cI, 24, .inl (fun _ => 0))), (a5, .inl (cI, 24, .inl (fun _ => 0))), (a6, .inl (cI, 24, .inl (fun _ => 0)))]) H := hP
  have hD : va_D A ([(h, .inr (0, [.int 0, .int 0, .ref a3, .ref a4, .ref a5, .ref a6, .null, .null, .null, .null, .null, .null])), (a3, .inl (cI, 12, .inl (fun _ => 0))), (a4, .inl (cI, 24, .inl (fun _ => 0))), (a5, .inl (cI, 24, .inl (fun _ => 0))), (a6, .inl (cI, 24, .inl (fun _ => 0)))]) := hD
  refine lv_aload_n hx hb dX0_init_46 rfl (lv_at hl 0 rfl) ?_
  refine lv_bipush (v := nI 24) hx hb dX0_init_47 (by decide) ?_
  refine va_newa (atype := .int) (a0 := (24, .inl (fun _ => 0))) hx hb (hts _ gm_5) rfl hK hP hD hS hA (fun _ => rfl) (by decide) (by decide) (by decide) (Nat.le_of_ble_eq_true rfl) (Nat.le_of_ble_eq_true rfl) dX0_init_49 (fun a7 cA H hK hP hD hS => ?_)
  have ec : cA = cI := Option.some.inj ((show s.vm.findClass _ = some cA from (hK.2 1 _ rfl).2).symm.trans (show s.vm.findClass _ = some cI from (hK.2 0 _ rfl).2))
  subst ec
  have hK : va_K D gcl [(cA, .int)] s := hK.sub [0] rfl
  obtain ⟨cI, rfl⟩ : ∃ c9, c9 = cA := ⟨_, rfl⟩
  have hP : va_P D gcl ([(h, .inr (0, [.int 0, .int 0, .ref a3, .ref a4, .ref a5, .ref a6, .null, .null, .null, .null, .null, .null])), (a3, .inl (cI, 12, .inl (fun _ => 0))), (a4, .inl (cI, 24, .inl (fun _ => 0))), (a5, .inl (cI, 24, .inl (fun _ => 0))), (a6, .inl (cI, 24, .inl (fun _ => 0))), (a7, .inl (cI, 24, .inl (fun _ => 0)))]) H := hP
  have hD : va_D A ([(h, .inr (0, [.int 0, .int 0, .ref a3, .ref a4, .ref a5, .ref a6, .null, .null, .null, .null, .null, .null])), (a3, .inl (cI, 12, .inl (fun _ => 0))), (a4, .inl (cI, 24, .inl (fun _ => 0))), (a5, .inl (cI, 24, .inl (fun _ => 0))), (a6, .inl (cI, 24, .inl (fun _ => 0))), (a7, .inl (cI, 24, .inl (fun _ => 0)))]) := hD
  refine W.widen (k := 5) (n := 108) (by omega) (by omega) ?_
  refine va_putF (D := D) (ci := 0) (v := .ref a7) (ty := .array .int) (C := RX0) (T := TX0) (N := 12) hx hb hts gin0 tyX0 tyX0_ok nmX0 hown hK hP hD hS 0 rfl rfl 6 (by decide) (hts _ gm_10) (fun _ h9 => h9) rfl hin rfl (by decide +kernel) rfl rfl (Nat.le_of_ble_eq_true rfl) dX0_init_51 (fun H locs hP hD hS => ?_)
  have hP : va_P D gcl ([(h, .inr (0, [.int 0, .int 0, .ref a3, .ref a4, .ref a5, .ref a6, .ref a7, .null, .null, .null, .null, .null])), (a3, .inl (cI, 12, .inl (fun _ => 0))), (a4, .inl (cI, 24, .inl (fun _ => 0))), (a5, .inl (cI, 24, .inl (fun _ => 0))), (a6, .inl (cI, 24, .inl (fun _ => 0))), (a7, .inl (cI, 24, .inl (fun _ => 0)))]) H := hP
  have hD : va_D A ([(h, .inr (0, [.int 0, .int 0, .ref a3, .ref a4, .ref a5, .ref a6, .ref a7, .null, .null, .null, .null, .null])), (a3, .inl (cI, 12, .inl (fun _ => 0))), (a4, .inl (cI, 24, .inl (fun _ => 0))), (a5, .inl (cI, 24, .inl (fun _ => 0))), (a6, .inl (cI, 24, .inl (fun _ => 0))), (a7, .inl (cI, 24, .inl (fun _ => 0)))]) := hD
  refine lv_aload_n hx hb dX0_init_54 rfl (lv_at hl 0 rfl) ?_
  refine lv_bipush (v := nI 24) hx hb dX0_init_55 (by decide) ?_
  refine va_newa (atype := .int) (a0 := (24, .inl (fun _ => 0))) hx hb (hts _ gm_5) rfl hK hP hD hS hA (fun _ => rfl) (by decide) (by decide) (by decide) (Nat.le_of_ble_eq_true rfl) (Nat.le_of_ble_eq_true rfl) dX0_init_57 (fun a8 cA H hK hP hD hS => ?_)
  have ec : cA = cI := Option.some.inj ((show s.vm.findClass _ = some cA from (hK.2 1 _ rfl).2).symm.trans (show s.vm.findClass _ = some cI from (hK.2 0 _ rfl).2))
  subst ec
  have hK : va_K D gcl [(cA, .int)] s := hK.sub [0] rfl
  obtain ⟨cI, rfl⟩ : ∃ c9, c9 = cA := ⟨_, rfl⟩
  have hP : va_P D gcl ([(h, .inr (0, [.int 0, .int 0, .ref a3, .ref a4, .ref a5, .ref a6, .ref a7, .null, .null, .null, .null, .null])), (a3, .inl (cI, 12, .inl (fun _ => 0))), (a4, .inl (cI, 24, .inl (fun _ => 0))), (a5, .inl (cI, 24, .inl (fun _ => 0))), (a6, .inl (cI, 24, .inl (fun _ => 0))), (a7, .inl (cI, 24, .inl (fun _ => 0))), (a8, .inl (cI, 24, .inl (fun _ => 0)))]) H := hP
  have hD : va_D A ([(h, .inr (0, [.int 0, .int 0, .ref a3, .ref a4, .ref a5, .ref a6, .ref a7, .null, .null, .null, .null, .null])), (a3, .inl (cI, 12, .inl (fun _ => 0))), (a4, .inl (cI, 24, .inl (fun _ => 0))), (a5, .inl (cI, 24, .inl (fun _ => 0))), (a6, .inl (cI, 24, .inl (fun _ => 0))), (a7, .inl (cI, 24, .inl (fun _ => 0))), (a8, .inl (cI, 24, .inl (fun _ => 0)))]) := hD
  refine W.widen (k := 6) (n := 132) (by omega) (by omega) ?_
  refine va_putF (D := D) (ci := 0) (v := .ref a8) (ty := .array .int) (C := RX0) (T := TX0) (N := 12) hx hb hts gin0 tyX0 tyX0_ok nmX0 hown hK hP hD hS 0 rfl rfl 7 (by decide) (hts _ gm_11) (fun _ h9 => h9) rfl hin rfl (by decide +kernel) rfl rfl (Nat.le_of_ble_eq_true rfl) dX0_init_59 (fun H locs hP hD hS => ?_)
  have hP : va_P D gcl ([(h, .inr (0, [.int 0, .int 0, .ref a3, .ref a4, .ref a5, .ref a6, .ref a7, .ref a8, .null, .null, .null, .null])), (a3, .inl (cI, 12, .inl (fun _ => 0))), (a4, .inl (cI, 24, .inl (fun _ => 0))), (a5, .inl (cI, 24, .inl (fun _ => 0))), (a6, .inl (cI, 24, .inl (fun _ => 0))), (a7, .inl (cI, 24, .inl (fun _ => 0))), (a8, .inl (cI, 24, .inl (fun _ => 0)))]) H := hP
  have hD : va_D A ([(h, .inr (0, [.int 0, .int 0, .ref a3, .ref a4, .ref a5, .ref a6, .ref a7, .ref a8, .null, .null, .null, .null])), (a3, .inl (cI, 12, .inl (fun _ => 0))), (a4, .inl (cI, 24, .inl (fun _ => 0))), (a5, .inl (cI, 24, .inl (fun _ => 0))), (a6, .inl (cI, 24, .inl (fun _ => 0))), (a7, .inl (cI, 24, .inl (fun _ => 0))), (a8, .inl (cI, 24, .inl (fun _ => 0)))]) := hD
  refine lv_aload_n hx hb dX0_init_62 rfl (lv_at hl 0 rfl) ?_
  refine lv_bipush (v := nI 24) hx hb dX0_init_63 (by decide) ?_
  refine va_newa (atype := .int) (a0 := (24, .inl (fun _ => 0))) hx hb (hts _ gm_5) rfl hK hP hD hS hA (fun _ => rfl) (by decide) (by decide) (by decide) (Nat.le_of_ble_eq_true rfl) (Nat.le_of_ble_eq_true rfl) dX0_init_65 (fun a9 cA H hK hP hD hS => ?_)
  have ec : cA = cI := Option.some.inj ((show s.vm.findClass _ = some cA from (hK.2 1 _ rfl).2).symm.trans (show s.vm.findClass _ = some cI from (hK.2 0 _ rfl).2))
  subst ec
  have hK : va_K D gcl [(cA, .int)] s := hK.sub [0] rfl
  obtain ⟨cI, rfl⟩ : ∃ c9, c9 = cA := ⟨_, rfl⟩
  have hP : va_P D gcl ([(h, .inr (0, [.int 0, .int 0, .ref a3, .ref a4, .ref a5, .ref a6, .ref a7, .ref a8, .null, .null, .null, .null])), (a3, .inl (cI, 12, .inl (fun _ => 0))), (a4, .inl (cI, 24, .inl (fun _ => 0))), (a5, .inl (cI, 24, .inl (fun _ => 0))), (a6, .inl (cI, 24, .inl (fun _ => 0))), (a7, .inl (cI, 24, .inl (fun _ => 0))), (a8, .inl (cI, 24, .inl (fun _ => 0))), (a9, .inl (cI, 24, .inl (fun _ => 0)))]) H := hP
  have hD : va_D A ([(h, .inr (0, [.int 0, .int 0, .ref a3, .ref a4, .ref a5, .ref a6, .ref a7, .ref a8, .null, .null, .null, .null])), (a3, .inl (cI, 12, .inl (fun _ => 0))), (a4, .inl (cI, 24, .inl (fun _ => 0))), (a5, .inl (cI, 24, .inl (fun _ => 0))), (a6, .inl (cI, 24, .inl (fun _ => 0))), (a7, .inl (cI, 24, .inl (fun _ => 0))), (a8, .inl (cI, 24, .inl (fun _ => 0))), (a9, .inl (cI, 24, .inl (fun _ => 0)))]) := hD
  refine W.widen (k := 7) (n := 156) (by omega) (by omega) ?_
  refine va_putF (D := D) (ci := 0) (v := .ref a9) (ty := .array .int) (C := RX0) (T := TX0) (N := 12) hx hb hts gin0 tyX0 tyX0_ok nmX0 hown hK hP hD hS 0 rfl rfl 8 (by decide) (hts _ gm_12) (fun _ h9 => h9) rfl hin rfl (by decide +kernel) rfl rfl (Nat.le_of_ble_eq_true rfl) dX0_init_67 (fun H locs hP hD hS => ?_)
  have hP : va_P D gcl ([(h, .inr (0, [.int 0, .int 0, .ref a3, .ref a4, .ref a5, .ref a6, .ref a7, .ref a8, .ref a9, .null, .null, .null])), (a3, .inl (cI, 12, .inl (fun _ => 0))), (a4, .inl (cI, 24, .inl (fun _ => 0))), (a5, .inl (cI, 24, .inl (fun _ => 0))), (a6, .inl (cI, 24, .inl (fun _ => 0))), (a7, .inl (cI, 24, .inl (fun _ => 0))), (a8, .inl (cI, 24, .inl (fun _ => 0))), (a9, .inl (cI, 24, .inl (fun _ => 0)))]) H := hP
  have hD : va_D A ([(h, .inr (0, [.int 0, .int 0, .ref a3, .ref a4, .ref a5, .ref a6, .ref a7, .ref a8, .ref a9, .null, .null, .null])), (a3, .inl (cI, 12, .inl (fun _ => 0))), (a4, .inl (cI, 24, .inl (fun _ => 0))), (a5, .inl (cI, 24, .inl (fun _ => 0))), (a6, .inl (cI, 24, .inl (fun _ => 0))), (a7, .inl (cI, 24, .inl (fun _ => 0))), (a8, .inl (cI, 24, .inl (fun _ => 0))), (a9, .inl (cI, 24, .inl (fun _ => 0)))]) := hD
  refine lv_aload_n hx hb dX0_init_70 rfl (lv_at hl 0 rfl) ?_
  refine lv_bipush (v := nI 24) hx hb dX0_init_71 (by decide) ?_
  refine va_newa (atype := .int) (a0 := (24, .inl (fun _ => 0))) hx hb (hts _ gm_5) rfl hK hP hD hS hA (fun _ => rfl) (by decide) (by decide) (by decide) (Nat.le_of_ble_eq_true rfl) (Nat.le_of_ble_eq_true rfl) dX0_init_73 (fun a10 cA H hK hP hD hS => ?_)
  have ec : cA = cI := Option.some.inj ((show s.vm.findClass _ = some cA from (hK.2 1 _ rfl).2).symm.trans (show s.vm.findClass _ = some cI from (hK.2 0 _ rfl).2))
  subst ec
  have hK : va_K D gcl [(cA, .int)] s := hK.sub [0] rfl
  obtain ⟨cI, rfl⟩ : ∃ c9, c9 = cA := ⟨_, rfl⟩
  have hP : va_P D gcl ([(h, .inr (0, [.int 0, .int 0, .ref a3, .ref a4, .ref a5, .ref a6, .ref a7, .ref a8, .ref a9, .null, .null, .null])), (a3, .inl (cI, 12, .inl (fun _ => 0))), (a4, .inl (cI, 24, .inl (fun _ => 0))), (a5, .inl (cI, 24, .inl (fun _ => 0))), (a6, .inl (cI, 24, .inl (fun _ => 0))), (a7, .inl (cI, 24, .inl (fun _ => 0))), (a8, .inl (cI, 24, .inl (fun _ => 0))), (a9, .inl (cI, 24, .inl (fun _ => 0))), (a10, .inl (cI, 24, .inl (fun _ => 0)))]) H := hP
  have hD : va_D A ([(h, .inr (0, [.int 0, .int 0, .ref a3, .ref a4, .ref a5, .ref a6, .ref a7, .ref a8, .ref a9, .null, .null, .null])), (a3, .inl (cI, 12, .inl (fun _ => 0))), (a4, .inl (cI, 24, .inl (fun _ => 0))), (a5, .inl (cI, 24, .inl (fun _ => 0))), (a6, .inl (cI, 24, .inl (fun _ => 0))), (a7, .inl (cI, 24, .inl (fun _ => 0))), (a8, .inl (cI, 24, .inl (fun _ => 0))), (a9, .inl (cI, 24, .inl (fun _ => 0))), (a10, .inl (cI, 24, .inl (fun _ => 0)))]) := hD
  refine W.widen (k := 8) (n := 180) (by omega) (by omega) ?_
  refine va_putF (D := D) (ci := 0) (v := .ref a10) (ty := .array .int) (C := RX0) (T := TX0) (N := 12) hx hb hts gin0 tyX0 tyX0_ok nmX0 hown hK hP hD hS 0 rfl rfl 9 (by decide) (hts _ gm_13) (fun _ h9 => h9) rfl hin rfl (by decide +kernel) rfl rfl (Nat.le_of_ble_eq_true rfl) dX0_init_75 (fun H locs hP hD hS => ?_)
  have hP : va_P D gcl ([(h, .inr (0, [.int 0, .int 0, .ref a3, .ref a4, .ref a5, .ref a6, .ref a7, .ref a8, .ref a9, .ref a10, .null, .null])), (a3, .inl (cI, 12, .inl (fun _ => 0))), (a4, .inl (cI, 24, .inl (fun _ => 0))), (a5, .inl (cI, 24, .inl (fun _ => 0))), (a6, .inl (cI, 24, .inl (fun _ => 0))), (a7, .inl (cI, 24, .inl (fun _ => 0))), (a8, .inl (cI, 24, .inl (fun _ => 0))), (a9, .inl (cI, 24, .inl (fun _ => 0))), (a10, .inl (cI, 24, .inl (fun _ => 0)))]) H := hP
  have hD : va_D A ([(h, .inr (0, [.int 0, .int 0, .ref a3, .ref a4, .ref a5, .ref a6, .ref a7, .ref a8, .ref a9, .ref a10, .null, .null])), (a3, .inl (cI, 12, .inl (fun _ => 0))), (a4, .inl (cI, 24, .inl (fun _ => 0))), (a5, .inl (cI, 24, .inl (fun _ => 0))), (a6, .inl (cI, 24, .inl (fun _ => 0))), (a7, .inl (cI, 24, .inl (fun _ => 0))), (a8, .inl (cI, 24, .inl (fun _ => 0))), (a9, .inl (cI, 24, .inl (fun _ => 0))), (a10, .inl (cI, 24, .inl (fun _ => 0)))]) := hD
  refine lv_aload_n hx hb dX0_init_78 rfl (lv_at hl 0 rfl) ?_
  refine lv_bipush (v := nI 24) hx hb dX0_init_79 (by decide) ?_
  refine va_newa (atype := .int) (a0 := (24, .inl (fun _ => 0))) hx hb (hts _ gm_5) rfl hK hP hD hS hA (fun _ => rfl) (by decide) (by decide) (by decide) (Nat.le_of_ble_eq_true rfl) (Nat.le_of_ble_eq_true rfl) dX0_init_81 (fun a11 cA H hK hP hD hS => ?_)
  have ec : cA = cI := Option.some.inj ((show s.vm.findClass _ = some cA from (hK.2 1 _ rfl).2).symm.trans (show s.vm.findClass _ = some cI from (hK.2 0 _ rfl).2))
  subst ec
  have hK : va_K D gcl [(cA, .int)] s := hK.sub [0] rfl
  obtain ⟨cI, rfl⟩ : ∃ c9, c9 = cA := ⟨_, rfl⟩
  have hP : va_P D gcl ([(h, .inr (0, [.int 0, .int 0, .ref a3, .ref a4, .ref a5, .ref a6, .ref a7, .ref a8, .ref a9, .ref a10, .null, .null])), (a3, .inl (cI, 12, .inl (fun _ => 0))), (a4, .inl (cI, 24, .inl (fun _ => 0))), (a5, .inl (cI, 24, .inl (fun _ => 0))), (a6, .inl (cI, 24, .inl (fun _ => 0))), (a7, .inl (cI, 24, .inl (fun _ => 0))), (a8, .inl (cI, 24, .inl (fun _ => 0))), (a9, .inl (cI, 24, .inl (fun _ => 0))), (a10, .inl (cI, 24, .inl (fun _ => 0))), (a11, .inl (cI, 24, .inl (fun _ => 0)))]) H := hP
  have hD : va_D A ([(h, .inr (0, [.int 0, .int 0, .ref a3, .ref a4, .ref a5, .ref a6, .ref a7, .ref a8, .ref a9, .ref a10, .null, .null])), (a3, .inl (cI, 12, .inl (fun _ => 0))), (a4, .inl (cI, 24, .inl (fun _ => 0))), (a5, .inl (cI, 24, .inl (fun _ => 0))), (a6, .inl (cI, 24, .inl (fun _ => 0))), (a7, .inl (cI, 24, .inl (fun _ => 0))), (a8, .inl (cI, 24, .inl (fun _ => 0))), (a9, .inl (cI, 24, .inl (fun _ => 0))), (a10, .inl (cI, 24, .inl (fun _ => 0))), (a11, .inl (cI, 24, .inl (fun _ => 0)))]) := hD
  refine W.widen (k := 9) (n := 204) (by omega) (by omega) ?_
  refine va_putF (D := D) (ci := 0) (v := .ref a11) (ty := .array .int) (C := RX0) (T := TX0) (N := 12) hx hb hts gin0 tyX0 tyX0_ok nmX0 hown hK hP hD hS 0 rfl rfl 10 (by decide) (hts _ gm_14) (fun _ h9 => h9) rfl hin rfl (by decide +kernel) rfl rfl (Nat.le_of_ble_eq_true rfl) dX0_init_83 (fun H locs hP hD hS => ?_)
  have hP : va_P D gcl ([(h, .inr (0, [.int 0, .int 0, .ref a3, .ref a4, .ref a5, .ref a6, .ref a7, .ref a8, .ref a9, .ref a10, .ref a11, .null])), (a3, .inl (cI, 12, .inl (fun _ => 0))), (a4, .inl (cI, 24, .inl (fun _ => 0))), (a5, .inl (cI, 24, .inl (fun _ => 0))), (a6, .inl (cI, 24, .inl (fun _ => 0))), (a7, .inl (cI, 24, .inl (fun _ => 0))), (a8, .inl (cI, 24, .inl (fun _ => 0))), (a9, .inl (cI, 24, .inl (fun _ => 0))), (a10, .inl (cI, 24, .inl (fun _ => 0))), (a11, .inl (cI, 24, .inl (fun _ => 0)))]) H := hP
  have hD : va_D A ([(h, .inr (0, [.int 0, .int 0, .ref a3, .ref a4, .ref a5, .ref a6, .ref a7, .ref a8, .ref a9, .ref a10, .ref a11, .null])), (a3, .inl (cI, 12, .inl (fun _ => 0))), (a4, .inl (cI, 24, .inl (fun _ => 0))), (a5, .inl (cI, 24, .inl (fun _ => 0))), (a6, .inl (cI, 24, .inl (fun _ => 0))), (a7, .inl (cI, 24, .inl (fun _ => 0))), (a8, .inl (cI, 24, .inl (fun _ => 0))), (a9, .inl (cI, 24, .inl (fun _ => 0))), (a10, .inl (cI, 24, .inl (fun _ => 0))), (a11, .inl (cI, 24, .inl (fun _ => 0)))]) := hD
  refine lv_aload_n hx hb dX0_init_86 rfl (lv_at hl 0 rfl) ?_
  refine lv_iconst (v := nI 3) hx hb dX0_init_87 (by decide) ?_
  refine lv_bipush (v := nI 20) hx hb dX0_init_88 (by decide) ?_
  refine va_mna (X := [(h, .inr (0, [.int 0, .int 0, .ref a3, .ref a4, .ref a5, .ref a6, .ref a7, .ref a8, .ref a9, .ref a10, .ref a11, .null])), (a3, .inl (cI, 12, .inl (fun _ => 0))), (a4, .inl (cI, 24, .inl (fun _ => 0))), (a5, .inl (cI, 24, .inl (fun _ => 0))), (a6, .inl (cI, 24, .inl (fun _ => 0))), (a7, .inl (cI, 24, .inl (fun _ => 0))), (a8, .inl (cI, 24, .inl (fun _ => 0))), (a9, .inl (cI, 24, .inl (fun _ => 0))), (a10, .inl (cI, 24, .inl (fun _ => 0))), (a11, .inl (cI, 24, .inl (fun _ => 0)))]) (L := []) (f := fun _ => .inr (0, [])) (ty := .int) (cy := cI) (N' := 3) (K' := 20) (z := (20, .inl (fun _ => 0))) hx hb hown (by rw [show ("[" ++ (FieldType.array FieldType.int).toString) = "[[I" from by decide +kernel]; exact hts _ gm_15) hover (hts _ gm_5) (hK.2 0 _ rfl).2 hK (by simpa [va_pl] using hP) (by simpa [va_pl] using hD) hS hA (n := nI 3) (k := nI 20) (by decide) (by decide) (by decide) (by decide) (by decide) (by decide) (by decide) (by decide) (by decide) (Nat.le_of_ble_eq_true rfl) (Nat.le_of_ble_eq_true rfl) (fun _ => rfl) dX0_init_90 (fun qo r cB H hir hnr hK hP hD hS => ?_)
  rw [← vr_rows (f := fun _ => .inr (0, [])) (e := .inl (cI, (20, .inl (fun _ => 0)))) (L := []) (l := (List.range 3).map r) (fun a _ => List.not_mem_nil)] at hP hD
  have hK : va_K D gcl [(cI, .int), (cB, .array .int)] s := hK
  have hP : va_P D gcl ([(h, .inr (0, [.int 0, .int 0, .ref a3, .ref a4, .ref a5, .ref a6, .ref a7, .ref a8, .ref a9, .ref a10, .ref a11, .null])), (a3, .inl (cI, 12, .inl (fun _ => 0))), (a4, .inl (cI, 24, .inl (fun _ => 0))), (a5, .inl (cI, 24, .inl (fun _ => 0))), (a6, .inl (cI, 24, .inl (fun _ => 0))), (a7, .inl (cI, 24, .inl (fun _ => 0))), (a8, .inl (cI, 24, .inl (fun _ => 0))), (a9, .inl (cI, 24, .inl (fun _ => 0))), (a10, .inl (cI, 24, .inl (fun _ => 0))), (a11, .inl (cI, 24, .inl (fun _ => 0))), (qo, .inl (cB, 3, .inr (.inr (.inr (.inr (fun i => if i < 3 then some (r i) else none)))))), (r 0, .inl (cI, 20, .inl (fun _ => 0))), (r 1, .inl (cI, 20, .inl (fun _ => 0))), (r 2, .inl (cI, 20, .inl (fun _ => 0)))]) H := hP
  have hD : va_D A ([(h, .inr (0, [.int 0, .int 0, .ref a3, .ref a4, .ref a5, .ref a6, .ref a7, .ref a8, .ref a9, .ref a10, .ref a11, .null])), (a3, .inl (cI, 12, .inl (fun _ => 0))), (a4, .inl (cI, 24, .inl (fun _ => 0))), (a5, .inl (cI, 24, .inl (fun _ => 0))), (a6, .inl (cI, 24, .inl (fun _ => 0))), (a7, .inl (cI, 24, .inl (fun _ => 0))), (a8, .inl (cI, 24, .inl (fun _ => 0))), (a9, .inl (cI, 24, .inl (fun _ => 0))), (a10, .inl (cI, 24, .inl (fun _ => 0))), (a11, .inl (cI, 24, .inl (fun _ => 0))), (qo, .inl (cB, 3, .inr (.inr (.inr (.inr (fun i => if i < 3 then some (r i) else none)))))), (r 0, .inl (cI, 20, .inl (fun _ => 0))), (r 1, .inl (cI, 20, .inl (fun _ => 0))), (r 2, .inl (cI, 20, .inl (fun _ => 0)))]) := hD
  refine W.widen (k := 13) (n := 267) (by omega) (by omega) ?_
  refine va_putF (D := D) (ci := 0) (v := .ref qo) (ty := .array (.array .int)) (C := RX0) (T := TX0) (N := 12) hx hb hts gin0 tyX0 tyX0_ok nmX0 hown hK hP hD hS 0 rfl rfl 11 (by decide) (hts _ gm_16) (fun _ h9 => h9) rfl hin rfl (by decide +kernel) rfl rfl (Nat.le_of_ble_eq_true rfl) dX0_init_94 (fun H locs hP hD hS => ?_)
  have hP : va_P D gcl ([(h, .inr (0, [.int 0, .int 0, .ref a3, .ref a4, .ref a5, .ref a6, .ref a7, .ref a8, .ref a9, .ref a10, .ref a11, .ref qo])), (a3, .inl (cI, 12, .inl (fun _ => 0))), (a4, .inl (cI, 24, .inl (fun _ => 0))), (a5, .inl (cI, 24, .inl (fun _ => 0))), (a6, .inl (cI, 24, .inl (fun _ => 0))), (a7, .inl (cI, 24, .inl (fun _ => 0))), (a8, .inl (cI, 24, .inl (fun _ => 0))), (a9, .inl (cI, 24, .inl (fun _ => 0))), (a10, .inl (cI, 24, .inl (fun _ => 0))), (a11, .inl (cI, 24, .inl (fun _ => 0))), (qo, .inl (cB, 3, .inr (.inr (.inr (.inr (fun i => if i < 3 then some (r i) else none)))))), (r 0, .inl (cI, 20, .inl (fun _ => 0))), (r 1, .inl (cI, 20, .inl (fun _ => 0))), (r 2, .inl (cI, 20, .inl (fun _ => 0)))]) H := hP
  have hD : va_D A ([(h, .inr (0, [.int 0, .int 0, .ref a3, .ref a4, .ref a5, .ref a6, .ref a7, .ref a8, .ref a9, .ref a10, .ref a11, .ref qo])), (a3, .inl (cI, 12, .inl (fun _ => 0))), (a4, .inl (cI, 24, .inl (fun _ => 0))), (a5, .inl (cI, 24, .inl (fun _ => 0))), (a6, .inl (cI, 24, .inl (fun _ => 0))), (a7, .inl (cI, 24, .inl (fun _ => 0))), (a8, .inl (cI, 24, .inl (fun _ => 0))), (a9, .inl (cI, 24, .inl (fun _ => 0))), (a10, .inl (cI, 24, .inl (fun _ => 0))), (a11, .inl (cI, 24, .inl (fun _ => 0))), (qo, .inl (cB, 3, .inr (.inr (.inr (.inr (fun i => if i < 3 then some (r i) else none)))))), (r 0, .inl (cI, 20, .inl (fun _ => 0))), (r 1, .inl (cI, 20, .inl (fun _ => 0))), (r 2, .inl (cI, 20, .inl (fun _ => 0)))]) := hD
  obtain ⟨ad, had⟩ : ∃ ad : Nat → Nat, ad = (fun j => if j = 1 then h else if j = 3 then a3 else if j = 4 then a4 else if j = 5 then a5 else if j = 6 then a6 else if j = 7 then a7 else if j = 8 then a8 else if j = 9 then a9 else if j = 10 then a10 else if j = 11 then a11 else if j = 12 then qo else r (j - 13)) := ⟨_, rfl⟩
  have eo : (fun i => if i < 3 then some (r i) else none) = (fun i => if i < 3 then some (ad (13 + i)) else none) := by
    funext i; by_cases h3 : i < 3
    · rw [if_pos h3, if_pos h3, had]; have h9 : i = 0 ∨ i = 1 ∨ i = 2 := by omega
      rcases h9 with rfl | rfl | rfl <;> rfl
    · rw [if_neg h3, if_neg h3]
  rw [eo] at hP hD
  have eW : [(h, .inr (0, [.int 0, .int 0, .ref a3, .ref a4, .ref a5, .ref a6, .ref a7, .ref a8, .ref a9, .ref a10, .ref a11, .ref qo])), (a3, .inl (cI, 12, .inl (fun _ => 0))), (a4, .inl (cI, 24, .inl (fun _ => 0))), (a5, .inl (cI, 24, .inl (fun _ => 0))), (a6, .inl (cI, 24, .inl (fun _ => 0))), (a7, .inl (cI, 24, .inl (fun _ => 0))), (a8, .inl (cI, 24, .inl (fun _ => 0))), (a9, .inl (cI, 24, .inl (fun _ => 0))), (a10, .inl (cI, 24, .inl (fun _ => 0))), (a11, .inl (cI, 24, .inl (fun _ => 0))), (qo, .inl (cB, 3, .inr (.inr (.inr (.inr (fun i => if i < 3 then some (ad (13 + i)) else none)))))), (r 0, .inl (cI, 20, .inl (fun _ => 0))), (r 1, .inl (cI, 20, .inl (fun _ => 0))), (r 2, .inl (cI, 20, .inl (fun _ => 0)))] = gL (D, cI, cB, ad) f0 js0 := by rw [had]; rfl
  rw [eW] at hP hD
  subst hAe
  exact W.vret hx hb hr (fun t ht hW => ⟨⟨(D, cI, cB, ad), rfl, ⟨rfl, by rw [had]; rfl⟩, by rw [ht]; exact hP, va_K.moved hW.alike hK, hD⟩, hS.F ht⟩) hS.2.2 dX0_init_97
set_option maxHeartbeats 4000000 in
set_option maxRecDepth 100000 in
theorem c_X1_init (l : Launch) (D : va_G) (h a1 sz : Nat) : Met l yX1_init (gws yX1_init cX1_init 2 none) ({ frames := 1, cells := 40, slots := 504, locals := 12 }) (va_Pc [.ref h, .ref a1] (fun U => U.heap.size = sz ∧ va_P D gcl [(h, .inr (1, oX1))] U.heap ∧ va_K D gcl [] U ∧ va_D (fun _ => True) [(h, .inr (1, oX1))] ∧ va_AOA .int U)) (va_Qv (fun w : GP => w.1 = D ∧ w.2.2.2 2 = h ∧ w.2.2.2 1 = a1) (fun w t => va_P w.1 gcl (gL w f0 js1) t.heap ∧ va_K w.1 gcl [(w.2.1, .int), (w.2.2.1, .array .int)] t ∧ va_D (va_A [(h, .inr (1, oX1))] sz) (gL w f0 js1)) (va_A [(h, .inr (1, oX1))] sz)) 40 504 (va_A [(h, .inr (1, oX1))] sz) := by
  refine Met.ofW (cc := cX1_init) (maxL := 2) (ret := none) (by decide) rfl ?_
  intro p e s m args below meth c s₁ B hml hv
  obtain ⟨rfl, hsz, hP, hK, hD0, hover⟩ := hv
  have hx := B.exec
  have hb := B.bytes
  have hr := B.returns
  have hts : ∀ v ∈ gw, v.before _ s = true := fun v hv => atoms_spec (ws := gws yX1_init cX1_init 2 none) B.pre v (List.mem_cons_of_mem _ hv)
  have hown : s.vm.findClass RX1 = some m.cls := findClass_of_methodNamed B.named
  have hlocks := B.notSynchronized
  have hin : meth.name = "<init>" := (name_of_methodNamed B.named B.method).1
  subst hsz
  have hD := hD0.self (sz := s.heap.size)
  generalize hAe : va_A [(h, .inr (1, oX1))] s.heap.size = A at hD ⊢
  have hA : ∀ q : Nat, s.heap.size ≤ q → A q := fun q h => by rw [← hAe]; exact Or.inr h
  have hS : va_S A s.heap s.heap [] := va_S.rf
  have hP : va_P D gcl [(h, .inr (1, oX1))] s.heap := hP
  have hl := lv_entry ([.ref h, .ref a1]) (n := 2) (Nat.le_of_ble_eq_true rfl)
  rw [lg_entry_eq]
  generalize (lg_sl ([.ref h, .ref a1]) ++ List.replicate (2 - (lg_sl ([.ref h, .ref a1])).length) Slot.unset).toArray = ls at hl ⊢
  have hl : lv_has ls 2 [(0, .ref h), (1, .ref a1)] := hl
  refine lv_aload_n hx hb dX1_init_0 rfl (lv_at hl 0 rfl) ?_
  refine W.objInit hx hb hown (hts _ gm_63) (hts _ gm_1) (hts _ gm_2) rfl (by rw [hml]; exact hl.1) rfl dX1_init_1 (Nat.le_of_ble_eq_true rfl) (Nat.le_of_ble_eq_true rfl) ?_
  refine W.eq (g2 := F0 m 4 ls []) rfl ?_
  have hP : va_P D gcl ([(h, .inr (1, [.null, .int 0, .null, .null, .null, .null]))]) s.heap := hP
  refine lv_aload_n hx hb dX1_init_4 rfl (lv_at hl 0 rfl) ?_
  refine lv_iconst (v := 0) hx hb dX1_init_5 (by decide) ?_
  refine va_put (D := D) (ci := 1) (v := .int 0) (ty := .int) (C := RX1) (T := TX1) (N := 6) hx hb hts gin1 tyX1 tyX1_ok nmX1 hown hK hP hD hS 0 rfl rfl 1 (by decide) (hts _ gm_64) (fun _ h9 => h9) rfl (by decide +kernel) rfl rfl (Nat.le_of_ble_eq_true rfl) dX1_init_6 (fun H locs hP hD hS => ?_)
  have hP : va_P D gcl ([(h, .inr (1, [.null, .int 0, .null, .null, .null, .null]))]) H := hP
  have hD : va_D A ([(h, .inr (1, [.null, .int 0, .null, .null, .null, .null]))]) := hD
  refine lv_aload_n hx hb dX1_init_9 rfl (lv_at hl 0 rfl) ?_
  refine lv_bipush (v := nI 18) hx hb dX1_init_10 (by decide) ?_
  refine va_newa (atype := .int) (a0 := (18, .inl (fun _ => 0))) hx hb (hts _ gm_5) rfl hK hP hD hS hA (fun _ => rfl) (by decide) (by decide) (by decide) (Nat.le_of_ble_eq_true rfl) (Nat.le_of_ble_eq_true rfl) dX1_init_12 (fun a16 cA H hK hP hD hS => ?_)
  obtain ⟨cI, rfl⟩ : ∃ c9, c9 = cA := ⟨_, rfl⟩
  have hK : va_K D gcl [(cI, .int)] s := hK
  have hP : va_P D gcl ([(h, .inr (1, [.null, .int 0, .null, .null, .null, .null])), (a16, .inl (cI, 18, .inl (fun _ => 0)))]) H := hP
  have hD : va_D A ([(h, .inr (1, [.null, .int 0, .null, .null, .null, .null])), (a16, .inl (cI, 18, .inl (fun _ => 0)))]) := hD
  refine W.widen (k := 1) (n := 18) (by omega) (by omega) ?_
  refine va_putF (D := D) (ci := 1) (v := .ref a16) (ty := .array .int) (C := RX1) (T := TX1) (N := 6) hx hb hts gin1 tyX1 tyX1_ok nmX1 hown hK hP hD hS 0 rfl rfl 2 (by decide) (hts _ gm_65) (fun _ h9 => h9) rfl hin rfl (by decide +kernel) rfl rfl (Nat.le_of_ble_eq_true rfl) dX1_init_14 (fun H locs hP hD hS => ?_)
  have hP : va_P D gcl ([(h, .inr (1, [.null, .int 0, .ref a16, .null, .null, .null])), (a16, .inl (cI, 18, .inl (fun _ => 0)))]) H := hP
  have hD : va_D A ([(h, .inr (1, [.null, .int 0, .ref a16, .null, .null, .null])), (a16, .inl (cI, 18, .inl (fun _ => 0)))]) := hD
  refine lv_aload_n hx hb dX1_init_17 rfl (lv_at hl 0 rfl) ?_
  refine lv_bipush (v := nI 18) hx hb dX1_init_18 (by decide) ?_
  refine va_newa (atype := .int) (a0 := (18, .inl (fun _ => 0))) hx hb (hts _ gm_5) rfl hK hP hD hS hA (fun _ => rfl) (by decide) (by decide) (by decide) (Nat.le_of_ble_eq_true rfl) (Nat.le_of_ble_eq_true rfl) dX1_init_20 (fun a17 cA H hK hP hD hS => ?_)
  have ec : cA = cI := Option.some.inj ((show s.vm.findClass _ = some cA from (hK.2 1 _ rfl).2).symm.trans (show s.vm.findClass _ = some cI from (hK.2 0 _ rfl).2))
  subst ec
  have hK : va_K D gcl [(cA, .int)] s := hK.sub [0] rfl
  obtain ⟨cI, rfl⟩ : ∃ c9, c9 = cA := ⟨_, rfl⟩
  have hP : va_P D gcl ([(h, .inr (1, [.null, .int 0, .ref a16, .null, .null, .null])), (a16, .inl (cI, 18, .inl (fun _ => 0))), (a17, .inl (cI, 18, .inl (fun _ => 0)))]) H := hP
  have hD : va_D A ([(h, .inr (1, [.null, .int 0, .ref a16, .null, .null, .null])), (a16, .inl (cI, 18, .inl (fun _ => 0))), (a17, .inl (cI, 18, .inl (fun _ => 0)))]) := hD
  refine W.widen (k := 2) (n := 36) (by omega) (by omega) ?_
  refine va_putF (D := D) (ci := 1) (v := .ref a17) (ty := .array .int) (C := RX1) (T := TX1) (N := 6) hx hb hts gin1 tyX1 tyX1_ok nmX1 hown hK hP hD hS 0 rfl rfl 3 (by decide) (hts _ gm_66) (fun _ h9 => h9) rfl hin rfl (by decide +kernel) rfl rfl (Nat.le_of_ble_eq_true rfl) dX1_init_22 (fun H locs hP hD hS => ?_)
  have hP : va_P D gcl ([(h, .inr (1, [.null, .int 0, .ref a16, .ref a17, .null, .null])), (a16, .inl (cI, 18, .inl (fun _ => 0))), (a17, .inl (cI, 18, .inl (fun _ => 0)))]) H := hP
  have hD : va_D A ([(h, .inr (1, [.null, .int 0, .ref a16, .ref a17, .null, .null])), (a16, .inl (cI, 18, .inl (fun _ => 0))), (a17, .inl (cI, 18, .inl (fun _ => 0)))]) := hD
  refine lv_aload_n hx hb dX1_init_25 rfl (lv_at hl 0 rfl) ?_
  refine lv_bipush (v := nI 18) hx hb dX1_init_26 (by decide) ?_
  refine lv_bipush (v := nI 12) hx hb dX1_init_28 (by decide) ?_
  refine va_mna (X := [(h, .inr (1, [.null, .int 0, .ref a16, .ref a17, .null, .null])), (a16, .inl (cI, 18, .inl (fun _ => 0))), (a17, .inl (cI, 18, .inl (fun _ => 0)))]) (L := []) (f := fun _ => .inr (0, [])) (ty := .int) (cy := cI) (N' := 18) (K' := 12) (z := (12, .inl (fun _ => 0))) hx hb hown (by rw [show ("[" ++ (FieldType.array FieldType.int).toString) = "[[I" from by decide +kernel]; exact hts _ gm_67) hover (hts _ gm_5) (hK.2 0 _ rfl).2 hK (by simpa [va_pl] using hP) (by simpa [va_pl] using hD) hS hA (n := nI 18) (k := nI 12) (by decide) (by decide) (by decide) (by decide) (by decide) (by decide) (by decide) (by decide) (by decide) (Nat.le_of_ble_eq_true rfl) (Nat.le_of_ble_eq_true rfl) (fun _ => rfl) dX1_init_30 (fun a18 r cB H hir hnr hK hP hD hS => ?_)
  rw [← vr_rows (f := fun _ => .inr (0, [])) (e := .inl (cI, (12, .inl (fun _ => 0)))) (L := []) (l := (List.range 18).map r) (fun a _ => List.not_mem_nil)] at hP hD
  have hK : va_K D gcl [(cI, .int), (cB, .array .int)] s := hK
  obtain ⟨cJ, rfl⟩ : ∃ c9, c9 = cB := ⟨_, rfl⟩
  have hP : va_P D gcl ([(h, .inr (1, [.null, .int 0, .ref a16, .ref a17, .null, .null])), (a16, .inl (cI, 18, .inl (fun _ => 0))), (a17, .inl (cI, 18, .inl (fun _ => 0))), (a18, .inl (cJ, 18, .inr (.inr (.inr (.inr (fun i => if i < 18 then some (r i) else none)))))), (r 0, .inl (cI, 12, .inl (fun _ => 0))), (r 1, .inl (cI, 12, .inl (fun _ => 0))), (r 2, .inl (cI, 12, .inl (fun _ => 0))), (r 3, .inl (cI, 12, .inl (fun _ => 0))), (r 4, .inl (cI, 12, .inl (fun _ => 0))), (r 5, .inl (cI, 12, .inl (fun _ => 0))), (r 6, .inl (cI, 12, .inl (fun _ => 0))), (r 7, .inl (cI, 12, .inl (fun _ => 0))), (r 8, .inl (cI, 12, .inl (fun _ => 0))), (r 9, .inl (cI, 12, .inl (fun _ => 0))), (r 10, .inl (cI, 12, .inl (fun _ => 0))), (r 11, .inl (cI, 12, .inl (fun _ => 0))), (r 12, .inl (cI, 12, .inl (fun _ => 0))), (r 13, .inl (cI, 12, .inl (fun _ => 0))), (r 14, .inl (cI, 12, .inl (fun _ => 0))), (r 15, .inl (cI, 12, .inl (fun _ => 0))), (r 16, .inl (cI, 12, .inl (fun _ => 0))), (r 17, .inl (cI, 12, .inl (fun _ => 0)))]) H := hP
  have hD : va_D A ([(h, .inr (1, [.null, .int 0, .ref a16, .ref a17, .null, .null])), (a16, .inl (cI, 18, .inl (fun _ => 0))), (a17, .inl (cI, 18, .inl (fun _ => 0))), (a18, .inl (cJ, 18, .inr (.inr (.inr (.inr (fun i => if i < 18 then some (r i) else none)))))), (r 0, .inl (cI, 12, .inl (fun _ => 0))), (r 1, .inl (cI, 12, .inl (fun _ => 0))), (r 2, .inl (cI, 12, .inl (fun _ => 0))), (r 3, .inl (cI, 12, .inl (fun _ => 0))), (r 4, .inl (cI, 12, .inl (fun _ => 0))), (r 5, .inl (cI, 12, .inl (fun _ => 0))), (r 6, .inl (cI, 12, .inl (fun _ => 0))), (r 7, .inl (cI, 12, .inl (fun _ => 0))), (r 8, .inl (cI, 12, .inl (fun _ => 0))), (r 9, .inl (cI, 12, .inl (fun _ => 0))), (r 10, .inl (cI, 12, .inl (fun _ => 0))), (r 11, .inl (cI, 12, .inl (fun _ => 0))), (r 12, .inl (cI, 12, .inl (fun _ => 0))), (r 13, .inl (cI, 12, .inl (fun _ => 0))), (r 14, .inl (cI, 12, .inl (fun _ => 0))), (r 15, .inl (cI, 12, .inl (fun _ => 0))), (r 16, .inl (cI, 12, .inl (fun _ => 0))), (r 17, .inl (cI, 12, .inl (fun _ => 0)))]) := hD
  refine W.widen (k := 21) (n := 270) (by omega) (by omega) ?_
  refine va_putF (D := D) (ci := 1) (v := .ref a18) (ty := .array (.array .int)) (C := RX1) (T := TX1) (N := 6) hx hb hts gin1 tyX1 tyX1_ok nmX1 hown hK hP hD hS 0 rfl rfl 4 (by decide) (hts _ gm_68) (fun _ h9 => h9) rfl hin rfl (by decide +kernel) rfl rfl (Nat.le_of_ble_eq_true rfl) dX1_init_34 (fun H locs hP hD hS => ?_)
  have hP : va_P D gcl ([(h, .inr (1, [.null, .int 0, .ref a16, .ref a17, .ref a18, .null])), (a16, .inl (cI, 18, .inl (fun _ => 0))), (a17, .inl (cI, 18, .inl (fun _ => 0))), (a18, .inl (cJ, 18, .inr (.inr (.inr (.inr (fun i => if i < 18 then some (r i) else none)))))), (r 0, .inl (cI, 12, .inl (fun _ => 0))), (r 1, .inl (cI, 12, .inl (fun _ => 0))), (r 2, .inl (cI, 12, .inl (fun _ => 0))), (r 3, .inl (cI, 12, .inl (fun _ => 0))), (r 4, .inl (cI, 12, .inl (fun _ => 0))), (r 5, .inl (cI, 12, .inl (fun _ => 0))), (r 6, .inl (cI, 12, .inl (fun _ => 0))), (r 7, .inl (cI, 12, .inl (fun _ => 0))), (r 8, .inl (cI, 12, .inl (fun _ => 0))), (r 9, .inl (cI, 12, .inl (fun _ => 0))), (r 10, .inl (cI, 12, .inl (fun _ => 0))), (r 11, .inl (cI, 12, .inl (fun _ => 0))), (r 12, .inl (cI, 12, .inl (fun _ => 0))), (r 13, .inl (cI, 12, .inl (fun _ => 0))), (r 14, .inl (cI, 12, .inl (fun _ => 0))), (r 15, .inl (cI, 12, .inl (fun _ => 0))), (r 16, .inl (cI, 12, .inl (fun _ => 0))), (r 17, .inl (cI, 12, .inl (fun _ => 0)))]) H := hP
  have hD : va_D A ([(h, .inr (1, [.null, .int 0, .ref a16, .ref a17, .ref a18, .null])), (a16, .inl (cI, 18, .inl (fun _ => 0))), (a17, .inl (cI, 18, .inl (fun _ => 0))), (a18, .inl (cJ, 18, .inr (.inr (.inr (.inr (fun i => if i < 18 then some (r i) else none)))))), (r 0, .inl (cI, 12, .inl (fun _ => 0))), (r 1, .inl (cI, 12, .inl (fun _ => 0))), (r 2, .inl (cI, 12, .inl (fun _ => 0))), (r 3, .inl (cI, 12, .inl (fun _ => 0))), (r 4, .inl (cI, 12, .inl (fun _ => 0))), (r 5, .inl (cI, 12, .inl (fun _ => 0))), (r 6, .inl (cI, 12, .inl (fun _ => 0))), (r 7, .inl (cI, 12, .inl (fun _ => 0))), (r 8, .inl (cI, 12, .inl (fun _ => 0))), (r 9, .inl (cI, 12, .inl (fun _ => 0))), (r 10, .inl (cI, 12, .inl (fun _ => 0))), (r 11, .inl (cI, 12, .inl (fun _ => 0))), (r 12, .inl (cI, 12, .inl (fun _ => 0))), (r 13, .inl (cI, 12, .inl (fun _ => 0))), (r 14, .inl (cI, 12, .inl (fun _ => 0))), (r 15, .inl (cI, 12, .inl (fun _ => 0))), (r 16, .inl (cI, 12, .inl (fun _ => 0))), (r 17, .inl (cI, 12, .inl (fun _ => 0)))]) := hD
  refine lv_aload_n hx hb dX1_init_37 rfl (lv_at hl 0 rfl) ?_
  refine lv_bipush (v := nI 18) hx hb dX1_init_38 (by decide) ?_
  refine lv_bipush (v := nI 12) hx hb dX1_init_40 (by decide) ?_
  refine va_mna (X := [(h, .inr (1, [.null, .int 0, .ref a16, .ref a17, .ref a18, .null])), (a16, .inl (cI, 18, .inl (fun _ => 0))), (a17, .inl (cI, 18, .inl (fun _ => 0))), (a18, .inl (cJ, 18, .inr (.inr (.inr (.inr (fun i => if i < 18 then some (r i) else none)))))), (r 0, .inl (cI, 12, .inl (fun _ => 0))), (r 1, .inl (cI, 12, .inl (fun _ => 0))), (r 2, .inl (cI, 12, .inl (fun _ => 0))), (r 3, .inl (cI, 12, .inl (fun _ => 0))), (r 4, .inl (cI, 12, .inl (fun _ => 0))), (r 5, .inl (cI, 12, .inl (fun _ => 0))), (r 6, .inl (cI, 12, .inl (fun _ => 0))), (r 7, .inl (cI, 12, .inl (fun _ => 0))), (r 8, .inl (cI, 12, .inl (fun _ => 0))), (r 9, .inl (cI, 12, .inl (fun _ => 0))), (r 10, .inl (cI, 12, .inl (fun _ => 0))), (r 11, .inl (cI, 12, .inl (fun _ => 0))), (r 12, .inl (cI, 12, .inl (fun _ => 0))), (r 13, .inl (cI, 12, .inl (fun _ => 0))), (r 14, .inl (cI, 12, .inl (fun _ => 0))), (r 15, .inl (cI, 12, .inl (fun _ => 0))), (r 16, .inl (cI, 12, .inl (fun _ => 0))), (r 17, .inl (cI, 12, .inl (fun _ => 0)))]) (L := []) (f := fun _ => .inr (0, [])) (ty := .int) (cy := cI) (N' := 18) (K' := 12) (z := (12, .inl (fun _ => 0))) hx hb hown (by rw [show ("[" ++ (FieldType.array FieldType.int).toString) = "[[I" from by decide +kernel]; exact hts _ gm_67) hover (hts _ gm_5) (hK.2 0 _ rfl).2 hK (by simpa [va_pl] using hP) (by simpa [va_pl] using hD) hS hA (n := nI 18) (k := nI 12) (by decide) (by decide) (by decide) (by decide) (by decide) (by decide) (by decide) (by decide) (by decide) (Nat.le_of_ble_eq_true rfl) (Nat.le_of_ble_eq_true rfl) (fun _ => rfl) dX1_init_42 (fun a37 t cB H hit hnt hK hP hD hS => ?_)
  rw [← vr_rows (f := fun _ => .inr (0, [])) (e := .inl (cI, (12, .inl (fun _ => 0)))) (L := []) (l := (List.range 18).map t) (fun a _ => List.not_mem_nil)] at hP hD
  have ec : cB = cJ := Option.some.inj ((show s.vm.findClass _ = some cB from (hK.2 2 _ rfl).2).symm.trans (show s.vm.findClass _ = some cJ from (hK.2 1 _ rfl).2))
  subst ec
  have hK : va_K D gcl [(cI, .int), (cB, .array .int)] s := hK.sub [0, 1] rfl
  obtain ⟨cJ, rfl⟩ : ∃ c9, c9 = cB := ⟨_, rfl⟩
  have hP : va_P D gcl ([(h, .inr (1, [.null, .int 0, .ref a16, .ref a17, .ref a18, .null])), (a16, .inl (cI, 18, .inl (fun _ => 0))), (a17, .inl (cI, 18, .inl (fun _ => 0))), (a18, .inl (cJ, 18, .inr (.inr (.inr (.inr (fun i => if i < 18 then some (r i) else none)))))), (r 0, .inl (cI, 12, .inl (fun _ => 0))), (r 1, .inl (cI, 12, .inl (fun _ => 0))), (r 2, .inl (cI, 12, .inl (fun _ => 0))), (r 3, .inl (cI, 12, .inl (fun _ => 0))), (r 4, .inl (cI, 12, .inl (fun _ => 0))), (r 5, .inl (cI, 12, .inl (fun _ => 0))), (r 6, .inl (cI, 12, .inl (fun _ => 0))), (r 7, .inl (cI, 12, .inl (fun _ => 0))), (r 8, .inl (cI, 12, .inl (fun _ => 0))), (r 9, .inl (cI, 12, .inl (fun _ => 0))), (r 10, .inl (cI, 12, .inl (fun _ => 0))), (r 11, .inl (cI, 12, .inl (fun _ => 0))), (r 12, .inl (cI, 12, .inl (fun _ => 0))), (r 13, .inl (cI, 12, .inl (fun _ => 0))), (r 14, .inl (cI, 12, .inl (fun _ => 0))), (r 15, .inl (cI, 12, .inl (fun _ => 0))), (r 16, .inl (cI, 12, .inl (fun _ => 0))), (r 17, .inl (cI, 12, .inl (fun _ => 0))), (a37, .inl (cJ, 18, .inr (.inr (.inr (.inr (fun i => if i < 18 then some (t i) else none)))))), (t 0, .inl (cI, 12, .inl (fun _ => 0))), (t 1, .inl (cI, 12, .inl (fun _ => 0))), (t 2, .inl (cI, 12, .inl (fun _ => 0))), (t 3, .inl (cI, 12, .inl (fun _ => 0))), (t 4, .inl (cI, 12, .inl (fun _ => 0))), (t 5, .inl (cI, 12, .inl (fun _ => 0))), (t 6, .inl (cI, 12, .inl (fun _ => 0))), (t 7, .inl (cI, 12, .inl (fun _ => 0))), (t 8, .inl (cI, 12, .inl (fun _ => 0))), (t 9, .inl (cI, 12, .inl (fun _ => 0))), (t 10, .inl (cI, 12, .inl (fun _ => 0))), (t 11, .inl (cI, 12, .inl (fun _ => 0))), (t 12, .inl (cI, 12, .inl (fun _ => 0))), (t 13, .inl (cI, 12, .inl (fun _ => 0))), (t 14, .inl (cI, 12, .inl (fun _ => 0))), (t 15, .inl (cI, 12, .inl (fun _ => 0))), (t 16, .inl (cI, 12, .inl (fun _ => 0))), (t 17, .inl (cI, 12, .inl (fun _ => 0)))]) H := hP
  have hD : va_D A ([(h, .inr (1, [.null, .int 0, .ref a16, .ref a17, .ref a18, .null])), (a16, .inl (cI, 18, .inl (fun _ => 0))), (a17, .inl (cI, 18, .inl (fun _ => 0))), (a18, .inl (cJ, 18, .inr (.inr (.inr (.inr (fun i => if i < 18 then some (r i) else none)))))), (r 0, .inl (cI, 12, .inl (fun _ => 0))), (r 1, .inl (cI, 12, .inl (fun _ => 0))), (r 2, .inl (cI, 12, .inl (fun _ => 0))), (r 3, .inl (cI, 12, .inl (fun _ => 0))), (r 4, .inl (cI, 12, .inl (fun _ => 0))), (r 5, .inl (cI, 12, .inl (fun _ => 0))), (r 6, .inl (cI, 12, .inl (fun _ => 0))), (r 7, .inl (cI, 12, .inl (fun _ => 0))), (r 8, .inl (cI, 12, .inl (fun _ => 0))), (r 9, .inl (cI, 12, .inl (fun _ => 0))), (r 10, .inl (cI, 12, .inl (fun _ => 0))), (r 11, .inl (cI, 12, .inl (fun _ => 0))), (r 12, .inl (cI, 12, .inl (fun _ => 0))), (r 13, .inl (cI, 12, .inl (fun _ => 0))), (r 14, .inl (cI, 12, .inl (fun _ => 0))), (r 15, .inl (cI, 12, .inl (fun _ => 0))), (r 16, .inl (cI, 12, .inl (fun _ => 0))), (r 17, .inl (cI, 12, .inl (fun _ => 0))), (a37, .inl (cJ, 18, .inr (.inr (.inr (.inr (fun i => if i < 18 then some (t i) else none)))))), (t 0, .inl (cI, 12, .inl (fun _ => 0))), (t 1, .inl (cI, 12, .inl (fun _ => 0))), (t 2, .inl (cI, 12, .inl (fun _ => 0))), (t 3, .inl (cI, 12, .inl (fun _ => 0))), (t 4, .inl (cI, 12, .inl (fun _ => 0))), (t 5, .inl (cI, 12, .inl (fun _ => 0))), (t 6, .inl (cI, 12, .inl (fun _ => 0))), (t 7, .inl (cI, 12, .inl (fun _ => 0))), (t 8, .inl (cI, 12, .inl (fun _ => 0))), (t 9, .inl (cI, 12, .inl (fun _ => 0))), (t 10, .inl (cI, 12, .inl (fun _ => 0))), (t 11, .inl (cI, 12, .inl (fun _ => 0))), (t 12, .inl (cI, 12, .inl (fun _ => 0))), (t 13, .inl (cI, 12, .inl (fun _ => 0))), (t 14, .inl (cI, 12, .inl (fun _ => 0))), (t 15, .inl (cI, 12, .inl (fun _ => 0))), (t 16, .inl (cI, 12, .inl (fun _ => 0))), (t 17, .inl (cI, 12, .inl (fun _ => 0)))]) := hD
  refine W.widen (k := 40) (n := 504) (by omega) (by omega) ?_
  refine va_putF (D := D) (ci := 1) (v := .ref a37) (ty := .array (.array .int)) (C := RX1) (T := TX1) (N := 6) hx hb hts gin1 tyX1 tyX1_ok nmX1 hown hK hP hD hS 0 rfl rfl 5 (by decide) (hts _ gm_69) (fun _ h9 => h9) rfl hin rfl (by decide +kernel) rfl rfl (Nat.le_of_ble_eq_true rfl) dX1_init_46 (fun H locs hP hD hS => ?_)
  have hP : va_P D gcl ([(h, .inr (1, [.null, .int 0, .ref a16, .ref a17, .ref a18, .ref a37])), (a16, .inl (cI, 18, .inl (fun _ => 0))), (a17, .inl (cI, 18, .inl (fun _ => 0))), (a18, .inl (cJ, 18, .inr (.inr (.inr (.inr (fun i => if i < 18 then some (r i) else none)))))), (r 0, .inl (cI, 12, .inl (fun _ => 0))), (r 1, .inl (cI, 12, .inl (fun _ => 0))), (r 2, .inl (cI, 12, .inl (fun _ => 0))), (r 3, .inl (cI, 12, .inl (fun _ => 0))), (r 4, .inl (cI, 12, .inl (fun _ => 0))), (r 5, .inl (cI, 12, .inl (fun _ => 0))), (r 6, .inl (cI, 12, .inl (fun _ => 0))), (r 7, .inl (cI, 12, .inl (fun _ => 0))), (r 8, .inl (cI, 12, .inl (fun _ => 0))), (r 9, .inl (cI, 12, .inl (fun _ => 0))), (r 10, .inl (cI, 12, .inl (fun _ => 0))), (r 11, .inl (cI, 12, .inl (fun _ => 0))), (r 12, .inl (cI, 12, .inl (fun _ => 0))), (r 13, .inl (cI, 12, .inl (fun _ => 0))), (r 14, .inl (cI, 12, .inl (fun _ => 0))), (r 15, .inl (cI, 12, .inl (fun _ => 0))), (r 16, .inl (cI, 12, .inl (fun _ => 0))), (r 17, .inl (cI, 12, .inl (fun _ => 0))), (a37, .inl (cJ, 18, .inr (.inr (.inr (.inr (fun i => if i < 18 then some (t i) else none)))))), (t 0, .inl (cI, 12, .inl (fun _ => 0))), (t 1, .inl (cI, 12, .inl (fun _ => 0))), (t 2, .inl (cI, 12, .inl (fun _ => 0))), (t 3, .inl (cI, 12, .inl (fun _ => 0))), (t 4, .inl (cI, 12, .inl (fun _ => 0))), (t 5, .inl (cI, 12, .inl (fun _ => 0))), (t 6, .inl (cI, 12, .inl (fun _ => 0))), (t 7, .inl (cI, 12, .inl (fun _ => 0))), (t 8, .inl (cI, 12, .inl (fun _ => 0))), (t 9, .inl (cI, 12, .inl (fun _ => 0))), (t 10, .inl (cI, 12, .inl (fun _ => 0))), (t 11, .inl (cI, 12, .inl (fun _ => 0))), (t 12, .inl (cI, 12, .inl (fun _ => 0))), (t 13, .inl (cI, 12, .inl (fun _ => 0))), (t 14, .inl (cI, 12, .inl (fun _ => 0))), (t 15, .inl (cI, 12, .inl (fun _ => 0))), (t 16, .inl (cI, 12, .inl (fun _ => 0))), (t 17, .inl (cI, 12, .inl (fun _ => 0)))]) H := hP
  have hD : va_D A ([(h, .inr (1, [.null, .int 0, .ref a16, .ref a17, .ref a18, .ref a37])), (a16, .inl (cI, 18, .inl (fun _ => 0))), (a17, .inl (cI, 18, .inl (fun _ => 0))), (a18, .inl (cJ, 18, .inr (.inr (.inr (.inr (fun i => if i < 18 then some (r i) else none)))))), (r 0, .inl (cI, 12, .inl (fun _ => 0))), (r 1, .inl (cI, 12, .inl (fun _ => 0))), (r 2, .inl (cI, 12, .inl (fun _ => 0))), (r 3, .inl (cI, 12, .inl (fun _ => 0))), (r 4, .inl (cI, 12, .inl (fun _ => 0))), (r 5, .inl (cI, 12, .inl (fun _ => 0))), (r 6, .inl (cI, 12, .inl (fun _ => 0))), (r 7, .inl (cI, 12, .inl (fun _ => 0))), (r 8, .inl (cI, 12, .inl (fun _ => 0))), (r 9, .inl (cI, 12, .inl (fun _ => 0))), (r 10, .inl (cI, 12, .inl (fun _ => 0))), (r 11, .inl (cI, 12, .inl (fun _ => 0))), (r 12, .inl (cI, 12, .inl (fun _ => 0))), (r 13, .inl (cI, 12, .inl (fun _ => 0))), (r 14, .inl (cI, 12, .inl (fun _ => 0))), (r 15, .inl (cI, 12, .inl (fun _ => 0))), (r 16, .inl (cI, 12, .inl (fun _ => 0))), (r 17, .inl (cI, 12, .inl (fun _ => 0))), (a37, .inl (cJ, 18, .inr (.inr (.inr (.inr (fun i => if i < 18 then some (t i) else none)))))), (t 0, .inl (cI, 12, .inl (fun _ => 0))), (t 1, .inl (cI, 12, .inl (fun _ => 0))), (t 2, .inl (cI, 12, .inl (fun _ => 0))), (t 3, .inl (cI, 12, .inl (fun _ => 0))), (t 4, .inl (cI, 12, .inl (fun _ => 0))), (t 5, .inl (cI, 12, .inl (fun _ => 0))), (t 6, .inl (cI, 12, .inl (fun _ => 0))), (t 7, .inl (cI, 12, .inl (fun _ => 0))), (t 8, .inl (cI, 12, .inl (fun _ => 0))), (t 9, .inl (cI, 12, .inl (fun _ => 0))), (t 10, .inl (cI, 12, .inl (fun _ => 0))), (t 11, .inl (cI, 12, .inl (fun _ => 0))), (t 12, .inl (cI, 12, .inl (fun _ => 0))), (t 13, .inl (cI, 12, .inl (fun _ => 0))), (t 14, .inl (cI, 12, .inl (fun _ => 0))), (t 15, .inl (cI, 12, .inl (fun _ => 0))), (t 16, .inl (cI, 12, .inl (fun _ => 0))), (t 17, .inl (cI, 12, .inl (fun _ => 0)))]) := hD
  refine lv_aload_n hx hb dX1_init_49 rfl (lv_at hl 0 rfl) ?_
  refine lv_aload_n hx hb dX1_init_50 rfl (lv_at hl 1 rfl) ?_
  refine va_putF (D := D) (ci := 1) (v := .ref a1) (ty := .object "GlossaryCrown$Terms") (C := RX1) (T := TX1) (N := 6) hx hb hts gin1 tyX1 tyX1_ok nmX1 hown hK hP hD hS 0 rfl rfl 0 (by decide) (hts _ gm_70) (fun _ h9 => h9) rfl hin rfl (by decide +kernel) rfl rfl (Nat.le_of_ble_eq_true rfl) dX1_init_51 (fun H locs hP hD hS => ?_)
  have hP : va_P D gcl ([(h, .inr (1, [.ref a1, .int 0, .ref a16, .ref a17, .ref a18, .ref a37])), (a16, .inl (cI, 18, .inl (fun _ => 0))), (a17, .inl (cI, 18, .inl (fun _ => 0))), (a18, .inl (cJ, 18, .inr (.inr (.inr (.inr (fun i => if i < 18 then some (r i) else none)))))), (r 0, .inl (cI, 12, .inl (fun _ => 0))), (r 1, .inl (cI, 12, .inl (fun _ => 0))), (r 2, .inl (cI, 12, .inl (fun _ => 0))), (r 3, .inl (cI, 12, .inl (fun _ => 0))), (r 4, .inl (cI, 12, .inl (fun _ => 0))), (r 5, .inl (cI, 12, .inl (fun _ => 0))), (r 6, .inl (cI, 12, .inl (fun _ => 0))), (r 7, .inl (cI, 12, .inl (fun _ => 0))), (r 8, .inl (cI, 12, .inl (fun _ => 0))), (r 9, .inl (cI, 12, .inl (fun _ => 0))), (r 10, .inl (cI, 12, .inl (fun _ => 0))), (r 11, .inl (cI, 12, .inl (fun _ => 0))), (r 12, .inl (cI, 12, .inl (fun _ => 0))), (r 13, .inl (cI, 12, .inl (fun _ => 0))), (r 14, .inl (cI, 12, .inl (fun _ => 0))), (r 15, .inl (cI, 12, .inl (fun _ => 0))), (r 16, .inl (cI, 12, .inl (fun _ => 0))), (r 17, .inl (cI, 12, .inl (fun _ => 0))), (a37, .inl (cJ, 18, .inr (.inr (.inr (.inr (fun i => if i < 18 then some (t i) else none)))))), (t 0, .inl (cI, 12, .inl (fun _ => 0))), (t 1, .inl (cI, 12, .inl (fun _ => 0))), (t 2, .inl (cI, 12, .inl (fun _ => 0))), (t 3, .inl (cI, 12, .inl (fun _ => 0))), (t 4, .inl (cI, 12, .inl (fun _ => 0))), (t 5, .inl (cI, 12, .inl (fun _ => 0))), (t 6, .inl (cI, 12, .inl (fun _ => 0))), (t 7, .inl (cI, 12, .inl (fun _ => 0))), (t 8, .inl (cI, 12, .inl (fun _ => 0))), (t 9, .inl (cI, 12, .inl (fun _ => 0))), (t 10, .inl (cI, 12, .inl (fun _ => 0))), (t 11, .inl (cI, 12, .inl (fun _ => 0))), (t 12, .inl (cI, 12, .inl (fun _ => 0))), (t 13, .inl (cI, 12, .inl (fun _ => 0))), (t 14, .inl (cI, 12, .inl (fun _ => 0))), (t 15, .inl (cI, 12, .inl (fun _ => 0))), (t 16, .inl (cI, 12, .inl (fun _ => 0))), (t 17, .inl (cI, 12, .inl (fun _ => 0)))]) H := hP
  have hD : va_D A ([(h, .inr (1, [.ref a1, .int 0, .ref a16, .ref a17, .ref a18, .ref a37])), (a16, .inl (cI, 18, .inl (fun _ => 0))), (a17, .inl (cI, 18, .inl (fun _ => 0))), (a18, .inl (cJ, 18, .inr (.inr (.inr (.inr (fun i => if i < 18 then some (r i) else none)))))), (r 0, .inl (cI, 12, .inl (fun _ => 0))), (r 1, .inl (cI, 12, .inl (fun _ => 0))), (r 2, .inl (cI, 12, .inl (fun _ => 0))), (r 3, .inl (cI, 12, .inl (fun _ => 0))), (r 4, .inl (cI, 12, .inl (fun _ => 0))), (r 5, .inl (cI, 12, .inl (fun _ => 0))), (r 6, .inl (cI, 12, .inl (fun _ => 0))), (r 7, .inl (cI, 12, .inl (fun _ => 0))), (r 8, .inl (cI, 12, .inl (fun _ => 0))), (r 9, .inl (cI, 12, .inl (fun _ => 0))), (r 10, .inl (cI, 12, .inl (fun _ => 0))), (r 11, .inl (cI, 12, .inl (fun _ => 0))), (r 12, .inl (cI, 12, .inl (fun _ => 0))), (r 13, .inl (cI, 12, .inl (fun _ => 0))), (r 14, .inl (cI, 12, .inl (fun _ => 0))), (r 15, .inl (cI, 12, .inl (fun _ => 0))), (r 16, .inl (cI, 12, .inl (fun _ => 0))), (r 17, .inl (cI, 12, .inl (fun _ => 0))), (a37, .inl (cJ, 18, .inr (.inr (.inr (.inr (fun i => if i < 18 then some (t i) else none)))))), (t 0, .inl (cI, 12, .inl (fun _ => 0))), (t 1, .inl (cI, 12, .inl (fun _ => 0))), (t 2, .inl (cI, 12, .inl (fun _ => 0))), (t 3, .inl (cI, 12, .inl (fun _ => 0))), (t 4, .inl (cI, 12, .inl (fun _ => 0))), (t 5, .inl (cI, 12, .inl (fun _ => 0))), (t 6, .inl (cI, 12, .inl (fun _ => 0))), (t 7, .inl (cI, 12, .inl (fun _ => 0))), (t 8, .inl (cI, 12, .inl (fun _ => 0))), (t 9, .inl (cI, 12, .inl (fun _ => 0))), (t 10, .inl (cI, 12, .inl (fun _ => 0))), (t 11, .inl (cI, 12, .inl (fun _ => 0))), (t 12, .inl (cI, 12, .inl (fun _ => 0))), (t 13, .inl (cI, 12, .inl (fun _ => 0))), (t 14, .inl (cI, 12, .inl (fun _ => 0))), (t 15, .inl (cI, 12, .inl (fun _ => 0))), (t 16, .inl (cI, 12, .inl (fun _ => 0))), (t 17, .inl (cI, 12, .inl (fun _ => 0)))]) := hD
  obtain ⟨ad, had⟩ : ∃ ad : Nat → Nat, ad = (fun j => if j = 1 then a1 else if j = 2 then h else if j = 16 then a16 else if j = 17 then a17 else if j = 18 then a18 else if j = 37 then a37 else if j < 37 then r (j - 19) else t (j - 38)) := ⟨_, rfl⟩
  have eqr : ∀ i, i < 18 → ad (19 + i) = r i := by
    intro i h9; rw [had]; show (if 19 + i = 1 then _ else _) = _
    rw [if_neg (by omega), if_neg (by omega), if_neg (by omega), if_neg (by omega), if_neg (by omega), if_neg (by omega), if_pos (by omega)]; congr 1; omega
  have eor : (fun i => if i < 18 then some (r i) else none) = (fun i => if i < 18 then some (ad (19 + i)) else none) := by
    funext i; by_cases h3 : i < 18
    · rw [if_pos h3, if_pos h3, eqr i h3]
    · rw [if_neg h3, if_neg h3]
  rw [eor] at hP hD
  have eqt : ∀ i, i < 18 → ad (38 + i) = t i := by
    intro i h9; rw [had]; show (if 38 + i = 1 then _ else _) = _
    rw [if_neg (by omega), if_neg (by omega), if_neg (by omega), if_neg (by omega), if_neg (by omega), if_neg (by omega), if_neg (by omega)]; congr 1; omega
  have eot : (fun i => if i < 18 then some (t i) else none) = (fun i => if i < 18 then some (ad (38 + i)) else none) := by
    funext i; by_cases h3 : i < 18
    · rw [if_pos h3, if_pos h3, eqt i h3]
    · rw [if_neg h3, if_neg h3]
  rw [eot] at hP hD
  have eW : [(h, .inr (1, [.ref a1, .int 0, .ref a16, .ref a17, .ref a18, .ref a37])), (a16, .inl (cI, 18, .inl (fun _ => 0))), (a17, .inl (cI, 18, .inl (fun _ => 0))), (a18, .inl (cJ, 18, .inr (.inr (.inr (.inr (fun i => if i < 18 then some (ad (19 + i)) else none)))))), (r 0, .inl (cI, 12, .inl (fun _ => 0))), (r 1, .inl (cI, 12, .inl (fun _ => 0))), (r 2, .inl (cI, 12, .inl (fun _ => 0))), (r 3, .inl (cI, 12, .inl (fun _ => 0))), (r 4, .inl (cI, 12, .inl (fun _ => 0))), (r 5, .inl (cI, 12, .inl (fun _ => 0))), (r 6, .inl (cI, 12, .inl (fun _ => 0))), (r 7, .inl (cI, 12, .inl (fun _ => 0))), (r 8, .inl (cI, 12, .inl (fun _ => 0))), (r 9, .inl (cI, 12, .inl (fun _ => 0))), (r 10, .inl (cI, 12, .inl (fun _ => 0))), (r 11, .inl (cI, 12, .inl (fun _ => 0))), (r 12, .inl (cI, 12, .inl (fun _ => 0))), (r 13, .inl (cI, 12, .inl (fun _ => 0))), (r 14, .inl (cI, 12, .inl (fun _ => 0))), (r 15, .inl (cI, 12, .inl (fun _ => 0))), (r 16, .inl (cI, 12, .inl (fun _ => 0))), (r 17, .inl (cI, 12, .inl (fun _ => 0))), (a37, .inl (cJ, 18, .inr (.inr (.inr (.inr (fun i => if i < 18 then some (ad (38 + i)) else none)))))), (t 0, .inl (cI, 12, .inl (fun _ => 0))), (t 1, .inl (cI, 12, .inl (fun _ => 0))), (t 2, .inl (cI, 12, .inl (fun _ => 0))), (t 3, .inl (cI, 12, .inl (fun _ => 0))), (t 4, .inl (cI, 12, .inl (fun _ => 0))), (t 5, .inl (cI, 12, .inl (fun _ => 0))), (t 6, .inl (cI, 12, .inl (fun _ => 0))), (t 7, .inl (cI, 12, .inl (fun _ => 0))), (t 8, .inl (cI, 12, .inl (fun _ => 0))), (t 9, .inl (cI, 12, .inl (fun _ => 0))), (t 10, .inl (cI, 12, .inl (fun _ => 0))), (t 11, .inl (cI, 12, .inl (fun _ => 0))), (t 12, .inl (cI, 12, .inl (fun _ => 0))), (t 13, .inl (cI, 12, .inl (fun _ => 0))), (t 14, .inl (cI, 12, .inl (fun _ => 0))), (t 15, .inl (cI, 12, .inl (fun _ => 0))), (t 16, .inl (cI, 12, .inl (fun _ => 0))), (t 17, .inl (cI, 12, .inl (fun _ => 0)))] = gL (D, cI, cJ, ad) f0 js1 := by rw [had]; rfl
  rw [eW] at hP hD
  subst hAe
  exact W.vret hx hb hr (fun t9 ht hW => ⟨⟨(D, cI, cJ, ad), rfl, ⟨rfl, by rw [had]; rfl, by rw [had]; rfl⟩, by rw [ht]; exact hP, va_K.moved hW.alike hK, hD⟩, hS.F ht⟩) hS.2.2 dX1_init_54
def mgA (h : Nat) (a1 a2 : Nat → Nat) : Nat → Nat := fun j => if j = 0 then h else if j = 1 ∨ (3 ≤ j ∧ j < 16) then a1 j else a2 j
def jsA : List Nat := [0] ++ (js0 ++ js1)
theorem jsA_all : ∀ j, j < 56 → j ∈ jsA := by decide +kernel
theorem gL_W {w : GP} {f : CS} {D : va_G} {cl : List vw_C} {H : Heap} (h : va_P D cl (gL w f jsA) H) : va_P D cl (gW w f) H := by
  intro k q hq
  obtain ⟨hk, rfl⟩ := gW_of hq
  obtain ⟨i, hi⟩ := List.getElem?_of_mem (jsA_all k hk)
  exact h i _ (by unfold gL; rw [List.getElem?_map, hi]; rfl)
theorem gL_D {w : GP} {f : CS} {A : Nat → Prop} (h : va_D A (gL w f jsA)) : va_D A (gW w f) := by
  refine ⟨fun i j p q hp hq hpq => ?_, fun k q hq => ?_⟩
  · obtain ⟨hi, rfl⟩ := gW_of hp
    obtain ⟨hj, rfl⟩ := gW_of hq
    obtain ⟨i2, hi2⟩ := List.getElem?_of_mem (jsA_all i hi)
    obtain ⟨j2, hj2⟩ := List.getElem?_of_mem (jsA_all j hj)
    have := h.1 i2 j2 _ _ (by unfold gL; rw [List.getElem?_map, hi2]; rfl) (by unfold gL; rw [List.getElem?_map, hj2]; rfl) hpq
    subst this
    rw [hi2] at hj2
    exact Option.some.inj hj2
  · obtain ⟨hk, rfl⟩ := gW_of hq
    obtain ⟨i, hi⟩ := List.getElem?_of_mem (jsA_all k hk)
    exact h.2 i (w.2.2.2 k, gE w f k) (by unfold gL; rw [List.getElem?_map, hi]; rfl)
theorem ok_X0_init : gOK yX0_init cX0_init 1 none 0 := ⟨gm_161, gm_25, by decide +kernel⟩
theorem ok_X1_init : gOK yX1_init cX1_init 2 none 1 := ⟨gm_164, gm_86, by decide +kernel⟩
theorem ok_X2_init : gOK yX2_init cX2_init 1 none 0 := ⟨gm_644, gm_18, by decide +kernel⟩
set_option maxRecDepth 100000 in
theorem gL_js0 {D : va_G} {cI cJ : ClassId} {h : Nat} {a1 a2 : Nat → Nat} (h1 : a2 1 = a1 1) : gL (D, cI, cJ, mgA h a1 a2) f0 js0 = gL (D, cI, cJ, a1) f0 js0 := by
  apply List.map_congr_left
  intro j hj
  have e : ∀ i, i < 3 → mgA h a1 a2 (13 + i) = a1 (13 + i) := fun i hi => by unfold mgA; rw [if_neg (by omega), if_pos (by omega)]
  have e12 : (fun i => if i < 3 then some (mgA h a1 a2 (13 + i)) else none) = (fun i => if i < 3 then some (a1 (13 + i)) else none) := by
    funext i; by_cases h3 : i < 3
    · rw [if_pos h3, if_pos h3, e i h3]
    · rw [if_neg h3, if_neg h3]
  simp only [js0, List.mem_cons, List.not_mem_nil, or_false] at hj
  rcases hj with rfl | rfl | rfl | rfl | rfl | rfl | rfl | rfl | rfl | rfl | rfl | rfl | rfl | rfl
  · rfl
  · rfl
  · rfl
  · rfl
  · rfl
  · rfl
  · rfl
  · rfl
  · rfl
  · rfl
  · refine Prod.ext rfl ?_; show Sum.inl _ = Sum.inl _; exact congrArg (fun z => Sum.inl (cJ, 3, Sum.inr (Sum.inr (Sum.inr (Sum.inr z))))) e12
  · rfl
  · rfl
  · rfl
set_option maxRecDepth 100000 in
theorem gL_js1 {D : va_G} {cI cJ : ClassId} {h : Nat} {a1 a2 : Nat → Nat} (h1 : a2 1 = a1 1) : gL (D, cI, cJ, mgA h a1 a2) f0 js1 = gL (D, cI, cJ, a2) f0 js1 := by
  apply List.map_congr_left
  intro j hj
  have e : ∀ b i, (b = 19 ∨ b = 38) → i < 18 → mgA h a1 a2 (b + i) = a2 (b + i) := fun b i hb hi => by unfold mgA; rw [if_neg (by omega), if_neg (by omega)]
  have e18 : (fun i => if i < 18 then some (mgA h a1 a2 (19 + i)) else none) = (fun i => if i < 18 then some (a2 (19 + i)) else none) := by
    funext i; by_cases h3 : i < 18
    · rw [if_pos h3, if_pos h3, e 19 i (by omega) h3]
    · rw [if_neg h3, if_neg h3]
  have e37 : (fun i => if i < 18 then some (mgA h a1 a2 (38 + i)) else none) = (fun i => if i < 18 then some (a2 (38 + i)) else none) := by
    funext i; by_cases h3 : i < 18
    · rw [if_pos h3, if_pos h3, e 38 i (by omega) h3]
    · rw [if_neg h3, if_neg h3]
  simp only [js1, List.mem_cons, List.not_mem_nil, or_false] at hj
  rcases hj with rfl | rfl | rfl | rfl | rfl | rfl | rfl | rfl | rfl | rfl | rfl | rfl | rfl | rfl | rfl | rfl | rfl | rfl | rfl | rfl | rfl | rfl | rfl | rfl | rfl | rfl | rfl | rfl | rfl | rfl | rfl | rfl | rfl | rfl | rfl | rfl | rfl | rfl | rfl | rfl | rfl
  · refine Prod.ext rfl ?_; show Sum.inr (1, [Value.ref (a1 1), _, _, _, _, _]) = Sum.inr (1, [Value.ref (a2 1), _, _, _, _, _]); rw [h1]; rfl
  · rfl
  · rfl
  · refine Prod.ext rfl ?_; show Sum.inl _ = Sum.inl _; exact congrArg (fun z => Sum.inl (cJ, 18, Sum.inr (Sum.inr (Sum.inr (Sum.inr z))))) e18
  · rfl
  · rfl
  · rfl
  · rfl
  · rfl
  · rfl
  · rfl
  · rfl
  · rfl
  · rfl
  · rfl
  · rfl
  · rfl
  · rfl
  · rfl
  · rfl
  · rfl
  · rfl
  · refine Prod.ext rfl ?_; show Sum.inl _ = Sum.inl _; exact congrArg (fun z => Sum.inl (cJ, 18, Sum.inr (Sum.inr (Sum.inr (Sum.inr z))))) e37
  · rfl
  · rfl
  · rfl
  · rfl
  · rfl
  · rfl
  · rfl
  · rfl
  · rfl
  · rfl
  · rfl
  · rfl
  · rfl
  · rfl
  · rfl
  · rfl
  · rfl
  · rfl
set_option maxHeartbeats 4000000 in
set_option maxRecDepth 100000 in
theorem c_X2_init (l : Launch) (D : va_G) (h sz : Nat) : Met l yX2_init (gws yX2_init cX2_init 1 none) ({ frames := 2, cells := 55, slots := 789, locals := 33 }) (va_Pc [.ref h] (fun U => U.heap.size = sz ∧ va_P D gcl [(h, .inr (2, [.null, .null, .int 0]))] U.heap ∧ va_K D gcl [] U ∧ va_D (fun _ => True) [(h, .inr (2, [.null, .null, .int 0]))] ∧ va_AOA .int U ∧ va_Nw (.methodLinkNest RX2 11 yX0_init "GlossaryCrown") U ∧ va_Nw (.methodLinkNest RX0 51 yX2_has "GlossaryCrown") U ∧ va_Nw (.methodLinkNest RX1 65 yX2_has "GlossaryCrown") U)) (va_Qv (fun w : GP => w.1 = D ∧ w.2.2.2 0 = h) (fun w t => GV w t f0 t.heap ∧ va_D (va_A [(h, .inr (2, [.null, .null, .int 0]))] sz) (gW w f0)) (va_A [(h, .inr (2, [.null, .null, .int 0]))] sz)) 55 789 (va_A [(h, .inr (2, [.null, .null, .int 0]))] sz) := by
  refine Met.ofW (cc := cX2_init) (maxL := 1) (ret := none) (by decide) rfl ?_
  intro p e s m args below meth c s₁ B hml hv
  obtain ⟨rfl, hsz, hP, hK, hD0, hover, hn0, hn1, hn2⟩ := hv
  have hx := B.exec
  have hb := B.bytes
  have hr := B.returns
  have hts : ∀ v ∈ gw, v.before _ s = true := fun v hv => atoms_spec (ws := gws yX2_init cX2_init 1 none) B.pre v (List.mem_cons_of_mem _ hv)
  have hown : s.vm.findClass RX2 = some m.cls := findClass_of_methodNamed B.named
  have hlocks := B.notSynchronized
  have hin : meth.name = "<init>" := (name_of_methodNamed B.named B.method).1
  subst hsz
  have hD := hD0.self (sz := s.heap.size)
  generalize hAe : va_A [(h, .inr (2, [.null, .null, .int 0]))] s.heap.size = A at hD ⊢
  have hA : ∀ q : Nat, s.heap.size ≤ q → A q := fun q h => by rw [← hAe]; exact Or.inr h
  have hS : va_S A s.heap s.heap [] := va_S.rf
  have hP : va_P D gcl [(h, .inr (2, [.null, .null, .int 0]))] s.heap := hP
  have hl := lv_entry ([.ref h]) (n := 1) (Nat.le_of_ble_eq_true rfl)
  rw [lg_entry_eq]
  generalize (lg_sl ([.ref h]) ++ List.replicate (1 - (lg_sl ([.ref h])).length) Slot.unset).toArray = ls at hl ⊢
  have hl : lv_has ls 1 [(0, .ref h)] := hl
  refine lv_aload_n hx hb dX2_init_0 rfl (lv_at hl 0 rfl) ?_
  refine W.objInit hx hb hown (hts _ gm_152) (hts _ gm_1) (hts _ gm_2) rfl (by rw [hml]; exact hl.1) rfl dX2_init_1 (Nat.le_of_ble_eq_true rfl) (Nat.le_of_ble_eq_true rfl) ?_
  refine W.eq (g2 := F0 m 4 ls []) rfl ?_
  refine lv_aload_n hx hb dX2_init_4 rfl (lv_at hl 0 rfl) ?_
  refine va_new (ci := 0) (fs := oX0) (C := RX0) (T := TX0) (N := 12) hx hb hts gin0 tyX0 tyX0_ok hown (hts _ gm_153) (hts _ gm_154) (hts _ gm_25) hK hP hD hS hA rfl (fun j hj => by rcases (show j = 0 ∨ j = 1 ∨ j = 2 ∨ j = 3 ∨ j = 4 ∨ j = 5 ∨ j = 6 ∨ j = 7 ∨ j = 8 ∨ j = 9 ∨ j = 10 ∨ j = 11 by omega) with rfl | rfl | rfl | rfl | rfl | rfl | rfl | rfl | rfl | rfl | rfl | rfl <;> rfl) (Nat.le_of_ble_eq_true rfl) (Nat.le_of_ble_eq_true rfl) dX2_init_5 (fun qT H hP hD hS => ?_)
  have hP : va_P D gcl ([(h, .inr (2, [.null, .null, .int 0])), (qT, .inr (0, oX0))]) H := hP
  have hD : va_D A ([(h, .inr (2, [.null, .null, .int 0])), (qT, .inr (0, oX0))]) := hD
  refine W.widen (k := 1) (n := 12) (by omega) (by omega) ?_
  refine lv_dup hx hb dX2_init_8 rfl ?_
  have hPc := hP.sub (ws' := [(qT, .inr (0, oX0))]) [1] rfl
  have hDc := hD.sub (ws' := [(qT, .inr (0, oX0))]) [1] (by decide) rfl
  have hKc := hK.sub (tys' := []) [] rfl
  have hFc := va_free (wc := [(qT, .inr (0, oX0))]) hD hS hA [1] rfl
  refine va_callv (va_runIN (As := []) (rest := [.ref qT, .ref h]) ⟨hx, hb, hml, hown, hts⟩ (c_X0_init l D qT H.size) ⟨g_cn hts ok_X0_init hn0 rfl rfl ⟨Nat.le_of_ble_eq_true rfl, Nat.le_of_ble_eq_true rfl⟩, rfl, hts _ gm_160⟩ ⟨fun a U g mk q => by obtain ⟨q0, q1, q2, q3, q4, q5⟩ := q; exact ⟨q0, q1, q2, va_K.moved (u := U) (U := U.calling g mk a) (Vm.Alike.refl U.vm) q3, q4, q5.same rfl⟩, fun U hU hW => ⟨rfl, by rw [hU], by rw [hU]; exact hPc, va_K.moved hW.alike hKc, hDc.weaken (fun _ _ _ _ => trivial), hover.warm hW⟩⟩ rfl rfl hl.1 rfl (lv_room (Nat.le_of_ble_eq_true rfl)) dX2_init_9 ⟨Nat.le_of_ble_eq_true rfl, Nat.le_of_ble_eq_true rfl⟩) hS (fun q _ h => hFc q h) hFc (fun w1 t H1 locs ht hvm hw hB hz1 hk1 hS => ?_)
  obtain ⟨D1, cI, cJ, ad1⟩ := w1
  obtain ⟨hP1, hK1, hD1⟩ := hB
  rw [ht] at hP1
  obtain ⟨hw0, hwT⟩ := hw
  have hw0 : D = D1 := Eq.symm hw0
  subst hw0
  have hwT : ad1 1 = qT := hwT
  have hK1 := va_K.moved hvm.symm hK1
  obtain ⟨hP, hD⟩ := va_join (wr := [(h, .inr (2, [.null, .null, .int 0]))]) (w1 := gL (D, cI, cJ, ad1) f0 js0) hP hD [1] [0] rfl rfl (by decide) (by decide) hk1 hFc hP1 hD1
  have hK : va_K D gcl [(cI, .int), (cJ, .array .int)] s := hK1
  generalize H1 = H at hP hS ⊢
  have hP : va_P D gcl ((h, .inr (2, [.null, .null, .int 0])) :: (gL (D, cI, cJ, ad1) f0 js0)) H := hP
  have hD : va_D A ((h, .inr (2, [.null, .null, .int 0])) :: (gL (D, cI, cJ, ad1) f0 js0)) := hD
  refine va_putF (D := D) (ci := 2) (v := .ref qT) (ty := .object "GlossaryCrown$Terms") (C := RX2) (T := TX2) (N := 3) hx hb hts gin2 tyX2 tyX2_ok nmX2 hown hK hP hD hS 0 rfl rfl 0 (by decide) (hts _ gm_155) (fun _ h9 => h9) rfl hin rfl (by decide +kernel) rfl rfl (Nat.le_of_ble_eq_true rfl) dX2_init_12 (fun H locs hP hD hS => ?_)
  have hP : va_P D gcl ((h, .inr (2, [.ref qT, .null, .int 0])) :: (gL (D, cI, cJ, ad1) f0 js0)) H := hP
  have hD : va_D A ((h, .inr (2, [.ref qT, .null, .int 0])) :: (gL (D, cI, cJ, ad1) f0 js0)) := hD
  refine lv_aload_n hx hb dX2_init_15 rfl (lv_at hl 0 rfl) ?_
  refine va_new (ci := 1) (fs := oX1) (C := RX1) (T := TX1) (N := 6) hx hb hts gin1 tyX1 tyX1_ok hown (hts _ gm_156) (hts _ gm_157) (hts _ gm_86) hK hP hD hS hA rfl (fun j hj => by rcases (show j = 0 ∨ j = 1 ∨ j = 2 ∨ j = 3 ∨ j = 4 ∨ j = 5 by omega) with rfl | rfl | rfl | rfl | rfl | rfl <;> rfl) (Nat.le_of_ble_eq_true rfl) (Nat.le_of_ble_eq_true rfl) dX2_init_16 (fun qX H hP hD hS => ?_)
  have hP : va_P D gcl ((h, .inr (2, [.ref qT, .null, .int 0])) :: (gL (D, cI, cJ, ad1) f0 js0 ++ [(qX, .inr (1, oX1))])) H := hP
  have hD : va_D A ((h, .inr (2, [.ref qT, .null, .int 0])) :: (gL (D, cI, cJ, ad1) f0 js0 ++ [(qX, .inr (1, oX1))])) := hD
  refine lv_dup hx hb dX2_init_19 rfl ?_
  refine lv_aload_n hx hb dX2_init_20 rfl (lv_at hl 0 rfl) ?_
  refine va_get (D := D) (ci := 2) (v := .ref qT) (C := RX2) (T := TX2) (N := 3) hx hb hts gin2 hown hK hP 0 rfl rfl 0 (by decide) (hts _ gm_155) (fun _ h9 => h9) rfl dX2_init_21 ?_
  have hPc := hP.sub (ws' := [(qX, .inr (1, oX1))]) [15] rfl
  have hDc := hD.sub (ws' := [(qX, .inr (1, oX1))]) [15] (by decide) rfl
  have hKc := hK.sub (tys' := []) [] rfl
  have hFc := va_free (wc := [(qX, .inr (1, oX1))]) hD hS hA [15] rfl
  refine va_callv (va_runI (As := [.ref qT]) (rest := [.ref qX, .ref h]) ⟨hx, hb, hml, hown, hts⟩ (c_X1_init l D qX qT H.size) ⟨g_cb hts ok_X1_init gm_162 rfl rfl ⟨Nat.le_of_ble_eq_true rfl, Nat.le_of_ble_eq_true rfl⟩, rfl, hts _ gm_163⟩ ⟨fun a U g mk q => by obtain ⟨q0, q1, q2, q3, q4, q5⟩ := q; exact ⟨q0, q1, q2, va_K.moved (u := U) (U := U.calling g mk a) (Vm.Alike.refl U.vm) q3, q4, q5.same rfl⟩, fun U hU hW => ⟨rfl, by rw [hU], by rw [hU]; exact hPc, va_K.moved hW.alike hKc, hDc.weaken (fun _ _ _ _ => trivial), hover.warm hW⟩⟩ rfl rfl hl.1 rfl (lv_room (Nat.le_of_ble_eq_true rfl)) dX2_init_24 ⟨Nat.le_of_ble_eq_true rfl, Nat.le_of_ble_eq_true rfl⟩) hS (fun q _ h => hFc q h) hFc (fun w2 t H1 locs ht hvm hw hB hz1 hk1 hS => ?_)
  obtain ⟨D2, cI2, cJ2, ad2⟩ := w2
  obtain ⟨hP1, hK1, hD1⟩ := hB
  rw [ht] at hP1
  obtain ⟨hw0, hwX, hw2⟩ := hw
  have hw0 : D = D2 := Eq.symm hw0
  subst hw0
  have hwX : ad2 2 = qX := hwX
  have hw2 : ad2 1 = qT := hw2
  have hK1 := va_K.moved hvm.symm hK1
  have ec : cI2 = cI := Option.some.inj ((show s.vm.findClass _ = some cI2 from (hK1.2 0 _ rfl).2).symm.trans (show s.vm.findClass _ = some cI from (hK.2 0 _ rfl).2))
  have ed : cJ2 = cJ := Option.some.inj ((show s.vm.findClass _ = some cJ2 from (hK1.2 1 _ rfl).2).symm.trans (show s.vm.findClass _ = some cJ from (hK.2 1 _ rfl).2))
  have ec := ec.symm
  have ed := ed.symm
  subst ec
  subst ed
  obtain ⟨hP, hD⟩ := va_join (wr := (h, .inr (2, [.ref qT, .null, .int 0])) :: (gL (D, cI, cJ, ad1) f0 js0)) (w1 := gL (D, cI, cJ, ad2) f0 js1) hP hD [15] [0, 1, 2, 3, 4, 5, 6, 7, 8, 9, 10, 11, 12, 13, 14] rfl rfl (by decide) (by decide) hk1 hFc hP1 hD1
  generalize H1 = H at hP hS ⊢
  have hP : va_P D gcl ((h, .inr (2, [.ref qT, .null, .int 0])) :: (gL (D, cI, cJ, ad1) f0 js0 ++ gL (D, cI, cJ, ad2) f0 js1)) H := hP
  have hD : va_D A ((h, .inr (2, [.ref qT, .null, .int 0])) :: (gL (D, cI, cJ, ad1) f0 js0 ++ gL (D, cI, cJ, ad2) f0 js1)) := hD
  refine va_putF (D := D) (ci := 2) (v := .ref qX) (ty := .object "GlossaryCrown$Texts") (C := RX2) (T := TX2) (N := 3) hx hb hts gin2 tyX2 tyX2_ok nmX2 hown hK hP hD hS 0 rfl rfl 1 (by decide) (hts _ gm_158) (fun _ h9 => h9) rfl hin rfl (by decide +kernel) rfl rfl (Nat.le_of_ble_eq_true rfl) dX2_init_27 (fun H locs hP hD hS => ?_)
  have hP : va_P D gcl ((h, .inr (2, [.ref qT, .ref qX, .int 0])) :: (gL (D, cI, cJ, ad1) f0 js0 ++ gL (D, cI, cJ, ad2) f0 js1)) H := hP
  have hD : va_D A ((h, .inr (2, [.ref qT, .ref qX, .int 0])) :: (gL (D, cI, cJ, ad1) f0 js0 ++ gL (D, cI, cJ, ad2) f0 js1)) := hD
  refine lv_aload_n hx hb dX2_init_30 rfl (lv_at hl 0 rfl) ?_
  refine lv_iconst (v := 0) hx hb dX2_init_31 (by decide) ?_
  refine va_put (D := D) (ci := 2) (v := .int 0) (ty := .int) (C := RX2) (T := TX2) (N := 3) hx hb hts gin2 tyX2 tyX2_ok nmX2 hown hK hP hD hS 0 rfl rfl 2 (by decide) (hts _ gm_159) (fun _ h9 => h9) rfl (by decide +kernel) rfl rfl (Nat.le_of_ble_eq_true rfl) dX2_init_32 (fun H locs hP hD hS => ?_)
  have hP : va_P D gcl ((h, .inr (2, [.ref qT, .ref qX, .int 0])) :: (gL (D, cI, cJ, ad1) f0 js0 ++ gL (D, cI, cJ, ad2) f0 js1)) H := hP
  have hD : va_D A ((h, .inr (2, [.ref qT, .ref qX, .int 0])) :: (gL (D, cI, cJ, ad1) f0 js0 ++ gL (D, cI, cJ, ad2) f0 js1)) := hD
  have eW : (h, .inr (2, [.ref qT, .ref qX, .int 0])) :: (gL (D, cI, cJ, ad1) f0 js0 ++ gL (D, cI, cJ, ad2) f0 js1) = gL (D, cI, cJ, mgA h ad1 ad2) f0 jsA := by
    rw [← hwT, ← hwX]
    show _ = (h, _) :: ((js0 ++ js1).map _)
    rw [List.map_append]
    have h1 := gL_js0 (D := D) (cI := cI) (cJ := cJ) (h := h) (Eq.trans hw2 hwT.symm)
    have h2 := gL_js1 (D := D) (cI := cI) (cJ := cJ) (h := h) (Eq.trans hw2 hwT.symm)
    unfold gL at h1 h2 ⊢
    rw [h1, h2]
    rfl
  rw [eW] at hP hD
  subst hAe
  exact W.vret hx hb hr (fun t9 ht hW => ⟨⟨(D, cI, cJ, mgA h ad1 ad2), rfl, ⟨rfl, rfl⟩, ⟨⟨va_K.moved hW.alike hK, va_Nw.warmM hW hn1, va_Nw.warmM hW hn2⟩, by rw [ht]; exact gL_W hP, (gL_D hD).weaken (fun _ _ _ _ => trivial)⟩, gL_D hD⟩, hS.F ht⟩) hS.2.2 dX2_init_35
