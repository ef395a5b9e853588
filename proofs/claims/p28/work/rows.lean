section
-- ===== PART A: goes FIRST, ahead of the names: the tables' words, and 'selects' of the private methods out of them =====
/-- a private method of a class that the tables say can be made, by its rows of tables_1 -/
def lw_okq (q : MethodName × Nat) : Prop := (q.1.cls ≠ "java/lang/invoke/MethodHandle" ∧ q.1.cls ≠ "java/lang/invoke/VarHandle") ∧ Cond.instantiable q.1.cls q.2 ∈ tables_1 ∧ Cond.privateMethod q.1 ∈ tables_1 ∧ Cond.instanceMethod q.1 ∈ tables_1
theorem lw_p0 : lw_okq (⟨"GlossaryCrown", "requireDomain", "(I)V"⟩, 3) := ⟨⟨by decide +kernel, by decide +kernel⟩, List.mem_of_getElem? (i := 15) (by decide +kernel), List.mem_of_getElem? (i := 126) (by decide +kernel), List.mem_of_getElem? (i := 127) (by decide +kernel)⟩
theorem lw_p1 : lw_okq (⟨"java/lang/Throwable", "fillInStackTrace", "(I)Ljava/lang/Throwable;"⟩, 6) := ⟨⟨by decide +kernel, by decide +kernel⟩, List.mem_of_getElem? (i := 168) (by decide +kernel), List.mem_of_getElem? (i := 166) (by decide +kernel), List.mem_of_getElem? (i := 167) (by decide +kernel)⟩
theorem lw_p2 : lw_okq (⟨"GlossaryCrown", "requireRoomForConcept", "()V"⟩, 3) := ⟨⟨by decide +kernel, by decide +kernel⟩, List.mem_of_getElem? (i := 15) (by decide +kernel), List.mem_of_getElem? (i := 198) (by decide +kernel), List.mem_of_getElem? (i := 199) (by decide +kernel)⟩
theorem lw_p3 : lw_okq (⟨"GlossaryCrown", "requireConcept", "(I)V"⟩, 3) := ⟨⟨by decide +kernel, by decide +kernel⟩, List.mem_of_getElem? (i := 15) (by decide +kernel), List.mem_of_getElem? (i := 226) (by decide +kernel), List.mem_of_getElem? (i := 227) (by decide +kernel)⟩
theorem lw_p4 : lw_okq (⟨"GlossaryCrown", "requireLanguage", "(I)V"⟩, 3) := ⟨⟨by decide +kernel, by decide +kernel⟩, List.mem_of_getElem? (i := 15) (by decide +kernel), List.mem_of_getElem? (i := 250) (by decide +kernel), List.mem_of_getElem? (i := 251) (by decide +kernel)⟩
theorem lw_p5 : lw_okq (⟨"GlossaryCrown", "requireWhat", "(II)V"⟩, 3) := ⟨⟨by decide +kernel, by decide +kernel⟩, List.mem_of_getElem? (i := 15) (by decide +kernel), List.mem_of_getElem? (i := 278) (by decide +kernel), List.mem_of_getElem? (i := 279) (by decide +kernel)⟩
theorem lw_p6 : lw_okq (⟨"GlossaryCrown", "digestTerms", "(J)J"⟩, 3) := ⟨⟨by decide +kernel, by decide +kernel⟩, List.mem_of_getElem? (i := 15) (by decide +kernel), List.mem_of_getElem? (i := 321) (by decide +kernel), List.mem_of_getElem? (i := 322) (by decide +kernel)⟩
theorem lw_p7 : lw_okq (⟨"GlossaryCrown", "requireTerm", "(I)V"⟩, 3) := ⟨⟨by decide +kernel, by decide +kernel⟩, List.mem_of_getElem? (i := 15) (by decide +kernel), List.mem_of_getElem? (i := 329) (by decide +kernel), List.mem_of_getElem? (i := 330) (by decide +kernel)⟩
theorem lw_p8 : lw_okq (⟨"GlossaryCrown$Texts", "hasApprovedUseOf", "(II)Z"⟩, 6) := ⟨⟨by decide +kernel, by decide +kernel⟩, List.mem_of_getElem? (i := 82) (by decide +kernel), List.mem_of_getElem? (i := 356) (by decide +kernel), List.mem_of_getElem? (i := 357) (by decide +kernel)⟩
theorem lw_p9 : lw_okq (⟨"GlossaryCrown$Texts", "approvedIn", "(I)I"⟩, 6) := ⟨⟨by decide +kernel, by decide +kernel⟩, List.mem_of_getElem? (i := 82) (by decide +kernel), List.mem_of_getElem? (i := 360) (by decide +kernel), List.mem_of_getElem? (i := 361) (by decide +kernel)⟩
theorem lw_p10 : lw_okq (⟨"GlossaryCrown", "digestConcepts", "(J)J"⟩, 3) := ⟨⟨by decide +kernel, by decide +kernel⟩, List.mem_of_getElem? (i := 15) (by decide +kernel), List.mem_of_getElem? (i := 364) (by decide +kernel), List.mem_of_getElem? (i := 365) (by decide +kernel)⟩
theorem lw_p11 : lw_okq (⟨"GlossaryCrown", "digestTexts", "(J)J"⟩, 3) := ⟨⟨by decide +kernel, by decide +kernel⟩, List.mem_of_getElem? (i := 15) (by decide +kernel), List.mem_of_getElem? (i := 381) (by decide +kernel), List.mem_of_getElem? (i := 382) (by decide +kernel)⟩
theorem lw_p12 : lw_okq (⟨"GlossaryCrown", "requireText", "(II)I"⟩, 3) := ⟨⟨by decide +kernel, by decide +kernel⟩, List.mem_of_getElem? (i := 15) (by decide +kernel), List.mem_of_getElem? (i := 390) (by decide +kernel), List.mem_of_getElem? (i := 391) (by decide +kernel)⟩
theorem lw_p13 : lw_okq (⟨"GlossaryCrown", "requireDocument", "(I)V"⟩, 3) := ⟨⟨by decide +kernel, by decide +kernel⟩, List.mem_of_getElem? (i := 15) (by decide +kernel), List.mem_of_getElem? (i := 394) (by decide +kernel), List.mem_of_getElem? (i := 395) (by decide +kernel)⟩
theorem lw_p14 : lw_okq (⟨"GlossaryCrown$Texts", "isUseInState", "(III)Z"⟩, 6) := ⟨⟨by decide +kernel, by decide +kernel⟩, List.mem_of_getElem? (i := 82) (by decide +kernel), List.mem_of_getElem? (i := 404) (by decide +kernel), List.mem_of_getElem? (i := 405) (by decide +kernel)⟩
theorem lw_p15 : lw_okq (⟨"GlossaryCrown", "requirePlace", "(II)V"⟩, 3) := ⟨⟨by decide +kernel, by decide +kernel⟩, List.mem_of_getElem? (i := 15) (by decide +kernel), List.mem_of_getElem? (i := 434) (by decide +kernel), List.mem_of_getElem? (i := 435) (by decide +kernel)⟩
def lw_privs_1 : List (MethodName × Nat) := [(⟨"GlossaryCrown", "requireDomain", "(I)V"⟩, 3), (⟨"java/lang/Throwable", "fillInStackTrace", "(I)Ljava/lang/Throwable;"⟩, 6), (⟨"GlossaryCrown", "requireRoomForConcept", "()V"⟩, 3), (⟨"GlossaryCrown", "requireConcept", "(I)V"⟩, 3), (⟨"GlossaryCrown", "requireLanguage", "(I)V"⟩, 3), (⟨"GlossaryCrown", "requireWhat", "(II)V"⟩, 3), (⟨"GlossaryCrown", "digestTerms", "(J)J"⟩, 3), (⟨"GlossaryCrown", "requireTerm", "(I)V"⟩, 3), (⟨"GlossaryCrown$Texts", "hasApprovedUseOf", "(II)Z"⟩, 6), (⟨"GlossaryCrown$Texts", "approvedIn", "(I)I"⟩, 6), (⟨"GlossaryCrown", "digestConcepts", "(J)J"⟩, 3), (⟨"GlossaryCrown", "digestTexts", "(J)J"⟩, 3), (⟨"GlossaryCrown", "requireText", "(II)I"⟩, 3), (⟨"GlossaryCrown", "requireDocument", "(I)V"⟩, 3), (⟨"GlossaryCrown$Texts", "isUseInState", "(III)Z"⟩, 6), (⟨"GlossaryCrown", "requirePlace", "(II)V"⟩, 3)]
theorem lw_r1 : ∀ q ∈ lw_privs_1, lw_okq q := List.forall_mem_cons.mpr ⟨lw_p0, List.forall_mem_cons.mpr ⟨lw_p1, List.forall_mem_cons.mpr ⟨lw_p2, List.forall_mem_cons.mpr ⟨lw_p3, List.forall_mem_cons.mpr ⟨lw_p4, List.forall_mem_cons.mpr ⟨lw_p5, List.forall_mem_cons.mpr ⟨lw_p6, List.forall_mem_cons.mpr ⟨lw_p7, List.forall_mem_cons.mpr ⟨lw_p8, List.forall_mem_cons.mpr ⟨lw_p9, List.forall_mem_cons.mpr ⟨lw_p10, List.forall_mem_cons.mpr ⟨lw_p11, List.forall_mem_cons.mpr ⟨lw_p12, List.forall_mem_cons.mpr ⟨lw_p13, List.forall_mem_cons.mpr ⟨lw_p14, List.forall_mem_cons.mpr ⟨lw_p15, fun _ h => absurd h List.not_mem_nil⟩⟩⟩⟩⟩⟩⟩⟩⟩⟩⟩⟩⟩⟩⟩⟩
theorem lw_p16 : lw_okq (⟨"GlossaryCrown$Texts", "conceptsIn", "(I)I"⟩, 6) := ⟨⟨by decide +kernel, by decide +kernel⟩, List.mem_of_getElem? (i := 82) (by decide +kernel), List.mem_of_getElem? (i := 447) (by decide +kernel), List.mem_of_getElem? (i := 448) (by decide +kernel)⟩
theorem lw_p17 : lw_okq (⟨"GlossaryCrown", "requireDays", "(I)V"⟩, 3) := ⟨⟨by decide +kernel, by decide +kernel⟩, List.mem_of_getElem? (i := 15) (by decide +kernel), List.mem_of_getElem? (i := 455) (by decide +kernel), List.mem_of_getElem? (i := 456) (by decide +kernel)⟩
theorem lw_p18 : lw_okq (⟨"GlossaryCrown$Terms", "makeKnown", "(III)V"⟩, 12) := ⟨⟨by decide +kernel, by decide +kernel⟩, List.mem_of_getElem? (i := 23) (by decide +kernel), List.mem_of_getElem? (i := 498) (by decide +kernel), List.mem_of_getElem? (i := 499) (by decide +kernel)⟩
theorem lw_p19 : lw_okq (⟨"GlossaryCrown", "readAnew", "()V"⟩, 3) := ⟨⟨by decide +kernel, by decide +kernel⟩, List.mem_of_getElem? (i := 15) (by decide +kernel), List.mem_of_getElem? (i := 502) (by decide +kernel), List.mem_of_getElem? (i := 503) (by decide +kernel)⟩
theorem lw_p20 : lw_okq (⟨"GlossaryCrown$Texts", "supportFor", "(IIIII)I"⟩, 6) := ⟨⟨by decide +kernel, by decide +kernel⟩, List.mem_of_getElem? (i := 82) (by decide +kernel), List.mem_of_getElem? (i := 517) (by decide +kernel), List.mem_of_getElem? (i := 518) (by decide +kernel)⟩
theorem lw_p21 : lw_okq (⟨"GlossaryCrown$Texts", "reopen", "(I)V"⟩, 6) := ⟨⟨by decide +kernel, by decide +kernel⟩, List.mem_of_getElem? (i := 82) (by decide +kernel), List.mem_of_getElem? (i := 536) (by decide +kernel), List.mem_of_getElem? (i := 537) (by decide +kernel)⟩
theorem lw_p22 : lw_okq (⟨"GlossaryCrown", "requireTwoConcepts", "(II)V"⟩, 3) := ⟨⟨by decide +kernel, by decide +kernel⟩, List.mem_of_getElem? (i := 15) (by decide +kernel), List.mem_of_getElem? (i := 576) (by decide +kernel), List.mem_of_getElem? (i := 577) (by decide +kernel)⟩
def lw_privs_2 : List (MethodName × Nat) := [(⟨"GlossaryCrown$Texts", "conceptsIn", "(I)I"⟩, 6), (⟨"GlossaryCrown", "requireDays", "(I)V"⟩, 3), (⟨"GlossaryCrown$Terms", "makeKnown", "(III)V"⟩, 12), (⟨"GlossaryCrown", "readAnew", "()V"⟩, 3), (⟨"GlossaryCrown$Texts", "supportFor", "(IIIII)I"⟩, 6), (⟨"GlossaryCrown$Texts", "reopen", "(I)V"⟩, 6), (⟨"GlossaryCrown", "requireTwoConcepts", "(II)V"⟩, 3)]
theorem lw_r2 : ∀ q ∈ lw_privs_2, lw_okq q := List.forall_mem_cons.mpr ⟨lw_p16, List.forall_mem_cons.mpr ⟨lw_p17, List.forall_mem_cons.mpr ⟨lw_p18, List.forall_mem_cons.mpr ⟨lw_p19, List.forall_mem_cons.mpr ⟨lw_p20, List.forall_mem_cons.mpr ⟨lw_p21, List.forall_mem_cons.mpr ⟨lw_p22, fun _ h => absurd h List.not_mem_nil⟩⟩⟩⟩⟩⟩⟩
def lw_privs : List (MethodName × Nat) := lw_privs_1 ++ (lw_privs_2)
def lw_tbl : List Cond := k2_sels lw_privs ++ tables_1
theorem lw_privs_ok : ∀ q ∈ lw_privs, lw_okq q := by
  show ∀ q ∈ lw_privs_1 ++ (lw_privs_2), lw_okq q
  exact List.forall_mem_append.mpr ⟨lw_r1, lw_r2⟩
/-- the streams that the claim lets the run draw from -/
abbrev lw_cs : List Choice := [Jvm.Choice.named "NaN.bits", Jvm.Choice.named "NaN.copy"]
theorem lw_bits : nanBits ∈ lw_cs := by first | decide | exact List.mem_cons_self | simp [lw_cs, nanBits]
-- ===== end of PART A; then your names; then what follows =====
/-! ===== BEGIN words of one list among another's, by their places ===== -/
theorem goodIn_r {big : List Cond} (ws : List Cond) (ps : List Nat) (hp : ws = ps.filterMap (fun i => big[i]?)) (h : ws.all goodWord = true) : GoodIn big ws := by
  intro w hw
  have h1 := List.all_eq_true.mp h w hw
  rw [hp] at hw
  obtain ⟨i, -, hi⟩ := List.mem_filterMap.mp hw
  have hm : w ∈ big := by first | exact List.mem_of_getElem? hi | exact List.getElem?_mem hi
  exact ⟨hm, good_of_word h1⟩
theorem goodIn_app {big a b : List Cond} (ha : GoodIn big a) (hb : GoodIn big b) : GoodIn big (a ++ b) := fun w h => (List.mem_append.mp h).elim (ha w) (hb w)
theorem goodIn_ca {big a b : List Cond} {c : Cond} (ha : GoodIn big (c :: a)) (hb : GoodIn big b) : GoodIn big (c :: (a ++ b)) := fun w h => (List.mem_cons.mp h).elim (fun e => ha w (List.mem_cons.mpr (Or.inl e))) (fun h => (List.mem_append.mp h).elim (fun h => ha w (List.mem_cons.mpr (Or.inr h))) (hb w))
theorem goodIn_sub {big ws : List Cond} (hm : ∀ w ∈ ws, w ∈ big) (h : ws.all goodWord = true) : GoodIn big ws := fun w hw => ⟨hm w hw, good_of_word (List.all_eq_true.mp h w hw)⟩
/-! ===== END ===== -/

/-- the printed names speak of this word and no kit text has it: our own -/
def va_AOA (ty : FieldType) (U : State) : Prop := (Cond.arrayOver (.array ty)).before #[] U = true
theorem va_AOA.use {ty : FieldType} {A : Array Value} {U : State} (h : va_AOA ty U) : (Cond.arrayOver (.array ty)).before A U = true := h
/-! ===== BEGIN new T[n][m]: the outer array a place, the inner ones among the pooled ===== -/
/-- f, but v at every address of l -/
def vr_up {α : Type} (f : Nat → α) (l : List Nat) (v : α) : Nat → α := fun a => if a ∈ l then v else f a
theorem vr_up_in {α : Type} {f : Nat → α} {l : List Nat} {v : α} {a : Nat} (h : a ∈ l) : vr_up f l v a = v := if_pos h
theorem vr_up_ne {α : Type} {f : Nat → α} {l : List Nat} {v : α} {a : Nat} (h : a ∉ l) : vr_up f l v a = f a := if_neg h
theorem vr_rows {L l : List Nat} {f : Nat → va_E} {e : va_E} (h : ∀ a, a ∈ l → a ∉ L) : va_pl L f ++ l.map (fun a => (a, e)) = va_pl (L ++ l) (vr_up f l e) := by
  unfold va_pl
  rw [List.map_append]
  congr 1
  · apply List.map_congr_left
    intro a ha
    rw [vr_up_ne (fun q => h a q ha)]
  · apply List.map_congr_left
    intro a ha
    rw [vr_up_in ha]
theorem vr_lay {X rows : va_W} {x : Nat × va_E} {pl : va_W} {D : va_G} {cl : List vw_C} {H : Heap} (hP : va_P D cl (((X ++ pl) ++ [x]) ++ rows) H) : va_P D cl ((X ++ [x]) ++ (pl ++ rows)) H := by
  rw [List.append_assoc (X ++ pl)] at hP
  have h := va_P.swap hP
  rw [← List.append_assoc X] at h
  have h2 := va_P.swap h
  rw [List.append_assoc (X ++ [x])] at h2
  exact h2
theorem vr_layD {X rows : va_W} {x : Nat × va_E} {pl : va_W} {A : Nat → Prop} (hD : va_D A (((X ++ pl) ++ [x]) ++ rows)) : va_D A ((X ++ [x]) ++ (pl ++ rows)) := by
  rw [List.append_assoc (X ++ pl)] at hD
  have h := va_D.swap hD
  rw [← List.append_assoc X] at h
  have h2 := va_D.swap h
  rw [List.append_assoc (X ++ [x])] at h2
  exact h2
theorem vr_outer (c : ClassId) (N h0 : Nat) : ∀ i : Nat, Jvm.Free.Multi.outerC c N h0 i = arrV c N (fun j => va_rf (if j < i then some (h0 + 1 + j) else none))
  | 0 => by
    show ({ cls := c, slots := Array.replicate N .null, vm := .none } : Cell) = _
    rw [arrV_new]
    refine congrArg (arrV c N) (funext fun j => ?_)
    simp [va_rf]
  | i + 1 => by
    show (Jvm.Free.Multi.outerC c N h0 i).setSlot i (.ref (h0 + 1 + i)) = _
    rw [vr_outer c N h0 i, arrV_store]
    refine congrArg (arrV c N) (funext fun j => ?_)
    by_cases e : j = i
    · subst e
      simp [updV, va_rf]
    · by_cases h : j < i
      · simp [updV, e, h, Nat.lt_succ_of_lt h]
      · simp [updV, e, h, show ¬ j < i + 1 by omega]
section VGM
variable {p : Program} {l : Launch} {e : Env} {R : Room} {s : State} {m : MethodId} {args : Array Value} {below : List Frame} {meth : Method} {c : Code} {H : Heap} {locs : List Loc} {cells slots : Nat} {Q : State → Prop}
variable {cc : ByteArray} {pc : Nat} {ls : Array Slot} {rest : List Value} {D : va_G} {cl : List vw_C} {A : Nat → Prop} {a : Nat} {tys : List (ClassId × FieldType)} {ws : va_W} {H0 : Heap}
theorem va_mna {X : va_W} {L : List Nat} {f : Nat → va_E} {cc : ByteArray} (hexec : p.tables.exec = Jvm.exec) (hb : c.code = cc) {own : String} {index : Nat} {ty : FieldType} {cy : ClassId} (hown : s.vm.findClass own = some m.cls) (hclink : (Cond.classLink own index ("[" ++ (FieldType.array ty).toString)).before args s = true) (hover : va_AOA ty s) (harr : (Cond.arrayClass ty).before args s = true) (hcy : s.vm.findClass (FieldType.array ty).toString = some cy)
    (hK : va_K D cl tys s) (hP : va_P D cl (X ++ va_pl L f) H) (hD : va_D A (X ++ va_pl L f)) (hS : va_S A H0 H locs) (hA : ∀ q, H0.size ≤ q → A q) {n k : Int32} {N' K' : Nat} {z : vp_A} (hn : ¬ n < 0) (hk : ¬ k < 0) (hN : n.toNatClampNeg = N') (hM : k.toNatClampNeg = K')
    (hb1 : N' * 4 ≤ 536870912) (hb2 : K' * componentBytes ty ≤ 536870912) (hb3 : K' ≤ 536870912) (hdf : fits ty (defaultValue ty) = true) (hdd : (defaultValue ty).isDefault = true) (hcells : cells + (1 + N') ≤ R.cells) (hslots : slots + (N' + N' * K') ≤ R.slots) (hz : ∀ c : ClassId, Jvm.Free.Multi.innerC c K' (defaultValue ty) = vp_cell c z) (hdg : decode cc pc = .ok (.multianewarray index 2, 4))
    (kk : ∀ (q : Nat) (r : Nat → Nat) (cA : ClassId) (H1 : Heap), (∀ i j : Nat, i < N' → j < N' → r i = r j → i = j) → (∀ i : Nat, i < N' → r i ∉ L) → va_K D cl (tys ++ [(cA, .array ty)]) s →
      va_P D cl ((X ++ [(q, .inl (cA, N', .inr (.inr (.inr (.inr (fun i => if i < N' then some (r i) else none))))))]) ++ va_pl (L ++ (List.range N').map r) (vr_up f ((List.range N').map r) (.inl (cy, z)))) H1 → va_D A ((X ++ [(q, .inl (cA, N', .inr (.inr (.inr (.inr (fun i => if i < N' then some (r i) else none))))))]) ++ va_pl (L ++ (List.range N').map r) (vr_up f ((List.range N').map r) (.inl (cy, z)))) → va_S A H0 H1 locs →
      W p l e R s m args below meth c H1 locs (cells + 1 + N') (slots + N' + N' * K') Q (F0 m (pc + 4) ls (.ref q :: rest))) : W p l e R s m args below meth c H locs cells slots Q (F0 m pc ls (.int k :: .int n :: rest)) := by
  subst hN
  subst hM
  intro T hT Xs
  obtain ⟨vm₁, cA, comp, -, fA, fC, hO, -, X', step⟩ := Xs.multianewarray2F hexec hown hclink (va_AOA.use hover) harr (g := F0 m pc ls (.int k :: .int n :: rest)) rfl (by rw [hb]; exact hdg) rfl hn hk hb1 hb2 hb3 hdf hdd hcells hslots
  have ec : some cy = some comp := hcy.symm.trans fC
  cases ec
  generalize hF : Jvm.Free.Multi.fill (T.setVm vm₁) cA cy n.toNatClampNeg k.toNatClampNeg (defaultValue ty) n.toNatClampNeg = F at X' step
  have hTh : (T.setVm vm₁).heap = H := hT
  obtain ⟨f1, f2, -, -⟩ := Jvm.Free.Multi.fill_facts (T.setVm vm₁) cA cy n.toNatClampNeg k.toNatClampNeg (defaultValue ty) n.toNatClampNeg
  rw [hF, hTh] at f1 f2
  have hold : ∀ x : Nat, x < H.size → F.heap[x]? = H[x]? := fun x hx => by
    have := Jvm.Free.Multi.fill_old (T.setVm vm₁) cA cy n.toNatClampNeg k.toNatClampNeg (defaultValue ty) (a := x) (by rw [hTh]; exact hx) n.toNatClampNeg
    rw [hF, hTh] at this
    exact this
  have hrow : ∀ j : Nat, j < n.toNatClampNeg → F.heap[H.size + 1 + j]? = some (vp_cell cy z) := fun j hj => by
    have := Jvm.Free.Multi.fill_inner (T.setVm vm₁) cA cy n.toNatClampNeg k.toNatClampNeg (defaultValue ty) n.toNatClampNeg j hj
    rw [hF, hTh, hz] at this
    exact this
  have hout : Jvm.Free.Multi.outerC cA n.toNatClampNeg H.size n.toNatClampNeg = vp_cell cA (n.toNatClampNeg, .inr (.inr (.inr (.inr (fun i => if i < n.toNatClampNeg then some (H.size + 1 + i) else none))))) := by
    rw [vp_cell_q]
    exact vr_outer cA n.toNatClampNeg H.size n.toNatClampNeg
  rw [hout] at f2
  have hlt : ∀ a, a ∈ L → a < H.size := fun a ha => by
    obtain ⟨k9, hk9⟩ := va_pl_get (X := X) (f := f) ha
    exact (hP k9 _ hk9).lt
  have hnl : ∀ i : Nat, i < n.toNatClampNeg → H.size + 1 + i ∉ L := fun i _ h => by
    have := hlt _ h
    omega
  have hnm : ∀ a, a ∈ (List.range n.toNatClampNeg).map (fun i => H.size + 1 + i) → a ∉ L := fun a ha h => by
    obtain ⟨i, -, rfl⟩ := List.mem_map.mp ha
    have := hlt _ h
    omega
  have hP0 : va_P D cl (X ++ va_pl L f) F.heap := hP.kept (fun k9 x hx => hold x.1 ((hP k9 x hx).lt))
  have hP1 : va_P D cl ((X ++ va_pl L f) ++ [(H.size, .inl (cA, n.toNatClampNeg, .inr (.inr (.inr (.inr (fun i => if i < n.toNatClampNeg then some (H.size + 1 + i) else none))))))]) F.heap := hP0.app (fun k9 x hx => by
    have h0 : k9 < 1 := (List.getElem?_eq_some_iff.mp hx).1
    rw [show k9 = 0 by omega] at hx
    cases hx
    exact f2)
  have hP2 : va_P D cl (((X ++ va_pl L f) ++ [(H.size, .inl (cA, n.toNatClampNeg, .inr (.inr (.inr (.inr (fun i => if i < n.toNatClampNeg then some (H.size + 1 + i) else none))))))]) ++ ((List.range n.toNatClampNeg).map (fun i => H.size + 1 + i)).map (fun a => (a, .inl (cy, z)))) F.heap := hP1.app (fun k9 x hx => by
    obtain ⟨a, ha, rfl⟩ := List.mem_map.mp (List.mem_of_getElem? hx)
    obtain ⟨i, hi, rfl⟩ := List.mem_map.mp ha
    exact hrow i (List.mem_range.mp hi))
  have hD2 : va_D A (((X ++ va_pl L f) ++ [(H.size, .inl (cA, n.toNatClampNeg, .inr (.inr (.inr (.inr (fun i => if i < n.toNatClampNeg then some (H.size + 1 + i) else none))))))]) ++ ((List.range n.toNatClampNeg).map (fun i => H.size + 1 + i)).map (fun a => (a, .inl (cy, z)))) := by
    have hD1 := hD.push (e := .inl (cA, n.toNatClampNeg, .inr (.inr (.inr (.inr (fun i => if i < n.toNatClampNeg then some (H.size + 1 + i) else none)))))) hP rfl (hA _ hS.1)
    generalize hW1 : (X ++ va_pl L f) ++ [(H.size, .inl (cA, n.toNatClampNeg, .inr (.inr (.inr (.inr (fun i => if i < n.toNatClampNeg then some (H.size + 1 + i) else none))))))] = W1 at hD1 hP1 ⊢
    have hle : ∀ (k9 : Nat) (x : Nat × va_E), W1[k9]? = some x → x.1 ≤ H.size := fun k9 x hx => by
      rw [← hW1] at hx
      by_cases hl : k9 < (X ++ va_pl L f).length
      · rw [List.getElem?_append_left hl] at hx
        exact Nat.le_of_lt ((hP k9 x hx).lt)
      · rw [List.getElem?_append_right (by omega)] at hx
        have h0 : k9 - (X ++ va_pl L f).length < 1 := (List.getElem?_eq_some_iff.mp hx).1
        rw [show k9 - (X ++ va_pl L f).length = 0 by omega] at hx
        cases hx
        exact Nat.le_refl _
    have hr : ∀ (k9 : Nat) (x : Nat × va_E), (((List.range n.toNatClampNeg).map (fun i => H.size + 1 + i)).map (fun a => ((a, .inl (cy, z)) : Nat × va_E)))[k9]? = some x → x.1 = H.size + 1 + k9 := fun k9 x hx => by
      rw [List.getElem?_map, List.getElem?_map] at hx
      by_cases h9 : k9 < n.toNatClampNeg
      · rw [List.getElem?_range h9] at hx
        cases hx
        rfl
      · have hn0 : (List.range n.toNatClampNeg)[k9]? = none := List.getElem?_eq_none (by rw [List.length_range]; omega)
        rw [hn0] at hx
        cases hx
    refine ⟨fun i j x y hi hj hxy => ?_, fun k9 x hx => ?_⟩
    · by_cases h1 : i < W1.length <;> by_cases h2 : j < W1.length
      · rw [List.getElem?_append_left h1] at hi
        rw [List.getElem?_append_left h2] at hj
        exact hD1.1 i j x y hi hj hxy
      · rw [List.getElem?_append_left h1] at hi
        rw [List.getElem?_append_right (by omega)] at hj
        have := hle _ _ hi
        have := hr _ _ hj
        omega
      · rw [List.getElem?_append_right (by omega)] at hi
        rw [List.getElem?_append_left h2] at hj
        have := hle _ _ hj
        have := hr _ _ hi
        omega
      · rw [List.getElem?_append_right (by omega)] at hi hj
        have := hr _ _ hi
        have := hr _ _ hj
        omega
    · by_cases h1 : k9 < W1.length
      · rw [List.getElem?_append_left h1] at hx
        exact hD1.2 k9 x hx
      · rw [List.getElem?_append_right (by omega)] at hx
        have := hr _ _ hx
        exact hA _ (by have := hS.1; omega)
  have hAr : ArrOfT s cA (.array ty) := fun N9 z9 => by
    obtain ⟨-, k9, hk9, cm9, hkk9⟩ := (hO 0 0 0).1
    exact ⟨(fun q hq => by cases hq), k9, hk9, cm9, hkk9⟩
  have hK2 : va_K D cl (tys ++ [(cA, .array ty)]) s := ⟨hK.1, fun k9 x hx => by
    by_cases hl : k9 < tys.length
    · rw [List.getElem?_append_left hl] at hx
      exact hK.2 k9 x hx
    · rw [List.getElem?_append_right (by omega)] at hx
      have h0 : k9 - tys.length < 1 := (List.getElem?_eq_some_iff.mp hx).1
      rw [show k9 - tys.length = 0 by omega] at hx
      cases hx
      exact ⟨hAr, fA⟩⟩
  obtain ⟨t, a1, b1⟩ := kk H.size (fun i => H.size + 1 + i) cA F.heap (fun i j _ _ h => by have h9 : H.size + 1 + i = H.size + 1 + j := h; omega) hnl hK2 (by rw [← vr_rows hnm]; exact vr_lay hP2) (by rw [← vr_rows hnm]; exact vr_layD hD2) ⟨by rw [f1]; have := hS.1; omega, fun x h1 h2 => (hold x (Nat.lt_of_lt_of_le h1 hS.1)).trans (hS.2.1 x h1 h2), hS.2.2⟩ F rfl X'
  refine ⟨t, step t ?_, b1⟩
  have e : T.heap.size = H.size := by rw [hT]
  rw [e]
  exact a1
end VGM
/-! ===== END ===== -/

/-! ===== BEGIN exceptions that leave a method, and their catching by the caller (launches without stack traces) ===== -/
section VXA
/-! The laws vx_back, vx_callV, vx_callS, vx_callSW, vx_throw0, vx_throwS follow proofs of the library, with one case more: JvmDerived/Free/Laws.lean (Back.of_free), Shelf42/LK1.lean (callV, callS), Shelf/KitTraced.lean (throwNew0V, throwNewS). -/
/-- where a method has thrown q: the class by its name, the cell, what was written, the world -/
def vx_T (XC : String → State → State → Prop) (st : State) (q : Addr) (t : State) (mc ms : Nat) (free : Addr → Prop) : Prop :=
  ∃ (E : String) (ce : Cell) (L : List Loc), XC E st t ∧ t.heap[q]? = some ce ∧ ce.vm = .none ∧ st.vm.findClass E = some ce.cls ∧ st.WarmedH t.vm ∧ st.sameButNew ({ t with vm := st.vm } : State) L mc ms ∧ ∀ z ∈ L, free z.base
def vx_Q (Qc : Array Value → State → Outcome → State → Prop) (XC : String → State → State → Prop) (mc ms : Nat) (free : Addr → Prop) : Array Value → State → Outcome → State → Prop := fun a st o t =>
  (Qc a st o t ∧ ∃ L, FrameEnd st o t L mc ms ∧ ∀ q ∈ L, free q.base) ∨ ∃ q, o = .threw q ∧ vx_T XC st q t mc ms free
/-- a callee that returns or throws -/
def vx_Met (l : Launch) (y : MethodName) (ws : List Cond) (rm : Room) (Pc : Array Value → State → Prop) (Qc : Array Value → State → Outcome → State → Prop) (XC : String → State → State → Prop) (mc ms : Nat) (free : Addr → Prop) : Prop :=
  MetFree l y (headSpec ws rm) Pc (fun _ _ _ _ _ => True) (vx_Q Qc XC mc ms free)
def vx_Post (XC : String → State → State → Prop) (mc ms : Nat) (free : Addr → Prop) : Pt → Array Value → Addr → Pt → Prop := fun A a q B =>
  ∃ (g : JFrame) (mk : MethodId) (t : State) (L : List Loc) (E : String) (ce : Cell), B.U.heap = t.heap ∧ B.U.vm = t.vm ∧ XC E (A.U.calling g mk a) t ∧ t.heap[q]? = some ce ∧ ce.vm = .none ∧ A.U.vm.findClass E = some ce.cls ∧ B.locs = A.locs ++ L ∧ (∀ z ∈ L, free z.base) ∧ B.cells = A.cells + mc ∧ B.slots = A.slots + ms
def vx_Back (l : Launch) (R : Room) (p : Program) (e : Env) (below : List Frame) (s : State) (sargs : Array Value) (y : MethodName) (len W9 : Nat)
    (Pre : Pt → Array Value → Prop) (Post : Pt → Array Value → Option Value → Pt → Prop) (PostX : Pt → Array Value → Addr → Pt → Prop) : Prop :=
  ∀ (m : MethodId) (meth : Method) (c : Code) (A : Pt) (g : JFrame) (ig : Instr) (mk : MethodId) (a : Array Value),
    Stand p l e R s m sargs below meth c A.U A.locs A.cells A.slots → g.method = m → g.locals.size = c.maxLocals → decode c.code g.pc = .ok (ig, len) →
    2 * g.monitorRoom + (g.stack.map fun v => v.category).sum ≤ W9 → A.U.methodNamed? y = some mk → Pre A a →
    (∃ (v : Option Value) (B : Pt), Stand p l e R s m sargs below meth c B.U B.locs B.cells B.slots ∧ Post A a v B ∧
      Steps p.tables e below (doInvoke e (A.U.setTop g) [] mk a).1 (B.U.setTop { g with pc := g.pc + len, stack := v.toList ++ g.stack })) ∨
    (∃ (q : Addr) (B : Pt), Stand p l e R s m sargs below meth c B.U B.locs B.cells B.slots ∧ PostX A a q B ∧
      Steps p.tables e below (doInvoke e (A.U.setTop g) [] mk a).1 ((B.U.setTop g).pushFrame (.throwing q)))
section Payer
variable {l : Launch} {R : Room} {p : Program} {e : Env} {below : List Frame} {s : State} {sargs : Array Value} {y : MethodName} {len W9 : Nat}
theorem vx_back {ws : List Cond} {rm : Room} {Pc : Array Value → State → Prop} {Qc : Array Value → State → Outcome → State → Prop} {XC : String → State → State → Prop} {mc ms : Nat} {free : Addr → Prop} {bytes : ByteArray} {maxL : Nat} {ret : Option FieldType}
    (hM : vx_Met l y ws rm Pc Qc XC mc ms free) (hblind : FrameBlind Pc) (hrc : rm.cells = mc) (hrs : rm.slots = ms)
    (hframes : rm.frames + 1 ≤ R.frames) (hlocals : W9 + (maxL + 11) + rm.locals ≤ R.locals)
    (hws : ∀ w ∈ ws, ∀ a' U, s.WarmedH U.vm → w.before a' U = true) (hcode : Cond.code y bytes maxL ret ∈ ws) (hinit : ∀ a' U, s.WarmedH U.vm → (Cond.initialized y.cls).before a' U = true) :
    vx_Back l R p e below s sargs y len W9 (PreOf R mc ms Pc) (PostOf Qc mc ms free) (vx_Post XC mc ms free) := by
  intro m meth c A g ig mk a X hg hsize hdg hW hn hp
  have h1 : (headSpec ws rm).pre.before a A.U = true := atoms_intro fun w hw => hws w hw _ _ X.warmed
  have h2 : (Cond.code y bytes maxL ret).before a A.U = true := hws _ hcode _ _ X.warmed
  have h3 : (Cond.initialized y.cls).before a A.U = true := hinit _ _ X.warmed
  have h4 : A.cells + (headSpec ws rm).room.cells ≤ R.cells := by rw [show (headSpec ws rm).room.cells = mc from hrc]; exact hp.1
  have h5 : A.slots + (headSpec ws rm).room.slots ≤ R.slots := by rw [show (headSpec ws rm).room.slots = ms from hrs]; exact hp.2.1
  have hPc : Pc a (A.U.calling g mk a) := hblind _ _ _ _ hp.2.2
  obtain ⟨U, Ls, c0, s0⟩ := A
  dsimp only [Pt.U, Pt.locs, Pt.cells, Pt.slots] at h1 h2 h3 h4 h5 X hn hPc ⊢
  obtain ⟨methY, cY, hmY, hcY, -, hlY, -, -, -, -⟩ := Cond.code_spec hn h2
  obtain ⟨kY, hkY, -⟩ := className_of_methodNamed hn
  have hinitY : kY.init = .initialized := Cond.initialized_spec (findClass_of_methodNamed hn) hkY h3
  have h : At U g.method c below := by rw [hg]; exact X.here
  have hlocals9 : W9 + (maxL + 11) + (headSpec ws rm).room.locals ≤ R.locals := hlocals
  have happ : (headSpec ws rm).appliesLoose y e.platform (U.calling g mk a) = true :=
    Spec.appliesLoose_calling (g := g) h hdg hn hkY hinitY
      (X.room_calling (g := g) (R' := (headSpec ws rm).room) hsize hmY hcY hframes (by rw [hlY]; omega) h4 h5) h1
  obtain ⟨mid, hmid⟩ := h.above
  have hfr : (U.setTop g).frames = (.java g :: mid) ++ below := by rw [State.frames_setTop' g h.top, hmid]; rfl
  obtain ⟨o, s₂, hsteps, -, hend, hq⟩ := Steps.callFree hM p X.admits X.cas X.clock (acts := []) hfr happ hPc trivial
  have hq' : vx_Q Qc XC mc ms free a (U.calling g mk a) o s₂ := hq
  rw [State.frames_setTop' g h.top] at hend
  obtain ⟨g₀, hg0⟩ := Option.isSome_iff_exists.mp h.top
  obtain ⟨r, hr⟩ := State.topJava?_eq_some.mp hg0
  have hr' : (({ U with heap := s₂.heap, slotsUsed := s₂.slotsUsed } : State).setVm s₂.vm).frames = .java g₀ :: r := hr
  rcases hq' with ⟨hqc, L, hfe, hL⟩ | ⟨q, rfl, E, ce, L, hx, hce, hcv, hcl, hW₂, hsm, hL⟩
  · obtain ⟨⟨v, rfl⟩, hW₂, e2, q2, q3, q4, q5, q6⟩ := id hfe
    have e3 : s₂ = ({ (U.calling g mk a).setFrames s₂.frames with heap := s₂.heap, slotsUsed := s₂.slotsUsed } : State).setVm s₂.vm := by
      have : s₂ = ({ s₂ with vm := (U.calling g mk a).vm } : State).setVm s₂.vm := rfl
      rw [e2] at this
      exact this
    obtain ⟨c₂, i₂, len₂, hc₂, hd₂, hf₂⟩ := hend
    have hW' : U.WarmedH s₂.vm := hW₂
    have hcc : c₂ = c := by
      have h1 : s₂.code? g.method = U.code? g.method := by
        rw [State.code?_eq, State.code?_eq, hW'.alike.method?]
      exact Option.some.inj (hc₂.symm.trans (h1.trans h.code))
    subst hcc
    have hlen : len₂ = len := by rw [hdg] at hd₂; cases hd₂; rfl
    subst hlen
    have hs₂ : s₂ = (({ U with heap := s₂.heap, slotsUsed := s₂.slotsUsed } : State).setVm s₂.vm).setTop { g with pc := g.pc + len₂, stack := v.toList ++ g.stack } := by
      refine e3.trans ?_
      rw [hf₂, State.calling_eq h.top, State.setFrames_setFrames, State.setTop_of_frames _ hr', hr]
      rfl
    have hsame : U.sameButNew ({ U with heap := s₂.heap, slotsUsed := s₂.slotsUsed } : State) L mc ms := by
      refine ⟨?_, q2, q3, q4, q5, q6⟩
      obtain ⟨t, ht, -⟩ := State.frames_cons hr
      show ({ U with heap := s₂.heap, slotsUsed := s₂.slotsUsed } : State) = { U.setFrames U.frames with heap := s₂.heap, slotsUsed := s₂.slotsUsed }
      rw [State.setFrames_self ht]
    subst hg
    refine Or.inl ⟨v, ⟨(({ U with heap := s₂.heap, slotsUsed := s₂.slotsUsed } : State).setVm s₂.vm), Ls ++ L, c0 + mc, s0 + ms⟩,
      ⟨X.admits, X.cas, X.clock, X.frames, X.room, X.hears, X.method, X.code, (X.here.setHeapUsed s₂.heap s₂.slotsUsed).setVm hW'.alike, X.tail, State.WarmedH.trans X.warmed hW', X.limits, X.bytes, X.same.trans (hsame.setVm s.vm)⟩,
      ⟨g, mk, s₂, L, rfl, rfl, hqc, rfl, hL, rfl, rfl⟩, ?_⟩
    show Steps p.tables e below _ ((({ U with heap := s₂.heap, slotsUsed := s₂.slotsUsed } : State).setVm s₂.vm).setTop { g with pc := g.pc + len₂, stack := v.toList ++ g.stack })
    rw [← hs₂]
    exact hsteps
  · obtain ⟨e2, q2, q3, q4, q5, q6⟩ := id hsm
    have e3 : s₂ = ({ (U.calling g mk a).setFrames s₂.frames with heap := s₂.heap, slotsUsed := s₂.slotsUsed } : State).setVm s₂.vm := by
      have : s₂ = ({ s₂ with vm := (U.calling g mk a).vm } : State).setVm s₂.vm := rfl
      rw [e2] at this
      exact this
    have hf₂ : s₂.frames = .throwing q :: .java g :: U.frames.tail := hend
    have hW' : U.WarmedH s₂.vm := hW₂
    have hs₂ : s₂ = ((({ U with heap := s₂.heap, slotsUsed := s₂.slotsUsed } : State).setVm s₂.vm).setTop g).pushFrame (.throwing q) := by
      refine e3.trans ?_
      rw [hf₂, State.calling_eq h.top, State.setFrames_setFrames, State.pushFrame, State.frames_setTop _ hr', State.setTop_of_frames _ hr', State.setFrames_setFrames, hr]
      rfl
    have hsame : U.sameButNew ({ U with heap := s₂.heap, slotsUsed := s₂.slotsUsed } : State) L mc ms := by
      refine ⟨?_, q2, q3, q4, q5, q6⟩
      obtain ⟨t, ht, -⟩ := State.frames_cons hr
      show ({ U with heap := s₂.heap, slotsUsed := s₂.slotsUsed } : State) = { U.setFrames U.frames with heap := s₂.heap, slotsUsed := s₂.slotsUsed }
      rw [State.setFrames_self ht]
    subst hg
    refine Or.inr ⟨q, ⟨(({ U with heap := s₂.heap, slotsUsed := s₂.slotsUsed } : State).setVm s₂.vm), Ls ++ L, c0 + mc, s0 + ms⟩,
      ⟨X.admits, X.cas, X.clock, X.frames, X.room, X.hears, X.method, X.code, (X.here.setHeapUsed s₂.heap s₂.slotsUsed).setVm hW'.alike, X.tail, State.WarmedH.trans X.warmed hW', X.limits, X.bytes, X.same.trans (hsame.setVm s.vm)⟩,
      ⟨g, mk, s₂, L, E, ce, rfl, rfl, hx, hce, hcv, hcl, rfl, hL, rfl, rfl⟩, ?_⟩
    show Steps p.tables e below _ (((({ U with heap := s₂.heap, slotsUsed := s₂.slotsUsed } : State).setVm s₂.vm).setTop g).pushFrame (.throwing q))
    rw [← hs₂]
    exact hsteps
end Payer
section Calls
variable {p : Program} {l : Launch} {e : Env} {R : Room} {s : State} {m : MethodId} {args : Array Value} {below : List Frame} {meth : Method} {c : Code} {T : State} {locs : List Loc} {cells slots : Nat}
theorem vx_callV (X : Stand p l e R s m args below meth c T locs cells slots) (hexec : p.tables.exec = Jvm.exec) {own C : String} {index : Nat} {y : MethodName} {bytes : ByteArray} {maxL : Nat} {ret : Option FieldType}
    (hown : s.vm.findClass own = some m.cls) (hlink : (Cond.methodLink own index y).before args s = true) (hinst : (Cond.instanceMethod y).before args s = true) (hsel : (Cond.selects C y y).before args s = true)
    (hcode : (Cond.code y bytes maxL ret).before args s = true) (hy : y.cls ≠ "java/lang/invoke/MethodHandle" ∧ y.cls ≠ "java/lang/invoke/VarHandle")
    {W9 : Nat} {Pre : Pt → Array Value → Prop} {Post : Pt → Array Value → Option Value → Pt → Prop} {PostX : Pt → Array Value → Addr → Pt → Prop} (hK : vx_Back l R p e below s args y 3 W9 Pre Post PostX)
    {b : Addr} {cellB : Cell} (hcell : T.heap[b]? = some cellB) (hobj : cellB.vm.isStatics = false) (hcls : s.vm.findClass C = some cellB.cls)
    {g : JFrame} (hg : g.method = m) (hsize : g.locals.size = c.maxLocals) {argsL rest : List Value} (hlen : ∀ sig, parseMethodDescriptor y.desc = some sig → argsL.length = sig.parameters.length)
    (hstack : g.stack = argsL.reverse ++ .ref b :: rest) (hW : 2 * g.monitorRoom + (rest.map fun v => v.category).sum ≤ W9) (hdg : decode c.code g.pc = .ok (.invokevirtual index, 3))
    (hpre : ∀ vm₁, s.WarmedH vm₁ → Pre ⟨T.setVm vm₁, locs, cells, slots⟩ (Value.ref b :: argsL).toArray) :
    (∃ (v : Option Value) (vm₁ : Vm) (B : Pt), s.WarmedH vm₁ ∧ Stand p l e R s m args below meth c B.U B.locs B.cells B.slots ∧ Post ⟨T.setVm vm₁, locs, cells, slots⟩ (Value.ref b :: argsL).toArray v B ∧
      ∀ target, Steps p.tables e below (B.U.setTop { g with pc := g.pc + 3, stack := v.toList ++ rest }) target → Steps p.tables e below (T.setTop g) target) ∨
    (∃ (q : Addr) (vm₁ : Vm) (B : Pt), s.WarmedH vm₁ ∧ Stand p l e R s m args below meth c B.U B.locs B.cells B.slots ∧ PostX ⟨T.setVm vm₁, locs, cells, slots⟩ (Value.ref b :: argsL).toArray q B ∧
      Steps p.tables e below (T.setTop g) ((B.U.setTop { g with stack := rest }).pushFrame (.throwing q))) := by
  obtain ⟨mk, methM, hnamed, hmethM, hstM, habM⟩ := Cond.instanceMethod_spec hinst
  obtain ⟨methM', cM, hmethM', -, -, -, -, -, -, hsigM⟩ := Cond.code_spec hnamed hcode
  cases hmethM.symm.trans hmethM'
  obtain ⟨c2, r2, m2, q1, q2, q3, q4, kP, hkP, hkPi⟩ := Cond.selects_spec hsel
  cases hcls.symm.trans q1
  cases (State.methodFound?_of_named hnamed hy).symm.trans q2
  cases hnamed.symm.trans q3
  have hselP : selectMethod e.platform s.vm cellB.cls mk = .method mk := by rw [Launch.admits_selectMethod X.admits]; exact q4
  obtain ⟨vm₁, X₁, hstep₁⟩ := X.invokevirtual hexec hown hlink hnamed hmethM hstM hkP hkPi hy (a := b) (cell := cellB) hcell
    (fun z h => by rw [h] at hobj; cases hobj) hselP hmethM habM hkP hkPi (g := g) hg (argsL := argsL) (rest := rest) (hlen _ hsigM) hstack hdg
  rcases hK m meth c ⟨T.setVm vm₁, locs, cells, slots⟩ { g with stack := rest } (.invokevirtual index) mk (Value.ref b :: argsL).toArray X₁ hg hsize hdg hW (X₁.named hnamed) (hpre vm₁ X₁.warmed) with ⟨v, B, X', hpost, hsteps⟩ | ⟨q, B, X', hpost, hsteps⟩
  · exact Or.inl ⟨v, vm₁, B, X₁.warmed, X', hpost, fun target h => hstep₁ _ fun acts => by rw [doInvoke_state]; exact hsteps.trans h⟩
  · exact Or.inr ⟨q, vm₁, B, X₁.warmed, X', hpost, hstep₁ _ fun acts => by rw [doInvoke_state]; exact hsteps⟩
theorem vx_callS (X : Stand p l e R s m args below meth c T locs cells slots) (hexec : p.tables.exec = Jvm.exec) {own : String} {index : Nat} {y : MethodName} {bytes : ByteArray} {maxL : Nat} {ret : Option FieldType}
    (hown : s.vm.findClass own = some m.cls) (hlink : (Cond.methodLink own index y).before args s = true) (hstat : (Cond.static y).before args s = true) (hinit : (Cond.initialized y.cls).before args s = true)
    (hcode : (Cond.code y bytes maxL ret).before args s = true) (hy : y.cls ≠ "java/lang/invoke/MethodHandle" ∧ y.cls ≠ "java/lang/invoke/VarHandle")
    {W9 : Nat} {Pre : Pt → Array Value → Prop} {Post : Pt → Array Value → Option Value → Pt → Prop} {PostX : Pt → Array Value → Addr → Pt → Prop} (hK : vx_Back l R p e below s args y 3 W9 Pre Post PostX)
    {g : JFrame} (hg : g.method = m) (hsize : g.locals.size = c.maxLocals) {argsL rest : List Value} (hlen : ∀ sig, parseMethodDescriptor y.desc = some sig → argsL.length = sig.parameters.length)
    (hstack : g.stack = argsL.reverse ++ rest) (hW : 2 * g.monitorRoom + (rest.map fun v => v.category).sum ≤ W9) (hdg : decode c.code g.pc = .ok (.invokestatic index, 3))
    (hpre : ∀ vm₁, s.WarmedH vm₁ → Pre ⟨T.setVm vm₁, locs, cells, slots⟩ argsL.toArray) :
    (∃ (v : Option Value) (vm₁ : Vm) (B : Pt), s.WarmedH vm₁ ∧ Stand p l e R s m args below meth c B.U B.locs B.cells B.slots ∧ Post ⟨T.setVm vm₁, locs, cells, slots⟩ argsL.toArray v B ∧
      ∀ target, Steps p.tables e below (B.U.setTop { g with pc := g.pc + 3, stack := v.toList ++ rest }) target → Steps p.tables e below (T.setTop g) target) ∨
    (∃ (q : Addr) (vm₁ : Vm) (B : Pt), s.WarmedH vm₁ ∧ Stand p l e R s m args below meth c B.U B.locs B.cells B.slots ∧ PostX ⟨T.setVm vm₁, locs, cells, slots⟩ argsL.toArray q B ∧
      Steps p.tables e below (T.setTop g) ((B.U.setTop { g with stack := rest }).pushFrame (.throwing q))) := by
  obtain ⟨mk, hnamed⟩ := Cond.code_named hcode
  obtain ⟨methM, cM, hmethM, -, -, -, -, -, -, hsigM⟩ := Cond.code_spec hnamed hcode
  have hstatic : methM.isStatic = true := Cond.static_spec hnamed hmethM hstat
  obtain ⟨kP, hkP, -⟩ := className_of_methodNamed hnamed
  have hinitP : kP.init = .initialized := Cond.initialized_spec (findClass_of_methodNamed hnamed) hkP hinit
  obtain ⟨vm₁, X₁, hstep₁⟩ := X.invokestatic hexec hown hlink hnamed hmethM hstatic hkP hinitP hy (g := g) hg (argsL := argsL) (rest := rest) (hlen _ hsigM) hstack hdg
  rcases hK m meth c ⟨T.setVm vm₁, locs, cells, slots⟩ { g with stack := rest } (.invokestatic index) mk argsL.toArray X₁ hg hsize hdg hW (X₁.named hnamed) (hpre vm₁ X₁.warmed) with ⟨v, B, X', hpost, hsteps⟩ | ⟨q, B, X', hpost, hsteps⟩
  · exact Or.inl ⟨v, vm₁, B, X₁.warmed, X', hpost, fun target h => hstep₁ _ fun acts => by rw [doInvoke_state]; exact hsteps.trans h⟩
  · exact Or.inr ⟨q, vm₁, B, X₁.warmed, X', hpost, hstep₁ _ fun acts => by rw [doInvoke_state]; exact hsteps⟩
end Calls
theorem vx_cls {s : State} {T : State} {vm₁ : Vm} {E : String} {k : ClassId} (hW : s.WarmedH vm₁) (h : (T.setVm vm₁).vm.findClass E = some k) : s.vm.findClass E = some k := by
  have h1 : vm₁.findClass E = some k := h
  rw [hW.alike.findClass] at h1
  exact h1
/-- the method's frame g, with q thrown over it -/
def vx_W (p : Program) (l : Launch) (e : Env) (R : Room) (s : State) (m : MethodId) (args : Array Value) (below : List Frame) (meth : Method) (c : Code) (H : Heap) (locs : List Loc) (cells slots : Nat) (Q : State → Prop) (g : JFrame) (q : Addr) : Prop :=
  ∀ T : State, T.heap = H → Stand p l e R s m args below meth c T locs cells slots → ∃ t, Steps p.tables e below ((T.setTop g).pushFrame (.throwing q)) t ∧ Q t
def vx_Run (p : Program) (l : Launch) (e : Env) (R : Room) (s : State) (m : MethodId) (args : Array Value) (below : List Frame) (meth : Method) (c : Code) (H : Heap) (locs : List Loc) (cells slots mc ms : Nat) (g : JFrame) (rest : List Value) (Qa : State → Outcome → State → Prop) (XC : String → State → State → Prop) (free : Addr → Prop) : Prop :=
  ∀ T : State, T.heap = H → Stand p l e R s m args below meth c T locs cells slots →
    (∃ (v : Option Value) (st₀ t T' : State) (L : List Loc), st₀.heap = H ∧ Stand p l e R s m args below meth c T' (locs ++ L) (cells + mc) (slots + ms) ∧ (∀ q ∈ L, free q.base) ∧ T'.heap = t.heap ∧ T'.vm = t.vm ∧ Qa st₀ (.returned v) t ∧
      Goes p e below T g T' { g with pc := g.pc + 3, stack := v.toList ++ rest }) ∨
    (∃ (q : Addr) (st₀ t T' : State) (L : List Loc) (E : String) (ce : Cell), st₀.heap = H ∧ Stand p l e R s m args below meth c T' (locs ++ L) (cells + mc) (slots + ms) ∧ (∀ z ∈ L, free z.base) ∧ T'.heap = t.heap ∧ T'.vm = t.vm ∧ XC E st₀ t ∧ t.heap[q]? = some ce ∧ ce.vm = .none ∧ s.vm.findClass E = some ce.cls ∧
      Steps p.tables e below (T.setTop g) ((T'.setTop { g with stack := rest }).pushFrame (.throwing q)))
def vx_X {S : Type} (px : S → Prop) (B : String → S → State → Prop) (A : Nat → Prop) : String → State → State → Prop := fun E st t => ∃ u : S, px u ∧ B E u t ∧ va_F A st t
section Runs
variable {p : Program} {l : Launch} {e : Env} {R : Room} {s : State} {m : MethodId} {args : Array Value} {below : List Frame} {meth : Method} {c : Code} {H : Heap} {locs : List Loc} {cells slots : Nat}
variable {y : MethodName} {bytes cc : ByteArray} {maxL nL mc ms n index : Nat} {ret : Option FieldType} {ws : List Cond} {rm : Room} {Pc : Array Value → State → Prop} {Qc : Array Value → State → Outcome → State → Prop} {XC : String → State → State → Prop} {free : Addr → Prop} {Ts : List Cond} {own C : String} {b : Addr} {As rest : List Value} {g : JFrame}
theorem vx_callBack (cb : CallB R s args own index y bytes maxL ret ws rm mc ms n) (hM : vx_Met l y ws rm Pc Qc XC mc ms free) (hbl : FrameBlind Pc) : vx_Back l R p e below s args y 3 8 (PreOf R mc ms Pc) (PostOf Qc mc ms free) (vx_Post XC mc ms free) := by
  obtain ⟨hrc, hrs, hfr, hlo, hws, hcw, -, hini, -⟩ := cb
  exact vx_back (bytes := bytes) (maxL := maxL) (ret := ret) hM hbl hrc hrs hfr hlo hws hcw (fun a' U hW => word_at hW (Or.inl (by first | rfl | simp [Cond.onTables, Cond.keeps, Cond.steady])) hini)
theorem vx_runV (S : CallFix p m c cc nL s args Ts own) (hM : vx_Met l y ws rm Pc Qc XC mc ms free) (cw : CallW R s args own C index y bytes maxL ret ws rm mc ms n) (hp : PreV s H C b Pc As)
    (hg : g.method = m) (hn : As.length = n) (hsize : g.locals.size = nL) (hstack : g.stack = As.reverse ++ .ref b :: rest) (hW : 2 * g.monitorRoom + (rest.map fun v => v.category).sum ≤ 8) (hdg : decode cc g.pc = .ok (.invokevirtual index, 3)) (hf : cells + mc ≤ R.cells ∧ slots + ms ≤ R.slots) :
    vx_Run p l e R s m args below meth c H locs cells slots mc ms g rest (Qc (Value.ref b :: As).toArray) XC free := by
  have hK : vx_Back l R p e below s args y 3 8 (PreOf R mc ms Pc) (PostOf Qc mc ms free) (vx_Post XC mc ms free) := vx_callBack cw.1 hM hp.1
  obtain ⟨⟨-, -, -, -, -, -, hcode, -, hy, hlen, hl⟩, hin, hse⟩ := cw
  obtain ⟨hx, hb, hml, ho, -⟩ := S
  obtain ⟨-, ⟨cellB, hcB, hoB, hclB⟩, hPc⟩ := hp
  intro T hT X
  rcases vx_callV X hx (C := C) (bytes := bytes) (maxL := maxL) (ret := ret) ho hl hin hse hcode hy hK (by rw [hT]; exact hcB) hoB hclB hg (hsize.trans hml.symm) (argsL := As) (rest := rest) (fun sig h => hn.trans (hlen sig h)) hstack hW (by rw [hb]; exact hdg)
    (fun vm₁ hW₁ => ⟨hf.1, hf.2, hPc (T.setVm vm₁) hT hW₁⟩) with ⟨v, vm₁, ⟨U', l2, c2, s2⟩, hW₁, X', ⟨g', mk, t, L, e1, e2, hq, h1, hL, h2, h3⟩, st⟩ | ⟨q, vm₁, ⟨U', l2, c2, s2⟩, hW₁, X', ⟨g', mk, t, L, E, ce, e1, e2, hq, hce, hcv, hcl, h1, hL, h2, h3⟩, st⟩
  · dsimp only [Pt.U, Pt.locs, Pt.cells, Pt.slots] at X' e1 e2 h1 h2 h3 st
    subst h1; subst h2; subst h3
    exact Or.inl ⟨v, (T.setVm vm₁).calling g' mk (Value.ref b :: As).toArray, t, U', L, hT, X', hL, e1, e2, hq, st⟩
  · dsimp only [Pt.U, Pt.locs, Pt.cells, Pt.slots] at X' e1 e2 h1 h2 h3 st hcl
    subst h1; subst h2; subst h3
    exact Or.inr ⟨q, (T.setVm vm₁).calling g' mk (Value.ref b :: As).toArray, t, U', L, E, ce, hT, X', hL, e1, e2, hq, hce, hcv, vx_cls hW₁ hcl, st⟩
theorem vx_runS (S : CallFix p m c cc nL s args Ts own) (hM : vx_Met l y ws rm Pc Qc XC mc ms free) (cw : CallB R s args own index y bytes maxL ret ws rm mc ms n ∧ (Cond.static y).before args s = true) (hp : PreS s H Pc As)
    (hg : g.method = m) (hn : As.length = n) (hsize : g.locals.size = nL) (hstack : g.stack = As.reverse ++ rest) (hW : 2 * g.monitorRoom + (rest.map fun v => v.category).sum ≤ 8) (hdg : decode cc g.pc = .ok (.invokestatic index, 3)) (hf : cells + mc ≤ R.cells ∧ slots + ms ≤ R.slots) :
    vx_Run p l e R s m args below meth c H locs cells slots mc ms g rest (Qc As.toArray) XC free := by
  have hK : vx_Back l R p e below s args y 3 8 (PreOf R mc ms Pc) (PostOf Qc mc ms free) (vx_Post XC mc ms free) := vx_callBack cw.1 hM hp.1
  obtain ⟨⟨-, -, -, -, -, -, hcode, hini, hy, hlen, hl⟩, hstt⟩ := cw
  obtain ⟨hx, hb, hml, ho, -⟩ := S
  intro T hT X
  rcases vx_callS X hx (bytes := bytes) (maxL := maxL) (ret := ret) ho hl hstt hini hcode hy hK hg (hsize.trans hml.symm) (argsL := As) (rest := rest) (fun sig h => hn.trans (hlen sig h)) hstack hW (by rw [hb]; exact hdg)
    (fun vm₁ hW₁ => ⟨hf.1, hf.2, hp.2 (T.setVm vm₁) hT hW₁⟩) with ⟨v, vm₁, ⟨U', l2, c2, s2⟩, hW₁, X', ⟨g', mk, t, L, e1, e2, hq, h1, hL, h2, h3⟩, st⟩ | ⟨q, vm₁, ⟨U', l2, c2, s2⟩, hW₁, X', ⟨g', mk, t, L, E, ce, e1, e2, hq, hce, hcv, hcl, h1, hL, h2, h3⟩, st⟩
  · dsimp only [Pt.U, Pt.locs, Pt.cells, Pt.slots] at X' e1 e2 h1 h2 h3 st
    subst h1; subst h2; subst h3
    exact Or.inl ⟨v, (T.setVm vm₁).calling g' mk As.toArray, t, U', L, hT, X', hL, e1, e2, hq, st⟩
  · dsimp only [Pt.U, Pt.locs, Pt.cells, Pt.slots] at X' e1 e2 h1 h2 h3 st hcl
    subst h1; subst h2; subst h3
    exact Or.inr ⟨q, (T.setVm vm₁).calling g' mk As.toArray, t, U', L, E, ce, hT, X', hL, e1, e2, hq, hce, hcv, vx_cls hW₁ hcl, st⟩
end Runs
section Rows
variable {p : Program} {l : Launch} {e : Env} {R : Room} {s : State} {m : MethodId} {args : Array Value} {below : List Frame} {meth : Method} {c : Code} {H : Heap} {locs : List Loc} {cells slots : Nat} {Q : State → Prop}
variable {mc ms : Nat} {free : Addr → Prop} {A0 A1 : Nat → Prop} {H0 : Heap} {a : Array Value} {pc : Nat} {ls : Array Slot} {st0 rest : List Value}
theorem vx_keep {st₀ t T' : State} {L : List Loc} (h0 : st₀.heap = H) (e1 : T'.heap = t.heap) (hS : va_S A0 H0 H locs) (hA : ∀ q, q < H.size → A1 q → A0 q) (hf : ∀ q, free q → A0 q) (hL : ∀ q ∈ L, free q.base) (hF : va_F A1 st₀ t) :
    H.size ≤ T'.heap.size ∧ (∀ q : Nat, q < H.size → ¬ A1 q → T'.heap[q]? = H[q]?) ∧ va_S A0 H0 T'.heap (locs ++ L) := by
  obtain ⟨hz, hk⟩ := hF
  rw [h0] at hz hk
  exact ⟨by rw [e1]; exact hz, fun q h1 h2 => by rw [e1]; exact hk q h1 h2,
    ⟨Nat.le_trans hS.1 (by rw [e1]; exact hz), fun q h1 h2 => by rw [e1, hk q (Nat.lt_of_lt_of_le h1 hS.1) (fun z => h2 (hA q (Nat.lt_of_lt_of_le h1 hS.1) z))]; exact hS.2.1 q h1 h2, fun q hq => by
      rcases List.mem_append.mp hq with h | h
      · exact hS.2.2 q h
      · exact hf _ (hL q h)⟩⟩
theorem vx_calli {S SX : Type} {post : Int32 → S → Prop} {px : SX → Prop} {B : S → State → Prop} {BX : String → SX → State → Prop} {AX : Nat → Prop} (hr : vx_Run p l e R s m args below meth c H locs cells slots mc ms (F0 m pc ls st0) rest (va_Qi post B A1 a) (vx_X px BX AX) free) (hS : va_S A0 H0 H locs) (hA : ∀ q, q < H.size → A1 q → A0 q) (hf : ∀ q, free q → A0 q) (hAX : ∀ q, q < H.size → AX q → A0 q)
    (kx : ∀ (E : String) (ce : Cell) (q9 : Addr) (u : SX) (t : State) (H1 : Heap) (locs1 : List Loc), t.heap = H1 → s.vm.Alike t.vm → px u → BX E u t → H.size ≤ H1.size → (∀ q : Nat, q < H.size → ¬ AX q → H1[q]? = H[q]?) → va_S A0 H0 H1 locs1 → H1[q9]? = some ce → ce.vm = .none → s.vm.findClass E = some ce.cls → vx_W p l e R s m args below meth c H1 locs1 (cells + mc) (slots + ms) Q (F0 m pc ls rest) q9)
    (kk : ∀ (r : Int32) (u : S) (t : State) (H1 : Heap) (locs1 : List Loc), t.heap = H1 → s.vm.Alike t.vm → post r u → B u t → H.size ≤ H1.size → (∀ q : Nat, q < H.size → ¬ A1 q → H1[q]? = H[q]?) → va_S A0 H0 H1 locs1 → W p l e R s m args below meth c H1 locs1 (cells + mc) (slots + ms) Q (F0 m (pc + 3) ls (.int r :: rest))) : W p l e R s m args below meth c H locs cells slots Q (F0 m pc ls st0) := by
  intro T hT X
  rcases hr T hT X with ⟨v, st₀, t, T', L, h0, X', hL, e1, e2, ⟨⟨r, u, hv, hp, hb⟩, hF⟩, st⟩ | ⟨q, st₀, t, T', L, E, ce, h0, X', hL, e1, e2, ⟨u, hp, hb, hF⟩, hce, hcv, hcl, st⟩
  · cases hv
    obtain ⟨k1, k2, k3⟩ := vx_keep h0 e1 hS hA hf hL hF
    obtain ⟨t2, a1, b1⟩ := kk r u t T'.heap (locs ++ L) e1.symm (by rw [← e2]; exact X'.warmed.alike) hp hb k1 k2 k3 T' rfl X'
    exact ⟨t2, st t2 a1, b1⟩
  · obtain ⟨k1, k2, k3⟩ := vx_keep h0 e1 hS hAX hf hL hF
    obtain ⟨t2, a1, b1⟩ := kx E ce q u t T'.heap (locs ++ L) e1.symm (by rw [← e2]; exact X'.warmed.alike) hp hb k1 k2 k3 (by rw [e1]; exact hce) hcv hcl T' rfl X'
    exact ⟨t2, st.trans a1, b1⟩
theorem vx_calll {S SX : Type} {post : Int64 → S → Prop} {px : SX → Prop} {B : S → State → Prop} {BX : String → SX → State → Prop} {AX : Nat → Prop} (hr : vx_Run p l e R s m args below meth c H locs cells slots mc ms (F0 m pc ls st0) rest (va_Ql post B A1 a) (vx_X px BX AX) free) (hS : va_S A0 H0 H locs) (hA : ∀ q, q < H.size → A1 q → A0 q) (hf : ∀ q, free q → A0 q) (hAX : ∀ q, q < H.size → AX q → A0 q)
    (kx : ∀ (E : String) (ce : Cell) (q9 : Addr) (u : SX) (t : State) (H1 : Heap) (locs1 : List Loc), t.heap = H1 → s.vm.Alike t.vm → px u → BX E u t → H.size ≤ H1.size → (∀ q : Nat, q < H.size → ¬ AX q → H1[q]? = H[q]?) → va_S A0 H0 H1 locs1 → H1[q9]? = some ce → ce.vm = .none → s.vm.findClass E = some ce.cls → vx_W p l e R s m args below meth c H1 locs1 (cells + mc) (slots + ms) Q (F0 m pc ls rest) q9)
    (kk : ∀ (r : Int64) (u : S) (t : State) (H1 : Heap) (locs1 : List Loc), t.heap = H1 → s.vm.Alike t.vm → post r u → B u t → H.size ≤ H1.size → (∀ q : Nat, q < H.size → ¬ A1 q → H1[q]? = H[q]?) → va_S A0 H0 H1 locs1 → W p l e R s m args below meth c H1 locs1 (cells + mc) (slots + ms) Q (F0 m (pc + 3) ls (.long r :: rest))) : W p l e R s m args below meth c H locs cells slots Q (F0 m pc ls st0) := by
  intro T hT X
  rcases hr T hT X with ⟨v, st₀, t, T', L, h0, X', hL, e1, e2, ⟨⟨r, u, hv, hp, hb⟩, hF⟩, st⟩ | ⟨q, st₀, t, T', L, E, ce, h0, X', hL, e1, e2, ⟨u, hp, hb, hF⟩, hce, hcv, hcl, st⟩
  · cases hv
    obtain ⟨k1, k2, k3⟩ := vx_keep h0 e1 hS hA hf hL hF
    obtain ⟨t2, a1, b1⟩ := kk r u t T'.heap (locs ++ L) e1.symm (by rw [← e2]; exact X'.warmed.alike) hp hb k1 k2 k3 T' rfl X'
    exact ⟨t2, st t2 a1, b1⟩
  · obtain ⟨k1, k2, k3⟩ := vx_keep h0 e1 hS hAX hf hL hF
    obtain ⟨t2, a1, b1⟩ := kx E ce q u t T'.heap (locs ++ L) e1.symm (by rw [← e2]; exact X'.warmed.alike) hp hb k1 k2 k3 (by rw [e1]; exact hce) hcv hcl T' rfl X'
    exact ⟨t2, st.trans a1, b1⟩
theorem vx_callf {S SX : Type} {post : UInt32 → S → Prop} {px : SX → Prop} {B : S → State → Prop} {BX : String → SX → State → Prop} {AX : Nat → Prop} (hr : vx_Run p l e R s m args below meth c H locs cells slots mc ms (F0 m pc ls st0) rest (va_Qf post B A1 a) (vx_X px BX AX) free) (hS : va_S A0 H0 H locs) (hA : ∀ q, q < H.size → A1 q → A0 q) (hf : ∀ q, free q → A0 q) (hAX : ∀ q, q < H.size → AX q → A0 q)
    (kx : ∀ (E : String) (ce : Cell) (q9 : Addr) (u : SX) (t : State) (H1 : Heap) (locs1 : List Loc), t.heap = H1 → s.vm.Alike t.vm → px u → BX E u t → H.size ≤ H1.size → (∀ q : Nat, q < H.size → ¬ AX q → H1[q]? = H[q]?) → va_S A0 H0 H1 locs1 → H1[q9]? = some ce → ce.vm = .none → s.vm.findClass E = some ce.cls → vx_W p l e R s m args below meth c H1 locs1 (cells + mc) (slots + ms) Q (F0 m pc ls rest) q9)
    (kk : ∀ (r : UInt32) (u : S) (t : State) (H1 : Heap) (locs1 : List Loc), t.heap = H1 → s.vm.Alike t.vm → post r u → B u t → H.size ≤ H1.size → (∀ q : Nat, q < H.size → ¬ A1 q → H1[q]? = H[q]?) → va_S A0 H0 H1 locs1 → W p l e R s m args below meth c H1 locs1 (cells + mc) (slots + ms) Q (F0 m (pc + 3) ls (.float r :: rest))) : W p l e R s m args below meth c H locs cells slots Q (F0 m pc ls st0) := by
  intro T hT X
  rcases hr T hT X with ⟨v, st₀, t, T', L, h0, X', hL, e1, e2, ⟨⟨r, u, hv, hp, hb⟩, hF⟩, st⟩ | ⟨q, st₀, t, T', L, E, ce, h0, X', hL, e1, e2, ⟨u, hp, hb, hF⟩, hce, hcv, hcl, st⟩
  · cases hv
    obtain ⟨k1, k2, k3⟩ := vx_keep h0 e1 hS hA hf hL hF
    obtain ⟨t2, a1, b1⟩ := kk r u t T'.heap (locs ++ L) e1.symm (by rw [← e2]; exact X'.warmed.alike) hp hb k1 k2 k3 T' rfl X'
    exact ⟨t2, st t2 a1, b1⟩
  · obtain ⟨k1, k2, k3⟩ := vx_keep h0 e1 hS hAX hf hL hF
    obtain ⟨t2, a1, b1⟩ := kx E ce q u t T'.heap (locs ++ L) e1.symm (by rw [← e2]; exact X'.warmed.alike) hp hb k1 k2 k3 (by rw [e1]; exact hce) hcv hcl T' rfl X'
    exact ⟨t2, st.trans a1, b1⟩
theorem vx_calld {S SX : Type} {post : UInt64 → S → Prop} {px : SX → Prop} {B : S → State → Prop} {BX : String → SX → State → Prop} {AX : Nat → Prop} (hr : vx_Run p l e R s m args below meth c H locs cells slots mc ms (F0 m pc ls st0) rest (va_Qd post B A1 a) (vx_X px BX AX) free) (hS : va_S A0 H0 H locs) (hA : ∀ q, q < H.size → A1 q → A0 q) (hf : ∀ q, free q → A0 q) (hAX : ∀ q, q < H.size → AX q → A0 q)
    (kx : ∀ (E : String) (ce : Cell) (q9 : Addr) (u : SX) (t : State) (H1 : Heap) (locs1 : List Loc), t.heap = H1 → s.vm.Alike t.vm → px u → BX E u t → H.size ≤ H1.size → (∀ q : Nat, q < H.size → ¬ AX q → H1[q]? = H[q]?) → va_S A0 H0 H1 locs1 → H1[q9]? = some ce → ce.vm = .none → s.vm.findClass E = some ce.cls → vx_W p l e R s m args below meth c H1 locs1 (cells + mc) (slots + ms) Q (F0 m pc ls rest) q9)
    (kk : ∀ (r : UInt64) (u : S) (t : State) (H1 : Heap) (locs1 : List Loc), t.heap = H1 → s.vm.Alike t.vm → post r u → B u t → H.size ≤ H1.size → (∀ q : Nat, q < H.size → ¬ A1 q → H1[q]? = H[q]?) → va_S A0 H0 H1 locs1 → W p l e R s m args below meth c H1 locs1 (cells + mc) (slots + ms) Q (F0 m (pc + 3) ls (.double r :: rest))) : W p l e R s m args below meth c H locs cells slots Q (F0 m pc ls st0) := by
  intro T hT X
  rcases hr T hT X with ⟨v, st₀, t, T', L, h0, X', hL, e1, e2, ⟨⟨r, u, hv, hp, hb⟩, hF⟩, st⟩ | ⟨q, st₀, t, T', L, E, ce, h0, X', hL, e1, e2, ⟨u, hp, hb, hF⟩, hce, hcv, hcl, st⟩
  · cases hv
    obtain ⟨k1, k2, k3⟩ := vx_keep h0 e1 hS hA hf hL hF
    obtain ⟨t2, a1, b1⟩ := kk r u t T'.heap (locs ++ L) e1.symm (by rw [← e2]; exact X'.warmed.alike) hp hb k1 k2 k3 T' rfl X'
    exact ⟨t2, st t2 a1, b1⟩
  · obtain ⟨k1, k2, k3⟩ := vx_keep h0 e1 hS hAX hf hL hF
    obtain ⟨t2, a1, b1⟩ := kx E ce q u t T'.heap (locs ++ L) e1.symm (by rw [← e2]; exact X'.warmed.alike) hp hb k1 k2 k3 (by rw [e1]; exact hce) hcv hcl T' rfl X'
    exact ⟨t2, st.trans a1, b1⟩
theorem vx_callv {S SX : Type} {post : S → Prop} {px : SX → Prop} {B : S → State → Prop} {BX : String → SX → State → Prop} {AX : Nat → Prop} (hr : vx_Run p l e R s m args below meth c H locs cells slots mc ms (F0 m pc ls st0) rest (va_Qv post B A1 a) (vx_X px BX AX) free) (hS : va_S A0 H0 H locs) (hA : ∀ q, q < H.size → A1 q → A0 q) (hf : ∀ q, free q → A0 q) (hAX : ∀ q, q < H.size → AX q → A0 q)
    (kx : ∀ (E : String) (ce : Cell) (q9 : Addr) (u : SX) (t : State) (H1 : Heap) (locs1 : List Loc), t.heap = H1 → s.vm.Alike t.vm → px u → BX E u t → H.size ≤ H1.size → (∀ q : Nat, q < H.size → ¬ AX q → H1[q]? = H[q]?) → va_S A0 H0 H1 locs1 → H1[q9]? = some ce → ce.vm = .none → s.vm.findClass E = some ce.cls → vx_W p l e R s m args below meth c H1 locs1 (cells + mc) (slots + ms) Q (F0 m pc ls rest) q9)
    (kk : ∀ (u : S) (t : State) (H1 : Heap) (locs1 : List Loc), t.heap = H1 → s.vm.Alike t.vm → post u → B u t → H.size ≤ H1.size → (∀ q : Nat, q < H.size → ¬ A1 q → H1[q]? = H[q]?) → va_S A0 H0 H1 locs1 → W p l e R s m args below meth c H1 locs1 (cells + mc) (slots + ms) Q (F0 m (pc + 3) ls (rest))) : W p l e R s m args below meth c H locs cells slots Q (F0 m pc ls st0) := by
  intro T hT X
  rcases hr T hT X with ⟨v, st₀, t, T', L, h0, X', hL, e1, e2, ⟨⟨u, hv, hp, hb⟩, hF⟩, st⟩ | ⟨q, st₀, t, T', L, E, ce, h0, X', hL, e1, e2, ⟨u, hp, hb, hF⟩, hce, hcv, hcl, st⟩
  · cases hv
    obtain ⟨k1, k2, k3⟩ := vx_keep h0 e1 hS hA hf hL hF
    obtain ⟨t2, a1, b1⟩ := kk u t T'.heap (locs ++ L) e1.symm (by rw [← e2]; exact X'.warmed.alike) hp hb k1 k2 k3 T' rfl X'
    exact ⟨t2, st t2 a1, b1⟩
  · obtain ⟨k1, k2, k3⟩ := vx_keep h0 e1 hS hAX hf hL hF
    obtain ⟨t2, a1, b1⟩ := kx E ce q u t T'.heap (locs ++ L) e1.symm (by rw [← e2]; exact X'.warmed.alike) hp hb k1 k2 k3 (by rw [e1]; exact hce) hcv hcl T' rfl X'
    exact ⟨t2, st.trans a1, b1⟩
/-- caught by the row x of this method's table; the rows ahead don't take it -/
theorem vx_catch {own name : String} {E : String} {ce : Cell} {q : Addr} (hown : s.vm.findClass own = some m.cls) (pre : List ExceptionTableEntry) (x : ExceptionTableEntry) (suf : List ExceptionTableEntry) (hsplit : c.exceptionTable.toList = pre ++ x :: suf)
    (hpass : ∀ z ∈ pre, covers z pc = false ∨ (z.catchType ≠ 0 ∧ ∃ nm : String, (Cond.classLink own z.catchType nm).before args s = true ∧ va_Nc E nm s)) (hx : covers x pc = true) (h0 : x.catchType ≠ 0)
    (hlink : (Cond.classLink own x.catchType name).before args s = true) (hcast : (Cond.castable E name).before args s = true) (hcell : H[q]? = some ce) (hv : ce.vm = .none) (hcl : s.vm.findClass E = some ce.cls)
    (kk : W p l e R s m args below meth c H locs cells slots Q (F0 m x.handlerPc ls [.ref q])) : vx_W p l e R s m args below meth c H locs cells slots Q (F0 m pc ls rest) q := by
  intro T hT X
  have hpl : e.platform.magicAccessors = ({} : Platform).magicAccessors := by rw [X.admits.platform]
  obtain ⟨c3, c4, hc3, hc4, hasg⟩ := Cond.castable_spec hcast
  cases Option.some.inj (hc3.symm.trans hcl)
  obtain ⟨c5, hc5, hcl5⟩ := Cond.classLink_spec hown hlink e.platform hpl
  cases Option.some.inj (hc4.symm.trans hc5)
  obtain ⟨vm', X', st⟩ := X.thenCaughtThrough q (g := F0 m pc ls rest) rfl (Steps.refl _) (by rw [hT]; exact hcell) (by rw [hv]; rfl) (by obtain ⟨k9, h9, -⟩ := Vm.findClass_spec hcl; exact ⟨k9, h9⟩) pre x suf hsplit
    (fun z hz => by
      rcases hpass z hz with h | ⟨hz0, nm, hl1, hn1⟩
      · exact Or.inl h
      · obtain ⟨c6, hc6, hcl6⟩ := Cond.classLink_spec hown hl1 e.platform hpl
        obtain ⟨a8, b8, h1, h2, h3⟩ := hn1
        cases Option.some.inj (h1.symm.trans hcl)
        cases Option.some.inj (h2.symm.trans hc6)
        exact Or.inr ⟨hz0, _, hcl6, h3⟩) hx (Or.inr ⟨h0, c4, hcl5, hasg⟩)
  obtain ⟨t, a1, b1⟩ := kk (T.setVm vm') hT X'
  exact ⟨t, st.trans a1, b1⟩
end Rows
section Ends
variable {p : Program} {l : Launch} {e : Env} {R : Room} {s : State} {m : MethodId} {args : Array Value} {below : List Frame} {meth : Method} {c : Code} {H : Heap} {locs : List Loc} {cells slots : Nat} {Q : State → Prop}
variable {mc ms : Nat} {free : Addr → Prop} {A0 A1 : Nat → Prop} {H0 : Heap} {a : Array Value} {ls : Array Slot} {st0 rest : List Value}
variable {Qc : Array Value → State → Outcome → State → Prop} {XC : String → State → State → Prop}
/-- what a body that may throw owes at its end -/
def vx_MQ (below : List Frame) (Qc : Array Value → State → Outcome → State → Prop) (XC : String → State → State → Prop) (a : Array Value) (s : State) (mc ms : Nat) (free : Addr → Prop) : State → Prop := fun t =>
  ∃ o, t.status = .running ∧ Ended t below o ∧ vx_Q Qc XC mc ms free a s o t
theorem vx_ret {g : JFrame} {mc ms : Nat} (k : W p l e R s m args below meth c H locs cells slots (MQ below Qc args s mc ms free) g) : W p l e R s m args below meth c H locs cells slots (vx_MQ below Qc XC args s mc ms free) g := by
  intro T hT X
  obtain ⟨t, a1, o, b1, b2, b3, b4⟩ := k T hT X
  exact ⟨t, a1, o, b1, b2, Or.inl ⟨b3, b4⟩⟩
/-- not caught here: it goes on to the caller -/
theorem vx_widen {g : JFrame} {q : Addr} {k n : Nat} (h1 : cells ≤ k) (h2 : slots ≤ n) (kk : vx_W p l e R s m args below meth c H locs k n Q g q) : vx_W p l e R s m args below meth c H locs cells slots Q g q := fun T hT X => kk T hT (stand_widen X h1 h2)
theorem vx_out {pc : Nat} {E : String} {ce : Cell} {q : Addr} {mc ms : Nat} (hout : ∀ x ∈ c.exceptionTable.toList, covers x pc = false) (hlocks : meth.locks = false) (hcell : H[q]? = some ce) (hv : ce.vm = .none) (hcl : s.vm.findClass E = some ce.cls)
    (hx : ∀ t : State, t.heap = H → s.vm.Alike t.vm → XC E s t) (hf : ∀ z ∈ locs, free z.base) (hc : cells ≤ mc) (hs : slots ≤ ms) :
    vx_W p l e R s m args below meth c H locs cells slots (vx_MQ below Qc XC args s mc ms free) (F0 m pc ls rest) q := by
  intro T hT X
  obtain ⟨st1, hrun, hend, hW, hsm⟩ := X.leaveThrown q (g := F0 m pc ls rest) rfl rfl rfl hout hlocks
  have hcell9 : (T.setFrames (.throwing q :: below)).heap[q]? = some ce := by
    show T.heap[q]? = some ce
    rw [hT]; exact hcell
  exact ⟨_, st1, .threw q, hrun, hend, Or.inr ⟨q, rfl, E, ce, locs, hx _ hT hW.alike, hcell9, hv, hcl, hW, hsm.mono hc hs, hf⟩⟩
theorem vx_frame {U : State} {k n : Nat} (h : s.sameButNew ({ U with vm := s.vm } : State) locs k n) : s.heap.size ≤ U.heap.size ∧ ∀ q : Nat, q < s.heap.size → (∀ z ∈ locs, z.base ≠ q) → U.heap[q]? = s.heap[q]? := by
  obtain ⟨-, h2, -, -, -, h6⟩ := h
  refine ⟨h2, fun q hq hz => ?_⟩
  obtain ⟨c9, e1, e2, e3, e4⟩ := h6 q _ (Array.getElem?_eq_getElem hq)
  have hs : c9.slots = (s.heap[q]).slots := Array.ext_getElem? fun i => e4 i fun hm => hz _ hm rfl
  have h9 : c9 = s.heap[q] := by
    rw [hs] at e2
    exact e2
  have e5 : U.heap[q]? = some c9 := e1
  rw [e5, h9, Array.getElem?_eq_getElem hq]
/-- the words of a throw but the four that speak of the heap -/
def vx_no (w : Cond) : Bool := decide (w ≠ .isRef (.static Bundle.tN "UNASSIGNED_STACK" Bundle.steD)) && decide (w ≠ .isRef (.static Bundle.tN "SUPPRESSED_SENTINEL" Bundle.listD)) && decide (w ≠ .laysStatic Bundle.tN "UNASSIGNED_STACK" Bundle.steD) && decide (w ≠ .laysStatic Bundle.tN "SUPPRESSED_SENTINEL" Bundle.listD)
def vx_at0 (own : String) (ic : Nat) (X : String) (names : List String) : List Cond := (Bundle.ownAtoms0 own ic X names).filter vx_no
def vx_atS (own : String) (ic : Nat) (X : String) (names : List String) : List Cond := (Bundle.ownAtoms own ic X names).filter vx_no
/-- a word that the tables alone decide, or a good one -/
def vx_ot (w : Cond) : Bool := w.onTables || goodWord w
theorem vx_ot_at {args a' : Array Value} {s U : State} {w : Cond} (hW : s.WarmedH U.vm) (hvm : s.vm = U.vm) (hg : vx_ot w = true) (h : w.before args s = true) : w.before a' U = true := by
  simp only [vx_ot, Bool.or_eq_true] at hg
  rcases hg with hg | hg
  · exact va_tabs hg hvm h
  · exact word_at hW (good_of_word hg) h
/-- a list's words: the good ones out of the method's own list, the others by premises of their own -/
theorem vx_hat {args : Array Value} {s : State} {L B : List Cond} (h1 : ∀ w ∈ L.filter goodWord, w.before args s = true) (h2 : ∀ w ∈ L.filter (fun w => !goodWord w), w ∈ B) (h3 : ∀ w ∈ B, w.before args s = true) : ∀ w ∈ L, w.before args s = true := by
  intro w hw
  by_cases g : goodWord w = true
  · exact h1 w (List.mem_filter.mpr ⟨hw, g⟩)
  · refine h3 w (h2 w (List.mem_filter.mpr ⟨hw, ?_⟩))
    show (!goodWord w) = true
    cases hgw : goodWord w
    · rfl
    · exact absurd hgw g
theorem vx_c {args : Array Value} {s : State} {w : Cond} {B : List Cond} (h : w.before args s = true) (t : ∀ w ∈ B, w.before args s = true) : ∀ w' ∈ w :: B, w'.before args s = true := fun w' h' => (List.mem_cons.mp h').elim (fun e => by rw [e]; exact h) (t w')
theorem vx_n {args : Array Value} {s : State} : ∀ w ∈ ([] : List Cond), w.before args s = true := fun _ h => nomatch h
theorem vx_own {args : Array Value} {s : State} {L : List Cond} (h1 : ∀ w ∈ L.filter vx_no, w.before args s = true)
    (hU : (Cond.isRef (.static Bundle.tN "UNASSIGNED_STACK" Bundle.steD)).before args s = true) (hN : (Cond.isRef (.static Bundle.tN "SUPPRESSED_SENTINEL" Bundle.listD)).before args s = true)
    (lU : (Cond.laysStatic Bundle.tN "UNASSIGNED_STACK" Bundle.steD).before args s = true) (lN : (Cond.laysStatic Bundle.tN "SUPPRESSED_SENTINEL" Bundle.listD).before args s = true) : ∀ w ∈ L, w.before args s = true := by
  intro w hw
  by_cases e1 : w = .isRef (.static Bundle.tN "UNASSIGNED_STACK" Bundle.steD)
  · rw [e1]; exact hU
  · by_cases e2 : w = .isRef (.static Bundle.tN "SUPPRESSED_SENTINEL" Bundle.listD)
    · rw [e2]; exact hN
    · by_cases e3 : w = .laysStatic Bundle.tN "UNASSIGNED_STACK" Bundle.steD
      · rw [e3]; exact lU
      · by_cases e4 : w = .laysStatic Bundle.tN "SUPPRESSED_SENTINEL" Bundle.listD
        · rw [e4]; exact lN
        · exact h1 w (List.mem_filter.mpr ⟨hw, by unfold vx_no; rw [decide_eq_true e1, decide_eq_true e2, decide_eq_true e3, decide_eq_true e4]; rfl⟩)
/-- where a static field lies, its class's statics cell in H -/
def vx_L (C n d : String) (A : Nat → Prop) (U : State) (H : Heap) : Prop := ∃ (c : ClassId) (k : Class) (i : Nat) (f : Field) (a : Nat) (cell : Cell), U.vm.findClass C = some c ∧ U.fieldFound? C n d = some (c, k, i, f) ∧ f.isStatic = true ∧ k.statics = some a ∧ H[a]? = some cell ∧ cell.vm.isStatics = true ∧ cell.cls = c ∧ f.slot < cell.slots.size ∧ k.staticTypes[f.slot]? = some f.type ∧ ¬ A a
theorem vx_L.moved {C n d : String} {A : Nat → Prop} {u U : State} {H : Heap} (hvm : u.vm.Alike U.vm) (h : vx_L C n d A u H) : vx_L C n d A U H := by
  obtain ⟨c, k, i, f, a, cell, h1, h2, h3, h4, h5, h6, h7, h8, h9, h10⟩ := h
  obtain ⟨k', hi', he⟩ := State.fieldFound?_setVm hvm h2
  exact ⟨c, k', i, f, a, cell, by rw [hvm.findClass]; exact h1, hi', h3, by rw [he]; exact h4, h5, h6, h7, h8, by rw [he]; exact h9, h10⟩
theorem vx_L.kept {C n d : String} {A : Nat → Prop} {U : State} {H H1 : Heap} (h : vx_L C n d A U H) (hq : ∀ a : Nat, a < H.size → ¬ A a → H1[a]? = H[a]?) : vx_L C n d A U H1 := by
  obtain ⟨c, k, i, f, a, cell, h1, h2, h3, h4, h5, h6, h7, h8, h9, h10⟩ := h
  exact ⟨c, k, i, f, a, cell, h1, h2, h3, h4, by rw [hq a (Array.getElem?_eq_some_iff.mp h5).1 h10]; exact h5, h6, h7, h8, h9, h10⟩
theorem vx_L.narrow {C n d : String} {A B : Nat → Prop} {U : State} {H : Heap} (h : vx_L C n d A U H) (hAB : ∀ q, B q → A q) : vx_L C n d B U H := by
  obtain ⟨c, k, i, f, a, cell, h1, h2, h3, h4, h5, h6, h7, h8, h9, h10⟩ := h
  exact ⟨c, k, i, f, a, cell, h1, h2, h3, h4, h5, h6, h7, h8, h9, fun z => h10 (hAB _ z)⟩
theorem vx_L.word {C n d : String} {A : Nat → Prop} {s : State} {args : Array Value} (h : vx_L C n d A s s.heap) : (Cond.laysStatic C n d).before args s = true := by
  obtain ⟨c, k, i, f, a, cell, h1, h2, h3, h4, h5, h6, h7, h8, h9, -⟩ := h
  show (Cond.laysStatic C n d).holds args s none s [] = true
  exact Cond.laysStatic_of h1 h2 h3 h4 h5 h6 h7 h8 h9
/-- .. and what it holds: null or some reference -/
def vx_Zq (C n d : String) (A : Nat → Prop) (U : State) (H : Heap) : Prop := va_Zq C n d A U H ∧ vx_L C n d A U H
theorem vx_Zq.moved {C n d : String} {A : Nat → Prop} {u U : State} {H : Heap} (hvm : u.vm.Alike U.vm) (h : vx_Zq C n d A u H) : vx_Zq C n d A U H := ⟨va_Zq.moved hvm h.1, vx_L.moved hvm h.2⟩
theorem vx_Zq.kept {C n d : String} {A : Nat → Prop} {U : State} {H H1 : Heap} (h : vx_Zq C n d A U H) (hq : ∀ a : Nat, a < H.size → ¬ A a → H1[a]? = H[a]?) : vx_Zq C n d A U H1 := ⟨va_Zq.kept h.1 hq, vx_L.kept h.2 hq⟩
theorem vx_Zq.narrow {C n d : String} {A B : Nat → Prop} {U : State} {H : Heap} (h : vx_Zq C n d A U H) (hAB : ∀ q, B q → A q) : vx_Zq C n d B U H := ⟨va_Zq.narrow h.1 hAB, vx_L.narrow h.2 hAB⟩
theorem vx_Zqof {args : Array Value} {s : State} {C n d : String} {A : Nat → Prop} (hl : (Cond.laysStatic C n d).before args s = true) (hini : (Cond.initialized C).before args s = true) (h : (Cond.isRef (.static C n d)).before args s = true) (hA : ∀ a : Nat, a < s.heap.size → ¬ A a) : vx_Zq C n d A s s.heap := by
  refine ⟨va_Zqof hl hini h hA, ?_⟩
  obtain ⟨c, k, i, f, a, cell, h1, h2, h3, h4, h5, h6, h7, h8, h9⟩ := Cond.laysStatic_spec hl
  exact ⟨c, k, i, f, a, cell, h1, h2, h3, h4, h5, h6, h7, h8, h9, hA a (Array.getElem?_eq_some_iff.mp h5).1⟩
theorem vx_isRef {C n d : String} {v : Value} {A : Nat → Prop} {s : State} {args : Array Value} (h : va_Z C n d v A s s.heap) (hv : v.isRef = true) : (Cond.isRef (.static C n d)).before args s = true := by
  obtain ⟨cf, kf, fi, f, a, cell, h1, h2, h3, h4, h5, h6, h7, -⟩ := h
  have he : (Term.static C n d).eval args s none [] s = some v := by
    simp [Term.eval, State.fieldNamed?, h1, h2, h4, h5, h6, h7]
  simp only [Cond.before, Cond.holds, Cond.value, he]
  cases v <;> simp_all [Value.isRef]
theorem vx_isRefq {C n d : String} {A : Nat → Prop} {s : State} {args : Array Value} (h : va_Zq C n d A s s.heap) : (Cond.isRef (.static C n d)).before args s = true := by
  rcases h with h | ⟨t, h⟩
  · exact vx_isRef h rfl
  · exact vx_isRef h rfl
/-- the same frame, seen from here: as if the method were called anew in this heap -/
theorem vx_rebase {T : State} (X : Stand p l e R s m args below meth c T locs cells slots) {R' : Room} (hf : R'.frames ≤ R.frames) (hl : R'.locals ≤ R.locals) (hc : cells + R'.cells ≤ R.cells) (hs : slots + R'.slots ≤ R.slots) :
    Stand p l e R' ((T.setVm s.vm).setFrames (.invoking m args :: below)) m args below meth c T [] 0 0 := by
  have htop : (T.setVm s.vm).topJava?.isSome := X.here.top
  have hF : ((T.setVm s.vm).setFrames (.invoking m args :: below)).frames = .invoking m args :: below := State.frames_setFrames _ (State.cur_lt_of_top htop)
  obtain ⟨g₀, hg0⟩ := Option.isSome_iff_exists.mp htop
  obtain ⟨r, hr⟩ := State.topJava?_eq_some.mp hg0
  have hl9 : e.platform.stackLimits (T.setVm s.vm).me = e.platform.stackLimits s.me := X.limits
  have hb9 : (T.setVm s.vm).me.stackBytes = s.me.stackBytes := X.bytes
  refine ⟨X.admits, X.cas, X.clock, hF, ?_, X.hears, X.method, X.code, X.here, X.tail, X.warmed, ?_, ?_, ?_⟩
  · have h := X.room
    have hU : ((T.setVm s.vm).setFrames (.invoking m args :: below)).localsInUse = s.localsInUse := by
      rw [State.localsInUse_invoking hF (meth := meth) (c := c) X.method X.code, State.localsInUse_invoking X.frames X.method X.code]
    simp only [State.hasRoom, Bool.and_eq_true, decide_eq_true_eq] at h ⊢
    obtain ⟨⟨⟨⟨h1, h2, h3, h4, h5, h6⟩, h7⟩, h8⟩, h9⟩ := h
    rw [X.frames, List.length_cons] at h2 h3
    have q1 := X.heapSize
    have q2 := X.used
    simp only [hF, hU, List.length_cons, State.stackLimits_setFrames, State.stackBytes_setFrames, hl9, hb9]
    refine ⟨⟨⟨⟨by omega, by omega, by omega, by omega, by omega, h6⟩, ?_⟩, ?_⟩, X.book⟩
    · show T.heap.size + R'.cells ≤ e.platform.maxCells
      omega
    · show T.slotsUsed + R'.slots ≤ e.platform.maxSlots
      omega
  · rw [State.stackLimits_setFrames]; rfl
  · rw [State.stackBytes_setFrames]; rfl
  · refine ⟨?_, Nat.le_refl _, Nat.le_refl _, ?_, ?_, fun a c9 h9 => ⟨c9, h9, rfl, rfl, fun _ _ => rfl⟩⟩
    · obtain ⟨t, ht, -⟩ := State.frames_cons hr
      show T.setVm s.vm = { ((T.setVm s.vm).setFrames (.invoking m args :: below)).setFrames (T.setVm s.vm).frames with heap := T.heap, slotsUsed := T.slotsUsed }
      rw [State.setFrames_setFrames, State.setFrames_self ht]
      rfl
    · show T.slotsUsed = T.slotsUsed + ((T.heap.toList.drop T.heap.size).map (·.slots.size)).sum
      rw [List.drop_eq_nil_of_le (Nat.le_of_eq Array.length_toList)]
      rfl
    · show ((T.heap.toList.drop T.heap.size).map (·.slots.size)).sum ≤ 0
      rw [List.drop_eq_nil_of_le (Nat.le_of_eq Array.length_toList)]
      exact Nat.le_refl _
/-- 'throw new E()': new; dup; invokespecial; athrow -/
theorem vx_throw0 {cc : ByteArray} {pc : Nat} (hexec : p.tables.exec = Jvm.exec) (hb : c.code = cc) (hl : l.stackTraces = false) {own cls : String} {names : List String} {ik ic mc ms : Nat} {A : Nat → Prop}
    (hown : s.vm.findClass own = some m.cls) (hcls : Bundle.fit cls = true) (hnames : ∀ n ∈ names, Bundle.fit n = true)
    (hk : (Cond.classLink own ik cls).before args s = true) (hini : (Cond.initialized cls).before args s = true) (hat : ∀ w ∈ vx_at0 own ic cls names, w.before args s = true)
    (hgood : ∀ w ∈ Cond.classLink own ik cls :: Cond.initialized cls :: vx_at0 own ic cls names, vx_ot w = true)
    (hU : vx_Zq Bundle.tN "UNASSIGNED_STACK" Bundle.steD A s s.heap) (hN : vx_Zq Bundle.tN "SUPPRESSED_SENTINEL" Bundle.listD A s s.heap) (hS : va_S A s.heap H locs) (hsize : ls.size = c.maxLocals)
    (d0 : decode cc pc = .ok (.new ik, 3)) (d3 : decode cc (pc + 3) = .ok (.dup, 1)) (d4 : decode cc (pc + 4) = .ok (.invokespecial ic, 3)) (d7 : decode cc (pc + 7) = .ok (.athrow, 1))
    (hout : ∀ x ∈ c.exceptionTable.toList, covers x (pc + 7) = false)
    (hRframes : names.length + 3 < R.frames) (hRlocals : (rest.map fun v => v.category).sum + (13 * (names.length + 1) + 42) ≤ R.locals) (hRcells : cells + 1 ≤ R.cells) (hRslots : slots + 6 ≤ R.slots) (hlocks : meth.locks = false)
    (hx : ∀ t : State, s.vm.Alike t.vm → H.size ≤ t.heap.size → (∀ q : Nat, q < H.size → t.heap[q]? = H[q]?) → XC cls s t)
    (hf : ∀ z ∈ locs, free z.base) (hc : cells + 1 ≤ mc) (hs : slots + 6 ≤ ms) :
    W p l e R s m args below meth c H locs cells slots (vx_MQ below Qc XC args s mc ms free) (F0 m pc ls rest) := by
  intro T hT X
  have htr : e.platform.stackTraces = false := (show e.platform.stackTraces = l.stackTraces by rw [X.admits.platform]).trans hl
  have Y := vx_rebase X (R' := { frames := R.frames, locals := R.locals, cells := 1, slots := 6 }) (Nat.le_refl _) (Nat.le_refl _) hRcells hRslots
  obtain ⟨s', hA⟩ : ∃ z, z = (T.setVm s.vm).setFrames (.invoking m args :: below) := ⟨_, rfl⟩
  rw [← hA] at Y
  have hvm : s'.vm = s.vm := by rw [hA]; rfl
  have hhp : s'.heap = H := by rw [hA]; exact hT
  have hW0 : s.WarmedH s'.vm := by rw [hvm]; exact State.WarmedH.refl s
  have hat' : ∀ w ∈ vx_at0 own ic cls names, w.before args s' = true := fun w hw => vx_ot_at hW0 hvm.symm (hgood w (List.mem_cons_of_mem _ (List.mem_cons_of_mem _ hw))) (hat w hw)
  have hk' : (Cond.classLink own ik cls).before args s' = true := vx_ot_at hW0 hvm.symm (hgood _ List.mem_cons_self) hk
  have hini' : (Cond.initialized cls).before args s' = true := vx_ot_at hW0 hvm.symm (hgood _ (List.mem_cons_of_mem _ List.mem_cons_self)) hini
  have hU' : vx_Zq Bundle.tN "UNASSIGNED_STACK" Bundle.steD A s' s'.heap := by rw [hhp]; exact vx_Zq.moved hW0.alike (hU.kept hS.2.1)
  have hN' : vx_Zq Bundle.tN "SUPPRESSED_SENTINEL" Bundle.listD A s' s'.heap := by rw [hhp]; exact vx_Zq.moved hW0.alike (hN.kept hS.2.1)
  have h : ∀ w ∈ Bundle.ownAtoms0 own ic cls names, w.before args s' = true := vx_own hat' (vx_isRefq hU'.1) (vx_isRefq hN'.1) hU'.2.word hN'.2.word
  have hown' : s'.vm.findClass own = some m.cls := by rw [hvm]; exact hown
  have hins : (Cond.instantiable cls 6).before args s' = true := h _ (by simp [Bundle.ownAtoms0])
  obtain ⟨vm₁, cX, kX, hfX, hkX, -, -, X₁, st1⟩ := Y.newCold hexec (own := own) (C := cls) (index := ik) (n := 6) hown' hk' hins hini'
    (g := F0 m pc ls rest) rfl (by rw [hb]; exact d0) (Nat.le_refl _) (Nat.le_refl _)
  generalize hT1 : (T.setVm vm₁).pushCell { cls := cX, slots := kX.instanceTypes.map defaultValue, vm := .none } = T1 at X₁ st1
  have hcat : (Value.ref T.heap.size).category = 1 := rfl
  have hcellA : T1.heap[T.heap.size]? = some (freshCell cX kX) := by rw [← hT1]; exact State.heap_pushCell_size _ _
  have d3' : decode c.code (pc + 3) = .ok (.dup, 1) := by rw [hb]; exact d3
  obtain ⟨U, hsteps, hrun, hend, hW, hsame, ce, hce, hO⟩ := X₁.ctorThrow0 hexec htr (own := own) (cls := cls) (names := names) (ic := ic) hown' hcls hnames h (fun x hx => nomatch hx) hfX hkX hcellA (by rw [hhp, hT]; exact Nat.le_refl _)
    (g := { method := m, pc := pc + 4, locals := ls, stack := .ref T.heap.size :: .ref T.heap.size :: rest, locked := none }) rfl hsize rfl rfl (rest := rest) rfl
    (by rw [hb]; exact d4) (by rw [hb]; exact d7) hout hRframes (by simp only [List.map_cons, List.sum_cons, hcat]; omega) hlocks
  obtain ⟨f1, f2⟩ := vx_frame hsame
  rw [hhp] at f1 f2
  have hWs : s.WarmedH U.vm := State.WarmedH.trans hW0 hW
  have hcl : s.vm.findClass cls = some ce.cls := by
    have h9 := hO.cls
    rw [hvm] at h9
    exact h9
  have hall : s.sameButNew ({ U with vm := s.vm } : State) locs mc ms := by
    subst hA
    obtain ⟨e1, e2⟩ := hsame
    rw [State.setFrames_setFrames] at e1
    have h2 : (T.setVm s.vm).sameButNew ({ U with vm := s.vm } : State) [] (0 + 1) (0 + 6) := ⟨e1, e2⟩
    have h3 := X.same.trans h2
    rw [List.append_nil] at h3
    exact h3.mono hc hs
  refine ⟨U, ?_, .threw T.heap.size, hrun, hend, Or.inr ⟨T.heap.size, rfl, cls, ce, locs, hx U hWs.alike f1 (fun q hq => f2 q hq (fun z hz => nomatch hz)), hce, hO.vm, hcl, hWs, hall, hf⟩⟩
  refine st1 _ ?_
  show Steps p.tables e below (T1.setTop { method := m, pc := pc + 3, locals := ls, stack := .ref T.heap.size :: rest, locked := none }) _
  jvm_step X₁.here [X₁.here.top, hexec, d3', Value.category]
  exact hsteps
/-- 'throw new E("text")': new; dup; ldc; invokespecial; athrow -/
theorem vx_throwS {cc : ByteArray} {pc : Nat} (hexec : p.tables.exec = Jvm.exec) (hb : c.code = cc) (hl : l.stackTraces = false) {own cls text : String} {names : List String} {ik is ic mc ms sa : Nat} {A : Nat → Prop}
    (hown : s.vm.findClass own = some m.cls) (hcls : Bundle.fit cls = true) (hnames : ∀ n ∈ names, Bundle.fit n = true)
    (hk : (Cond.classLink own ik cls).before args s = true) (hini : (Cond.initialized cls).before args s = true) (hstr : vk_R own is text sa s) (hat : ∀ w ∈ vx_atS own ic cls names, w.before args s = true)
    (hgood : ∀ w ∈ Cond.classLink own ik cls :: Cond.initialized cls :: vx_atS own ic cls names, vx_ot w = true)
    (hU : vx_Zq Bundle.tN "UNASSIGNED_STACK" Bundle.steD A s s.heap) (hN : vx_Zq Bundle.tN "SUPPRESSED_SENTINEL" Bundle.listD A s s.heap) (hS : va_S A s.heap H locs) (hsize : ls.size = c.maxLocals)
    (d0 : decode cc pc = .ok (.new ik, 3)) (d3 : decode cc (pc + 3) = .ok (.dup, 1)) (d4 : decode cc (pc + 4) = .ok (.ldc is, 2)) (d6 : decode cc (pc + 6) = .ok (.invokespecial ic, 3)) (d9 : decode cc (pc + 9) = .ok (.athrow, 1))
    (hout : ∀ x ∈ c.exceptionTable.toList, covers x (pc + 9) = false)
    (hRframes : names.length + 3 < R.frames) (hRlocals : (rest.map fun v => v.category).sum + (13 * (names.length + 1) + 43) ≤ R.locals) (hRcells : cells + 1 ≤ R.cells) (hRslots : slots + 6 ≤ R.slots) (hlocks : meth.locks = false)
    (hx : ∀ t : State, s.vm.Alike t.vm → H.size ≤ t.heap.size → (∀ q : Nat, q < H.size → t.heap[q]? = H[q]?) → XC cls s t)
    (hf : ∀ z ∈ locs, free z.base) (hc : cells + 1 ≤ mc) (hs : slots + 6 ≤ ms) :
    W p l e R s m args below meth c H locs cells slots (vx_MQ below Qc XC args s mc ms free) (F0 m pc ls rest) := by
  intro T hT X
  have htr : e.platform.stackTraces = false := (show e.platform.stackTraces = l.stackTraces by rw [X.admits.platform]).trans hl
  have Y := vx_rebase X (R' := { frames := R.frames, locals := R.locals, cells := 1, slots := 6 }) (Nat.le_refl _) (Nat.le_refl _) hRcells hRslots
  obtain ⟨s', hA⟩ : ∃ z, z = (T.setVm s.vm).setFrames (.invoking m args :: below) := ⟨_, rfl⟩
  rw [← hA] at Y
  have hvm : s'.vm = s.vm := by rw [hA]; rfl
  have hhp : s'.heap = H := by rw [hA]; exact hT
  have hW0 : s.WarmedH s'.vm := by rw [hvm]; exact State.WarmedH.refl s
  have hat' : ∀ w ∈ vx_atS own ic cls names, w.before args s' = true := fun w hw => vx_ot_at hW0 hvm.symm (hgood w (List.mem_cons_of_mem _ (List.mem_cons_of_mem _ hw))) (hat w hw)
  have hk' : (Cond.classLink own ik cls).before args s' = true := vx_ot_at hW0 hvm.symm (hgood _ List.mem_cons_self) hk
  have hini' : (Cond.initialized cls).before args s' = true := vx_ot_at hW0 hvm.symm (hgood _ (List.mem_cons_of_mem _ List.mem_cons_self)) hini
  have hU' : vx_Zq Bundle.tN "UNASSIGNED_STACK" Bundle.steD A s' s'.heap := by rw [hhp]; exact vx_Zq.moved hW0.alike (hU.kept hS.2.1)
  have hN' : vx_Zq Bundle.tN "SUPPRESSED_SENTINEL" Bundle.listD A s' s'.heap := by rw [hhp]; exact vx_Zq.moved hW0.alike (hN.kept hS.2.1)
  have h : ∀ w ∈ Bundle.ownAtoms own ic cls names, w.before args s' = true := vx_own hat' (vx_isRefq hU'.1) (vx_isRefq hN'.1) hU'.2.word hN'.2.word
  have hown' : s'.vm.findClass own = some m.cls := by rw [hvm]; exact hown
  have hins : (Cond.instantiable cls 6).before args s' = true := h _ (by simp [Bundle.ownAtoms])
  obtain ⟨vm₁, cX, kX, hfX, hkX, -, -, X₁, st1⟩ := Y.newCold hexec (own := own) (C := cls) (index := ik) (n := 6) hown' hk' hins hini'
    (g := F0 m pc ls rest) rfl (by rw [hb]; exact d0) (Nat.le_refl _) (Nat.le_refl _)
  generalize hT1 : (T.setVm vm₁).pushCell { cls := cX, slots := kX.instanceTypes.map defaultValue, vm := .none } = T1 at X₁ st1
  have hcat : (Value.ref T.heap.size).category = 1 := rfl
  have hcellA : T1.heap[T.heap.size]? = some (freshCell cX kX) := by rw [← hT1]; exact State.heap_pushCell_size _ _
  have d3' : decode c.code (pc + 3) = .ok (.dup, 1) := by rw [hb]; exact d3
  have d4' : decode c.code (pc + 4) = .ok (.ldc is, 2) := by rw [hb]; exact d4
  have hstr' : vk_R own is text sa s' := vk_R.warm hW0 hstr
  obtain ⟨U, hsteps, hrun, hend, hW, hsame, ce, hce, hO⟩ := X₁.ctorThrowS hexec htr (own := own) (cls := cls) (names := names) (ic := ic) hown' hcls hnames h (fun x hx => nomatch hx) hfX hkX hcellA (by rw [hhp, hT]; exact Nat.le_refl _) (msg := .ref sa) rfl
    (g := { method := m, pc := pc + 6, locals := ls, stack := .ref sa :: .ref T.heap.size :: .ref T.heap.size :: rest, locked := none }) rfl hsize rfl rfl (rest := rest) rfl
    (by rw [hb]; exact d6) (by rw [hb]; exact d9) hout hRframes (by simp only [List.map_cons, List.sum_cons, hcat]; omega) hlocks
  obtain ⟨f1, f2⟩ := vx_frame hsame
  rw [hhp] at f1 f2
  have hWs : s.WarmedH U.vm := State.WarmedH.trans hW0 hW
  have hcl : s.vm.findClass cls = some ce.cls := by
    have h9 := hO.cls
    rw [hvm] at h9
    exact h9
  have hall : s.sameButNew ({ U with vm := s.vm } : State) locs mc ms := by
    subst hA
    obtain ⟨e1, e2⟩ := hsame
    rw [State.setFrames_setFrames] at e1
    have h2 : (T.setVm s.vm).sameButNew ({ U with vm := s.vm } : State) [] (0 + 1) (0 + 6) := ⟨e1, e2⟩
    have h3 := X.same.trans h2
    rw [List.append_nil] at h3
    exact h3.mono hc hs
  refine ⟨U, ?_, .threw T.heap.size, hrun, hend, Or.inr ⟨T.heap.size, rfl, cls, ce, locs, hx U hWs.alike f1 (fun q hq => f2 q hq (fun z hz => nomatch hz)), hce, hO.vm, hcl, hWs, hall, hf⟩⟩
  refine st1 _ ?_
  show Steps p.tables e below (T1.setTop { method := m, pc := pc + 3, locals := ls, stack := .ref T.heap.size :: rest, locked := none }) _
  jvm_step X₁.here [X₁.here.top, hexec, d3', Value.category]
  exact X₁.ldcString hexec (own := own) (text := text) (index := is) (a := sa) hown' hstr'.1 hstr'.2
    (g := { method := m, pc := pc + 4, locals := ls, stack := .ref T.heap.size :: .ref T.heap.size :: rest, locked := none }) rfl d4' _ hsteps
/-- 'throw new E("text")', the text by a wide index -/
theorem vx_throwSW {cc : ByteArray} {pc : Nat} (hexec : p.tables.exec = Jvm.exec) (hb : c.code = cc) (hl : l.stackTraces = false) {own cls text : String} {names : List String} {ik is ic mc ms sa : Nat} {A : Nat → Prop}
    (hown : s.vm.findClass own = some m.cls) (hcls : Bundle.fit cls = true) (hnames : ∀ n ∈ names, Bundle.fit n = true)
    (hk : (Cond.classLink own ik cls).before args s = true) (hini : (Cond.initialized cls).before args s = true) (hstr : vk_R own is text sa s) (hat : ∀ w ∈ vx_atS own ic cls names, w.before args s = true)
    (hgood : ∀ w ∈ Cond.classLink own ik cls :: Cond.initialized cls :: vx_atS own ic cls names, vx_ot w = true)
    (hU : vx_Zq Bundle.tN "UNASSIGNED_STACK" Bundle.steD A s s.heap) (hN : vx_Zq Bundle.tN "SUPPRESSED_SENTINEL" Bundle.listD A s s.heap) (hS : va_S A s.heap H locs) (hsize : ls.size = c.maxLocals)
    (d0 : decode cc pc = .ok (.new ik, 3)) (d3 : decode cc (pc + 3) = .ok (.dup, 1)) (d4 : decode cc (pc + 4) = .ok (.ldc_w is, 3)) (d7 : decode cc (pc + 7) = .ok (.invokespecial ic, 3)) (d10 : decode cc (pc + 10) = .ok (.athrow, 1))
    (hout : ∀ x ∈ c.exceptionTable.toList, covers x (pc + 10) = false)
    (hRframes : names.length + 3 < R.frames) (hRlocals : (rest.map fun v => v.category).sum + (13 * (names.length + 1) + 43) ≤ R.locals) (hRcells : cells + 1 ≤ R.cells) (hRslots : slots + 6 ≤ R.slots) (hlocks : meth.locks = false)
    (hx : ∀ t : State, s.vm.Alike t.vm → H.size ≤ t.heap.size → (∀ q : Nat, q < H.size → t.heap[q]? = H[q]?) → XC cls s t)
    (hf : ∀ z ∈ locs, free z.base) (hc : cells + 1 ≤ mc) (hs : slots + 6 ≤ ms) :
    W p l e R s m args below meth c H locs cells slots (vx_MQ below Qc XC args s mc ms free) (F0 m pc ls rest) := by
  intro T hT X
  have htr : e.platform.stackTraces = false := (show e.platform.stackTraces = l.stackTraces by rw [X.admits.platform]).trans hl
  have Y := vx_rebase X (R' := { frames := R.frames, locals := R.locals, cells := 1, slots := 6 }) (Nat.le_refl _) (Nat.le_refl _) hRcells hRslots
  obtain ⟨s', hA⟩ : ∃ z, z = (T.setVm s.vm).setFrames (.invoking m args :: below) := ⟨_, rfl⟩
  rw [← hA] at Y
  have hvm : s'.vm = s.vm := by rw [hA]; rfl
  have hhp : s'.heap = H := by rw [hA]; exact hT
  have hW0 : s.WarmedH s'.vm := by rw [hvm]; exact State.WarmedH.refl s
  have hat' : ∀ w ∈ vx_atS own ic cls names, w.before args s' = true := fun w hw => vx_ot_at hW0 hvm.symm (hgood w (List.mem_cons_of_mem _ (List.mem_cons_of_mem _ hw))) (hat w hw)
  have hk' : (Cond.classLink own ik cls).before args s' = true := vx_ot_at hW0 hvm.symm (hgood _ List.mem_cons_self) hk
  have hini' : (Cond.initialized cls).before args s' = true := vx_ot_at hW0 hvm.symm (hgood _ (List.mem_cons_of_mem _ List.mem_cons_self)) hini
  have hU' : vx_Zq Bundle.tN "UNASSIGNED_STACK" Bundle.steD A s' s'.heap := by rw [hhp]; exact vx_Zq.moved hW0.alike (hU.kept hS.2.1)
  have hN' : vx_Zq Bundle.tN "SUPPRESSED_SENTINEL" Bundle.listD A s' s'.heap := by rw [hhp]; exact vx_Zq.moved hW0.alike (hN.kept hS.2.1)
  have h : ∀ w ∈ Bundle.ownAtoms own ic cls names, w.before args s' = true := vx_own hat' (vx_isRefq hU'.1) (vx_isRefq hN'.1) hU'.2.word hN'.2.word
  have hown' : s'.vm.findClass own = some m.cls := by rw [hvm]; exact hown
  have hins : (Cond.instantiable cls 6).before args s' = true := h _ (by simp [Bundle.ownAtoms])
  obtain ⟨vm₁, cX, kX, hfX, hkX, -, -, X₁, st1⟩ := Y.newCold hexec (own := own) (C := cls) (index := ik) (n := 6) hown' hk' hins hini'
    (g := F0 m pc ls rest) rfl (by rw [hb]; exact d0) (Nat.le_refl _) (Nat.le_refl _)
  generalize hT1 : (T.setVm vm₁).pushCell { cls := cX, slots := kX.instanceTypes.map defaultValue, vm := .none } = T1 at X₁ st1
  have hcat : (Value.ref T.heap.size).category = 1 := rfl
  have hcellA : T1.heap[T.heap.size]? = some (freshCell cX kX) := by rw [← hT1]; exact State.heap_pushCell_size _ _
  have d3' : decode c.code (pc + 3) = .ok (.dup, 1) := by rw [hb]; exact d3
  have d4' : decode c.code (pc + 4) = .ok (.ldc_w is, 3) := by rw [hb]; exact d4
  have hstr' : vk_R own is text sa s' := vk_R.warm hW0 hstr
  obtain ⟨U, hsteps, hrun, hend, hW, hsame, ce, hce, hO⟩ := X₁.ctorThrowS hexec htr (own := own) (cls := cls) (names := names) (ic := ic) hown' hcls hnames h (fun x hx => nomatch hx) hfX hkX hcellA (by rw [hhp, hT]; exact Nat.le_refl _) (msg := .ref sa) rfl
    (g := { method := m, pc := pc + 7, locals := ls, stack := .ref sa :: .ref T.heap.size :: .ref T.heap.size :: rest, locked := none }) rfl hsize rfl rfl (rest := rest) rfl
    (by rw [hb]; exact d7) (by rw [hb]; exact d10) hout hRframes (by simp only [List.map_cons, List.sum_cons, hcat]; omega) hlocks
  obtain ⟨f1, f2⟩ := vx_frame hsame
  rw [hhp] at f1 f2
  have hWs : s.WarmedH U.vm := State.WarmedH.trans hW0 hW
  have hcl : s.vm.findClass cls = some ce.cls := by
    have h9 := hO.cls
    rw [hvm] at h9
    exact h9
  have hall : s.sameButNew ({ U with vm := s.vm } : State) locs mc ms := by
    subst hA
    obtain ⟨e1, e2⟩ := hsame
    rw [State.setFrames_setFrames] at e1
    have h2 : (T.setVm s.vm).sameButNew ({ U with vm := s.vm } : State) [] (0 + 1) (0 + 6) := ⟨e1, e2⟩
    have h3 := X.same.trans h2
    rw [List.append_nil] at h3
    exact h3.mono hc hs
  refine ⟨U, ?_, .threw T.heap.size, hrun, hend, Or.inr ⟨T.heap.size, rfl, cls, ce, locs, hx U hWs.alike f1 (fun q hq => f2 q hq (fun z hz => nomatch hz)), hce, hO.vm, hcl, hWs, hall, hf⟩⟩
  refine st1 _ ?_
  show Steps p.tables e below (T1.setTop { method := m, pc := pc + 3, locals := ls, stack := .ref T.heap.size :: rest, locked := none }) _
  jvm_step X₁.here [X₁.here.top, hexec, d3', Value.category]
  exact X₁.ldcStringW hexec (own := own) (text := text) (index := is) (a := sa) hown' hstr'.1 hstr'.2
    (g := { method := m, pc := pc + 4, locals := ls, stack := .ref T.heap.size :: .ref T.heap.size :: rest, locked := none }) rfl d4' _ hsteps
end Ends
section Bodies
variable {l : Launch}
theorem vx_ofW {y : MethodName} {ws ws' : List Cond} {rm : Room} {Pc : Array Value → State → Prop} {Qc : Array Value → State → Outcome → State → Prop} {XC : String → State → State → Prop} {mc ms : Nat} {free : Addr → Prop} {cc : ByteArray} {maxL : Nat} {ret : Option FieldType}
    (hy : plainName y.cls = true) (hw : ws = Cond.code y cc maxL ret :: ws')
    (body : ∀ p e s m args below meth c s₁, BodyLoose p l y (headSpec ws rm) cc maxL ret e s m args below meth c s₁ → c.maxLocals = maxL → (∀ x ∈ c.exceptionTable.toList, False) → Pc args s →
      W p l e (headSpec ws rm).room s m args below meth c s.heap [] 0 0 (vx_MQ below Qc XC args s mc ms free) (entryFrame m args maxL)) : vx_Met l y ws rm Pc Qc XC mc ms free := by
  refine MetFree.of_bodyS (code := cc) (maxLocals := maxL) (ret := ret) hy ?_ ?_
  · intro args s m h hn
    obtain ⟨meth, c, h1, h2, h3, h4, h5, h6, -, -⟩ := Cond.code_spec hn (atoms_spec (ws := ws) h _ (by rw [hw]; exact List.mem_cons_self))
    exact ⟨meth, c, h1, h2, h3, h4, h5, h6⟩
  · intro p e s m args below meth c s₁ B hml hP _
    have hh0 : s₁.heap = s.heap := by rw [B.state]; rfl
    have ht : ∀ x ∈ c.exceptionTable.toList, False := by
      obtain ⟨meth9, c9, h1, h2, -, -, -, -, h7, -⟩ := Cond.code_spec B.named (atoms_spec (ws := ws) B.pre _ (by rw [hw]; exact List.mem_cons_self))
      cases Option.some.inj (h1.symm.trans B.method)
      cases Option.some.inj (h2.symm.trans (Stand.of_body B).code)
      intro x hx
      rw [Array.isEmpty_iff.mp h7] at hx
      cases hx
    obtain ⟨t, a1, o, b1, b2, b3⟩ := body p e s m args below meth c s₁ B hml ht hP s₁ hh0 (Stand.of_body B)
    exact ⟨t, o, a1, b1, b2, b3⟩
/-- the table of a body with handlers -/
theorem vx_table {p : Program} {x y : MethodName} {S : Spec} {cc bytes : ByteArray} {maxL maxL' : Nat} {ret ret' : Option FieldType} {e : Env} {s s₁ : State} {m : MethodId} {args : Array Value} {below : List Frame} {meth : Method} {c : Code} {hh : List (Nat × Nat × Nat × Nat)}
    (B : BodyLoose p l y S cc maxL ret e s m args below meth c s₁) (h : (Cond.codeWith y bytes maxL' ret' hh).before args s = true) : c.exceptionTable.toList = tableOf hh := by
  obtain ⟨m9, meth9, c9, hn9, h1, h2, -, -, h6, -⟩ := Cond.codeWith_spec h
  cases Option.some.inj (hn9.symm.trans B.named)
  cases Option.some.inj (h1.symm.trans B.method)
  cases Option.some.inj (h2.symm.trans (Stand.of_body B).code)
  rw [← h6, table_eq]
end Bodies
end VXA
/-! ===== END ===== -/
/-! ===== BEGIN a static call of a method with an exception table ===== -/
section VXS
variable {p : Program} {l : Launch} {e : Env} {R : Room} {s : State} {m : MethodId} {args : Array Value} {below : List Frame} {meth : Method} {c : Code} {T : State} {H : Heap} {locs : List Loc} {cells slots : Nat}
abbrev vx_CSW (R : Room) (s : State) (args : Array Value) (own : String) (index : Nat) (y : MethodName) (bytes : ByteArray) (maxL : Nat) (ret : Option FieldType) (hh : List (Nat × Nat × Nat × Nat)) (ws : List Cond) (rm : Room) (mc ms n : Nat) : Prop :=
  (rm.cells = mc ∧ rm.slots = ms ∧ rm.frames + 1 ≤ R.frames ∧ 8 + (maxL + 11) + rm.locals ≤ R.locals ∧ (∀ w ∈ ws, ∀ (a' : Array Value) (U : State), s.WarmedH U.vm → w.before a' U = true) ∧ Cond.codeWith y bytes maxL ret hh ∈ ws) ∧
  (Cond.codeWith y bytes maxL ret hh).before args s = true ∧ (Cond.initialized y.cls).before args s = true ∧ (y.cls ≠ "java/lang/invoke/MethodHandle" ∧ y.cls ≠ "java/lang/invoke/VarHandle") ∧
  (∀ sig, parseMethodDescriptor y.desc = some sig → n = sig.parameters.length) ∧ (Cond.methodLink own index y).before args s = true ∧ (Cond.static y).before args s = true
theorem vx_cwSW {own : String} {index maxL mc ms : Nat} {y : MethodName} {bytes : ByteArray} {ret : Option FieldType} {hh : List (Nat × Nat × Nat × Nat)} {Ts ws ws' : List Cond} {rm : Room} (n : Nat) (ht : ∀ w ∈ Ts, w.before args s = true) (hT : GoodIn Ts (va_wsS own index y ws)) (hw : ws = Cond.codeWith y bytes maxL ret hh :: ws') (hrc : rm.cells = mc) (hrs : rm.slots = ms)
    (hd : y.cls ≠ "java/lang/invoke/MethodHandle" ∧ y.cls ≠ "java/lang/invoke/VarHandle" ∧ (parseMethodDescriptor y.desc).map (fun d => d.parameters.length) = some n) (hR : rm.frames + 1 ≤ R.frames ∧ 8 + (maxL + 11) + rm.locals ≤ R.locals) :
    vx_CSW R s args own index y bytes maxL ret hh ws rm mc ms n := by
  have ok : ∀ w ∈ va_wsS own index y ws, w.before args s = true := fun w h => ht w (hT w h).1
  have hG : GoodIn Ts ws := fun w h => hT w (by unfold va_wsS; exact List.mem_append_right _ h)
  have hc : Cond.codeWith y bytes maxL ret hh ∈ ws := by rw [hw]; exact List.mem_cons_self
  refine ⟨⟨hrc, hrs, hR.1, hR.2, pay_in ht hG, hc⟩, ht _ (hG _ hc).1, ok _ (by simp [va_wsS]), ⟨hd.1, hd.2.1⟩, fun sig h => ?_, ok _ (by simp [va_wsS]), ok _ (by simp [va_wsS])⟩
  have h2 := hd.2.2
  rw [h] at h2
  exact (Option.some.inj h2).symm
theorem vx_callSW (X : Stand p l e R s m args below meth c T locs cells slots) (hexec : p.tables.exec = Jvm.exec) {own : String} {index : Nat} {y : MethodName} {bytes : ByteArray} {maxL : Nat} {ret : Option FieldType} {hh : List (Nat × Nat × Nat × Nat)}
    (hown : s.vm.findClass own = some m.cls) (hlink : (Cond.methodLink own index y).before args s = true) (hstat : (Cond.static y).before args s = true) (hinit : (Cond.initialized y.cls).before args s = true)
    (hcode : (Cond.codeWith y bytes maxL ret hh).before args s = true) (hy : y.cls ≠ "java/lang/invoke/MethodHandle" ∧ y.cls ≠ "java/lang/invoke/VarHandle")
    {W9 : Nat} {Pre : Pt → Array Value → Prop} {Post : Pt → Array Value → Option Value → Pt → Prop} (hK : Back l R p e below s args y 3 W9 Pre Post)
    {g : JFrame} (hg : g.method = m) (hsize : g.locals.size = c.maxLocals) {argsL rest : List Value} (hlen : ∀ sig, parseMethodDescriptor y.desc = some sig → argsL.length = sig.parameters.length)
    (hstack : g.stack = argsL.reverse ++ rest) (hW : 2 * g.monitorRoom + (rest.map fun v => v.category).sum ≤ W9) (hdg : decode c.code g.pc = .ok (.invokestatic index, 3))
    (hpre : ∀ vm₁, s.WarmedH vm₁ → Pre ⟨T.setVm vm₁, locs, cells, slots⟩ argsL.toArray) :
    ∃ (v : Option Value) (vm₁ : Vm) (B : Pt), s.WarmedH vm₁ ∧ Stand p l e R s m args below meth c B.U B.locs B.cells B.slots ∧ Post ⟨T.setVm vm₁, locs, cells, slots⟩ argsL.toArray v B ∧
      ∀ target, Steps p.tables e below (B.U.setTop { g with pc := g.pc + 3, stack := v.toList ++ rest }) target → Steps p.tables e below (T.setTop g) target := by
  obtain ⟨mk, methM, cM, hnamed, hmethM, -, -, -, -, -, -, hsigM⟩ := Cond.codeWith_spec hcode
  have hstatic : methM.isStatic = true := Cond.static_spec hnamed hmethM hstat
  obtain ⟨kP, hkP, -⟩ := className_of_methodNamed hnamed
  have hinitP : kP.init = .initialized := Cond.initialized_spec (findClass_of_methodNamed hnamed) hkP hinit
  obtain ⟨vm₁, X₁, hstep₁⟩ := X.invokestatic hexec hown hlink hnamed hmethM hstatic hkP hinitP hy (g := g) hg (argsL := argsL) (rest := rest) (hlen _ hsigM) hstack hdg
  obtain ⟨v, B, X', hpost, hsteps⟩ := hK m meth c ⟨T.setVm vm₁, locs, cells, slots⟩ { g with stack := rest } (.invokestatic index) mk argsL.toArray X₁ hg hsize hdg hW (X₁.named hnamed) (hpre vm₁ X₁.warmed)
  exact ⟨v, vm₁, B, X₁.warmed, X', hpost, fun target h => hstep₁ _ fun acts => by rw [doInvoke_state]; exact hsteps.trans h⟩
theorem vx_runSW {y : MethodName} {bytes cc : ByteArray} {maxL nL mc ms n index : Nat} {ret : Option FieldType} {hh : List (Nat × Nat × Nat × Nat)} {ws : List Cond} {rm : Room} {Pc : Array Value → State → Prop} {Qc : Array Value → State → Outcome → State → Prop} {free : Addr → Prop} {Ts : List Cond} {own : String} {As rest : List Value} {g : JFrame}
    (S : CallFix p m c cc nL s args Ts own) (hM : Met l y ws rm Pc Qc mc ms free) (cw : vx_CSW R s args own index y bytes maxL ret hh ws rm mc ms n) (hp : PreS s H Pc As)
    (hg : g.method = m) (hn : As.length = n) (hsize : g.locals.size = nL) (hstack : g.stack = As.reverse ++ rest) (hW : 2 * g.monitorRoom + (rest.map fun v => v.category).sum ≤ 8) (hdg : decode cc g.pc = .ok (.invokestatic index, 3)) (hf : cells + mc ≤ R.cells ∧ slots + ms ≤ R.slots) :
    va_Run p l e R s m args below meth c H locs cells slots mc ms g rest (Qc As.toArray) (free) := by
  obtain ⟨⟨hrc, hrs, hfr, hlo, hws, hcw⟩, hcode, hini, hy, hlen, hl, hstt⟩ := cw
  have hK : Back l R p e below s args y 3 8 (PreOf R mc ms Pc) (PostOf Qc mc ms free) := va_backW (hh := hh) (bytes := bytes) (maxL := maxL) (ret := ret) hM hp.1 hrc hrs hfr hlo hws hcw (fun a' U hW => word_at hW (Or.inl (by first | rfl | simp [Cond.onTables, Cond.keeps, Cond.steady])) hini)
  obtain ⟨hx, hb, hml, ho, -⟩ := S
  intro T hT X
  obtain ⟨v, vm₁, ⟨U', l2, c2, s2⟩, hW₁, X', ⟨g', mk, t, L, e1, e2, hq, h1, hL, h2, h3⟩, st⟩ := vx_callSW X hx (hh := hh) (bytes := bytes) (maxL := maxL) (ret := ret) ho hl hstt hini hcode hy hK hg (hsize.trans hml.symm) (argsL := As) (rest := rest) (fun sig h => hn.trans (hlen sig h)) hstack hW (by rw [hb]; exact hdg)
    (fun vm₁ hW₁ => ⟨hf.1, hf.2, hp.2 (T.setVm vm₁) hT hW₁⟩)
  dsimp only [Pt.U, Pt.locs, Pt.cells, Pt.slots] at X' e1 e2 h1 h2 h3 st
  subst h1; subst h2; subst h3
  exact ⟨v, (T.setVm vm₁).calling g' mk As.toArray, t, U', L, hT, X', hL, e1, e2, hq, st⟩
/-- not caught here, past rows that name other classes: it goes on to the caller -/
theorem vx_outP {p : Program} {l : Launch} {e : Env} {R : Room} {s : State} {m : MethodId} {args : Array Value} {below : List Frame} {meth : Method} {c : Code} {H : Heap} {locs : List Loc} {cells slots : Nat} {free : Addr → Prop} {ls : Array Slot} {rest : List Value} {Qc : Array Value → State → Outcome → State → Prop} {XC : String → State → State → Prop}
    {pc : Nat} {own E : String} {ce : Cell} {q : Addr} {mc ms : Nat} (hown : s.vm.findClass own = some m.cls) (hlocks : meth.locks = false)
    (hpass : ∀ z ∈ c.exceptionTable.toList, covers z pc = false ∨ (z.catchType ≠ 0 ∧ ∃ nm : String, (Cond.classLink own z.catchType nm).before args s = true ∧ va_Nc E nm s)) (hcell : H[q]? = some ce) (hv : ce.vm = .none) (hcl : s.vm.findClass E = some ce.cls)
    (hx : ∀ t : State, t.heap = H → s.vm.Alike t.vm → XC E s t) (hf : ∀ z ∈ locs, free z.base) (hc : cells ≤ mc) (hs : slots ≤ ms) :
    vx_W p l e R s m args below meth c H locs cells slots (vx_MQ below Qc XC args s mc ms free) (F0 m pc ls rest) q := by
  intro T hT X
  have hpl : e.platform.magicAccessors = ({} : Platform).magicAccessors := by rw [X.admits.platform]
  obtain ⟨vm', hW', X', st⟩ := X.outThrough hlocks q (g := F0 m pc ls rest) rfl rfl rfl (cell := ce) (by rw [hT]; exact hcell) (by rw [hv]; rfl)
    (by obtain ⟨k9, h9, -⟩ := Vm.findClass_spec hcl; exact ⟨k9, h9⟩) (fun z hz => by
      rcases hpass z hz with h | ⟨hz0, nm, hl1, hn1⟩
      · exact Or.inl h
      · obtain ⟨c6, hc6, hcl6⟩ := Cond.classLink_spec hown hl1 e.platform hpl
        obtain ⟨a8, b8, h1, h2, h3⟩ := hn1
        cases Option.some.inj (h1.symm.trans hcl)
        cases Option.some.inj (h2.symm.trans hc6)
        exact Or.inr ⟨hz0, _, hcl6, h3⟩)
  obtain ⟨g₀, hfr⟩ := X'.frames_eq
  have hcell9 : ((T.setVm vm').setFrames (.throwing q :: below)).heap[q]? = some ce := by
    show T.heap[q]? = some ce
    rw [hT]; exact hcell
  have hend : Ended ((T.setVm vm').setFrames (.throwing q :: below)) below (.threw q) := State.frames_setFrames _ (State.cur_lt_of_frames hfr)
  refine ⟨(T.setVm vm').setFrames (.throwing q :: below), ?_, .threw q, X'.here.running, hend, Or.inr ⟨q, rfl, E, ce, locs, hx _ hT (X'.ends _).1.alike, hcell9, hv, hcl, (X'.ends _).1, (X'.ends _).2.mono hc hs, hf⟩⟩
  rw [X.pushThrowing_eq]
  exact st
/-- a thing of a world lies in the heap -/
theorem vx_lt {D : va_G} {cl : List vw_C} {ws : va_W} {H1 : Heap} (h : va_P D cl ws H1) {k : Nat} {q : Nat × va_E} (hk : ws[k]? = some q) : q.1 < H1.size := (h k q hk).lt
end VXS
/-! ===== END ===== -/
/-! ===== BEGIN methods with a table of their own: called by a name, returning or throwing ===== -/
section VXH
/-! vx_backW, vx_callVX, vx_callSX, vx_callVW, vx_runVW, vx_runVX, vx_runSX, vx_ofWH follow the same proofs as their sisters above (Free/Laws.lean, Shelf42/LK1.lean); vx_outP calls Shelf42/NT130.lean (outThrough). -/
section
variable {l : Launch} {R : Room} {p : Program} {e : Env} {below : List Frame} {s : State} {sargs : Array Value} {y : MethodName} {len W9 : Nat}
theorem vx_backW {ws : List Cond} {rm : Room} {Pc : Array Value → State → Prop} {Qc : Array Value → State → Outcome → State → Prop} {XC : String → State → State → Prop} {mc ms : Nat} {free : Addr → Prop} {bytes : ByteArray} {maxL : Nat} {ret : Option FieldType} {hh : List (Nat × Nat × Nat × Nat)}
    (hM : vx_Met l y ws rm Pc Qc XC mc ms free) (hblind : FrameBlind Pc) (hrc : rm.cells = mc) (hrs : rm.slots = ms)
    (hframes : rm.frames + 1 ≤ R.frames) (hlocals : W9 + (maxL + 11) + rm.locals ≤ R.locals)
    (hws : ∀ w ∈ ws, ∀ a' U, s.WarmedH U.vm → w.before a' U = true) (hcode : Cond.codeWith y bytes maxL ret hh ∈ ws) (hinit : ∀ a' U, s.WarmedH U.vm → (Cond.initialized y.cls).before a' U = true) :
    vx_Back l R p e below s sargs y len W9 (PreOf R mc ms Pc) (PostOf Qc mc ms free) (vx_Post XC mc ms free) := by
  intro m meth c A g ig mk a X hg hsize hdg hW hn hp
  have h1 : (headSpec ws rm).pre.before a A.U = true := atoms_intro fun w hw => hws w hw _ _ X.warmed
  have h2 : (Cond.codeWith y bytes maxL ret hh).before a A.U = true := hws _ hcode _ _ X.warmed
  have h3 : (Cond.initialized y.cls).before a A.U = true := hinit _ _ X.warmed
  have h4 : A.cells + (headSpec ws rm).room.cells ≤ R.cells := by rw [show (headSpec ws rm).room.cells = mc from hrc]; exact hp.1
  have h5 : A.slots + (headSpec ws rm).room.slots ≤ R.slots := by rw [show (headSpec ws rm).room.slots = ms from hrs]; exact hp.2.1
  have hPc : Pc a (A.U.calling g mk a) := hblind _ _ _ _ hp.2.2
  obtain ⟨U, Ls, c0, s0⟩ := A
  dsimp only [Pt.U, Pt.locs, Pt.cells, Pt.slots] at h1 h2 h3 h4 h5 X hn hPc ⊢
  obtain ⟨m9, methY, cY, hn9, hmY, hcY, -, hlY, -⟩ := Cond.codeWith_spec h2
  cases Option.some.inj (hn9.symm.trans hn)
  obtain ⟨kY, hkY, -⟩ := className_of_methodNamed hn
  have hinitY : kY.init = .initialized := Cond.initialized_spec (findClass_of_methodNamed hn) hkY h3
  have h : At U g.method c below := by rw [hg]; exact X.here
  have hlocals9 : W9 + (maxL + 11) + (headSpec ws rm).room.locals ≤ R.locals := hlocals
  have happ : (headSpec ws rm).appliesLoose y e.platform (U.calling g mk a) = true :=
    Spec.appliesLoose_calling (g := g) h hdg hn hkY hinitY
      (X.room_calling (g := g) (R' := (headSpec ws rm).room) hsize hmY hcY hframes (by rw [hlY]; omega) h4 h5) h1
  obtain ⟨mid, hmid⟩ := h.above
  have hfr : (U.setTop g).frames = (.java g :: mid) ++ below := by rw [State.frames_setTop' g h.top, hmid]; rfl
  obtain ⟨o, s₂, hsteps, -, hend, hq⟩ := Steps.callFree hM p X.admits X.cas X.clock (acts := []) hfr happ hPc trivial
  have hq' : vx_Q Qc XC mc ms free a (U.calling g mk a) o s₂ := hq
  rw [State.frames_setTop' g h.top] at hend
  obtain ⟨g₀, hg0⟩ := Option.isSome_iff_exists.mp h.top
  obtain ⟨r, hr⟩ := State.topJava?_eq_some.mp hg0
  have hr' : (({ U with heap := s₂.heap, slotsUsed := s₂.slotsUsed } : State).setVm s₂.vm).frames = .java g₀ :: r := hr
  rcases hq' with ⟨hqc, L, hfe, hL⟩ | ⟨q, rfl, E, ce, L, hx, hce, hcv, hcl, hW₂, hsm, hL⟩
  · obtain ⟨⟨v, rfl⟩, hW₂, e2, q2, q3, q4, q5, q6⟩ := id hfe
    have e3 : s₂ = ({ (U.calling g mk a).setFrames s₂.frames with heap := s₂.heap, slotsUsed := s₂.slotsUsed } : State).setVm s₂.vm := by
      have : s₂ = ({ s₂ with vm := (U.calling g mk a).vm } : State).setVm s₂.vm := rfl
      rw [e2] at this
      exact this
    obtain ⟨c₂, i₂, len₂, hc₂, hd₂, hf₂⟩ := hend
    have hW' : U.WarmedH s₂.vm := hW₂
    have hcc : c₂ = c := by
      have h1 : s₂.code? g.method = U.code? g.method := by
        rw [State.code?_eq, State.code?_eq, hW'.alike.method?]
      exact Option.some.inj (hc₂.symm.trans (h1.trans h.code))
    subst hcc
    have hlen : len₂ = len := by rw [hdg] at hd₂; cases hd₂; rfl
    subst hlen
    have hs₂ : s₂ = (({ U with heap := s₂.heap, slotsUsed := s₂.slotsUsed } : State).setVm s₂.vm).setTop { g with pc := g.pc + len₂, stack := v.toList ++ g.stack } := by
      refine e3.trans ?_
      rw [hf₂, State.calling_eq h.top, State.setFrames_setFrames, State.setTop_of_frames _ hr', hr]
      rfl
    have hsame : U.sameButNew ({ U with heap := s₂.heap, slotsUsed := s₂.slotsUsed } : State) L mc ms := by
      refine ⟨?_, q2, q3, q4, q5, q6⟩
      obtain ⟨t, ht, -⟩ := State.frames_cons hr
      show ({ U with heap := s₂.heap, slotsUsed := s₂.slotsUsed } : State) = { U.setFrames U.frames with heap := s₂.heap, slotsUsed := s₂.slotsUsed }
      rw [State.setFrames_self ht]
    subst hg
    refine Or.inl ⟨v, ⟨(({ U with heap := s₂.heap, slotsUsed := s₂.slotsUsed } : State).setVm s₂.vm), Ls ++ L, c0 + mc, s0 + ms⟩,
      ⟨X.admits, X.cas, X.clock, X.frames, X.room, X.hears, X.method, X.code, (X.here.setHeapUsed s₂.heap s₂.slotsUsed).setVm hW'.alike, X.tail, State.WarmedH.trans X.warmed hW', X.limits, X.bytes, X.same.trans (hsame.setVm s.vm)⟩,
      ⟨g, mk, s₂, L, rfl, rfl, hqc, rfl, hL, rfl, rfl⟩, ?_⟩
    show Steps p.tables e below _ ((({ U with heap := s₂.heap, slotsUsed := s₂.slotsUsed } : State).setVm s₂.vm).setTop { g with pc := g.pc + len₂, stack := v.toList ++ g.stack })
    rw [← hs₂]
    exact hsteps
  · obtain ⟨e2, q2, q3, q4, q5, q6⟩ := id hsm
    have e3 : s₂ = ({ (U.calling g mk a).setFrames s₂.frames with heap := s₂.heap, slotsUsed := s₂.slotsUsed } : State).setVm s₂.vm := by
      have : s₂ = ({ s₂ with vm := (U.calling g mk a).vm } : State).setVm s₂.vm := rfl
      rw [e2] at this
      exact this
    have hf₂ : s₂.frames = .throwing q :: .java g :: U.frames.tail := hend
    have hW' : U.WarmedH s₂.vm := hW₂
    have hs₂ : s₂ = ((({ U with heap := s₂.heap, slotsUsed := s₂.slotsUsed } : State).setVm s₂.vm).setTop g).pushFrame (.throwing q) := by
      refine e3.trans ?_
      rw [hf₂, State.calling_eq h.top, State.setFrames_setFrames, State.pushFrame, State.frames_setTop _ hr', State.setTop_of_frames _ hr', State.setFrames_setFrames, hr]
      rfl
    have hsame : U.sameButNew ({ U with heap := s₂.heap, slotsUsed := s₂.slotsUsed } : State) L mc ms := by
      refine ⟨?_, q2, q3, q4, q5, q6⟩
      obtain ⟨t, ht, -⟩ := State.frames_cons hr
      show ({ U with heap := s₂.heap, slotsUsed := s₂.slotsUsed } : State) = { U.setFrames U.frames with heap := s₂.heap, slotsUsed := s₂.slotsUsed }
      rw [State.setFrames_self ht]
    subst hg
    refine Or.inr ⟨q, ⟨(({ U with heap := s₂.heap, slotsUsed := s₂.slotsUsed } : State).setVm s₂.vm), Ls ++ L, c0 + mc, s0 + ms⟩,
      ⟨X.admits, X.cas, X.clock, X.frames, X.room, X.hears, X.method, X.code, (X.here.setHeapUsed s₂.heap s₂.slotsUsed).setVm hW'.alike, X.tail, State.WarmedH.trans X.warmed hW', X.limits, X.bytes, X.same.trans (hsame.setVm s.vm)⟩,
      ⟨g, mk, s₂, L, E, ce, rfl, rfl, hx, hce, hcv, hcl, rfl, hL, rfl, rfl⟩, ?_⟩
    show Steps p.tables e below _ (((({ U with heap := s₂.heap, slotsUsed := s₂.slotsUsed } : State).setVm s₂.vm).setTop g).pushFrame (.throwing q))
    rw [← hs₂]
    exact hsteps
end
variable {p : Program} {l : Launch} {e : Env} {R : Room} {s : State} {m : MethodId} {args : Array Value} {below : List Frame} {meth : Method} {c : Code} {T : State} {H : Heap} {locs : List Loc} {cells slots : Nat}
theorem vx_callVX (X : Stand p l e R s m args below meth c T locs cells slots) (hexec : p.tables.exec = Jvm.exec) {own C : String} {index : Nat} {y : MethodName} {bytes : ByteArray} {maxL : Nat} {ret : Option FieldType} {hh : List (Nat × Nat × Nat × Nat)}
    (hown : s.vm.findClass own = some m.cls) (hlink : (Cond.methodLink own index y).before args s = true) (hinst : (Cond.instanceMethod y).before args s = true) (hsel : (Cond.selects C y y).before args s = true)
    (hcode : (Cond.codeWith y bytes maxL ret hh).before args s = true) (hy : y.cls ≠ "java/lang/invoke/MethodHandle" ∧ y.cls ≠ "java/lang/invoke/VarHandle")
    {W9 : Nat} {Pre : Pt → Array Value → Prop} {Post : Pt → Array Value → Option Value → Pt → Prop} {PostX : Pt → Array Value → Addr → Pt → Prop} (hK : vx_Back l R p e below s args y 3 W9 Pre Post PostX)
    {b : Addr} {cellB : Cell} (hcell : T.heap[b]? = some cellB) (hobj : cellB.vm.isStatics = false) (hcls : s.vm.findClass C = some cellB.cls)
    {g : JFrame} (hg : g.method = m) (hsize : g.locals.size = c.maxLocals) {argsL rest : List Value} (hlen : ∀ sig, parseMethodDescriptor y.desc = some sig → argsL.length = sig.parameters.length)
    (hstack : g.stack = argsL.reverse ++ .ref b :: rest) (hW : 2 * g.monitorRoom + (rest.map fun v => v.category).sum ≤ W9) (hdg : decode c.code g.pc = .ok (.invokevirtual index, 3))
    (hpre : ∀ vm₁, s.WarmedH vm₁ → Pre ⟨T.setVm vm₁, locs, cells, slots⟩ (Value.ref b :: argsL).toArray) :
    (∃ (v : Option Value) (vm₁ : Vm) (B : Pt), s.WarmedH vm₁ ∧ Stand p l e R s m args below meth c B.U B.locs B.cells B.slots ∧ Post ⟨T.setVm vm₁, locs, cells, slots⟩ (Value.ref b :: argsL).toArray v B ∧
      ∀ target, Steps p.tables e below (B.U.setTop { g with pc := g.pc + 3, stack := v.toList ++ rest }) target → Steps p.tables e below (T.setTop g) target) ∨
    (∃ (q : Addr) (vm₁ : Vm) (B : Pt), s.WarmedH vm₁ ∧ Stand p l e R s m args below meth c B.U B.locs B.cells B.slots ∧ PostX ⟨T.setVm vm₁, locs, cells, slots⟩ (Value.ref b :: argsL).toArray q B ∧
      Steps p.tables e below (T.setTop g) ((B.U.setTop { g with stack := rest }).pushFrame (.throwing q))) := by
  obtain ⟨mk, methM, hnamed, hmethM, hstM, habM⟩ := Cond.instanceMethod_spec hinst
  obtain ⟨m8, methM', cM, hn8, hmethM', -, -, -, -, -, -, hsigM⟩ := Cond.codeWith_spec hcode
  cases Option.some.inj (hn8.symm.trans hnamed)
  cases hmethM.symm.trans hmethM'
  obtain ⟨c2, r2, m2, q1, q2, q3, q4, kP, hkP, hkPi⟩ := Cond.selects_spec hsel
  cases hcls.symm.trans q1
  cases (State.methodFound?_of_named hnamed hy).symm.trans q2
  cases hnamed.symm.trans q3
  have hselP : selectMethod e.platform s.vm cellB.cls mk = .method mk := by rw [Launch.admits_selectMethod X.admits]; exact q4
  obtain ⟨vm₁, X₁, hstep₁⟩ := X.invokevirtual hexec hown hlink hnamed hmethM hstM hkP hkPi hy (a := b) (cell := cellB) hcell
    (fun z h => by rw [h] at hobj; cases hobj) hselP hmethM habM hkP hkPi (g := g) hg (argsL := argsL) (rest := rest) (hlen _ hsigM) hstack hdg
  rcases hK m meth c ⟨T.setVm vm₁, locs, cells, slots⟩ { g with stack := rest } (.invokevirtual index) mk (Value.ref b :: argsL).toArray X₁ hg hsize hdg hW (X₁.named hnamed) (hpre vm₁ X₁.warmed) with ⟨v, B, X', hpost, hsteps⟩ | ⟨q, B, X', hpost, hsteps⟩
  · exact Or.inl ⟨v, vm₁, B, X₁.warmed, X', hpost, fun target h => hstep₁ _ fun acts => by rw [doInvoke_state]; exact hsteps.trans h⟩
  · exact Or.inr ⟨q, vm₁, B, X₁.warmed, X', hpost, hstep₁ _ fun acts => by rw [doInvoke_state]; exact hsteps⟩
theorem vx_callSX (X : Stand p l e R s m args below meth c T locs cells slots) (hexec : p.tables.exec = Jvm.exec) {own : String} {index : Nat} {y : MethodName} {bytes : ByteArray} {maxL : Nat} {ret : Option FieldType} {hh : List (Nat × Nat × Nat × Nat)}
    (hown : s.vm.findClass own = some m.cls) (hlink : (Cond.methodLink own index y).before args s = true) (hstat : (Cond.static y).before args s = true) (hinit : (Cond.initialized y.cls).before args s = true)
    (hcode : (Cond.codeWith y bytes maxL ret hh).before args s = true) (hy : y.cls ≠ "java/lang/invoke/MethodHandle" ∧ y.cls ≠ "java/lang/invoke/VarHandle")
    {W9 : Nat} {Pre : Pt → Array Value → Prop} {Post : Pt → Array Value → Option Value → Pt → Prop} {PostX : Pt → Array Value → Addr → Pt → Prop} (hK : vx_Back l R p e below s args y 3 W9 Pre Post PostX)
    {g : JFrame} (hg : g.method = m) (hsize : g.locals.size = c.maxLocals) {argsL rest : List Value} (hlen : ∀ sig, parseMethodDescriptor y.desc = some sig → argsL.length = sig.parameters.length)
    (hstack : g.stack = argsL.reverse ++ rest) (hW : 2 * g.monitorRoom + (rest.map fun v => v.category).sum ≤ W9) (hdg : decode c.code g.pc = .ok (.invokestatic index, 3))
    (hpre : ∀ vm₁, s.WarmedH vm₁ → Pre ⟨T.setVm vm₁, locs, cells, slots⟩ argsL.toArray) :
    (∃ (v : Option Value) (vm₁ : Vm) (B : Pt), s.WarmedH vm₁ ∧ Stand p l e R s m args below meth c B.U B.locs B.cells B.slots ∧ Post ⟨T.setVm vm₁, locs, cells, slots⟩ argsL.toArray v B ∧
      ∀ target, Steps p.tables e below (B.U.setTop { g with pc := g.pc + 3, stack := v.toList ++ rest }) target → Steps p.tables e below (T.setTop g) target) ∨
    (∃ (q : Addr) (vm₁ : Vm) (B : Pt), s.WarmedH vm₁ ∧ Stand p l e R s m args below meth c B.U B.locs B.cells B.slots ∧ PostX ⟨T.setVm vm₁, locs, cells, slots⟩ argsL.toArray q B ∧
      Steps p.tables e below (T.setTop g) ((B.U.setTop { g with stack := rest }).pushFrame (.throwing q))) := by
  obtain ⟨mk, methM, cM, hnamed, hmethM, -, -, -, -, -, -, hsigM⟩ := Cond.codeWith_spec hcode
  have hstatic : methM.isStatic = true := Cond.static_spec hnamed hmethM hstat
  obtain ⟨kP, hkP, -⟩ := className_of_methodNamed hnamed
  have hinitP : kP.init = .initialized := Cond.initialized_spec (findClass_of_methodNamed hnamed) hkP hinit
  obtain ⟨vm₁, X₁, hstep₁⟩ := X.invokestatic hexec hown hlink hnamed hmethM hstatic hkP hinitP hy (g := g) hg (argsL := argsL) (rest := rest) (hlen _ hsigM) hstack hdg
  rcases hK m meth c ⟨T.setVm vm₁, locs, cells, slots⟩ { g with stack := rest } (.invokestatic index) mk argsL.toArray X₁ hg hsize hdg hW (X₁.named hnamed) (hpre vm₁ X₁.warmed) with ⟨v, B, X', hpost, hsteps⟩ | ⟨q, B, X', hpost, hsteps⟩
  · exact Or.inl ⟨v, vm₁, B, X₁.warmed, X', hpost, fun target h => hstep₁ _ fun acts => by rw [doInvoke_state]; exact hsteps.trans h⟩
  · exact Or.inr ⟨q, vm₁, B, X₁.warmed, X', hpost, hstep₁ _ fun acts => by rw [doInvoke_state]; exact hsteps⟩
theorem vx_callVW (X : Stand p l e R s m args below meth c T locs cells slots) (hexec : p.tables.exec = Jvm.exec) {own C : String} {index : Nat} {y : MethodName} {bytes : ByteArray} {maxL : Nat} {ret : Option FieldType} {hh : List (Nat × Nat × Nat × Nat)}
    (hown : s.vm.findClass own = some m.cls) (hlink : (Cond.methodLink own index y).before args s = true) (hinst : (Cond.instanceMethod y).before args s = true) (hsel : (Cond.selects C y y).before args s = true)
    (hcode : (Cond.codeWith y bytes maxL ret hh).before args s = true) (hy : y.cls ≠ "java/lang/invoke/MethodHandle" ∧ y.cls ≠ "java/lang/invoke/VarHandle")
    {W9 : Nat} {Pre : Pt → Array Value → Prop} {Post : Pt → Array Value → Option Value → Pt → Prop} (hK : Back l R p e below s args y 3 W9 Pre Post)
    {b : Addr} {cellB : Cell} (hcell : T.heap[b]? = some cellB) (hobj : cellB.vm.isStatics = false) (hcls : s.vm.findClass C = some cellB.cls)
    {g : JFrame} (hg : g.method = m) (hsize : g.locals.size = c.maxLocals) {argsL rest : List Value} (hlen : ∀ sig, parseMethodDescriptor y.desc = some sig → argsL.length = sig.parameters.length)
    (hstack : g.stack = argsL.reverse ++ .ref b :: rest) (hW : 2 * g.monitorRoom + (rest.map fun v => v.category).sum ≤ W9) (hdg : decode c.code g.pc = .ok (.invokevirtual index, 3))
    (hpre : ∀ vm₁, s.WarmedH vm₁ → Pre ⟨T.setVm vm₁, locs, cells, slots⟩ (Value.ref b :: argsL).toArray) :
    ∃ (v : Option Value) (vm₁ : Vm) (B : Pt), s.WarmedH vm₁ ∧ Stand p l e R s m args below meth c B.U B.locs B.cells B.slots ∧ Post ⟨T.setVm vm₁, locs, cells, slots⟩ (Value.ref b :: argsL).toArray v B ∧
      ∀ target, Steps p.tables e below (B.U.setTop { g with pc := g.pc + 3, stack := v.toList ++ rest }) target → Steps p.tables e below (T.setTop g) target := by
  obtain ⟨mk, methM, hnamed, hmethM, hstM, habM⟩ := Cond.instanceMethod_spec hinst
  obtain ⟨m8, methM', cM, hn8, hmethM', -, -, -, -, -, -, hsigM⟩ := Cond.codeWith_spec hcode
  cases Option.some.inj (hn8.symm.trans hnamed)
  cases hmethM.symm.trans hmethM'
  obtain ⟨c2, r2, m2, q1, q2, q3, q4, kP, hkP, hkPi⟩ := Cond.selects_spec hsel
  cases hcls.symm.trans q1
  cases (State.methodFound?_of_named hnamed hy).symm.trans q2
  cases hnamed.symm.trans q3
  have hselP : selectMethod e.platform s.vm cellB.cls mk = .method mk := by rw [Launch.admits_selectMethod X.admits]; exact q4
  obtain ⟨vm₁, X₁, hstep₁⟩ := X.invokevirtual hexec hown hlink hnamed hmethM hstM hkP hkPi hy (a := b) (cell := cellB) hcell
    (fun z h => by rw [h] at hobj; cases hobj) hselP hmethM habM hkP hkPi (g := g) hg (argsL := argsL) (rest := rest) (hlen _ hsigM) hstack hdg
  obtain ⟨v, B, X', hpost, hsteps⟩ := hK m meth c ⟨T.setVm vm₁, locs, cells, slots⟩ { g with stack := rest } (.invokevirtual index) mk (Value.ref b :: argsL).toArray X₁ hg hsize hdg hW (X₁.named hnamed) (hpre vm₁ X₁.warmed)
  exact ⟨v, vm₁, B, X₁.warmed, X', hpost, fun target h => hstep₁ _ fun acts => by rw [doInvoke_state]; exact hsteps.trans h⟩
abbrev vx_CVW (R : Room) (s : State) (args : Array Value) (own C : String) (index : Nat) (y : MethodName) (bytes : ByteArray) (maxL : Nat) (ret : Option FieldType) (hh : List (Nat × Nat × Nat × Nat)) (ws : List Cond) (rm : Room) (mc ms n : Nat) : Prop :=
  (rm.cells = mc ∧ rm.slots = ms ∧ rm.frames + 1 ≤ R.frames ∧ 8 + (maxL + 11) + rm.locals ≤ R.locals ∧ (∀ w ∈ ws, ∀ (a' : Array Value) (U : State), s.WarmedH U.vm → w.before a' U = true) ∧ Cond.codeWith y bytes maxL ret hh ∈ ws) ∧
  (Cond.codeWith y bytes maxL ret hh).before args s = true ∧ (Cond.initialized y.cls).before args s = true ∧ (y.cls ≠ "java/lang/invoke/MethodHandle" ∧ y.cls ≠ "java/lang/invoke/VarHandle") ∧
  (∀ sig, parseMethodDescriptor y.desc = some sig → n = sig.parameters.length) ∧ (Cond.methodLink own index y).before args s = true ∧ (Cond.instanceMethod y).before args s = true ∧ (Cond.selects C y y).before args s = true
theorem vx_cwVW {own C : String} {index maxL mc ms : Nat} {y : MethodName} {bytes : ByteArray} {ret : Option FieldType} {hh : List (Nat × Nat × Nat × Nat)} {Ts ws ws' : List Cond} {rm : Room} (n : Nat) (ht : ∀ w ∈ Ts, w.before args s = true) (hT : GoodIn Ts (wsV own index C y ws)) (hw : ws = Cond.codeWith y bytes maxL ret hh :: ws') (hrc : rm.cells = mc) (hrs : rm.slots = ms)
    (hd : y.cls = C ∧ y.cls ≠ "java/lang/invoke/MethodHandle" ∧ y.cls ≠ "java/lang/invoke/VarHandle" ∧ (parseMethodDescriptor y.desc).map (fun d => d.parameters.length) = some n) (hR : rm.frames + 1 ≤ R.frames ∧ 8 + (maxL + 11) + rm.locals ≤ R.locals) :
    vx_CVW R s args own C index y bytes maxL ret hh ws rm mc ms n := by
  obtain ⟨hC, hd⟩ := hd
  subst hC
  have ok : ∀ w ∈ wsV own index y.cls y ws, w.before args s = true := fun w h => ht w (hT w h).1
  have hG : GoodIn Ts ws := fun w h => hT w (by unfold wsV; exact List.mem_append_right _ h)
  have hc : Cond.codeWith y bytes maxL ret hh ∈ ws := by rw [hw]; exact List.mem_cons_self
  refine ⟨⟨hrc, hrs, hR.1, hR.2, pay_in ht hG, hc⟩, ht _ (hG _ hc).1, ok _ (by simp [wsV]), ⟨hd.1, hd.2.1⟩, fun sig h => ?_, ok _ (by simp [wsV]), ok _ (by simp [wsV]), ok _ (by simp [wsV])⟩
  have h2 := hd.2.2
  rw [h] at h2
  exact (Option.some.inj h2).symm
theorem vx_runVW {y : MethodName} {bytes cc : ByteArray} {maxL nL mc ms n index : Nat} {ret : Option FieldType} {hh : List (Nat × Nat × Nat × Nat)} {ws : List Cond} {rm : Room} {Pc : Array Value → State → Prop} {Qc : Array Value → State → Outcome → State → Prop} {free : Addr → Prop} {Ts : List Cond} {own C : String} {b : Addr} {As rest : List Value} {g : JFrame}
    (S : CallFix p m c cc nL s args Ts own) (hM : Met l y ws rm Pc Qc mc ms free) (cw : vx_CVW R s args own C index y bytes maxL ret hh ws rm mc ms n) (hp : PreV s H C b Pc As)
    (hg : g.method = m) (hn : As.length = n) (hsize : g.locals.size = nL) (hstack : g.stack = As.reverse ++ .ref b :: rest) (hW : 2 * g.monitorRoom + (rest.map fun v => v.category).sum ≤ 8) (hdg : decode cc g.pc = .ok (.invokevirtual index, 3)) (hf : cells + mc ≤ R.cells ∧ slots + ms ≤ R.slots) :
    va_Run p l e R s m args below meth c H locs cells slots mc ms g rest (Qc (Value.ref b :: As).toArray) free := by
  obtain ⟨⟨hrc, hrs, hfr, hlo, hws, hcw⟩, hcode, hini, hy, hlen, hl, hin, hse⟩ := cw
  have hK : Back l R p e below s args y 3 8 (PreOf R mc ms Pc) (PostOf Qc mc ms free) := va_backW (hh := hh) (bytes := bytes) (maxL := maxL) (ret := ret) hM hp.1 hrc hrs hfr hlo hws hcw (fun a' U hW => word_at hW (Or.inl (by first | rfl | simp [Cond.onTables, Cond.keeps, Cond.steady])) hini)
  obtain ⟨hx, hb, hml, ho, -⟩ := S
  obtain ⟨-, ⟨cellB, hcB, hoB, hclB⟩, hPc⟩ := hp
  intro T hT X
  obtain ⟨v, vm₁, ⟨U', l2, c2, s2⟩, hW₁, X', ⟨g', mk, t, L, e1, e2, hq, h1, hL, h2, h3⟩, st⟩ := vx_callVW X hx (C := C) (hh := hh) (bytes := bytes) (maxL := maxL) (ret := ret) ho hl hin hse hcode hy hK (by rw [hT]; exact hcB) hoB hclB hg (hsize.trans hml.symm) (argsL := As) (rest := rest) (fun sig h => hn.trans (hlen sig h)) hstack hW (by rw [hb]; exact hdg)
    (fun vm₁ hW₁ => ⟨hf.1, hf.2, hPc (T.setVm vm₁) hT hW₁⟩)
  dsimp only [Pt.U, Pt.locs, Pt.cells, Pt.slots] at X' e1 e2 h1 h2 h3 st
  subst h1; subst h2; subst h3
  exact ⟨v, (T.setVm vm₁).calling g' mk (Value.ref b :: As).toArray, t, U', L, hT, X', hL, e1, e2, hq, st⟩
section
variable {y : MethodName} {bytes cc : ByteArray} {maxL nL mc ms n index : Nat} {ret : Option FieldType} {ws : List Cond} {rm : Room} {Pc : Array Value → State → Prop} {Qc : Array Value → State → Outcome → State → Prop} {XC : String → State → State → Prop} {free : Addr → Prop} {Ts : List Cond} {own C : String} {b : Addr} {As rest : List Value} {g : JFrame}
theorem vx_runVX {hh : List (Nat × Nat × Nat × Nat)} (S : CallFix p m c cc nL s args Ts own) (hM : vx_Met l y ws rm Pc Qc XC mc ms free) (cw : vx_CVW R s args own C index y bytes maxL ret hh ws rm mc ms n) (hp : PreV s H C b Pc As)
    (hg : g.method = m) (hn : As.length = n) (hsize : g.locals.size = nL) (hstack : g.stack = As.reverse ++ .ref b :: rest) (hW : 2 * g.monitorRoom + (rest.map fun v => v.category).sum ≤ 8) (hdg : decode cc g.pc = .ok (.invokevirtual index, 3)) (hf : cells + mc ≤ R.cells ∧ slots + ms ≤ R.slots) :
    vx_Run p l e R s m args below meth c H locs cells slots mc ms g rest (Qc (Value.ref b :: As).toArray) XC free := by
  obtain ⟨⟨hrc, hrs, hfr, hlo, hws, hcw⟩, hcode, hini, hy, hlen, hl, hin, hse⟩ := cw
  have hK : vx_Back l R p e below s args y 3 8 (PreOf R mc ms Pc) (PostOf Qc mc ms free) (vx_Post XC mc ms free) := vx_backW (hh := hh) (bytes := bytes) (maxL := maxL) (ret := ret) hM hp.1 hrc hrs hfr hlo hws hcw (fun a' U hW => word_at hW (Or.inl (by first | rfl | simp [Cond.onTables, Cond.keeps, Cond.steady])) hini)
  obtain ⟨hx, hb, hml, ho, -⟩ := S
  obtain ⟨-, ⟨cellB, hcB, hoB, hclB⟩, hPc⟩ := hp
  intro T hT X
  rcases vx_callVX X hx (C := C) (hh := hh) (bytes := bytes) (maxL := maxL) (ret := ret) ho hl hin hse hcode hy hK (by rw [hT]; exact hcB) hoB hclB hg (hsize.trans hml.symm) (argsL := As) (rest := rest) (fun sig h => hn.trans (hlen sig h)) hstack hW (by rw [hb]; exact hdg)
    (fun vm₁ hW₁ => ⟨hf.1, hf.2, hPc (T.setVm vm₁) hT hW₁⟩) with ⟨v, vm₁, ⟨U', l2, c2, s2⟩, hW₁, X', ⟨g', mk, t, L, e1, e2, hq, h1, hL, h2, h3⟩, st⟩ | ⟨q, vm₁, ⟨U', l2, c2, s2⟩, hW₁, X', ⟨g', mk, t, L, E, ce, e1, e2, hq, hce, hcv, hcl, h1, hL, h2, h3⟩, st⟩
  · dsimp only [Pt.U, Pt.locs, Pt.cells, Pt.slots] at X' e1 e2 h1 h2 h3 st
    subst h1; subst h2; subst h3
    exact Or.inl ⟨v, (T.setVm vm₁).calling g' mk (Value.ref b :: As).toArray, t, U', L, hT, X', hL, e1, e2, hq, st⟩
  · dsimp only [Pt.U, Pt.locs, Pt.cells, Pt.slots] at X' e1 e2 h1 h2 h3 st hcl
    subst h1; subst h2; subst h3
    exact Or.inr ⟨q, (T.setVm vm₁).calling g' mk (Value.ref b :: As).toArray, t, U', L, E, ce, hT, X', hL, e1, e2, hq, hce, hcv, vx_cls hW₁ hcl, st⟩
theorem vx_runSX {hh : List (Nat × Nat × Nat × Nat)} (S : CallFix p m c cc nL s args Ts own) (hM : vx_Met l y ws rm Pc Qc XC mc ms free) (cw : vx_CSW R s args own index y bytes maxL ret hh ws rm mc ms n) (hp : PreS s H Pc As)
    (hg : g.method = m) (hn : As.length = n) (hsize : g.locals.size = nL) (hstack : g.stack = As.reverse ++ rest) (hW : 2 * g.monitorRoom + (rest.map fun v => v.category).sum ≤ 8) (hdg : decode cc g.pc = .ok (.invokestatic index, 3)) (hf : cells + mc ≤ R.cells ∧ slots + ms ≤ R.slots) :
    vx_Run p l e R s m args below meth c H locs cells slots mc ms g rest (Qc As.toArray) XC free := by
  obtain ⟨⟨hrc, hrs, hfr, hlo, hws, hcw⟩, hcode, hini, hy, hlen, hl, hstt⟩ := cw
  have hK : vx_Back l R p e below s args y 3 8 (PreOf R mc ms Pc) (PostOf Qc mc ms free) (vx_Post XC mc ms free) := vx_backW (hh := hh) (bytes := bytes) (maxL := maxL) (ret := ret) hM hp.1 hrc hrs hfr hlo hws hcw (fun a' U hW => word_at hW (Or.inl (by first | rfl | simp [Cond.onTables, Cond.keeps, Cond.steady])) hini)
  obtain ⟨hx, hb, hml, ho, -⟩ := S
  intro T hT X
  rcases vx_callSX X hx (hh := hh) (bytes := bytes) (maxL := maxL) (ret := ret) ho hl hstt hini hcode hy hK hg (hsize.trans hml.symm) (argsL := As) (rest := rest) (fun sig h => hn.trans (hlen sig h)) hstack hW (by rw [hb]; exact hdg)
    (fun vm₁ hW₁ => ⟨hf.1, hf.2, hp.2 (T.setVm vm₁) hT hW₁⟩) with ⟨v, vm₁, ⟨U', l2, c2, s2⟩, hW₁, X', ⟨g', mk, t, L, e1, e2, hq, h1, hL, h2, h3⟩, st⟩ | ⟨q, vm₁, ⟨U', l2, c2, s2⟩, hW₁, X', ⟨g', mk, t, L, E, ce, e1, e2, hq, hce, hcv, hcl, h1, hL, h2, h3⟩, st⟩
  · dsimp only [Pt.U, Pt.locs, Pt.cells, Pt.slots] at X' e1 e2 h1 h2 h3 st
    subst h1; subst h2; subst h3
    exact Or.inl ⟨v, (T.setVm vm₁).calling g' mk As.toArray, t, U', L, hT, X', hL, e1, e2, hq, st⟩
  · dsimp only [Pt.U, Pt.locs, Pt.cells, Pt.slots] at X' e1 e2 h1 h2 h3 st hcl
    subst h1; subst h2; subst h3
    exact Or.inr ⟨q, (T.setVm vm₁).calling g' mk As.toArray, t, U', L, E, ce, hT, X', hL, e1, e2, hq, hce, hcv, vx_cls hW₁ hcl, st⟩
end
end VXH
theorem vx_ofWH {l : Launch} {y : MethodName} {ws ws' : List Cond} {rm : Room} {Pc : Array Value → State → Prop} {Qc : Array Value → State → Outcome → State → Prop} {XC : String → State → State → Prop} {mc ms : Nat} {free : Addr → Prop} {cc : ByteArray} {maxL : Nat} {ret : Option FieldType} {hh : List (Nat × Nat × Nat × Nat)}
    (hy : plainName y.cls = true) (hw : ws = Cond.codeWith y cc maxL ret hh :: ws')
    (body : ∀ p e s m args below meth c s₁, BodyLoose p l y (headSpec ws rm) cc maxL ret e s m args below meth c s₁ → c.maxLocals = maxL → Pc args s →
      W p l e (headSpec ws rm).room s m args below meth c s.heap [] 0 0 (vx_MQ below Qc XC args s mc ms free) (entryFrame m args maxL)) : vx_Met l y ws rm Pc Qc XC mc ms free := by
  refine MetFree.of_bodyS (code := cc) (maxLocals := maxL) (ret := ret) hy ?_ ?_
  · intro args s m h hn
    obtain ⟨m9, meth, c, hn9, h1, h2, h3, h4, -, h5, h6, -⟩ := Cond.codeWith_spec (atoms_spec (ws := ws) h _ (by rw [hw]; exact List.mem_cons_self))
    cases hn.symm.trans hn9
    exact ⟨meth, c, h1, h2, h3, h4, h5, h6⟩
  · intro p e s m args below meth c s₁ B hml hP _
    have hh0 : s₁.heap = s.heap := by rw [B.state]; rfl
    obtain ⟨t, a1, o, b1, b2, b3⟩ := body p e s m args below meth c s₁ B hml hP s₁ hh0 (Stand.of_body B)
    exact ⟨t, o, a1, b1, b2, b3⟩
/-! ===== END ===== -/

/-! ===== BEGIN printed: names, fields, word lists, decode rows ===== -/
def RX0 : String := "GlossaryCrown$Terms"
def TX0 : u_T := fun k => match k with
  | 0 => ("GlossaryCrown$Terms", "conceptCount", "I", false)
  | 1 => ("GlossaryCrown$Terms", "termCount", "I", false)
  | 2 => ("GlossaryCrown$Terms", "domains", "[I", true)
  | 3 => ("GlossaryCrown$Terms", "concepts", "[I", true)
  | 4 => ("GlossaryCrown$Terms", "languages", "[I", true)
  | 5 => ("GlossaryCrown$Terms", "stems", "[I", true)
  | 6 => ("GlossaryCrown$Terms", "states", "[I", true)
  | 7 => ("GlossaryCrown$Terms", "votersFor", "[I", true)
  | 8 => ("GlossaryCrown$Terms", "votersAgainst", "[I", true)
  | 9 => ("GlossaryCrown$Terms", "bannedFrom", "[I", true)
  | 10 => ("GlossaryCrown$Terms", "graces", "[I", true)
  | _ => ("GlossaryCrown$Terms", "known", "[[I", true)
def tyX0 : Nat → FieldType := fun k => match k with
  | 0 => .int
  | 1 => .int
  | 2 => .array .int
  | 3 => .array .int
  | 4 => .array .int
  | 5 => .array .int
  | 6 => .array .int
  | 7 => .array .int
  | 8 => .array .int
  | 9 => .array .int
  | 10 => .array .int
  | _ => .array (.array .int)
abbrev wsX00 : List Cond := u_ws RX0 TX0 12
theorem nmX0 : ∀ a, a < 12 → ∀ b, b < 12 → a ≠ b → (TX0 a).2.1 ≠ (TX0 b).2.1 := by decide +kernel
theorem tyX0_ok : ∀ k, k < 12 → parseFieldDescriptor (TX0 k).2.2.1 = some (tyX0 k) := by decide +kernel
abbrev cX0_init : ByteArray := prog_2_method_1_code
def yX0_init : MethodName := ⟨RX0, "<init>", "()V"⟩
abbrev cX0_isConcept : ByteArray := prog_2_method_2_code
def yX0_isConcept : MethodName := ⟨RX0, "isConcept", "(I)Z"⟩
abbrev cX0_isTerm : ByteArray := prog_2_method_3_code
def yX0_isTerm : MethodName := ⟨RX0, "isTerm", "(I)Z"⟩
abbrev cX0_addConcept : ByteArray := prog_2_method_4_code
def yX0_addConcept : MethodName := ⟨RX0, "addConcept", "(I)I"⟩
abbrev cX0_hasTerm : ByteArray := prog_2_method_5_code
def yX0_hasTerm : MethodName := ⟨RX0, "hasTerm", "(III)Z"⟩
abbrev cX0_addTerm : ByteArray := prog_2_method_6_code
def yX0_addTerm : MethodName := ⟨RX0, "addTerm", "(III)I"⟩
abbrev cX0_hasVoted : ByteArray := prog_2_method_7_code
def yX0_hasVoted : MethodName := ⟨RX0, "hasVoted", "(II)Z"⟩
abbrev cX0_addVote : ByteArray := prog_2_method_8_code
def yX0_addVote : MethodName := ⟨RX0, "addVote", "(IIZ)I"⟩
abbrev cX0_isStem : ByteArray := prog_2_method_9_code
def yX0_isStem : MethodName := ⟨RX0, "isStem", "(II)Z"⟩
abbrev cX0_makeKnown : ByteArray := prog_2_method_10_code
def yX0_makeKnown : MethodName := ⟨RX0, "makeKnown", "(III)V"⟩
abbrev cX0_raise : ByteArray := prog_2_method_11_code
def yX0_raise : MethodName := ⟨RX0, "raise", "(I)I"⟩
abbrev cX0_preferredOf : ByteArray := prog_2_method_12_code
def yX0_preferredOf : MethodName := ⟨RX0, "preferredOf", "(II)I"⟩
abbrev cX0_canBeBanned : ByteArray := prog_2_method_13_code
def yX0_canBeBanned : MethodName := ⟨RX0, "canBeBanned", "(I)Z"⟩
abbrev cX0_forbid : ByteArray := prog_2_method_14_code
def yX0_forbid : MethodName := ⟨RX0, "forbid", "(III)V"⟩
abbrev cX0_permit : ByteArray := prog_2_method_15_code
def yX0_permit : MethodName := ⟨RX0, "permit", "(II)I"⟩
abbrev cX0_overdueOn : ByteArray := prog_2_method_16_code
def yX0_overdueOn : MethodName := ⟨RX0, "overdueOn", "(I)I"⟩
abbrev cX0_termsOf : ByteArray := prog_2_method_17_code
def yX0_termsOf : MethodName := ⟨RX0, "termsOf", "(I)I"⟩
abbrev cX0_move : ByteArray := prog_2_method_18_code
def yX0_move : MethodName := ⟨RX0, "move", "(II)V"⟩
abbrev cX0_canBeJoined : ByteArray := prog_2_method_19_code
def yX0_canBeJoined : MethodName := ⟨RX0, "canBeJoined", "(II)Z"⟩
abbrev cX0_unite : ByteArray := prog_2_method_20_code
def yX0_unite : MethodName := ⟨RX0, "unite", "(II)V"⟩
abbrev cX0_conceptsWithTerms : ByteArray := prog_2_method_21_code
def yX0_conceptsWithTerms : MethodName := ⟨RX0, "conceptsWithTerms", "()I"⟩
abbrev cX0_termsInState : ByteArray := prog_2_method_22_code
def yX0_termsInState : MethodName := ⟨RX0, "termsInState", "(I)I"⟩
abbrev cX0_canBe : ByteArray := prog_2_method_23_code
def yX0_canBe : MethodName := ⟨RX0, "canBe", "(II)I"⟩
abbrev cX0_domainIf : ByteArray := prog_2_method_24_code
def yX0_domainIf : MethodName := ⟨RX0, "domainIf", "(III)I"⟩
def RX1 : String := "GlossaryCrown$Texts"
def TX1 : u_T := fun k => match k with
  | 0 => ("GlossaryCrown$Texts", "terms", "LGlossaryCrown$Terms;", true)
  | 1 => ("GlossaryCrown$Texts", "documentCount", "I", false)
  | 2 => ("GlossaryCrown$Texts", "lengths", "[I", true)
  | 3 => ("GlossaryCrown$Texts", "states", "[I", true)
  | 4 => ("GlossaryCrown$Texts", "forms", "[[I", true)
  | _ => ("GlossaryCrown$Texts", "uses", "[[I", true)
def tyX1 : Nat → FieldType := fun k => match k with
  | 0 => .object "GlossaryCrown$Terms"
  | 1 => .int
  | 2 => .array .int
  | 3 => .array .int
  | 4 => .array (.array .int)
  | _ => .array (.array .int)
abbrev wsX10 : List Cond := u_ws RX1 TX1 6
theorem nmX1 : ∀ a, a < 6 → ∀ b, b < 6 → a ≠ b → (TX1 a).2.1 ≠ (TX1 b).2.1 := by decide +kernel
theorem tyX1_ok : ∀ k, k < 6 → parseFieldDescriptor (TX1 k).2.2.1 = some (tyX1 k) := by decide +kernel
abbrev cX1_init : ByteArray := prog_3_method_1_code
def yX1_init : MethodName := ⟨RX1, "<init>", "(LGlossaryCrown$Terms;)V"⟩
abbrev cX1_addDocument : ByteArray := prog_3_method_2_code
def yX1_addDocument : MethodName := ⟨RX1, "addDocument", "()I"⟩
abbrev cX1_textCount : ByteArray := prog_3_method_3_code
def yX1_textCount : MethodName := ⟨RX1, "textCount", "()I"⟩
abbrev cX1_placesToWrite : ByteArray := prog_3_method_4_code
def yX1_placesToWrite : MethodName := ⟨RX1, "placesToWrite", "(I)I"⟩
abbrev cX1_put : ByteArray := prog_3_method_5_code
def yX1_put : MethodName := ⟨RX1, "put", "(III)I"⟩
abbrev cX1_dropLast : ByteArray := prog_3_method_6_code
def yX1_dropLast : MethodName := ⟨RX1, "dropLast", "(I)I"⟩
abbrev cX1_read : ByteArray := prog_3_method_7_code
def yX1_read : MethodName := ⟨RX1, "read", "(I)V"⟩
abbrev cX1_useOf : ByteArray := prog_3_method_8_code
def yX1_useOf : MethodName := ⟨RX1, "useOf", "(IIIII)I"⟩
abbrev cX1_supportFor : ByteArray := prog_3_method_9_code
def yX1_supportFor : MethodName := ⟨RX1, "supportFor", "(IIIII)I"⟩
abbrev cX1_onlyOneOf : ByteArray := prog_3_method_10_code
def yX1_onlyOneOf : MethodName := ⟨RX1, "onlyOneOf", "(I)I"⟩
abbrev cX1_usesChangedByMoving : ByteArray := prog_3_method_11_code
def yX1_usesChangedByMoving : MethodName := ⟨RX1, "usesChangedByMoving", "(II)I"⟩
abbrev cX1_usesAmongIn : ByteArray := prog_3_method_12_code
def yX1_usesAmongIn : MethodName := ⟨RX1, "usesAmongIn", "(II)I"⟩
abbrev cX1_isUseInState : ByteArray := prog_3_method_13_code
def yX1_isUseInState : MethodName := ⟨RX1, "isUseInState", "(III)Z"⟩
abbrev cX1_usesInState : ByteArray := prog_3_method_14_code
def yX1_usesInState : MethodName := ⟨RX1, "usesInState", "(II)I"⟩
abbrev cX1_firstBanned : ByteArray := prog_3_method_15_code
def yX1_firstBanned : MethodName := ⟨RX1, "firstBanned", "(I)I"⟩
abbrev cX1_consistency : ByteArray := prog_3_method_16_code
def yX1_consistency : MethodName := ⟨RX1, "consistency", "(I)I"⟩
abbrev cX1_ambiguousForms : ByteArray := prog_3_method_17_code
def yX1_ambiguousForms : MethodName := ⟨RX1, "ambiguousForms", "(I)I"⟩
abbrev cX1_canBeApproved : ByteArray := prog_3_method_18_code
def yX1_canBeApproved : MethodName := ⟨RX1, "canBeApproved", "(I)Z"⟩
abbrev cX1_conceptsIn : ByteArray := prog_3_method_19_code
def yX1_conceptsIn : MethodName := ⟨RX1, "conceptsIn", "(I)I"⟩
abbrev cX1_agreementOf : ByteArray := prog_3_method_20_code
def yX1_agreementOf : MethodName := ⟨RX1, "agreementOf", "(I)I"⟩
abbrev cX1_approvedIn : ByteArray := prog_3_method_21_code
def yX1_approvedIn : MethodName := ⟨RX1, "approvedIn", "(I)I"⟩
abbrev cX1_hasApprovedUseOf : ByteArray := prog_3_method_22_code
def yX1_hasApprovedUseOf : MethodName := ⟨RX1, "hasApprovedUseOf", "(II)Z"⟩
abbrev cX1_reopen : ByteArray := prog_3_method_23_code
def yX1_reopen : MethodName := ⟨RX1, "reopen", "(I)V"⟩
abbrev cX1_reopenedByOverdue : ByteArray := prog_3_method_24_code
def yX1_reopenedByOverdue : MethodName := ⟨RX1, "reopenedByOverdue", "(I)I"⟩
abbrev cX1_reopenDue : ByteArray := prog_3_method_25_code
def yX1_reopenDue : MethodName := ⟨RX1, "reopenDue", "(I)I"⟩
abbrev cX1_usesAmong : ByteArray := prog_3_method_26_code
def yX1_usesAmong : MethodName := ⟨RX1, "usesAmong", "(I)I"⟩
abbrev cX1_documentsWith : ByteArray := prog_3_method_27_code
def yX1_documentsWith : MethodName := ⟨RX1, "documentsWith", "(I)I"⟩
abbrev cX1_textsInState : ByteArray := prog_3_method_28_code
def yX1_textsInState : MethodName := ⟨RX1, "textsInState", "(I)I"⟩
abbrev cX1_textsWithForms : ByteArray := prog_3_method_29_code
def yX1_textsWithForms : MethodName := ⟨RX1, "textsWithForms", "()I"⟩
abbrev cX1_sumOfConsistencies : ByteArray := prog_3_method_30_code
def yX1_sumOfConsistencies : MethodName := ⟨RX1, "sumOfConsistencies", "()I"⟩
def RX2 : String := "GlossaryCrown"
def TX2 : u_T := fun k => match k with
  | 0 => ("GlossaryCrown", "terms", "LGlossaryCrown$Terms;", true)
  | 1 => ("GlossaryCrown", "texts", "LGlossaryCrown$Texts;", true)
  | _ => ("GlossaryCrown", "day", "I", false)
def tyX2 : Nat → FieldType := fun k => match k with
  | 0 => .object "GlossaryCrown$Terms"
  | 1 => .object "GlossaryCrown$Texts"
  | _ => .int
abbrev wsX20 : List Cond := u_ws RX2 TX2 3
theorem nmX2 : ∀ a, a < 3 → ∀ b, b < 3 → a ≠ b → (TX2 a).2.1 ≠ (TX2 b).2.1 := by decide +kernel
theorem tyX2_ok : ∀ k, k < 3 → parseFieldDescriptor (TX2 k).2.2.1 = some (tyX2 k) := by decide +kernel
abbrev cX2_init : ByteArray := prog_1_method_1_code
def yX2_init : MethodName := ⟨RX2, "<init>", "()V"⟩
abbrev cX2_concept : ByteArray := prog_1_method_2_code
def yX2_concept : MethodName := ⟨RX2, "concept", "(I)I"⟩
abbrev cX2_term : ByteArray := prog_1_method_3_code
def yX2_term : MethodName := ⟨RX2, "term", "(III)I"⟩
abbrev cX2_vote : ByteArray := prog_1_method_4_code
def yX2_vote : MethodName := ⟨RX2, "vote", "(IIZ)I"⟩
abbrev cX2_prefer : ByteArray := prog_1_method_5_code
def yX2_prefer : MethodName := ⟨RX2, "prefer", "(I)I"⟩
abbrev cX2_ban : ByteArray := prog_1_method_6_code
def yX2_ban : MethodName := ⟨RX2, "ban", "(II)I"⟩
abbrev cX2_allow : ByteArray := prog_1_method_7_code
def yX2_allow : MethodName := ⟨RX2, "allow", "(I)I"⟩
abbrev cX2_ofTerm : ByteArray := prog_1_method_8_code
def yX2_ofTerm : MethodName := ⟨RX2, "ofTerm", "(II)I"⟩
abbrev cX2_ofConcept : ByteArray := prog_1_method_9_code
def yX2_ofConcept : MethodName := ⟨RX2, "ofConcept", "(II)I"⟩
abbrev cX2_split : ByteArray := prog_1_method_10_code
def yX2_split : MethodName := ⟨RX2, "split", "(III)I"⟩
abbrev cX2_join : ByteArray := prog_1_method_11_code
def yX2_join : MethodName := ⟨RX2, "join", "(II)I"⟩
abbrev cX2_document : ByteArray := prog_1_method_12_code
def yX2_document : MethodName := ⟨RX2, "document", "()I"⟩
abbrev cX2_write : ByteArray := prog_1_method_13_code
def yX2_write : MethodName := ⟨RX2, "write", "(IIII)I"⟩
abbrev cX2_cut : ByteArray := prog_1_method_14_code
def yX2_cut : MethodName := ⟨RX2, "cut", "(II)I"⟩
abbrev cX2_approve : ByteArray := prog_1_method_15_code
def yX2_approve : MethodName := ⟨RX2, "approve", "(II)I"⟩
abbrev cX2_use : ByteArray := prog_1_method_16_code
def yX2_use : MethodName := ⟨RX2, "use", "(III)I"⟩
abbrev cX2_ofText : ByteArray := prog_1_method_17_code
def yX2_ofText : MethodName := ⟨RX2, "ofText", "(III)I"⟩
abbrev cX2_agreement : ByteArray := prog_1_method_18_code
def yX2_agreement : MethodName := ⟨RX2, "agreement", "(I)I"⟩
abbrev cX2_pass : ByteArray := prog_1_method_19_code
def yX2_pass : MethodName := ⟨RX2, "pass", "(I)I"⟩
abbrev cX2_many : ByteArray := prog_1_method_20_code
def yX2_many : MethodName := ⟨RX2, "many", "(I)I"⟩
abbrev cX2_meanConsistency : ByteArray := prog_1_method_21_code
def yX2_meanConsistency : MethodName := ⟨RX2, "meanConsistency", "()D"⟩
abbrev cX2_reopenedBy : ByteArray := prog_1_method_22_code
def yX2_reopenedBy : MethodName := ⟨RX2, "reopenedBy", "(I)I"⟩
abbrev cX2_reopenedIn : ByteArray := prog_1_method_23_code
def yX2_reopenedIn : MethodName := ⟨RX2, "reopenedIn", "(I)I"⟩
abbrev cX2_changedBy : ByteArray := prog_1_method_24_code
def yX2_changedBy : MethodName := ⟨RX2, "changedBy", "(II)I"⟩
abbrev cX2_formFor : ByteArray := prog_1_method_25_code
def yX2_formFor : MethodName := ⟨RX2, "formFor", "(IIII)I"⟩
abbrev cX2_digest : ByteArray := prog_1_method_26_code
def yX2_digest : MethodName := ⟨RX2, "digest", "()J"⟩
abbrev cX2_digestTerms : ByteArray := prog_1_method_27_code
def yX2_digestTerms : MethodName := ⟨RX2, "digestTerms", "(J)J"⟩
abbrev cX2_digestConcepts : ByteArray := prog_1_method_28_code
def yX2_digestConcepts : MethodName := ⟨RX2, "digestConcepts", "(J)J"⟩
abbrev cX2_digestTexts : ByteArray := prog_1_method_29_code
def yX2_digestTexts : MethodName := ⟨RX2, "digestTexts", "(J)J"⟩
abbrev cX2_readAnew : ByteArray := prog_1_method_30_code
def yX2_readAnew : MethodName := ⟨RX2, "readAnew", "()V"⟩
abbrev cX2_requireDomain : ByteArray := prog_1_method_31_code
def yX2_requireDomain : MethodName := ⟨RX2, "requireDomain", "(I)V"⟩
abbrev cX2_requireRoomForConcept : ByteArray := prog_1_method_32_code
def yX2_requireRoomForConcept : MethodName := ⟨RX2, "requireRoomForConcept", "()V"⟩
abbrev cX2_requireConcept : ByteArray := prog_1_method_33_code
def yX2_requireConcept : MethodName := ⟨RX2, "requireConcept", "(I)V"⟩
abbrev cX2_requireTwoConcepts : ByteArray := prog_1_method_34_code
def yX2_requireTwoConcepts : MethodName := ⟨RX2, "requireTwoConcepts", "(II)V"⟩
abbrev cX2_requireLanguage : ByteArray := prog_1_method_35_code
def yX2_requireLanguage : MethodName := ⟨RX2, "requireLanguage", "(I)V"⟩
abbrev cX2_requireTerm : ByteArray := prog_1_method_36_code
def yX2_requireTerm : MethodName := ⟨RX2, "requireTerm", "(I)V"⟩
abbrev cX2_requireDocument : ByteArray := prog_1_method_37_code
def yX2_requireDocument : MethodName := ⟨RX2, "requireDocument", "(I)V"⟩
abbrev cX2_requireText : ByteArray := prog_1_method_38_code
def yX2_requireText : MethodName := ⟨RX2, "requireText", "(II)I"⟩
abbrev cX2_requirePlace : ByteArray := prog_1_method_39_code
def yX2_requirePlace : MethodName := ⟨RX2, "requirePlace", "(II)V"⟩
abbrev cX2_requireWhat : ByteArray := prog_1_method_40_code
def yX2_requireWhat : MethodName := ⟨RX2, "requireWhat", "(II)V"⟩
abbrev cX2_requireDays : ByteArray := prog_1_method_41_code
def yX2_requireDays : MethodName := ⟨RX2, "requireDays", "(I)V"⟩
abbrev cX2_has : ByteArray := prog_1_method_42_code
def yX2_has : MethodName := ⟨RX2, "has", "(II)Z"⟩
def RX3 : String := "GlossaryCrownModel$Term"
def TX3 : u_T := fun k => match k with
  | _ => ("", "", "", false)
def tyX3 : Nat → FieldType := fun k => match k with
  | _ => .int
abbrev wsX30 : List Cond := u_ws RX3 TX3 0
theorem nmX3 : ∀ a, a < 0 → ∀ b, b < 0 → a ≠ b → (TX3 a).2.1 ≠ (TX3 b).2.1 := by decide +kernel
theorem tyX3_ok : ∀ k, k < 0 → parseFieldDescriptor (TX3 k).2.2.1 = some (tyX3 k) := by decide +kernel
def RX4 : String := "GlossaryCrownModel$Text"
def TX4 : u_T := fun k => match k with
  | _ => ("", "", "", false)
def tyX4 : Nat → FieldType := fun k => match k with
  | _ => .int
abbrev wsX40 : List Cond := u_ws RX4 TX4 0
theorem nmX4 : ∀ a, a < 0 → ∀ b, b < 0 → a ≠ b → (TX4 a).2.1 ≠ (TX4 b).2.1 := by decide +kernel
theorem tyX4_ok : ∀ k, k < 0 → parseFieldDescriptor (TX4 k).2.2.1 = some (tyX4 k) := by decide +kernel
def RX5 : String := "GlossaryCrownModel"
def TX5 : u_T := fun k => match k with
  | _ => ("", "", "", false)
def tyX5 : Nat → FieldType := fun k => match k with
  | _ => .int
abbrev wsX50 : List Cond := u_ws RX5 TX5 0
theorem nmX5 : ∀ a, a < 0 → ∀ b, b < 0 → a ≠ b → (TX5 a).2.1 ≠ (TX5 b).2.1 := by decide +kernel
theorem tyX5_ok : ∀ k, k < 0 → parseFieldDescriptor (TX5 k).2.2.1 = some (tyX5 k) := by decide +kernel
def RJx145de : String := "java/io/Serializable"
def TJx145de : u_T := fun k => match k with
  | _ => ("", "", "", false)
def tyJx145de : Nat → FieldType := fun k => match k with
  | _ => .int
theorem nmJx145de : ∀ a, a < 0 → ∀ b, b < 0 → a ≠ b → (TJx145de a).2.1 ≠ (TJx145de b).2.1 := by decide +kernel
theorem tyJx145de_ok : ∀ k, k < 0 → parseFieldDescriptor (TJx145de k).2.2.1 = some (tyJx145de k) := by decide +kernel
def RJxb160c : String := "java/lang/Comparable"
def TJxb160c : u_T := fun k => match k with
  | _ => ("", "", "", false)
def tyJxb160c : Nat → FieldType := fun k => match k with
  | _ => .int
theorem nmJxb160c : ∀ a, a < 0 → ∀ b, b < 0 → a ≠ b → (TJxb160c a).2.1 ≠ (TJxb160c b).2.1 := by decide +kernel
theorem tyJxb160c_ok : ∀ k, k < 0 → parseFieldDescriptor (TJxb160c k).2.2.1 = some (tyJxb160c k) := by decide +kernel
def RJxe99ae : String := "java/lang/Double"
def TJxe99ae : u_T := fun k => match k with
  | _ => ("", "", "", false)
def tyJxe99ae : Nat → FieldType := fun k => match k with
  | _ => .int
theorem nmJxe99ae : ∀ a, a < 0 → ∀ b, b < 0 → a ≠ b → (TJxe99ae a).2.1 ≠ (TJxe99ae b).2.1 := by decide +kernel
theorem tyJxe99ae_ok : ∀ k, k < 0 → parseFieldDescriptor (TJxe99ae k).2.2.1 = some (tyJxe99ae k) := by decide +kernel
def RJ6 : String := "java/lang/Integer"
def TJ6 : u_T := fun k => match k with
  | _ => ("", "", "", false)
def tyJ6 : Nat → FieldType := fun k => match k with
  | _ => .int
theorem nmJ6 : ∀ a, a < 0 → ∀ b, b < 0 → a ≠ b → (TJ6 a).2.1 ≠ (TJ6 b).2.1 := by decide +kernel
theorem tyJ6_ok : ∀ k, k < 0 → parseFieldDescriptor (TJ6 k).2.2.1 = some (tyJ6 k) := by decide +kernel
abbrev cJ6_bitCount_0f7a4 : ByteArray := prog_13_method_49_code
def yJ6_bitCount_0f7a4 : MethodName := ⟨RJ6, "bitCount", "(I)I"⟩
def RJ9 : String := "java/lang/Math"
def TJ9 : u_T := fun k => match k with
  | _ => ("", "", "", false)
def tyJ9 : Nat → FieldType := fun k => match k with
  | _ => .int
theorem nmJ9 : ∀ a, a < 0 → ∀ b, b < 0 → a ≠ b → (TJ9 a).2.1 ≠ (TJ9 b).2.1 := by decide +kernel
theorem tyJ9_ok : ∀ k, k < 0 → parseFieldDescriptor (TJ9 k).2.2.1 = some (tyJ9 k) := by decide +kernel
abbrev cJ9_abs_294c1 : ByteArray := prog_14_method_64_code
def yJ9_abs_294c1 : MethodName := ⟨RJ9, "abs", "(D)D"⟩
abbrev cJ9_max_7cf53 : ByteArray := prog_14_method_65_code
def yJ9_max_7cf53 : MethodName := ⟨RJ9, "max", "(II)I"⟩
abbrev cJ9_min_7cf53 : ByteArray := prog_14_method_69_code
def yJ9_min_7cf53 : MethodName := ⟨RJ9, "min", "(II)I"⟩
def RJxd2413 : String := "java/lang/Number"
def TJxd2413 : u_T := fun k => match k with
  | _ => ("", "", "", false)
def tyJxd2413 : Nat → FieldType := fun k => match k with
  | _ => .int
theorem nmJxd2413 : ∀ a, a < 0 → ∀ b, b < 0 → a ≠ b → (TJxd2413 a).2.1 ≠ (TJxd2413 b).2.1 := by decide +kernel
theorem tyJxd2413_ok : ∀ k, k < 0 → parseFieldDescriptor (TJxd2413 k).2.2.1 = some (tyJxd2413 k) := by decide +kernel
def RJ0 : String := "java/lang/String"
def TJ0 : u_T := fun k => match k with
  | _ => ("", "", "", false)
def tyJ0 : Nat → FieldType := fun k => match k with
  | _ => .int
theorem nmJ0 : ∀ a, a < 0 → ∀ b, b < 0 → a ≠ b → (TJ0 a).2.1 ≠ (TJ0 b).2.1 := by decide +kernel
theorem tyJ0_ok : ∀ k, k < 0 → parseFieldDescriptor (TJ0 k).2.2.1 = some (tyJ0 k) := by decide +kernel
def RJxfd54e : String := "java/lang/constant/Constable"
def TJxfd54e : u_T := fun k => match k with
  | _ => ("", "", "", false)
def tyJxfd54e : Nat → FieldType := fun k => match k with
  | _ => .int
theorem nmJxfd54e : ∀ a, a < 0 → ∀ b, b < 0 → a ≠ b → (TJxfd54e a).2.1 ≠ (TJxfd54e b).2.1 := by decide +kernel
theorem tyJxfd54e_ok : ∀ k, k < 0 → parseFieldDescriptor (TJxfd54e k).2.2.1 = some (tyJxfd54e k) := by decide +kernel
def RJx3cf43 : String := "java/lang/constant/ConstantDesc"
def TJx3cf43 : u_T := fun k => match k with
  | _ => ("", "", "", false)
def tyJx3cf43 : Nat → FieldType := fun k => match k with
  | _ => .int
theorem nmJx3cf43 : ∀ a, a < 0 → ∀ b, b < 0 → a ≠ b → (TJx3cf43 a).2.1 ≠ (TJx3cf43 b).2.1 := by decide +kernel
theorem tyJx3cf43_ok : ∀ k, k < 0 → parseFieldDescriptor (TJx3cf43 k).2.2.1 = some (tyJx3cf43 k) := by decide +kernel
def RL : String := "GlossaryCrownLaw"
abbrev cL_below : ByteArray := method_2_code
def yL_below : MethodName := ⟨RL, "below", "(II)I"⟩
abbrev cL_cell : ByteArray := method_3_code
def yL_cell : MethodName := ⟨RL, "cell", "([II)I"⟩
abbrev cL_law : ByteArray := code
def yL_law : MethodName := ⟨RL, "law", "([I)Z"⟩
abbrev cL_act : ByteArray := method_5_code
def yL_act : MethodName := ⟨RL, "act", "(LGlossaryCrown;I)Z"⟩
abbrev cL_isWritten : ByteArray := method_6_code
def yL_isWritten : MethodName := ⟨RL, "isWritten", "(LGlossaryCrown;IIII)Z"⟩
abbrev cL_areUsesRight : ByteArray := method_7_code
def yL_areUsesRight : MethodName := ⟨RL, "areUsesRight", "(LGlossaryCrown;)Z"⟩
abbrev cL_areTermsRight : ByteArray := method_8_code
def yL_areTermsRight : MethodName := ⟨RL, "areTermsRight", "(LGlossaryCrown;)Z"⟩
abbrev cL_areTextsRight : ByteArray := method_9_code
def yL_areTextsRight : MethodName := ⟨RL, "areTextsRight", "(LGlossaryCrown;)Z"⟩
/-! ===== END printed: names ===== -/
end
section
theorem dJ6_bitCount_0f7a4_0 : decode cJ6_bitCount_0f7a4 0 = .ok (.iload_n 0, 1) := by decide +kernel
theorem dJ6_bitCount_0f7a4_1 : decode cJ6_bitCount_0f7a4 1 = .ok (.iload_n 0, 1) := by decide +kernel
theorem dJ6_bitCount_0f7a4_2 : decode cJ6_bitCount_0f7a4 2 = .ok (.iconst 1, 1) := by decide +kernel
theorem dJ6_bitCount_0f7a4_3 : decode cJ6_bitCount_0f7a4 3 = .ok (.iushr, 1) := by decide +kernel
theorem dJ6_bitCount_0f7a4_4 : decode cJ6_bitCount_0f7a4 4 = .ok (.ldc_w 265, 3) := by decide +kernel
theorem dJ6_bitCount_0f7a4_7 : decode cJ6_bitCount_0f7a4 7 = .ok (.iand, 1) := by decide +kernel
theorem dJ6_bitCount_0f7a4_8 : decode cJ6_bitCount_0f7a4 8 = .ok (.isub, 1) := by decide +kernel
theorem dJ6_bitCount_0f7a4_9 : decode cJ6_bitCount_0f7a4 9 = .ok (.istore_n 0, 1) := by decide +kernel
theorem dJ6_bitCount_0f7a4_10 : decode cJ6_bitCount_0f7a4 10 = .ok (.iload_n 0, 1) := by decide +kernel
theorem dJ6_bitCount_0f7a4_11 : decode cJ6_bitCount_0f7a4 11 = .ok (.ldc_w 266, 3) := by decide +kernel
theorem dJ6_bitCount_0f7a4_14 : decode cJ6_bitCount_0f7a4 14 = .ok (.iand, 1) := by decide +kernel
theorem dJ6_bitCount_0f7a4_15 : decode cJ6_bitCount_0f7a4 15 = .ok (.iload_n 0, 1) := by decide +kernel
theorem dJ6_bitCount_0f7a4_16 : decode cJ6_bitCount_0f7a4 16 = .ok (.iconst 2, 1) := by decide +kernel
theorem dJ6_bitCount_0f7a4_17 : decode cJ6_bitCount_0f7a4 17 = .ok (.iushr, 1) := by decide +kernel
theorem dJ6_bitCount_0f7a4_18 : decode cJ6_bitCount_0f7a4 18 = .ok (.ldc_w 266, 3) := by decide +kernel
theorem dJ6_bitCount_0f7a4_21 : decode cJ6_bitCount_0f7a4 21 = .ok (.iand, 1) := by decide +kernel
theorem dJ6_bitCount_0f7a4_22 : decode cJ6_bitCount_0f7a4 22 = .ok (.iadd, 1) := by decide +kernel
theorem dJ6_bitCount_0f7a4_23 : decode cJ6_bitCount_0f7a4 23 = .ok (.istore_n 0, 1) := by decide +kernel
theorem dJ6_bitCount_0f7a4_24 : decode cJ6_bitCount_0f7a4 24 = .ok (.iload_n 0, 1) := by decide +kernel
theorem dJ6_bitCount_0f7a4_25 : decode cJ6_bitCount_0f7a4 25 = .ok (.iload_n 0, 1) := by decide +kernel
theorem dJ6_bitCount_0f7a4_26 : decode cJ6_bitCount_0f7a4 26 = .ok (.iconst 4, 1) := by decide +kernel
theorem dJ6_bitCount_0f7a4_27 : decode cJ6_bitCount_0f7a4 27 = .ok (.iushr, 1) := by decide +kernel
theorem dJ6_bitCount_0f7a4_28 : decode cJ6_bitCount_0f7a4 28 = .ok (.iadd, 1) := by decide +kernel
theorem dJ6_bitCount_0f7a4_29 : decode cJ6_bitCount_0f7a4 29 = .ok (.ldc_w 267, 3) := by decide +kernel
theorem dJ6_bitCount_0f7a4_32 : decode cJ6_bitCount_0f7a4 32 = .ok (.iand, 1) := by decide +kernel
theorem dJ6_bitCount_0f7a4_33 : decode cJ6_bitCount_0f7a4 33 = .ok (.istore_n 0, 1) := by decide +kernel
theorem dJ6_bitCount_0f7a4_34 : decode cJ6_bitCount_0f7a4 34 = .ok (.iload_n 0, 1) := by decide +kernel
theorem dJ6_bitCount_0f7a4_35 : decode cJ6_bitCount_0f7a4 35 = .ok (.iload_n 0, 1) := by decide +kernel
theorem dJ6_bitCount_0f7a4_36 : decode cJ6_bitCount_0f7a4 36 = .ok (.bipush 8, 2) := by decide +kernel
theorem dJ6_bitCount_0f7a4_38 : decode cJ6_bitCount_0f7a4 38 = .ok (.iushr, 1) := by decide +kernel
theorem dJ6_bitCount_0f7a4_39 : decode cJ6_bitCount_0f7a4 39 = .ok (.iadd, 1) := by decide +kernel
theorem dJ6_bitCount_0f7a4_40 : decode cJ6_bitCount_0f7a4 40 = .ok (.istore_n 0, 1) := by decide +kernel
theorem dJ6_bitCount_0f7a4_41 : decode cJ6_bitCount_0f7a4 41 = .ok (.iload_n 0, 1) := by decide +kernel
theorem dJ6_bitCount_0f7a4_42 : decode cJ6_bitCount_0f7a4 42 = .ok (.iload_n 0, 1) := by decide +kernel
theorem dJ6_bitCount_0f7a4_43 : decode cJ6_bitCount_0f7a4 43 = .ok (.bipush 16, 2) := by decide +kernel
theorem dJ6_bitCount_0f7a4_45 : decode cJ6_bitCount_0f7a4 45 = .ok (.iushr, 1) := by decide +kernel
theorem dJ6_bitCount_0f7a4_46 : decode cJ6_bitCount_0f7a4 46 = .ok (.iadd, 1) := by decide +kernel
theorem dJ6_bitCount_0f7a4_47 : decode cJ6_bitCount_0f7a4 47 = .ok (.istore_n 0, 1) := by decide +kernel
theorem dJ6_bitCount_0f7a4_48 : decode cJ6_bitCount_0f7a4 48 = .ok (.iload_n 0, 1) := by decide +kernel
theorem dJ6_bitCount_0f7a4_49 : decode cJ6_bitCount_0f7a4 49 = .ok (.bipush 63, 2) := by decide +kernel
theorem dJ6_bitCount_0f7a4_51 : decode cJ6_bitCount_0f7a4 51 = .ok (.iand, 1) := by decide +kernel
theorem dJ6_bitCount_0f7a4_52 : decode cJ6_bitCount_0f7a4 52 = .ok (.ireturn, 1) := by decide +kernel
end
section
theorem dJ9_abs_294c1_0 : decode cJ9_abs_294c1 0 = .ok (.dload_n 0, 1) := by decide +kernel
theorem dJ9_abs_294c1_1 : decode cJ9_abs_294c1 1 = .ok (.invokestatic 79, 3) := by decide +kernel
theorem dJ9_abs_294c1_4 : decode cJ9_abs_294c1 4 = .ok (.ldc2_w 135, 3) := by decide +kernel
theorem dJ9_abs_294c1_7 : decode cJ9_abs_294c1 7 = .ok (.land, 1) := by decide +kernel
theorem dJ9_abs_294c1_8 : decode cJ9_abs_294c1 8 = .ok (.invokestatic 166, 3) := by decide +kernel
theorem dJ9_abs_294c1_11 : decode cJ9_abs_294c1 11 = .ok (.dreturn, 1) := by decide +kernel
theorem dJ9_max_7cf53_0 : decode cJ9_max_7cf53 0 = .ok (.iload_n 0, 1) := by decide +kernel
theorem dJ9_max_7cf53_1 : decode cJ9_max_7cf53 1 = .ok (.iload_n 1, 1) := by decide +kernel
theorem dJ9_max_7cf53_2 : decode cJ9_max_7cf53 2 = .ok (.if_icmp .lt 7, 3) := by decide +kernel
theorem dJ9_max_7cf53_5 : decode cJ9_max_7cf53 5 = .ok (.iload_n 0, 1) := by decide +kernel
theorem dJ9_max_7cf53_6 : decode cJ9_max_7cf53 6 = .ok (.goto 4, 3) := by decide +kernel
theorem dJ9_max_7cf53_9 : decode cJ9_max_7cf53 9 = .ok (.iload_n 1, 1) := by decide +kernel
theorem dJ9_max_7cf53_10 : decode cJ9_max_7cf53 10 = .ok (.ireturn, 1) := by decide +kernel
theorem dJ9_min_7cf53_0 : decode cJ9_min_7cf53 0 = .ok (.iload_n 0, 1) := by decide +kernel
theorem dJ9_min_7cf53_1 : decode cJ9_min_7cf53 1 = .ok (.iload_n 1, 1) := by decide +kernel
theorem dJ9_min_7cf53_2 : decode cJ9_min_7cf53 2 = .ok (.if_icmp .gt 7, 3) := by decide +kernel
theorem dJ9_min_7cf53_5 : decode cJ9_min_7cf53 5 = .ok (.iload_n 0, 1) := by decide +kernel
theorem dJ9_min_7cf53_6 : decode cJ9_min_7cf53 6 = .ok (.goto 4, 3) := by decide +kernel
theorem dJ9_min_7cf53_9 : decode cJ9_min_7cf53 9 = .ok (.iload_n 1, 1) := by decide +kernel
theorem dJ9_min_7cf53_10 : decode cJ9_min_7cf53 10 = .ok (.ireturn, 1) := by decide +kernel
end
section
theorem dL_below_0 : decode cL_below 0 = .ok (.iload_n 0, 1) := by decide +kernel
theorem dL_below_1 : decode cL_below 1 = .ok (.ldc 7, 2) := by decide +kernel
theorem dL_below_3 : decode cL_below 3 = .ok (.iand, 1) := by decide +kernel
theorem dL_below_4 : decode cL_below 4 = .ok (.iload_n 1, 1) := by decide +kernel
theorem dL_below_5 : decode cL_below 5 = .ok (.irem, 1) := by decide +kernel
theorem dL_below_6 : decode cL_below 6 = .ok (.ireturn, 1) := by decide +kernel
theorem dL_cell_0 : decode cL_cell 0 = .ok (.iload_n 1, 1) := by decide +kernel
theorem dL_cell_1 : decode cL_cell 1 = .ok (.aload_n 0, 1) := by decide +kernel
theorem dL_cell_2 : decode cL_cell 2 = .ok (.arraylength, 1) := by decide +kernel
theorem dL_cell_3 : decode cL_cell 3 = .ok (.if_icmp .ge 9, 3) := by decide +kernel
theorem dL_cell_6 : decode cL_cell 6 = .ok (.aload_n 0, 1) := by decide +kernel
theorem dL_cell_7 : decode cL_cell 7 = .ok (.iload_n 1, 1) := by decide +kernel
theorem dL_cell_8 : decode cL_cell 8 = .ok (.iaload, 1) := by decide +kernel
theorem dL_cell_9 : decode cL_cell 9 = .ok (.goto 9, 3) := by decide +kernel
theorem dL_cell_12 : decode cL_cell 12 = .ok (.ldc 8, 2) := by decide +kernel
theorem dL_cell_14 : decode cL_cell 14 = .ok (.iload_n 1, 1) := by decide +kernel
theorem dL_cell_15 : decode cL_cell 15 = .ok (.iconst 3, 1) := by decide +kernel
theorem dL_cell_16 : decode cL_cell 16 = .ok (.iadd, 1) := by decide +kernel
theorem dL_cell_17 : decode cL_cell 17 = .ok (.imul, 1) := by decide +kernel
theorem dL_cell_18 : decode cL_cell 18 = .ok (.ireturn, 1) := by decide +kernel
theorem dL_law_0 : decode cL_law 0 = .ok (.new 9, 3) := by decide +kernel
theorem dL_law_3 : decode cL_law 3 = .ok (.dup, 1) := by decide +kernel
theorem dL_law_4 : decode cL_law 4 = .ok (.invokespecial 11, 3) := by decide +kernel
theorem dL_law_7 : decode cL_law 7 = .ok (.astore_n 1, 1) := by decide +kernel
theorem dL_law_8 : decode cL_law 8 = .ok (.iconst 0, 1) := by decide +kernel
theorem dL_law_9 : decode cL_law 9 = .ok (.istore_n 2, 1) := by decide +kernel
theorem dL_law_10 : decode cL_law 10 = .ok (.iload_n 2, 1) := by decide +kernel
theorem dL_law_11 : decode cL_law 11 = .ok (.iconst 3, 1) := by decide +kernel
theorem dL_law_12 : decode cL_law 12 = .ok (.if_icmp .ge 17, 3) := by decide +kernel
theorem dL_law_15 : decode cL_law 15 = .ok (.aload_n 1, 1) := by decide +kernel
theorem dL_law_16 : decode cL_law 16 = .ok (.iload_n 2, 1) := by decide +kernel
theorem dL_law_17 : decode cL_law 17 = .ok (.iconst 2, 1) := by decide +kernel
theorem dL_law_18 : decode cL_law 18 = .ok (.irem, 1) := by decide +kernel
theorem dL_law_19 : decode cL_law 19 = .ok (.invokevirtual 12, 3) := by decide +kernel
theorem dL_law_22 : decode cL_law 22 = .ok (.pop, 1) := by decide +kernel
theorem dL_law_23 : decode cL_law 23 = .ok (.iinc 2 1, 3) := by decide +kernel
theorem dL_law_26 : decode cL_law 26 = .ok (.goto (-16), 3) := by decide +kernel
theorem dL_law_29 : decode cL_law 29 = .ok (.iconst 0, 1) := by decide +kernel
theorem dL_law_30 : decode cL_law 30 = .ok (.istore_n 2, 1) := by decide +kernel
theorem dL_law_31 : decode cL_law 31 = .ok (.iload_n 2, 1) := by decide +kernel
theorem dL_law_32 : decode cL_law 32 = .ok (.iconst 2, 1) := by decide +kernel
theorem dL_law_33 : decode cL_law 33 = .ok (.if_icmp .ge 14, 3) := by decide +kernel
theorem dL_law_36 : decode cL_law 36 = .ok (.aload_n 1, 1) := by decide +kernel
theorem dL_law_37 : decode cL_law 37 = .ok (.invokevirtual 16, 3) := by decide +kernel
theorem dL_law_40 : decode cL_law 40 = .ok (.pop, 1) := by decide +kernel
theorem dL_law_41 : decode cL_law 41 = .ok (.iinc 2 1, 3) := by decide +kernel
theorem dL_law_44 : decode cL_law 44 = .ok (.goto (-13), 3) := by decide +kernel
theorem dL_law_47 : decode cL_law 47 = .ok (.iconst 0, 1) := by decide +kernel
theorem dL_law_48 : decode cL_law 48 = .ok (.istore_n 2, 1) := by decide +kernel
theorem dL_law_49 : decode cL_law 49 = .ok (.iload_n 2, 1) := by decide +kernel
theorem dL_law_50 : decode cL_law 50 = .ok (.bipush 6, 2) := by decide +kernel
theorem dL_law_52 : decode cL_law 52 = .ok (.if_icmp .ge 30, 3) := by decide +kernel
theorem dL_law_55 : decode cL_law 55 = .ok (.aload_n 1, 1) := by decide +kernel
theorem dL_law_56 : decode cL_law 56 = .ok (.iload_n 2, 1) := by decide +kernel
theorem dL_law_57 : decode cL_law 57 = .ok (.iconst 3, 1) := by decide +kernel
theorem dL_law_58 : decode cL_law 58 = .ok (.irem, 1) := by decide +kernel
theorem dL_law_59 : decode cL_law 59 = .ok (.iload_n 2, 1) := by decide +kernel
theorem dL_law_60 : decode cL_law 60 = .ok (.iconst 3, 1) := by decide +kernel
theorem dL_law_61 : decode cL_law 61 = .ok (.idiv, 1) := by decide +kernel
theorem dL_law_62 : decode cL_law 62 = .ok (.iload_n 2, 1) := by decide +kernel
theorem dL_law_63 : decode cL_law 63 = .ok (.iconst 5, 1) := by decide +kernel
theorem dL_law_64 : decode cL_law 64 = .ok (.if_icmp .ge 7, 3) := by decide +kernel
theorem dL_law_67 : decode cL_law 67 = .ok (.iconst 2, 1) := by decide +kernel
theorem dL_law_68 : decode cL_law 68 = .ok (.goto 4, 3) := by decide +kernel
theorem dL_law_71 : decode cL_law 71 = .ok (.iconst 3, 1) := by decide +kernel
theorem dL_law_72 : decode cL_law 72 = .ok (.invokevirtual 20, 3) := by decide +kernel
theorem dL_law_75 : decode cL_law 75 = .ok (.pop, 1) := by decide +kernel
theorem dL_law_76 : decode cL_law 76 = .ok (.iinc 2 1, 3) := by decide +kernel
theorem dL_law_79 : decode cL_law 79 = .ok (.goto (-30), 3) := by decide +kernel
theorem dL_law_82 : decode cL_law 82 = .ok (.iconst 0, 1) := by decide +kernel
theorem dL_law_83 : decode cL_law 83 = .ok (.istore_n 2, 1) := by decide +kernel
theorem dL_law_84 : decode cL_law 84 = .ok (.iload_n 2, 1) := by decide +kernel
theorem dL_law_85 : decode cL_law 85 = .ok (.bipush 80, 2) := by decide +kernel
theorem dL_law_87 : decode cL_law 87 = .ok (.if_icmp .ge 117, 3) := by decide +kernel
theorem dL_law_90 : decode cL_law 90 = .ok (.aload_n 0, 1) := by decide +kernel
theorem dL_law_91 : decode cL_law 91 = .ok (.iload_n 2, 1) := by decide +kernel
theorem dL_law_92 : decode cL_law 92 = .ok (.bipush 29, 2) := by decide +kernel
theorem dL_law_94 : decode cL_law 94 = .ok (.irem, 1) := by decide +kernel
theorem dL_law_95 : decode cL_law 95 = .ok (.invokestatic 24, 3) := by decide +kernel
theorem dL_law_98 : decode cL_law 98 = .ok (.iload_n 2, 1) := by decide +kernel
theorem dL_law_99 : decode cL_law 99 = .ok (.bipush 29, 2) := by decide +kernel
theorem dL_law_101 : decode cL_law 101 = .ok (.idiv, 1) := by decide +kernel
theorem dL_law_102 : decode cL_law 102 = .ok (.bipush 6, 2) := by decide +kernel
theorem dL_law_104 : decode cL_law 104 = .ok (.imul, 1) := by decide +kernel
theorem dL_law_105 : decode cL_law 105 = .ok (.ishr, 1) := by decide +kernel
theorem dL_law_106 : decode cL_law 106 = .ok (.istore_n 3, 1) := by decide +kernel
theorem dL_law_107 : decode cL_law 107 = .ok (.aload_n 1, 1) := by decide +kernel
theorem dL_law_108 : decode cL_law 108 = .ok (.bipush 10, 2) := by decide +kernel
theorem dL_law_110 : decode cL_law 110 = .ok (.invokevirtual 30, 3) := by decide +kernel
theorem dL_law_113 : decode cL_law 113 = .ok (.istore 4, 2) := by decide +kernel
theorem dL_law_115 : decode cL_law 115 = .ok (.aload_n 1, 1) := by decide +kernel
theorem dL_law_116 : decode cL_law 116 = .ok (.iload_n 3, 1) := by decide +kernel
theorem dL_law_117 : decode cL_law 117 = .ok (.invokestatic 33, 3) := by decide +kernel
theorem dL_law_120 : decode cL_law 120 = .ok (.ifCond .eq 25, 3) := by decide +kernel
theorem dL_law_123 : decode cL_law 123 = .ok (.aload_n 1, 1) := by decide +kernel
theorem dL_law_124 : decode cL_law 124 = .ok (.bipush 10, 2) := by decide +kernel
theorem dL_law_126 : decode cL_law 126 = .ok (.invokevirtual 30, 3) := by decide +kernel
theorem dL_law_129 : decode cL_law 129 = .ok (.iload 4, 2) := by decide +kernel
theorem dL_law_131 : decode cL_law 131 = .ok (.if_icmp .ge 16, 3) := by decide +kernel
theorem dL_law_134 : decode cL_law 134 = .ok (.iload_n 3, 1) := by decide +kernel
theorem dL_law_135 : decode cL_law 135 = .ok (.bipush 20, 2) := by decide +kernel
theorem dL_law_137 : decode cL_law 137 = .ok (.invokestatic 37, 3) := by decide +kernel
theorem dL_law_140 : decode cL_law 140 = .ok (.bipush 13, 2) := by decide +kernel
theorem dL_law_142 : decode cL_law 142 = .ok (.if_icmp .ge 5, 3) := by decide +kernel
theorem dL_law_145 : decode cL_law 145 = .ok (.iconst 0, 1) := by decide +kernel
theorem dL_law_146 : decode cL_law 146 = .ok (.ireturn, 1) := by decide +kernel
theorem dL_law_147 : decode cL_law 147 = .ok (.iload_n 2, 1) := by decide +kernel
theorem dL_law_148 : decode cL_law 148 = .ok (.bipush 8, 2) := by decide +kernel
theorem dL_law_150 : decode cL_law 150 = .ok (.irem, 1) := by decide +kernel
theorem dL_law_151 : decode cL_law 151 = .ok (.bipush 7, 2) := by decide +kernel
theorem dL_law_153 : decode cL_law 153 = .ok (.if_icmp .eq 6, 3) := by decide +kernel
theorem dL_law_156 : decode cL_law 156 = .ok (.goto 42, 3) := by decide +kernel
theorem dL_law_159 : decode cL_law 159 = .ok (.aload_n 1, 1) := by decide +kernel
theorem dL_law_160 : decode cL_law 160 = .ok (.invokevirtual 41, 3) := by decide +kernel
theorem dL_law_163 : decode cL_law 163 = .ok (.lstore 5, 2) := by decide +kernel
theorem dL_law_165 : decode cL_law 165 = .ok (.aload_n 1, 1) := by decide +kernel
theorem dL_law_166 : decode cL_law 166 = .ok (.invokestatic 45, 3) := by decide +kernel
theorem dL_law_169 : decode cL_law 169 = .ok (.ifCond .eq 27, 3) := by decide +kernel
theorem dL_law_172 : decode cL_law 172 = .ok (.aload_n 1, 1) := by decide +kernel
theorem dL_law_173 : decode cL_law 173 = .ok (.invokestatic 49, 3) := by decide +kernel
theorem dL_law_176 : decode cL_law 176 = .ok (.ifCond .eq 20, 3) := by decide +kernel
theorem dL_law_179 : decode cL_law 179 = .ok (.aload_n 1, 1) := by decide +kernel
theorem dL_law_180 : decode cL_law 180 = .ok (.invokestatic 52, 3) := by decide +kernel
theorem dL_law_183 : decode cL_law 183 = .ok (.ifCond .eq 13, 3) := by decide +kernel
theorem dL_law_186 : decode cL_law 186 = .ok (.aload_n 1, 1) := by decide +kernel
theorem dL_law_187 : decode cL_law 187 = .ok (.invokevirtual 41, 3) := by decide +kernel
theorem dL_law_190 : decode cL_law 190 = .ok (.lload 5, 2) := by decide +kernel
theorem dL_law_192 : decode cL_law 192 = .ok (.lcmp, 1) := by decide +kernel
theorem dL_law_193 : decode cL_law 193 = .ok (.ifCond .eq 5, 3) := by decide +kernel
theorem dL_law_196 : decode cL_law 196 = .ok (.iconst 0, 1) := by decide +kernel
theorem dL_law_197 : decode cL_law 197 = .ok (.ireturn, 1) := by decide +kernel
theorem dL_law_198 : decode cL_law 198 = .ok (.iinc 2 1, 3) := by decide +kernel
theorem dL_law_201 : decode cL_law 201 = .ok (.goto (-117), 3) := by decide +kernel
theorem dL_law_204 : decode cL_law 204 = .ok (.iconst 1, 1) := by decide +kernel
theorem dL_law_205 : decode cL_law 205 = .ok (.ireturn, 1) := by decide +kernel
theorem dL_act_0 : decode cL_act 0 = .ok (.aload_n 0, 1) := by decide +kernel
theorem dL_act_1 : decode cL_act 1 = .ok (.iconst 2, 1) := by decide +kernel
theorem dL_act_2 : decode cL_act 2 = .ok (.invokevirtual 30, 3) := by decide +kernel
theorem dL_act_5 : decode cL_act 5 = .ok (.istore_n 2, 1) := by decide +kernel
theorem dL_act_6 : decode cL_act 6 = .ok (.iload_n 1, 1) := by decide +kernel
theorem dL_act_7 : decode cL_act 7 = .ok (.iconst 4, 1) := by decide +kernel
theorem dL_act_8 : decode cL_act 8 = .ok (.ishr, 1) := by decide +kernel
theorem dL_act_9 : decode cL_act 9 = .ok (.iconst 1, 1) := by decide +kernel
theorem dL_act_10 : decode cL_act 10 = .ok (.iload_n 2, 1) := by decide +kernel
theorem dL_act_11 : decode cL_act 11 = .ok (.invokestatic 55, 3) := by decide +kernel
theorem dL_act_14 : decode cL_act 14 = .ok (.invokestatic 37, 3) := by decide +kernel
theorem dL_act_17 : decode cL_act 17 = .ok (.istore_n 3, 1) := by decide +kernel
theorem dL_act_18 : decode cL_act 18 = .ok (.iload_n 1, 1) := by decide +kernel
theorem dL_act_19 : decode cL_act 19 = .ok (.iconst 3, 1) := by decide +kernel
theorem dL_act_20 : decode cL_act 20 = .ok (.ishr, 1) := by decide +kernel
theorem dL_act_21 : decode cL_act 21 = .ok (.iconst 2, 1) := by decide +kernel
theorem dL_act_22 : decode cL_act 22 = .ok (.invokestatic 37, 3) := by decide +kernel
theorem dL_act_25 : decode cL_act 25 = .ok (.istore 4, 2) := by decide +kernel
theorem dL_act_27 : decode cL_act 27 = .ok (.iload_n 1, 1) := by decide +kernel
theorem dL_act_28 : decode cL_act 28 = .ok (.bipush 6, 2) := by decide +kernel
theorem dL_act_30 : decode cL_act 30 = .ok (.ishr, 1) := by decide +kernel
theorem dL_act_31 : decode cL_act 31 = .ok (.iconst 2, 1) := by decide +kernel
theorem dL_act_32 : decode cL_act 32 = .ok (.invokestatic 37, 3) := by decide +kernel
theorem dL_act_35 : decode cL_act 35 = .ok (.istore 5, 2) := by decide +kernel
theorem dL_act_37 : decode cL_act 37 = .ok (.aload_n 0, 1) := by decide +kernel
theorem dL_act_38 : decode cL_act 38 = .ok (.iconst 0, 1) := by decide +kernel
theorem dL_act_39 : decode cL_act 39 = .ok (.invokevirtual 30, 3) := by decide +kernel
theorem dL_act_42 : decode cL_act 42 = .ok (.istore 6, 2) := by decide +kernel
theorem dL_act_44 : decode cL_act 44 = .ok (.aload_n 0, 1) := by decide +kernel
theorem dL_act_45 : decode cL_act 45 = .ok (.bipush 9, 2) := by decide +kernel
theorem dL_act_47 : decode cL_act 47 = .ok (.invokevirtual 30, 3) := by decide +kernel
theorem dL_act_50 : decode cL_act 50 = .ok (.istore 7, 2) := by decide +kernel
theorem dL_act_52 : decode cL_act 52 = .ok (.iload_n 1, 1) := by decide +kernel
theorem dL_act_53 : decode cL_act 53 = .ok (.bipush 20, 2) := by decide +kernel
theorem dL_act_55 : decode cL_act 55 = .ok (.invokestatic 37, 3) := by decide +kernel
theorem dL_act_58 : decode cL_act 58 = .ok (.tableswitch 613 0 16 #[82, 123, 123, 123, 123, 163, 210, 288, 288, 312, 370, 424, 424, 491, 491, 491, 559], 82) := by decide +kernel
theorem dL_act_140 : decode cL_act 140 = .ok (.aload_n 0, 1) := by decide +kernel
theorem dL_act_141 : decode cL_act 141 = .ok (.iload_n 1, 1) := by decide +kernel
theorem dL_act_142 : decode cL_act 142 = .ok (.iconst 3, 1) := by decide +kernel
theorem dL_act_143 : decode cL_act 143 = .ok (.ishr, 1) := by decide +kernel
theorem dL_act_144 : decode cL_act 144 = .ok (.iload 6, 2) := by decide +kernel
theorem dL_act_146 : decode cL_act 146 = .ok (.invokestatic 37, 3) := by decide +kernel
theorem dL_act_149 : decode cL_act 149 = .ok (.iload 5, 2) := by decide +kernel
theorem dL_act_151 : decode cL_act 151 = .ok (.iload_n 1, 1) := by decide +kernel
theorem dL_act_152 : decode cL_act 152 = .ok (.bipush 7, 2) := by decide +kernel
theorem dL_act_154 : decode cL_act 154 = .ok (.ishr, 1) := by decide +kernel
theorem dL_act_155 : decode cL_act 155 = .ok (.iconst 4, 1) := by decide +kernel
theorem dL_act_156 : decode cL_act 156 = .ok (.invokestatic 37, 3) := by decide +kernel
theorem dL_act_159 : decode cL_act 159 = .ok (.invokevirtual 20, 3) := by decide +kernel
theorem dL_act_162 : decode cL_act 162 = .ok (.iload_n 2, 1) := by decide +kernel
theorem dL_act_163 : decode cL_act 163 = .ok (.if_icmp .ne 16, 3) := by decide +kernel
theorem dL_act_166 : decode cL_act 166 = .ok (.aload_n 0, 1) := by decide +kernel
theorem dL_act_167 : decode cL_act 167 = .ok (.iload_n 2, 1) := by decide +kernel
theorem dL_act_168 : decode cL_act 168 = .ok (.iconst 3, 1) := by decide +kernel
theorem dL_act_169 : decode cL_act 169 = .ok (.invokevirtual 60, 3) := by decide +kernel
theorem dL_act_172 : decode cL_act 172 = .ok (.ifCond .ne 7, 3) := by decide +kernel
theorem dL_act_175 : decode cL_act 175 = .ok (.iconst 1, 1) := by decide +kernel
theorem dL_act_176 : decode cL_act 176 = .ok (.goto 4, 3) := by decide +kernel
theorem dL_act_179 : decode cL_act 179 = .ok (.iconst 0, 1) := by decide +kernel
theorem dL_act_180 : decode cL_act 180 = .ok (.ireturn, 1) := by decide +kernel
theorem dL_act_181 : decode cL_act 181 = .ok (.iconst 0, 1) := by decide +kernel
theorem dL_act_182 : decode cL_act 182 = .ok (.istore 8, 2) := by decide +kernel
theorem dL_act_184 : decode cL_act 184 = .ok (.iload 8, 2) := by decide +kernel
theorem dL_act_186 : decode cL_act 186 = .ok (.iconst 3, 1) := by decide +kernel
theorem dL_act_187 : decode cL_act 187 = .ok (.if_icmp .ge 18, 3) := by decide +kernel
theorem dL_act_190 : decode cL_act 190 = .ok (.aload_n 0, 1) := by decide +kernel
theorem dL_act_191 : decode cL_act 191 = .ok (.iload_n 3, 1) := by decide +kernel
theorem dL_act_192 : decode cL_act 192 = .ok (.iload 8, 2) := by decide +kernel
theorem dL_act_194 : decode cL_act 194 = .ok (.iconst 1, 1) := by decide +kernel
theorem dL_act_195 : decode cL_act 195 = .ok (.invokevirtual 63, 3) := by decide +kernel
theorem dL_act_198 : decode cL_act 198 = .ok (.pop, 1) := by decide +kernel
theorem dL_act_199 : decode cL_act 199 = .ok (.iinc 8 1, 3) := by decide +kernel
theorem dL_act_202 : decode cL_act 202 = .ok (.goto (-18), 3) := by decide +kernel
theorem dL_act_205 : decode cL_act 205 = .ok (.aload_n 0, 1) := by decide +kernel
theorem dL_act_206 : decode cL_act 206 = .ok (.iload_n 3, 1) := by decide +kernel
theorem dL_act_207 : decode cL_act 207 = .ok (.iconst 3, 1) := by decide +kernel
theorem dL_act_208 : decode cL_act 208 = .ok (.invokevirtual 60, 3) := by decide +kernel
theorem dL_act_211 : decode cL_act 211 = .ok (.iconst 1, 1) := by decide +kernel
theorem dL_act_212 : decode cL_act 212 = .ok (.if_icmp .ne 7, 3) := by decide +kernel
theorem dL_act_215 : decode cL_act 215 = .ok (.iconst 1, 1) := by decide +kernel
theorem dL_act_216 : decode cL_act 216 = .ok (.goto 4, 3) := by decide +kernel
theorem dL_act_219 : decode cL_act 219 = .ok (.iconst 0, 1) := by decide +kernel
theorem dL_act_220 : decode cL_act 220 = .ok (.ireturn, 1) := by decide +kernel
theorem dL_act_221 : decode cL_act 221 = .ok (.aload_n 0, 1) := by decide +kernel
theorem dL_act_222 : decode cL_act 222 = .ok (.iload_n 3, 1) := by decide +kernel
theorem dL_act_223 : decode cL_act 223 = .ok (.invokevirtual 67, 3) := by decide +kernel
theorem dL_act_226 : decode cL_act 226 = .ok (.iload_n 3, 1) := by decide +kernel
theorem dL_act_227 : decode cL_act 227 = .ok (.if_icmp .eq 39, 3) := by decide +kernel
theorem dL_act_230 : decode cL_act 230 = .ok (.aload_n 0, 1) := by decide +kernel
theorem dL_act_231 : decode cL_act 231 = .ok (.iload_n 3, 1) := by decide +kernel
theorem dL_act_232 : decode cL_act 232 = .ok (.iconst 3, 1) := by decide +kernel
theorem dL_act_233 : decode cL_act 233 = .ok (.invokevirtual 60, 3) := by decide +kernel
theorem dL_act_236 : decode cL_act 236 = .ok (.iconst 2, 1) := by decide +kernel
theorem dL_act_237 : decode cL_act 237 = .ok (.if_icmp .ne 29, 3) := by decide +kernel
theorem dL_act_240 : decode cL_act 240 = .ok (.aload_n 0, 1) := by decide +kernel
theorem dL_act_241 : decode cL_act 241 = .ok (.aload_n 0, 1) := by decide +kernel
theorem dL_act_242 : decode cL_act 242 = .ok (.iload_n 3, 1) := by decide +kernel
theorem dL_act_243 : decode cL_act 243 = .ok (.iconst 0, 1) := by decide +kernel
theorem dL_act_244 : decode cL_act 244 = .ok (.invokevirtual 60, 3) := by decide +kernel
theorem dL_act_247 : decode cL_act 247 = .ok (.iconst 2, 1) := by decide +kernel
theorem dL_act_248 : decode cL_act 248 = .ok (.aload_n 0, 1) := by decide +kernel
theorem dL_act_249 : decode cL_act 249 = .ok (.iload_n 3, 1) := by decide +kernel
theorem dL_act_250 : decode cL_act 250 = .ok (.iconst 1, 1) := by decide +kernel
theorem dL_act_251 : decode cL_act 251 = .ok (.invokevirtual 60, 3) := by decide +kernel
theorem dL_act_254 : decode cL_act 254 = .ok (.iadd, 1) := by decide +kernel
theorem dL_act_255 : decode cL_act 255 = .ok (.invokevirtual 70, 3) := by decide +kernel
theorem dL_act_258 : decode cL_act 258 = .ok (.iload_n 3, 1) := by decide +kernel
theorem dL_act_259 : decode cL_act 259 = .ok (.if_icmp .ne 7, 3) := by decide +kernel
theorem dL_act_262 : decode cL_act 262 = .ok (.iconst 1, 1) := by decide +kernel
theorem dL_act_263 : decode cL_act 263 = .ok (.goto 4, 3) := by decide +kernel
theorem dL_act_266 : decode cL_act 266 = .ok (.iconst 0, 1) := by decide +kernel
theorem dL_act_267 : decode cL_act 267 = .ok (.ireturn, 1) := by decide +kernel
theorem dL_act_268 : decode cL_act 268 = .ok (.aload_n 0, 1) := by decide +kernel
theorem dL_act_269 : decode cL_act 269 = .ok (.iload_n 3, 1) := by decide +kernel
theorem dL_act_270 : decode cL_act 270 = .ok (.invokevirtual 73, 3) := by decide +kernel
theorem dL_act_273 : decode cL_act 273 = .ok (.istore 8, 2) := by decide +kernel
theorem dL_act_275 : decode cL_act 275 = .ok (.iload_n 1, 1) := by decide +kernel
theorem dL_act_276 : decode cL_act 276 = .ok (.bipush 6, 2) := by decide +kernel
theorem dL_act_278 : decode cL_act 278 = .ok (.ishr, 1) := by decide +kernel
theorem dL_act_279 : decode cL_act 279 = .ok (.iconst 5, 1) := by decide +kernel
theorem dL_act_280 : decode cL_act 280 = .ok (.invokestatic 37, 3) := by decide +kernel
theorem dL_act_283 : decode cL_act 283 = .ok (.istore 9, 2) := by decide +kernel
theorem dL_act_285 : decode cL_act 285 = .ok (.aload_n 0, 1) := by decide +kernel
theorem dL_act_286 : decode cL_act 286 = .ok (.iload_n 3, 1) := by decide +kernel
theorem dL_act_287 : decode cL_act 287 = .ok (.iload 9, 2) := by decide +kernel
theorem dL_act_289 : decode cL_act 289 = .ok (.invokevirtual 76, 3) := by decide +kernel
theorem dL_act_292 : decode cL_act 292 = .ok (.istore 10, 2) := by decide +kernel
theorem dL_act_294 : decode cL_act 294 = .ok (.iload 10, 2) := by decide +kernel
theorem dL_act_296 : decode cL_act 296 = .ok (.iload 9, 2) := by decide +kernel
theorem dL_act_298 : decode cL_act 298 = .ok (.ifCond .ne 8, 3) := by decide +kernel
theorem dL_act_301 : decode cL_act 301 = .ok (.iload 8, 2) := by decide +kernel
theorem dL_act_303 : decode cL_act 303 = .ok (.goto 4, 3) := by decide +kernel
theorem dL_act_306 : decode cL_act 306 = .ok (.iconst 0, 1) := by decide +kernel
theorem dL_act_307 : decode cL_act 307 = .ok (.if_icmp .ne 37, 3) := by decide +kernel
theorem dL_act_310 : decode cL_act 310 = .ok (.aload_n 0, 1) := by decide +kernel
theorem dL_act_311 : decode cL_act 311 = .ok (.bipush 9, 2) := by decide +kernel
theorem dL_act_313 : decode cL_act 313 = .ok (.invokevirtual 30, 3) := by decide +kernel
theorem dL_act_316 : decode cL_act 316 = .ok (.iload 7, 2) := by decide +kernel
theorem dL_act_318 : decode cL_act 318 = .ok (.iload 10, 2) := by decide +kernel
theorem dL_act_320 : decode cL_act 320 = .ok (.isub, 1) := by decide +kernel
theorem dL_act_321 : decode cL_act 321 = .ok (.if_icmp .ne 23, 3) := by decide +kernel
theorem dL_act_324 : decode cL_act 324 = .ok (.aload_n 0, 1) := by decide +kernel
theorem dL_act_325 : decode cL_act 325 = .ok (.iload_n 3, 1) := by decide +kernel
theorem dL_act_326 : decode cL_act 326 = .ok (.bipush 6, 2) := by decide +kernel
theorem dL_act_328 : decode cL_act 328 = .ok (.invokevirtual 60, 3) := by decide +kernel
theorem dL_act_331 : decode cL_act 331 = .ok (.aload_n 0, 1) := by decide +kernel
theorem dL_act_332 : decode cL_act 332 = .ok (.bipush 12, 2) := by decide +kernel
theorem dL_act_334 : decode cL_act 334 = .ok (.invokevirtual 30, 3) := by decide +kernel
theorem dL_act_337 : decode cL_act 337 = .ok (.if_icmp .ne 7, 3) := by decide +kernel
theorem dL_act_340 : decode cL_act 340 = .ok (.iconst 1, 1) := by decide +kernel
theorem dL_act_341 : decode cL_act 341 = .ok (.goto 4, 3) := by decide +kernel
theorem dL_act_344 : decode cL_act 344 = .ok (.iconst 0, 1) := by decide +kernel
theorem dL_act_345 : decode cL_act 345 = .ok (.ireturn, 1) := by decide +kernel
theorem dL_act_346 : decode cL_act 346 = .ok (.aload_n 0, 1) := by decide +kernel
theorem dL_act_347 : decode cL_act 347 = .ok (.iload_n 3, 1) := by decide +kernel
theorem dL_act_348 : decode cL_act 348 = .ok (.invokevirtual 79, 3) := by decide +kernel
theorem dL_act_351 : decode cL_act 351 = .ok (.ifCond .lt 17, 3) := by decide +kernel
theorem dL_act_354 : decode cL_act 354 = .ok (.aload_n 0, 1) := by decide +kernel
theorem dL_act_355 : decode cL_act 355 = .ok (.iload_n 3, 1) := by decide +kernel
theorem dL_act_356 : decode cL_act 356 = .ok (.iconst 3, 1) := by decide +kernel
theorem dL_act_357 : decode cL_act 357 = .ok (.invokevirtual 60, 3) := by decide +kernel
theorem dL_act_360 : decode cL_act 360 = .ok (.iconst 1, 1) := by decide +kernel
theorem dL_act_361 : decode cL_act 361 = .ok (.if_icmp .ne 7, 3) := by decide +kernel
theorem dL_act_364 : decode cL_act 364 = .ok (.iconst 1, 1) := by decide +kernel
theorem dL_act_365 : decode cL_act 365 = .ok (.goto 4, 3) := by decide +kernel
theorem dL_act_368 : decode cL_act 368 = .ok (.iconst 0, 1) := by decide +kernel
theorem dL_act_369 : decode cL_act 369 = .ok (.ireturn, 1) := by decide +kernel
theorem dL_act_370 : decode cL_act 370 = .ok (.aload_n 0, 1) := by decide +kernel
theorem dL_act_371 : decode cL_act 371 = .ok (.iload_n 1, 1) := by decide +kernel
theorem dL_act_372 : decode cL_act 372 = .ok (.iconst 3, 1) := by decide +kernel
theorem dL_act_373 : decode cL_act 373 = .ok (.ishr, 1) := by decide +kernel
theorem dL_act_374 : decode cL_act 374 = .ok (.iload 6, 2) := by decide +kernel
theorem dL_act_376 : decode cL_act 376 = .ok (.invokestatic 37, 3) := by decide +kernel
theorem dL_act_379 : decode cL_act 379 = .ok (.iload_n 1, 1) := by decide +kernel
theorem dL_act_380 : decode cL_act 380 = .ok (.bipush 7, 2) := by decide +kernel
theorem dL_act_382 : decode cL_act 382 = .ok (.ishr, 1) := by decide +kernel
theorem dL_act_383 : decode cL_act 383 = .ok (.iload 6, 2) := by decide +kernel
theorem dL_act_385 : decode cL_act 385 = .ok (.invokestatic 37, 3) := by decide +kernel
theorem dL_act_388 : decode cL_act 388 = .ok (.invokevirtual 82, 3) := by decide +kernel
theorem dL_act_391 : decode cL_act 391 = .ok (.istore 11, 2) := by decide +kernel
theorem dL_act_393 : decode cL_act 393 = .ok (.aload_n 0, 1) := by decide +kernel
theorem dL_act_394 : decode cL_act 394 = .ok (.iload_n 1, 1) := by decide +kernel
theorem dL_act_395 : decode cL_act 395 = .ok (.iconst 3, 1) := by decide +kernel
theorem dL_act_396 : decode cL_act 396 = .ok (.ishr, 1) := by decide +kernel
theorem dL_act_397 : decode cL_act 397 = .ok (.iload 6, 2) := by decide +kernel
theorem dL_act_399 : decode cL_act 399 = .ok (.invokestatic 37, 3) := by decide +kernel
theorem dL_act_402 : decode cL_act 402 = .ok (.iload_n 1, 1) := by decide +kernel
theorem dL_act_403 : decode cL_act 403 = .ok (.bipush 7, 2) := by decide +kernel
theorem dL_act_405 : decode cL_act 405 = .ok (.ishr, 1) := by decide +kernel
theorem dL_act_406 : decode cL_act 406 = .ok (.iload 6, 2) := by decide +kernel
theorem dL_act_408 : decode cL_act 408 = .ok (.invokestatic 37, 3) := by decide +kernel
theorem dL_act_411 : decode cL_act 411 = .ok (.invokevirtual 85, 3) := by decide +kernel
theorem dL_act_414 : decode cL_act 414 = .ok (.ifCond .lt 12, 3) := by decide +kernel
theorem dL_act_417 : decode cL_act 417 = .ok (.iload 11, 2) := by decide +kernel
theorem dL_act_419 : decode cL_act 419 = .ok (.ifCond .lt 7, 3) := by decide +kernel
theorem dL_act_422 : decode cL_act 422 = .ok (.iconst 1, 1) := by decide +kernel
theorem dL_act_423 : decode cL_act 423 = .ok (.goto 4, 3) := by decide +kernel
theorem dL_act_426 : decode cL_act 426 = .ok (.iconst 0, 1) := by decide +kernel
theorem dL_act_427 : decode cL_act 427 = .ok (.ireturn, 1) := by decide +kernel
theorem dL_act_428 : decode cL_act 428 = .ok (.aload_n 0, 1) := by decide +kernel
theorem dL_act_429 : decode cL_act 429 = .ok (.aload_n 0, 1) := by decide +kernel
theorem dL_act_430 : decode cL_act 430 = .ok (.iload_n 3, 1) := by decide +kernel
theorem dL_act_431 : decode cL_act 431 = .ok (.iconst 0, 1) := by decide +kernel
theorem dL_act_432 : decode cL_act 432 = .ok (.invokevirtual 60, 3) := by decide +kernel
theorem dL_act_435 : decode cL_act 435 = .ok (.iconst 1, 1) := by decide +kernel
theorem dL_act_436 : decode cL_act 436 = .ok (.iload_n 3, 1) := by decide +kernel
theorem dL_act_437 : decode cL_act 437 = .ok (.ishl, 1) := by decide +kernel
theorem dL_act_438 : decode cL_act 438 = .ok (.iload_n 1, 1) := by decide +kernel
theorem dL_act_439 : decode cL_act 439 = .ok (.bipush 6, 2) := by decide +kernel
theorem dL_act_441 : decode cL_act 441 = .ok (.ishr, 1) := by decide +kernel
theorem dL_act_442 : decode cL_act 442 = .ok (.iconst 4, 1) := by decide +kernel
theorem dL_act_443 : decode cL_act 443 = .ok (.invokestatic 37, 3) := by decide +kernel
theorem dL_act_446 : decode cL_act 446 = .ok (.invokevirtual 88, 3) := by decide +kernel
theorem dL_act_449 : decode cL_act 449 = .ok (.iload 6, 2) := by decide +kernel
theorem dL_act_451 : decode cL_act 451 = .ok (.if_icmp .ne 29, 3) := by decide +kernel
theorem dL_act_454 : decode cL_act 454 = .ok (.aload_n 0, 1) := by decide +kernel
theorem dL_act_455 : decode cL_act 455 = .ok (.iload_n 3, 1) := by decide +kernel
theorem dL_act_456 : decode cL_act 456 = .ok (.iconst 0, 1) := by decide +kernel
theorem dL_act_457 : decode cL_act 457 = .ok (.invokevirtual 60, 3) := by decide +kernel
theorem dL_act_460 : decode cL_act 460 = .ok (.iload 6, 2) := by decide +kernel
theorem dL_act_462 : decode cL_act 462 = .ok (.if_icmp .ne 18, 3) := by decide +kernel
theorem dL_act_465 : decode cL_act 465 = .ok (.aload_n 0, 1) := by decide +kernel
theorem dL_act_466 : decode cL_act 466 = .ok (.iload 6, 2) := by decide +kernel
theorem dL_act_468 : decode cL_act 468 = .ok (.iconst 1, 1) := by decide +kernel
theorem dL_act_469 : decode cL_act 469 = .ok (.invokevirtual 70, 3) := by decide +kernel
theorem dL_act_472 : decode cL_act 472 = .ok (.iconst 1, 1) := by decide +kernel
theorem dL_act_473 : decode cL_act 473 = .ok (.if_icmp .ne 7, 3) := by decide +kernel
theorem dL_act_476 : decode cL_act 476 = .ok (.iconst 1, 1) := by decide +kernel
theorem dL_act_477 : decode cL_act 477 = .ok (.goto 4, 3) := by decide +kernel
theorem dL_act_480 : decode cL_act 480 = .ok (.iconst 0, 1) := by decide +kernel
theorem dL_act_481 : decode cL_act 481 = .ok (.ireturn, 1) := by decide +kernel
theorem dL_act_482 : decode cL_act 482 = .ok (.iconst 1, 1) := by decide +kernel
theorem dL_act_483 : decode cL_act 483 = .ok (.iload_n 1, 1) := by decide +kernel
theorem dL_act_484 : decode cL_act 484 = .ok (.iconst 5, 1) := by decide +kernel
theorem dL_act_485 : decode cL_act 485 = .ok (.ishr, 1) := by decide +kernel
theorem dL_act_486 : decode cL_act 486 = .ok (.iconst 4, 1) := by decide +kernel
theorem dL_act_487 : decode cL_act 487 = .ok (.invokestatic 37, 3) := by decide +kernel
theorem dL_act_490 : decode cL_act 490 = .ok (.iadd, 1) := by decide +kernel
theorem dL_act_491 : decode cL_act 491 = .ok (.istore 12, 2) := by decide +kernel
theorem dL_act_493 : decode cL_act 493 = .ok (.aload_n 0, 1) := by decide +kernel
theorem dL_act_494 : decode cL_act 494 = .ok (.bipush 12, 2) := by decide +kernel
theorem dL_act_496 : decode cL_act 496 = .ok (.invokevirtual 30, 3) := by decide +kernel
theorem dL_act_499 : decode cL_act 499 = .ok (.iload 12, 2) := by decide +kernel
theorem dL_act_501 : decode cL_act 501 = .ok (.iadd, 1) := by decide +kernel
theorem dL_act_502 : decode cL_act 502 = .ok (.sipush 199, 3) := by decide +kernel
theorem dL_act_505 : decode cL_act 505 = .ok (.if_icmp .le 5, 3) := by decide +kernel
theorem dL_act_508 : decode cL_act 508 = .ok (.iconst 1, 1) := by decide +kernel
theorem dL_act_509 : decode cL_act 509 = .ok (.ireturn, 1) := by decide +kernel
theorem dL_act_510 : decode cL_act 510 = .ok (.aload_n 0, 1) := by decide +kernel
theorem dL_act_511 : decode cL_act 511 = .ok (.iload 12, 2) := by decide +kernel
theorem dL_act_513 : decode cL_act 513 = .ok (.invokevirtual 91, 3) := by decide +kernel
theorem dL_act_516 : decode cL_act 516 = .ok (.istore 13, 2) := by decide +kernel
theorem dL_act_518 : decode cL_act 518 = .ok (.aload_n 0, 1) := by decide +kernel
theorem dL_act_519 : decode cL_act 519 = .ok (.iload 12, 2) := by decide +kernel
theorem dL_act_521 : decode cL_act 521 = .ok (.invokevirtual 94, 3) := by decide +kernel
theorem dL_act_524 : decode cL_act 524 = .ok (.iload 13, 2) := by decide +kernel
theorem dL_act_526 : decode cL_act 526 = .ok (.if_icmp .ne 21, 3) := by decide +kernel
theorem dL_act_529 : decode cL_act 529 = .ok (.aload_n 0, 1) := by decide +kernel
theorem dL_act_530 : decode cL_act 530 = .ok (.bipush 9, 2) := by decide +kernel
theorem dL_act_532 : decode cL_act 532 = .ok (.invokevirtual 30, 3) := by decide +kernel
theorem dL_act_535 : decode cL_act 535 = .ok (.iload 7, 2) := by decide +kernel
theorem dL_act_537 : decode cL_act 537 = .ok (.iload 13, 2) := by decide +kernel
theorem dL_act_539 : decode cL_act 539 = .ok (.isub, 1) := by decide +kernel
theorem dL_act_540 : decode cL_act 540 = .ok (.if_icmp .ne 7, 3) := by decide +kernel
theorem dL_act_543 : decode cL_act 543 = .ok (.iconst 1, 1) := by decide +kernel
theorem dL_act_544 : decode cL_act 544 = .ok (.goto 4, 3) := by decide +kernel
theorem dL_act_547 : decode cL_act 547 = .ok (.iconst 0, 1) := by decide +kernel
theorem dL_act_548 : decode cL_act 548 = .ok (.ireturn, 1) := by decide +kernel
theorem dL_act_549 : decode cL_act 549 = .ok (.aload_n 0, 1) := by decide +kernel
theorem dL_act_550 : decode cL_act 550 = .ok (.iload 4, 2) := by decide +kernel
theorem dL_act_552 : decode cL_act 552 = .ok (.iload 5, 2) := by decide +kernel
theorem dL_act_554 : decode cL_act 554 = .ok (.invokevirtual 97, 3) := by decide +kernel
theorem dL_act_557 : decode cL_act 557 = .ok (.istore 14, 2) := by decide +kernel
theorem dL_act_559 : decode cL_act 559 = .ok (.aload_n 0, 1) := by decide +kernel
theorem dL_act_560 : decode cL_act 560 = .ok (.iload 4, 2) := by decide +kernel
theorem dL_act_562 : decode cL_act 562 = .ok (.iload 5, 2) := by decide +kernel
theorem dL_act_564 : decode cL_act 564 = .ok (.iconst 1, 1) := by decide +kernel
theorem dL_act_565 : decode cL_act 565 = .ok (.invokevirtual 100, 3) := by decide +kernel
theorem dL_act_568 : decode cL_act 568 = .ok (.iconst 1, 1) := by decide +kernel
theorem dL_act_569 : decode cL_act 569 = .ok (.if_icmp .ne 46, 3) := by decide +kernel
theorem dL_act_572 : decode cL_act 572 = .ok (.aload_n 0, 1) := by decide +kernel
theorem dL_act_573 : decode cL_act 573 = .ok (.iload 4, 2) := by decide +kernel
theorem dL_act_575 : decode cL_act 575 = .ok (.iload 5, 2) := by decide +kernel
theorem dL_act_577 : decode cL_act 577 = .ok (.iconst 3, 1) := by decide +kernel
theorem dL_act_578 : decode cL_act 578 = .ok (.invokevirtual 100, 3) := by decide +kernel
theorem dL_act_581 : decode cL_act 581 = .ok (.ifCond .ne 34, 3) := by decide +kernel
theorem dL_act_584 : decode cL_act 584 = .ok (.iload 14, 2) := by decide +kernel
theorem dL_act_586 : decode cL_act 586 = .ok (.aload_n 0, 1) := by decide +kernel
theorem dL_act_587 : decode cL_act 587 = .ok (.iload 4, 2) := by decide +kernel
theorem dL_act_589 : decode cL_act 589 = .ok (.iload 5, 2) := by decide +kernel
theorem dL_act_591 : decode cL_act 591 = .ok (.iconst 5, 1) := by decide +kernel
theorem dL_act_592 : decode cL_act 592 = .ok (.invokevirtual 100, 3) := by decide +kernel
theorem dL_act_595 : decode cL_act 595 = .ok (.if_icmp .ne 20, 3) := by decide +kernel
theorem dL_act_598 : decode cL_act 598 = .ok (.aload_n 0, 1) := by decide +kernel
theorem dL_act_599 : decode cL_act 599 = .ok (.bipush 9, 2) := by decide +kernel
theorem dL_act_601 : decode cL_act 601 = .ok (.invokevirtual 30, 3) := by decide +kernel
theorem dL_act_604 : decode cL_act 604 = .ok (.iload 7, 2) := by decide +kernel
theorem dL_act_606 : decode cL_act 606 = .ok (.iconst 1, 1) := by decide +kernel
theorem dL_act_607 : decode cL_act 607 = .ok (.iadd, 1) := by decide +kernel
theorem dL_act_608 : decode cL_act 608 = .ok (.if_icmp .ne 7, 3) := by decide +kernel
theorem dL_act_611 : decode cL_act 611 = .ok (.iconst 1, 1) := by decide +kernel
theorem dL_act_612 : decode cL_act 612 = .ok (.goto 4, 3) := by decide +kernel
theorem dL_act_615 : decode cL_act 615 = .ok (.iconst 0, 1) := by decide +kernel
theorem dL_act_616 : decode cL_act 616 = .ok (.ireturn, 1) := by decide +kernel
theorem dL_act_617 : decode cL_act 617 = .ok (.aload_n 0, 1) := by decide +kernel
theorem dL_act_618 : decode cL_act 618 = .ok (.iload 4, 2) := by decide +kernel
theorem dL_act_620 : decode cL_act 620 = .ok (.iload 5, 2) := by decide +kernel
theorem dL_act_622 : decode cL_act 622 = .ok (.iconst 0, 1) := by decide +kernel
theorem dL_act_623 : decode cL_act 623 = .ok (.invokevirtual 100, 3) := by decide +kernel
theorem dL_act_626 : decode cL_act 626 = .ok (.istore 15, 2) := by decide +kernel
theorem dL_act_628 : decode cL_act 628 = .ok (.aload_n 0, 1) := by decide +kernel
theorem dL_act_629 : decode cL_act 629 = .ok (.iload 4, 2) := by decide +kernel
theorem dL_act_631 : decode cL_act 631 = .ok (.iload 5, 2) := by decide +kernel
theorem dL_act_633 : decode cL_act 633 = .ok (.invokevirtual 103, 3) := by decide +kernel
theorem dL_act_636 : decode cL_act 636 = .ok (.pop, 1) := by decide +kernel
theorem dL_act_637 : decode cL_act 637 = .ok (.aload_n 0, 1) := by decide +kernel
theorem dL_act_638 : decode cL_act 638 = .ok (.iload 4, 2) := by decide +kernel
theorem dL_act_640 : decode cL_act 640 = .ok (.iload 5, 2) := by decide +kernel
theorem dL_act_642 : decode cL_act 642 = .ok (.iconst 0, 1) := by decide +kernel
theorem dL_act_643 : decode cL_act 643 = .ok (.invokevirtual 100, 3) := by decide +kernel
theorem dL_act_646 : decode cL_act 646 = .ok (.iload 15, 2) := by decide +kernel
theorem dL_act_648 : decode cL_act 648 = .ok (.iconst 1, 1) := by decide +kernel
theorem dL_act_649 : decode cL_act 649 = .ok (.isub, 1) := by decide +kernel
theorem dL_act_650 : decode cL_act 650 = .ok (.if_icmp .ne 19, 3) := by decide +kernel
theorem dL_act_653 : decode cL_act 653 = .ok (.aload_n 0, 1) := by decide +kernel
theorem dL_act_654 : decode cL_act 654 = .ok (.iload 4, 2) := by decide +kernel
theorem dL_act_656 : decode cL_act 656 = .ok (.iload 5, 2) := by decide +kernel
theorem dL_act_658 : decode cL_act 658 = .ok (.iconst 1, 1) := by decide +kernel
theorem dL_act_659 : decode cL_act 659 = .ok (.invokevirtual 100, 3) := by decide +kernel
theorem dL_act_662 : decode cL_act 662 = .ok (.ifCond .ne 7, 3) := by decide +kernel
theorem dL_act_665 : decode cL_act 665 = .ok (.iconst 1, 1) := by decide +kernel
theorem dL_act_666 : decode cL_act 666 = .ok (.goto 4, 3) := by decide +kernel
theorem dL_act_669 : decode cL_act 669 = .ok (.iconst 0, 1) := by decide +kernel
theorem dL_act_670 : decode cL_act 670 = .ok (.ireturn, 1) := by decide +kernel
theorem dL_act_671 : decode cL_act 671 = .ok (.aload_n 0, 1) := by decide +kernel
theorem dL_act_672 : decode cL_act 672 = .ok (.iload_n 1, 1) := by decide +kernel
theorem dL_act_673 : decode cL_act 673 = .ok (.iload 4, 2) := by decide +kernel
theorem dL_act_675 : decode cL_act 675 = .ok (.iload 5, 2) := by decide +kernel
theorem dL_act_677 : decode cL_act 677 = .ok (.iload_n 3, 1) := by decide +kernel
theorem dL_act_678 : decode cL_act 678 = .ok (.invokestatic 106, 3) := by decide +kernel
theorem dL_act_681 : decode cL_act 681 = .ok (.ireturn, 1) := by decide +kernel
theorem dL_act_682 : decode cL_act 682 = .ok (.astore 8, 2) := by decide +kernel
theorem dL_act_684 : decode cL_act 684 = .ok (.iload_n 2, 1) := by decide +kernel
theorem dL_act_685 : decode cL_act 685 = .ok (.ifCond .ne 7, 3) := by decide +kernel
theorem dL_act_688 : decode cL_act 688 = .ok (.iconst 1, 1) := by decide +kernel
theorem dL_act_689 : decode cL_act 689 = .ok (.goto 4, 3) := by decide +kernel
theorem dL_act_692 : decode cL_act 692 = .ok (.iconst 0, 1) := by decide +kernel
theorem dL_act_693 : decode cL_act 693 = .ok (.ireturn, 1) := by decide +kernel
theorem dL_act_694 : decode cL_act 694 = .ok (.astore 8, 2) := by decide +kernel
theorem dL_act_696 : decode cL_act 696 = .ok (.iload_n 1, 1) := by decide +kernel
theorem dL_act_697 : decode cL_act 697 = .ok (.bipush 20, 2) := by decide +kernel
theorem dL_act_699 : decode cL_act 699 = .ok (.invokestatic 37, 3) := by decide +kernel
theorem dL_act_702 : decode cL_act 702 = .ok (.bipush 9, 2) := by decide +kernel
theorem dL_act_704 : decode cL_act 704 = .ok (.if_icmp .eq 14, 3) := by decide +kernel
theorem dL_act_707 : decode cL_act 707 = .ok (.iload_n 1, 1) := by decide +kernel
theorem dL_act_708 : decode cL_act 708 = .ok (.bipush 20, 2) := by decide +kernel
theorem dL_act_710 : decode cL_act 710 = .ok (.invokestatic 37, 3) := by decide +kernel
theorem dL_act_713 : decode cL_act 713 = .ok (.bipush 10, 2) := by decide +kernel
theorem dL_act_715 : decode cL_act 715 = .ok (.if_icmp .ne 7, 3) := by decide +kernel
theorem dL_act_718 : decode cL_act 718 = .ok (.iconst 1, 1) := by decide +kernel
theorem dL_act_719 : decode cL_act 719 = .ok (.goto 4, 3) := by decide +kernel
theorem dL_act_722 : decode cL_act 722 = .ok (.iconst 0, 1) := by decide +kernel
theorem dL_act_723 : decode cL_act 723 = .ok (.ireturn, 1) := by decide +kernel
theorem dL_act_724 : decode cL_act 724 = .ok (.astore 8, 2) := by decide +kernel
theorem dL_act_726 : decode cL_act 726 = .ok (.aload_n 0, 1) := by decide +kernel
theorem dL_act_727 : decode cL_act 727 = .ok (.bipush 9, 2) := by decide +kernel
theorem dL_act_729 : decode cL_act 729 = .ok (.invokevirtual 30, 3) := by decide +kernel
theorem dL_act_732 : decode cL_act 732 = .ok (.iload 7, 2) := by decide +kernel
theorem dL_act_734 : decode cL_act 734 = .ok (.if_icmp .gt 29, 3) := by decide +kernel
theorem dL_act_737 : decode cL_act 737 = .ok (.iload_n 1, 1) := by decide +kernel
theorem dL_act_738 : decode cL_act 738 = .ok (.bipush 20, 2) := by decide +kernel
theorem dL_act_740 : decode cL_act 740 = .ok (.invokestatic 37, 3) := by decide +kernel
theorem dL_act_743 : decode cL_act 743 = .ok (.bipush 11, 2) := by decide +kernel
theorem dL_act_745 : decode cL_act 745 = .ok (.if_icmp .eq 18, 3) := by decide +kernel
theorem dL_act_748 : decode cL_act 748 = .ok (.iload_n 1, 1) := by decide +kernel
theorem dL_act_749 : decode cL_act 749 = .ok (.bipush 20, 2) := by decide +kernel
theorem dL_act_751 : decode cL_act 751 = .ok (.invokestatic 37, 3) := by decide +kernel
theorem dL_act_754 : decode cL_act 754 = .ok (.bipush 12, 2) := by decide +kernel
theorem dL_act_756 : decode cL_act 756 = .ok (.if_icmp .eq 7, 3) := by decide +kernel
theorem dL_act_759 : decode cL_act 759 = .ok (.iconst 1, 1) := by decide +kernel
theorem dL_act_760 : decode cL_act 760 = .ok (.goto 4, 3) := by decide +kernel
theorem dL_act_763 : decode cL_act 763 = .ok (.iconst 0, 1) := by decide +kernel
theorem dL_act_764 : decode cL_act 764 = .ok (.ireturn, 1) := by decide +kernel
theorem dL_isWritten_0 : decode cL_isWritten 0 = .ok (.aload_n 0, 1) := by decide +kernel
theorem dL_isWritten_1 : decode cL_isWritten 1 = .ok (.iload_n 2, 1) := by decide +kernel
theorem dL_isWritten_2 : decode cL_isWritten 2 = .ok (.iload_n 3, 1) := by decide +kernel
theorem dL_isWritten_3 : decode cL_isWritten 3 = .ok (.iconst 0, 1) := by decide +kernel
theorem dL_isWritten_4 : decode cL_isWritten 4 = .ok (.invokevirtual 100, 3) := by decide +kernel
theorem dL_isWritten_7 : decode cL_isWritten 7 = .ok (.istore 5, 2) := by decide +kernel
theorem dL_isWritten_9 : decode cL_isWritten 9 = .ok (.iload 5, 2) := by decide +kernel
theorem dL_isWritten_11 : decode cL_isWritten 11 = .ok (.bipush 12, 2) := by decide +kernel
theorem dL_isWritten_13 : decode cL_isWritten 13 = .ok (.if_icmp .ge 8, 3) := by decide +kernel
theorem dL_isWritten_16 : decode cL_isWritten 16 = .ok (.iload 5, 2) := by decide +kernel
theorem dL_isWritten_18 : decode cL_isWritten 18 = .ok (.goto 11, 3) := by decide +kernel
theorem dL_isWritten_21 : decode cL_isWritten 21 = .ok (.iload_n 1, 1) := by decide +kernel
theorem dL_isWritten_22 : decode cL_isWritten 22 = .ok (.iconst 5, 1) := by decide +kernel
theorem dL_isWritten_23 : decode cL_isWritten 23 = .ok (.ishr, 1) := by decide +kernel
theorem dL_isWritten_24 : decode cL_isWritten 24 = .ok (.bipush 12, 2) := by decide +kernel
theorem dL_isWritten_26 : decode cL_isWritten 26 = .ok (.invokestatic 37, 3) := by decide +kernel
theorem dL_isWritten_29 : decode cL_isWritten 29 = .ok (.istore 6, 2) := by decide +kernel
theorem dL_isWritten_31 : decode cL_isWritten 31 = .ok (.aload_n 0, 1) := by decide +kernel
theorem dL_isWritten_32 : decode cL_isWritten 32 = .ok (.iload_n 2, 1) := by decide +kernel
theorem dL_isWritten_33 : decode cL_isWritten 33 = .ok (.iload_n 3, 1) := by decide +kernel
theorem dL_isWritten_34 : decode cL_isWritten 34 = .ok (.iload 6, 2) := by decide +kernel
theorem dL_isWritten_36 : decode cL_isWritten 36 = .ok (.iload 4, 2) := by decide +kernel
theorem dL_isWritten_38 : decode cL_isWritten 38 = .ok (.invokevirtual 116, 3) := by decide +kernel
theorem dL_isWritten_41 : decode cL_isWritten 41 = .ok (.istore 7, 2) := by decide +kernel
theorem dL_isWritten_43 : decode cL_isWritten 43 = .ok (.iload 7, 2) := by decide +kernel
theorem dL_isWritten_45 : decode cL_isWritten 45 = .ok (.ifCond .lt 14, 3) := by decide +kernel
theorem dL_isWritten_48 : decode cL_isWritten 48 = .ok (.iload_n 1, 1) := by decide +kernel
theorem dL_isWritten_49 : decode cL_isWritten 49 = .ok (.bipush 7, 2) := by decide +kernel
theorem dL_isWritten_51 : decode cL_isWritten 51 = .ok (.ishr, 1) := by decide +kernel
theorem dL_isWritten_52 : decode cL_isWritten 52 = .ok (.iconst 3, 1) := by decide +kernel
theorem dL_isWritten_53 : decode cL_isWritten 53 = .ok (.invokestatic 37, 3) := by decide +kernel
theorem dL_isWritten_56 : decode cL_isWritten 56 = .ok (.ifCond .ne 14, 3) := by decide +kernel
theorem dL_isWritten_59 : decode cL_isWritten 59 = .ok (.iload_n 1, 1) := by decide +kernel
theorem dL_isWritten_60 : decode cL_isWritten 60 = .ok (.iconst 5, 1) := by decide +kernel
theorem dL_isWritten_61 : decode cL_isWritten 61 = .ok (.ishr, 1) := by decide +kernel
theorem dL_isWritten_62 : decode cL_isWritten 62 = .ok (.bipush 24, 2) := by decide +kernel
theorem dL_isWritten_64 : decode cL_isWritten 64 = .ok (.invokestatic 37, 3) := by decide +kernel
theorem dL_isWritten_67 : decode cL_isWritten 67 = .ok (.goto 5, 3) := by decide +kernel
theorem dL_isWritten_70 : decode cL_isWritten 70 = .ok (.iload 7, 2) := by decide +kernel
theorem dL_isWritten_72 : decode cL_isWritten 72 = .ok (.istore 8, 2) := by decide +kernel
theorem dL_isWritten_74 : decode cL_isWritten 74 = .ok (.aload_n 0, 1) := by decide +kernel
theorem dL_isWritten_75 : decode cL_isWritten 75 = .ok (.iload_n 2, 1) := by decide +kernel
theorem dL_isWritten_76 : decode cL_isWritten 76 = .ok (.iload_n 3, 1) := by decide +kernel
theorem dL_isWritten_77 : decode cL_isWritten 77 = .ok (.iload 6, 2) := by decide +kernel
theorem dL_isWritten_79 : decode cL_isWritten 79 = .ok (.iload 8, 2) := by decide +kernel
theorem dL_isWritten_81 : decode cL_isWritten 81 = .ok (.invokevirtual 120, 3) := by decide +kernel
theorem dL_isWritten_84 : decode cL_isWritten 84 = .ok (.pop, 1) := by decide +kernel
theorem dL_isWritten_85 : decode cL_isWritten 85 = .ok (.aload_n 0, 1) := by decide +kernel
theorem dL_isWritten_86 : decode cL_isWritten 86 = .ok (.iload_n 2, 1) := by decide +kernel
theorem dL_isWritten_87 : decode cL_isWritten 87 = .ok (.iload_n 3, 1) := by decide +kernel
theorem dL_isWritten_88 : decode cL_isWritten 88 = .ok (.iconst 1, 1) := by decide +kernel
theorem dL_isWritten_89 : decode cL_isWritten 89 = .ok (.invokevirtual 100, 3) := by decide +kernel
theorem dL_isWritten_92 : decode cL_isWritten 92 = .ok (.ifCond .ne 27, 3) := by decide +kernel
theorem dL_isWritten_95 : decode cL_isWritten 95 = .ok (.iload 8, 2) := by decide +kernel
theorem dL_isWritten_97 : decode cL_isWritten 97 = .ok (.iload 7, 2) := by decide +kernel
theorem dL_isWritten_99 : decode cL_isWritten 99 = .ok (.if_icmp .ne 16, 3) := by decide +kernel
theorem dL_isWritten_102 : decode cL_isWritten 102 = .ok (.aload_n 0, 1) := by decide +kernel
theorem dL_isWritten_103 : decode cL_isWritten 103 = .ok (.iload_n 2, 1) := by decide +kernel
theorem dL_isWritten_104 : decode cL_isWritten 104 = .ok (.iload_n 3, 1) := by decide +kernel
theorem dL_isWritten_105 : decode cL_isWritten 105 = .ok (.iload 6, 2) := by decide +kernel
theorem dL_isWritten_107 : decode cL_isWritten 107 = .ok (.invokevirtual 123, 3) := by decide +kernel
theorem dL_isWritten_110 : decode cL_isWritten 110 = .ok (.iload 4, 2) := by decide +kernel
theorem dL_isWritten_112 : decode cL_isWritten 112 = .ok (.if_icmp .ne 7, 3) := by decide +kernel
theorem dL_isWritten_115 : decode cL_isWritten 115 = .ok (.iconst 1, 1) := by decide +kernel
theorem dL_isWritten_116 : decode cL_isWritten 116 = .ok (.goto 4, 3) := by decide +kernel
theorem dL_isWritten_119 : decode cL_isWritten 119 = .ok (.iconst 0, 1) := by decide +kernel
theorem dL_isWritten_120 : decode cL_isWritten 120 = .ok (.ireturn, 1) := by decide +kernel
theorem dL_areUsesRight_0 : decode cL_areUsesRight 0 = .ok (.bipush 24, 2) := by decide +kernel
theorem dL_areUsesRight_2 : decode cL_areUsesRight 2 = .ok (.newarray .int, 2) := by decide +kernel
theorem dL_areUsesRight_4 : decode cL_areUsesRight 4 = .ok (.astore_n 1, 1) := by decide +kernel
theorem dL_areUsesRight_5 : decode cL_areUsesRight 5 = .ok (.iconst 0, 1) := by decide +kernel
theorem dL_areUsesRight_6 : decode cL_areUsesRight 6 = .ok (.istore_n 2, 1) := by decide +kernel
theorem dL_areUsesRight_7 : decode cL_areUsesRight 7 = .ok (.iconst 0, 1) := by decide +kernel
theorem dL_areUsesRight_8 : decode cL_areUsesRight 8 = .ok (.istore_n 3, 1) := by decide +kernel
theorem dL_areUsesRight_9 : decode cL_areUsesRight 9 = .ok (.iload_n 3, 1) := by decide +kernel
theorem dL_areUsesRight_10 : decode cL_areUsesRight 10 = .ok (.iconst 2, 1) := by decide +kernel
theorem dL_areUsesRight_11 : decode cL_areUsesRight 11 = .ok (.if_icmp .ge 247, 3) := by decide +kernel
theorem dL_areUsesRight_14 : decode cL_areUsesRight 14 = .ok (.iconst 0, 1) := by decide +kernel
theorem dL_areUsesRight_15 : decode cL_areUsesRight 15 = .ok (.istore 4, 2) := by decide +kernel
theorem dL_areUsesRight_17 : decode cL_areUsesRight 17 = .ok (.iload 4, 2) := by decide +kernel
theorem dL_areUsesRight_19 : decode cL_areUsesRight 19 = .ok (.iconst 3, 1) := by decide +kernel
theorem dL_areUsesRight_20 : decode cL_areUsesRight 20 = .ok (.if_icmp .ge 212, 3) := by decide +kernel
theorem dL_areUsesRight_23 : decode cL_areUsesRight 23 = .ok (.iconst 0, 1) := by decide +kernel
theorem dL_areUsesRight_24 : decode cL_areUsesRight 24 = .ok (.istore 5, 2) := by decide +kernel
theorem dL_areUsesRight_26 : decode cL_areUsesRight 26 = .ok (.iconst 0, 1) := by decide +kernel
theorem dL_areUsesRight_27 : decode cL_areUsesRight 27 = .ok (.istore 6, 2) := by decide +kernel
theorem dL_areUsesRight_29 : decode cL_areUsesRight 29 = .ok (.iconst 0, 1) := by decide +kernel
theorem dL_areUsesRight_30 : decode cL_areUsesRight 30 = .ok (.istore 7, 2) := by decide +kernel
theorem dL_areUsesRight_32 : decode cL_areUsesRight 32 = .ok (.iload 7, 2) := by decide +kernel
theorem dL_areUsesRight_34 : decode cL_areUsesRight 34 = .ok (.aload_n 0, 1) := by decide +kernel
theorem dL_areUsesRight_35 : decode cL_areUsesRight 35 = .ok (.iload_n 3, 1) := by decide +kernel
theorem dL_areUsesRight_36 : decode cL_areUsesRight 36 = .ok (.iload 4, 2) := by decide +kernel
theorem dL_areUsesRight_38 : decode cL_areUsesRight 38 = .ok (.iconst 0, 1) := by decide +kernel
theorem dL_areUsesRight_39 : decode cL_areUsesRight 39 = .ok (.invokevirtual 100, 3) := by decide +kernel
theorem dL_areUsesRight_42 : decode cL_areUsesRight 42 = .ok (.if_icmp .ge 102, 3) := by decide +kernel
theorem dL_areUsesRight_45 : decode cL_areUsesRight 45 = .ok (.aload_n 0, 1) := by decide +kernel
theorem dL_areUsesRight_46 : decode cL_areUsesRight 46 = .ok (.iload_n 3, 1) := by decide +kernel
theorem dL_areUsesRight_47 : decode cL_areUsesRight 47 = .ok (.iload 4, 2) := by decide +kernel
theorem dL_areUsesRight_49 : decode cL_areUsesRight 49 = .ok (.iload 7, 2) := by decide +kernel
theorem dL_areUsesRight_51 : decode cL_areUsesRight 51 = .ok (.invokevirtual 123, 3) := by decide +kernel
theorem dL_areUsesRight_54 : decode cL_areUsesRight 54 = .ok (.istore 8, 2) := by decide +kernel
theorem dL_areUsesRight_56 : decode cL_areUsesRight 56 = .ok (.iload 8, 2) := by decide +kernel
theorem dL_areUsesRight_58 : decode cL_areUsesRight 58 = .ok (.iconst (-1), 1) := by decide +kernel
theorem dL_areUsesRight_59 : decode cL_areUsesRight 59 = .ok (.if_icmp .lt 13, 3) := by decide +kernel
theorem dL_areUsesRight_62 : decode cL_areUsesRight 62 = .ok (.iload 8, 2) := by decide +kernel
theorem dL_areUsesRight_64 : decode cL_areUsesRight 64 = .ok (.aload_n 0, 1) := by decide +kernel
theorem dL_areUsesRight_65 : decode cL_areUsesRight 65 = .ok (.iconst 2, 1) := by decide +kernel
theorem dL_areUsesRight_66 : decode cL_areUsesRight 66 = .ok (.invokevirtual 30, 3) := by decide +kernel
theorem dL_areUsesRight_69 : decode cL_areUsesRight 69 = .ok (.if_icmp .lt 5, 3) := by decide +kernel
theorem dL_areUsesRight_72 : decode cL_areUsesRight 72 = .ok (.iconst 0, 1) := by decide +kernel
theorem dL_areUsesRight_73 : decode cL_areUsesRight 73 = .ok (.ireturn, 1) := by decide +kernel
theorem dL_areUsesRight_74 : decode cL_areUsesRight 74 = .ok (.iload 8, 2) := by decide +kernel
theorem dL_areUsesRight_76 : decode cL_areUsesRight 76 = .ok (.ifCond .ge 6, 3) := by decide +kernel
theorem dL_areUsesRight_79 : decode cL_areUsesRight 79 = .ok (.goto 59, 3) := by decide +kernel
theorem dL_areUsesRight_82 : decode cL_areUsesRight 82 = .ok (.aload_n 0, 1) := by decide +kernel
theorem dL_areUsesRight_83 : decode cL_areUsesRight 83 = .ok (.iload 8, 2) := by decide +kernel
theorem dL_areUsesRight_85 : decode cL_areUsesRight 85 = .ok (.iconst 1, 1) := by decide +kernel
theorem dL_areUsesRight_86 : decode cL_areUsesRight 86 = .ok (.invokevirtual 60, 3) := by decide +kernel
theorem dL_areUsesRight_89 : decode cL_areUsesRight 89 = .ok (.iload 4, 2) := by decide +kernel
theorem dL_areUsesRight_91 : decode cL_areUsesRight 91 = .ok (.if_icmp .ne 13, 3) := by decide +kernel
theorem dL_areUsesRight_94 : decode cL_areUsesRight 94 = .ok (.aload_n 0, 1) := by decide +kernel
theorem dL_areUsesRight_95 : decode cL_areUsesRight 95 = .ok (.iload 8, 2) := by decide +kernel
theorem dL_areUsesRight_97 : decode cL_areUsesRight 97 = .ok (.iconst 3, 1) := by decide +kernel
theorem dL_areUsesRight_98 : decode cL_areUsesRight 98 = .ok (.invokevirtual 60, 3) := by decide +kernel
theorem dL_areUsesRight_101 : decode cL_areUsesRight 101 = .ok (.ifCond .ne 5, 3) := by decide +kernel
theorem dL_areUsesRight_104 : decode cL_areUsesRight 104 = .ok (.iconst 0, 1) := by decide +kernel
theorem dL_areUsesRight_105 : decode cL_areUsesRight 105 = .ok (.ireturn, 1) := by decide +kernel
theorem dL_areUsesRight_106 : decode cL_areUsesRight 106 = .ok (.aload_n 1, 1) := by decide +kernel
theorem dL_areUsesRight_107 : decode cL_areUsesRight 107 = .ok (.iload 8, 2) := by decide +kernel
theorem dL_areUsesRight_109 : decode cL_areUsesRight 109 = .ok (.dup2, 1) := by decide +kernel
theorem dL_areUsesRight_110 : decode cL_areUsesRight 110 = .ok (.iaload, 1) := by decide +kernel
theorem dL_areUsesRight_111 : decode cL_areUsesRight 111 = .ok (.iconst 1, 1) := by decide +kernel
theorem dL_areUsesRight_112 : decode cL_areUsesRight 112 = .ok (.iadd, 1) := by decide +kernel
theorem dL_areUsesRight_113 : decode cL_areUsesRight 113 = .ok (.iastore, 1) := by decide +kernel
theorem dL_areUsesRight_114 : decode cL_areUsesRight 114 = .ok (.iinc 5 1, 3) := by decide +kernel
theorem dL_areUsesRight_117 : decode cL_areUsesRight 117 = .ok (.iload 6, 2) := by decide +kernel
theorem dL_areUsesRight_119 : decode cL_areUsesRight 119 = .ok (.aload_n 0, 1) := by decide +kernel
theorem dL_areUsesRight_120 : decode cL_areUsesRight 120 = .ok (.iload 8, 2) := by decide +kernel
theorem dL_areUsesRight_122 : decode cL_areUsesRight 122 = .ok (.iconst 3, 1) := by decide +kernel
theorem dL_areUsesRight_123 : decode cL_areUsesRight 123 = .ok (.invokevirtual 60, 3) := by decide +kernel
theorem dL_areUsesRight_126 : decode cL_areUsesRight 126 = .ok (.iconst 3, 1) := by decide +kernel
theorem dL_areUsesRight_127 : decode cL_areUsesRight 127 = .ok (.if_icmp .ne 7, 3) := by decide +kernel
theorem dL_areUsesRight_130 : decode cL_areUsesRight 130 = .ok (.iconst 1, 1) := by decide +kernel
theorem dL_areUsesRight_131 : decode cL_areUsesRight 131 = .ok (.goto 4, 3) := by decide +kernel
theorem dL_areUsesRight_134 : decode cL_areUsesRight 134 = .ok (.iconst 0, 1) := by decide +kernel
theorem dL_areUsesRight_135 : decode cL_areUsesRight 135 = .ok (.iadd, 1) := by decide +kernel
theorem dL_areUsesRight_136 : decode cL_areUsesRight 136 = .ok (.istore 6, 2) := by decide +kernel
theorem dL_areUsesRight_138 : decode cL_areUsesRight 138 = .ok (.iinc 7 1, 3) := by decide +kernel
theorem dL_areUsesRight_141 : decode cL_areUsesRight 141 = .ok (.goto (-109), 3) := by decide +kernel
theorem dL_areUsesRight_144 : decode cL_areUsesRight 144 = .ok (.aload_n 0, 1) := by decide +kernel
theorem dL_areUsesRight_145 : decode cL_areUsesRight 145 = .ok (.iload_n 3, 1) := by decide +kernel
theorem dL_areUsesRight_146 : decode cL_areUsesRight 146 = .ok (.iload 4, 2) := by decide +kernel
theorem dL_areUsesRight_148 : decode cL_areUsesRight 148 = .ok (.iconst 2, 1) := by decide +kernel
theorem dL_areUsesRight_149 : decode cL_areUsesRight 149 = .ok (.invokevirtual 100, 3) := by decide +kernel
theorem dL_areUsesRight_152 : decode cL_areUsesRight 152 = .ok (.iload 5, 2) := by decide +kernel
theorem dL_areUsesRight_154 : decode cL_areUsesRight 154 = .ok (.if_icmp .ne 65, 3) := by decide +kernel
theorem dL_areUsesRight_157 : decode cL_areUsesRight 157 = .ok (.aload_n 0, 1) := by decide +kernel
theorem dL_areUsesRight_158 : decode cL_areUsesRight 158 = .ok (.iload_n 3, 1) := by decide +kernel
theorem dL_areUsesRight_159 : decode cL_areUsesRight 159 = .ok (.iload 4, 2) := by decide +kernel
theorem dL_areUsesRight_161 : decode cL_areUsesRight 161 = .ok (.iconst 3, 1) := by decide +kernel
theorem dL_areUsesRight_162 : decode cL_areUsesRight 162 = .ok (.invokevirtual 100, 3) := by decide +kernel
theorem dL_areUsesRight_165 : decode cL_areUsesRight 165 = .ok (.iload 6, 2) := by decide +kernel
theorem dL_areUsesRight_167 : decode cL_areUsesRight 167 = .ok (.if_icmp .ne 52, 3) := by decide +kernel
theorem dL_areUsesRight_170 : decode cL_areUsesRight 170 = .ok (.aload_n 0, 1) := by decide +kernel
theorem dL_areUsesRight_171 : decode cL_areUsesRight 171 = .ok (.iload_n 3, 1) := by decide +kernel
theorem dL_areUsesRight_172 : decode cL_areUsesRight 172 = .ok (.iload 4, 2) := by decide +kernel
theorem dL_areUsesRight_174 : decode cL_areUsesRight 174 = .ok (.iconst 4, 1) := by decide +kernel
theorem dL_areUsesRight_175 : decode cL_areUsesRight 175 = .ok (.invokevirtual 100, 3) := by decide +kernel
theorem dL_areUsesRight_178 : decode cL_areUsesRight 178 = .ok (.ifCond .ge 7, 3) := by decide +kernel
theorem dL_areUsesRight_181 : decode cL_areUsesRight 181 = .ok (.iconst 1, 1) := by decide +kernel
theorem dL_areUsesRight_182 : decode cL_areUsesRight 182 = .ok (.goto 4, 3) := by decide +kernel
theorem dL_areUsesRight_185 : decode cL_areUsesRight 185 = .ok (.iconst 0, 1) := by decide +kernel
theorem dL_areUsesRight_186 : decode cL_areUsesRight 186 = .ok (.iload 6, 2) := by decide +kernel
theorem dL_areUsesRight_188 : decode cL_areUsesRight 188 = .ok (.ifCond .ne 7, 3) := by decide +kernel
theorem dL_areUsesRight_191 : decode cL_areUsesRight 191 = .ok (.iconst 1, 1) := by decide +kernel
theorem dL_areUsesRight_192 : decode cL_areUsesRight 192 = .ok (.goto 4, 3) := by decide +kernel
theorem dL_areUsesRight_195 : decode cL_areUsesRight 195 = .ok (.iconst 0, 1) := by decide +kernel
theorem dL_areUsesRight_196 : decode cL_areUsesRight 196 = .ok (.if_icmp .ne 23, 3) := by decide +kernel
theorem dL_areUsesRight_199 : decode cL_areUsesRight 199 = .ok (.aload_n 0, 1) := by decide +kernel
theorem dL_areUsesRight_200 : decode cL_areUsesRight 200 = .ok (.iload_n 3, 1) := by decide +kernel
theorem dL_areUsesRight_201 : decode cL_areUsesRight 201 = .ok (.iload 4, 2) := by decide +kernel
theorem dL_areUsesRight_203 : decode cL_areUsesRight 203 = .ok (.bipush 6, 2) := by decide +kernel
theorem dL_areUsesRight_205 : decode cL_areUsesRight 205 = .ok (.invokevirtual 100, 3) := by decide +kernel
theorem dL_areUsesRight_208 : decode cL_areUsesRight 208 = .ok (.aload_n 0, 1) := by decide +kernel
theorem dL_areUsesRight_209 : decode cL_areUsesRight 209 = .ok (.iload_n 3, 1) := by decide +kernel
theorem dL_areUsesRight_210 : decode cL_areUsesRight 210 = .ok (.iload 4, 2) := by decide +kernel
theorem dL_areUsesRight_212 : decode cL_areUsesRight 212 = .ok (.iconst 0, 1) := by decide +kernel
theorem dL_areUsesRight_213 : decode cL_areUsesRight 213 = .ok (.invokevirtual 100, 3) := by decide +kernel
theorem dL_areUsesRight_216 : decode cL_areUsesRight 216 = .ok (.if_icmp .le 5, 3) := by decide +kernel
theorem dL_areUsesRight_219 : decode cL_areUsesRight 219 = .ok (.iconst 0, 1) := by decide +kernel
theorem dL_areUsesRight_220 : decode cL_areUsesRight 220 = .ok (.ireturn, 1) := by decide +kernel
theorem dL_areUsesRight_221 : decode cL_areUsesRight 221 = .ok (.iload_n 2, 1) := by decide +kernel
theorem dL_areUsesRight_222 : decode cL_areUsesRight 222 = .ok (.iload 5, 2) := by decide +kernel
theorem dL_areUsesRight_224 : decode cL_areUsesRight 224 = .ok (.iadd, 1) := by decide +kernel
theorem dL_areUsesRight_225 : decode cL_areUsesRight 225 = .ok (.istore_n 2, 1) := by decide +kernel
theorem dL_areUsesRight_226 : decode cL_areUsesRight 226 = .ok (.iinc 4 1, 3) := by decide +kernel
theorem dL_areUsesRight_229 : decode cL_areUsesRight 229 = .ok (.goto (-212), 3) := by decide +kernel
theorem dL_areUsesRight_232 : decode cL_areUsesRight 232 = .ok (.aload_n 0, 1) := by decide +kernel
theorem dL_areUsesRight_233 : decode cL_areUsesRight 233 = .ok (.iload_n 3, 1) := by decide +kernel
theorem dL_areUsesRight_234 : decode cL_areUsesRight 234 = .ok (.invokevirtual 126, 3) := by decide +kernel
theorem dL_areUsesRight_237 : decode cL_areUsesRight 237 = .ok (.ifCond .lt 13, 3) := by decide +kernel
theorem dL_areUsesRight_240 : decode cL_areUsesRight 240 = .ok (.aload_n 0, 1) := by decide +kernel
theorem dL_areUsesRight_241 : decode cL_areUsesRight 241 = .ok (.iload_n 3, 1) := by decide +kernel
theorem dL_areUsesRight_242 : decode cL_areUsesRight 242 = .ok (.invokevirtual 126, 3) := by decide +kernel
theorem dL_areUsesRight_245 : decode cL_areUsesRight 245 = .ok (.bipush 100, 2) := by decide +kernel
theorem dL_areUsesRight_247 : decode cL_areUsesRight 247 = .ok (.if_icmp .le 5, 3) := by decide +kernel
theorem dL_areUsesRight_250 : decode cL_areUsesRight 250 = .ok (.iconst 0, 1) := by decide +kernel
theorem dL_areUsesRight_251 : decode cL_areUsesRight 251 = .ok (.ireturn, 1) := by decide +kernel
theorem dL_areUsesRight_252 : decode cL_areUsesRight 252 = .ok (.iinc 3 1, 3) := by decide +kernel
theorem dL_areUsesRight_255 : decode cL_areUsesRight 255 = .ok (.goto (-246), 3) := by decide +kernel
theorem dL_areUsesRight_258 : decode cL_areUsesRight 258 = .ok (.iconst 0, 1) := by decide +kernel
theorem dL_areUsesRight_259 : decode cL_areUsesRight 259 = .ok (.istore_n 3, 1) := by decide +kernel
theorem dL_areUsesRight_260 : decode cL_areUsesRight 260 = .ok (.iload_n 3, 1) := by decide +kernel
theorem dL_areUsesRight_261 : decode cL_areUsesRight 261 = .ok (.aload_n 0, 1) := by decide +kernel
theorem dL_areUsesRight_262 : decode cL_areUsesRight 262 = .ok (.iconst 2, 1) := by decide +kernel
theorem dL_areUsesRight_263 : decode cL_areUsesRight 263 = .ok (.invokevirtual 30, 3) := by decide +kernel
theorem dL_areUsesRight_266 : decode cL_areUsesRight 266 = .ok (.if_icmp .ge 24, 3) := by decide +kernel
theorem dL_areUsesRight_269 : decode cL_areUsesRight 269 = .ok (.aload_n 0, 1) := by decide +kernel
theorem dL_areUsesRight_270 : decode cL_areUsesRight 270 = .ok (.iload_n 3, 1) := by decide +kernel
theorem dL_areUsesRight_271 : decode cL_areUsesRight 271 = .ok (.bipush 7, 2) := by decide +kernel
theorem dL_areUsesRight_273 : decode cL_areUsesRight 273 = .ok (.invokevirtual 60, 3) := by decide +kernel
theorem dL_areUsesRight_276 : decode cL_areUsesRight 276 = .ok (.aload_n 1, 1) := by decide +kernel
theorem dL_areUsesRight_277 : decode cL_areUsesRight 277 = .ok (.iload_n 3, 1) := by decide +kernel
theorem dL_areUsesRight_278 : decode cL_areUsesRight 278 = .ok (.iaload, 1) := by decide +kernel
theorem dL_areUsesRight_279 : decode cL_areUsesRight 279 = .ok (.if_icmp .eq 5, 3) := by decide +kernel
theorem dL_areUsesRight_282 : decode cL_areUsesRight 282 = .ok (.iconst 0, 1) := by decide +kernel
theorem dL_areUsesRight_283 : decode cL_areUsesRight 283 = .ok (.ireturn, 1) := by decide +kernel
theorem dL_areUsesRight_284 : decode cL_areUsesRight 284 = .ok (.iinc 3 1, 3) := by decide +kernel
theorem dL_areUsesRight_287 : decode cL_areUsesRight 287 = .ok (.goto (-27), 3) := by decide +kernel
theorem dL_areUsesRight_290 : decode cL_areUsesRight 290 = .ok (.iconst 0, 1) := by decide +kernel
theorem dL_areUsesRight_291 : decode cL_areUsesRight 291 = .ok (.istore_n 3, 1) := by decide +kernel
theorem dL_areUsesRight_292 : decode cL_areUsesRight 292 = .ok (.iconst 0, 1) := by decide +kernel
theorem dL_areUsesRight_293 : decode cL_areUsesRight 293 = .ok (.istore 4, 2) := by decide +kernel
theorem dL_areUsesRight_295 : decode cL_areUsesRight 295 = .ok (.iload 4, 2) := by decide +kernel
theorem dL_areUsesRight_297 : decode cL_areUsesRight 297 = .ok (.aload_n 0, 1) := by decide +kernel
theorem dL_areUsesRight_298 : decode cL_areUsesRight 298 = .ok (.iconst 0, 1) := by decide +kernel
theorem dL_areUsesRight_299 : decode cL_areUsesRight 299 = .ok (.invokevirtual 30, 3) := by decide +kernel
theorem dL_areUsesRight_302 : decode cL_areUsesRight 302 = .ok (.if_icmp .ge 19, 3) := by decide +kernel
theorem dL_areUsesRight_305 : decode cL_areUsesRight 305 = .ok (.iload_n 3, 1) := by decide +kernel
theorem dL_areUsesRight_306 : decode cL_areUsesRight 306 = .ok (.aload_n 0, 1) := by decide +kernel
theorem dL_areUsesRight_307 : decode cL_areUsesRight 307 = .ok (.iload 4, 2) := by decide +kernel
theorem dL_areUsesRight_309 : decode cL_areUsesRight 309 = .ok (.iconst 5, 1) := by decide +kernel
theorem dL_areUsesRight_310 : decode cL_areUsesRight 310 = .ok (.invokevirtual 70, 3) := by decide +kernel
theorem dL_areUsesRight_313 : decode cL_areUsesRight 313 = .ok (.iadd, 1) := by decide +kernel
theorem dL_areUsesRight_314 : decode cL_areUsesRight 314 = .ok (.istore_n 3, 1) := by decide +kernel
theorem dL_areUsesRight_315 : decode cL_areUsesRight 315 = .ok (.iinc 4 1, 3) := by decide +kernel
theorem dL_areUsesRight_318 : decode cL_areUsesRight 318 = .ok (.goto (-23), 3) := by decide +kernel
theorem dL_areUsesRight_321 : decode cL_areUsesRight 321 = .ok (.aload_n 0, 1) := by decide +kernel
theorem dL_areUsesRight_322 : decode cL_areUsesRight 322 = .ok (.bipush 11, 2) := by decide +kernel
theorem dL_areUsesRight_324 : decode cL_areUsesRight 324 = .ok (.invokevirtual 30, 3) := by decide +kernel
theorem dL_areUsesRight_327 : decode cL_areUsesRight 327 = .ok (.iload_n 2, 1) := by decide +kernel
theorem dL_areUsesRight_328 : decode cL_areUsesRight 328 = .ok (.if_icmp .ne 12, 3) := by decide +kernel
theorem dL_areUsesRight_331 : decode cL_areUsesRight 331 = .ok (.iload_n 3, 1) := by decide +kernel
theorem dL_areUsesRight_332 : decode cL_areUsesRight 332 = .ok (.iload_n 2, 1) := by decide +kernel
theorem dL_areUsesRight_333 : decode cL_areUsesRight 333 = .ok (.if_icmp .ne 7, 3) := by decide +kernel
theorem dL_areUsesRight_336 : decode cL_areUsesRight 336 = .ok (.iconst 1, 1) := by decide +kernel
theorem dL_areUsesRight_337 : decode cL_areUsesRight 337 = .ok (.goto 4, 3) := by decide +kernel
theorem dL_areUsesRight_340 : decode cL_areUsesRight 340 = .ok (.iconst 0, 1) := by decide +kernel
theorem dL_areUsesRight_341 : decode cL_areUsesRight 341 = .ok (.ireturn, 1) := by decide +kernel
theorem dL_areTermsRight_0 : decode cL_areTermsRight 0 = .ok (.iconst 4, 1) := by decide +kernel
theorem dL_areTermsRight_1 : decode cL_areTermsRight 1 = .ok (.newarray .int, 2) := by decide +kernel
theorem dL_areTermsRight_3 : decode cL_areTermsRight 3 = .ok (.astore_n 1, 1) := by decide +kernel
theorem dL_areTermsRight_4 : decode cL_areTermsRight 4 = .ok (.bipush 36, 2) := by decide +kernel
theorem dL_areTermsRight_6 : decode cL_areTermsRight 6 = .ok (.newarray .int, 2) := by decide +kernel
theorem dL_areTermsRight_8 : decode cL_areTermsRight 8 = .ok (.astore_n 2, 1) := by decide +kernel
theorem dL_areTermsRight_9 : decode cL_areTermsRight 9 = .ok (.bipush 36, 2) := by decide +kernel
theorem dL_areTermsRight_11 : decode cL_areTermsRight 11 = .ok (.newarray .int, 2) := by decide +kernel
theorem dL_areTermsRight_13 : decode cL_areTermsRight 13 = .ok (.astore_n 3, 1) := by decide +kernel
theorem dL_areTermsRight_14 : decode cL_areTermsRight 14 = .ok (.bipush 12, 2) := by decide +kernel
theorem dL_areTermsRight_16 : decode cL_areTermsRight 16 = .ok (.newarray .int, 2) := by decide +kernel
theorem dL_areTermsRight_18 : decode cL_areTermsRight 18 = .ok (.astore 4, 2) := by decide +kernel
theorem dL_areTermsRight_20 : decode cL_areTermsRight 20 = .ok (.iconst 0, 1) := by decide +kernel
theorem dL_areTermsRight_21 : decode cL_areTermsRight 21 = .ok (.istore 5, 2) := by decide +kernel
theorem dL_areTermsRight_23 : decode cL_areTermsRight 23 = .ok (.iload 5, 2) := by decide +kernel
theorem dL_areTermsRight_25 : decode cL_areTermsRight 25 = .ok (.aload_n 0, 1) := by decide +kernel
theorem dL_areTermsRight_26 : decode cL_areTermsRight 26 = .ok (.iconst 2, 1) := by decide +kernel
theorem dL_areTermsRight_27 : decode cL_areTermsRight 27 = .ok (.invokevirtual 30, 3) := by decide +kernel
theorem dL_areTermsRight_30 : decode cL_areTermsRight 30 = .ok (.if_icmp .ge 206, 3) := by decide +kernel
theorem dL_areTermsRight_33 : decode cL_areTermsRight 33 = .ok (.aload_n 0, 1) := by decide +kernel
theorem dL_areTermsRight_34 : decode cL_areTermsRight 34 = .ok (.iload 5, 2) := by decide +kernel
theorem dL_areTermsRight_36 : decode cL_areTermsRight 36 = .ok (.iconst 3, 1) := by decide +kernel
theorem dL_areTermsRight_37 : decode cL_areTermsRight 37 = .ok (.invokevirtual 60, 3) := by decide +kernel
theorem dL_areTermsRight_40 : decode cL_areTermsRight 40 = .ok (.istore 6, 2) := by decide +kernel
theorem dL_areTermsRight_42 : decode cL_areTermsRight 42 = .ok (.aload_n 0, 1) := by decide +kernel
theorem dL_areTermsRight_43 : decode cL_areTermsRight 43 = .ok (.iload 5, 2) := by decide +kernel
theorem dL_areTermsRight_45 : decode cL_areTermsRight 45 = .ok (.iconst 0, 1) := by decide +kernel
theorem dL_areTermsRight_46 : decode cL_areTermsRight 46 = .ok (.invokevirtual 60, 3) := by decide +kernel
theorem dL_areTermsRight_49 : decode cL_areTermsRight 49 = .ok (.iconst 3, 1) := by decide +kernel
theorem dL_areTermsRight_50 : decode cL_areTermsRight 50 = .ok (.imul, 1) := by decide +kernel
theorem dL_areTermsRight_51 : decode cL_areTermsRight 51 = .ok (.aload_n 0, 1) := by decide +kernel
theorem dL_areTermsRight_52 : decode cL_areTermsRight 52 = .ok (.iload 5, 2) := by decide +kernel
theorem dL_areTermsRight_54 : decode cL_areTermsRight 54 = .ok (.iconst 1, 1) := by decide +kernel
theorem dL_areTermsRight_55 : decode cL_areTermsRight 55 = .ok (.invokevirtual 60, 3) := by decide +kernel
theorem dL_areTermsRight_58 : decode cL_areTermsRight 58 = .ok (.iadd, 1) := by decide +kernel
theorem dL_areTermsRight_59 : decode cL_areTermsRight 59 = .ok (.istore 7, 2) := by decide +kernel
theorem dL_areTermsRight_61 : decode cL_areTermsRight 61 = .ok (.aload_n 1, 1) := by decide +kernel
theorem dL_areTermsRight_62 : decode cL_areTermsRight 62 = .ok (.iload 6, 2) := by decide +kernel
theorem dL_areTermsRight_64 : decode cL_areTermsRight 64 = .ok (.dup2, 1) := by decide +kernel
theorem dL_areTermsRight_65 : decode cL_areTermsRight 65 = .ok (.iaload, 1) := by decide +kernel
theorem dL_areTermsRight_66 : decode cL_areTermsRight 66 = .ok (.iconst 1, 1) := by decide +kernel
theorem dL_areTermsRight_67 : decode cL_areTermsRight 67 = .ok (.iadd, 1) := by decide +kernel
theorem dL_areTermsRight_68 : decode cL_areTermsRight 68 = .ok (.iastore, 1) := by decide +kernel
theorem dL_areTermsRight_69 : decode cL_areTermsRight 69 = .ok (.aload 4, 2) := by decide +kernel
theorem dL_areTermsRight_71 : decode cL_areTermsRight 71 = .ok (.aload_n 0, 1) := by decide +kernel
theorem dL_areTermsRight_72 : decode cL_areTermsRight 72 = .ok (.iload 5, 2) := by decide +kernel
theorem dL_areTermsRight_74 : decode cL_areTermsRight 74 = .ok (.iconst 0, 1) := by decide +kernel
theorem dL_areTermsRight_75 : decode cL_areTermsRight 75 = .ok (.invokevirtual 60, 3) := by decide +kernel
theorem dL_areTermsRight_78 : decode cL_areTermsRight 78 = .ok (.dup2, 1) := by decide +kernel
theorem dL_areTermsRight_79 : decode cL_areTermsRight 79 = .ok (.iaload, 1) := by decide +kernel
theorem dL_areTermsRight_80 : decode cL_areTermsRight 80 = .ok (.iconst 1, 1) := by decide +kernel
theorem dL_areTermsRight_81 : decode cL_areTermsRight 81 = .ok (.iadd, 1) := by decide +kernel
theorem dL_areTermsRight_82 : decode cL_areTermsRight 82 = .ok (.iastore, 1) := by decide +kernel
theorem dL_areTermsRight_83 : decode cL_areTermsRight 83 = .ok (.iload 6, 2) := by decide +kernel
theorem dL_areTermsRight_85 : decode cL_areTermsRight 85 = .ok (.iconst 2, 1) := by decide +kernel
theorem dL_areTermsRight_86 : decode cL_areTermsRight 86 = .ok (.if_icmp .ne 11, 3) := by decide +kernel
theorem dL_areTermsRight_89 : decode cL_areTermsRight 89 = .ok (.aload_n 2, 1) := by decide +kernel
theorem dL_areTermsRight_90 : decode cL_areTermsRight 90 = .ok (.iload 7, 2) := by decide +kernel
theorem dL_areTermsRight_92 : decode cL_areTermsRight 92 = .ok (.dup2, 1) := by decide +kernel
theorem dL_areTermsRight_93 : decode cL_areTermsRight 93 = .ok (.iaload, 1) := by decide +kernel
theorem dL_areTermsRight_94 : decode cL_areTermsRight 94 = .ok (.iconst 1, 1) := by decide +kernel
theorem dL_areTermsRight_95 : decode cL_areTermsRight 95 = .ok (.iadd, 1) := by decide +kernel
theorem dL_areTermsRight_96 : decode cL_areTermsRight 96 = .ok (.iastore, 1) := by decide +kernel
theorem dL_areTermsRight_97 : decode cL_areTermsRight 97 = .ok (.aload_n 3, 1) := by decide +kernel
theorem dL_areTermsRight_98 : decode cL_areTermsRight 98 = .ok (.iload 7, 2) := by decide +kernel
theorem dL_areTermsRight_100 : decode cL_areTermsRight 100 = .ok (.iaload, 1) := by decide +kernel
theorem dL_areTermsRight_101 : decode cL_areTermsRight 101 = .ok (.aload_n 0, 1) := by decide +kernel
theorem dL_areTermsRight_102 : decode cL_areTermsRight 102 = .ok (.iload 5, 2) := by decide +kernel
theorem dL_areTermsRight_104 : decode cL_areTermsRight 104 = .ok (.iconst 2, 1) := by decide +kernel
theorem dL_areTermsRight_105 : decode cL_areTermsRight 105 = .ok (.invokevirtual 60, 3) := by decide +kernel
theorem dL_areTermsRight_108 : decode cL_areTermsRight 108 = .ok (.ishr, 1) := by decide +kernel
theorem dL_areTermsRight_109 : decode cL_areTermsRight 109 = .ok (.iconst 1, 1) := by decide +kernel
theorem dL_areTermsRight_110 : decode cL_areTermsRight 110 = .ok (.iand, 1) := by decide +kernel
theorem dL_areTermsRight_111 : decode cL_areTermsRight 111 = .ok (.iconst 1, 1) := by decide +kernel
theorem dL_areTermsRight_112 : decode cL_areTermsRight 112 = .ok (.if_icmp .eq 100, 3) := by decide +kernel
theorem dL_areTermsRight_115 : decode cL_areTermsRight 115 = .ok (.aload_n 2, 1) := by decide +kernel
theorem dL_areTermsRight_116 : decode cL_areTermsRight 116 = .ok (.iload 7, 2) := by decide +kernel
theorem dL_areTermsRight_118 : decode cL_areTermsRight 118 = .ok (.iaload, 1) := by decide +kernel
theorem dL_areTermsRight_119 : decode cL_areTermsRight 119 = .ok (.iconst 1, 1) := by decide +kernel
theorem dL_areTermsRight_120 : decode cL_areTermsRight 120 = .ok (.if_icmp .gt 92, 3) := by decide +kernel
theorem dL_areTermsRight_123 : decode cL_areTermsRight 123 = .ok (.aload_n 0, 1) := by decide +kernel
theorem dL_areTermsRight_124 : decode cL_areTermsRight 124 = .ok (.iload 5, 2) := by decide +kernel
theorem dL_areTermsRight_126 : decode cL_areTermsRight 126 = .ok (.bipush 6, 2) := by decide +kernel
theorem dL_areTermsRight_128 : decode cL_areTermsRight 128 = .ok (.invokevirtual 60, 3) := by decide +kernel
theorem dL_areTermsRight_131 : decode cL_areTermsRight 131 = .ok (.ifCond .lt 7, 3) := by decide +kernel
theorem dL_areTermsRight_134 : decode cL_areTermsRight 134 = .ok (.iconst 1, 1) := by decide +kernel
theorem dL_areTermsRight_135 : decode cL_areTermsRight 135 = .ok (.goto 4, 3) := by decide +kernel
theorem dL_areTermsRight_138 : decode cL_areTermsRight 138 = .ok (.iconst 0, 1) := by decide +kernel
theorem dL_areTermsRight_139 : decode cL_areTermsRight 139 = .ok (.iload 6, 2) := by decide +kernel
theorem dL_areTermsRight_141 : decode cL_areTermsRight 141 = .ok (.iconst 3, 1) := by decide +kernel
theorem dL_areTermsRight_142 : decode cL_areTermsRight 142 = .ok (.if_icmp .ne 7, 3) := by decide +kernel
theorem dL_areTermsRight_145 : decode cL_areTermsRight 145 = .ok (.iconst 1, 1) := by decide +kernel
theorem dL_areTermsRight_146 : decode cL_areTermsRight 146 = .ok (.goto 4, 3) := by decide +kernel
theorem dL_areTermsRight_149 : decode cL_areTermsRight 149 = .ok (.iconst 0, 1) := by decide +kernel
theorem dL_areTermsRight_150 : decode cL_areTermsRight 150 = .ok (.if_icmp .ne 62, 3) := by decide +kernel
theorem dL_areTermsRight_153 : decode cL_areTermsRight 153 = .ok (.aload_n 0, 1) := by decide +kernel
theorem dL_areTermsRight_154 : decode cL_areTermsRight 154 = .ok (.iload 5, 2) := by decide +kernel
theorem dL_areTermsRight_156 : decode cL_areTermsRight 156 = .ok (.bipush 6, 2) := by decide +kernel
theorem dL_areTermsRight_158 : decode cL_areTermsRight 158 = .ok (.invokevirtual 60, 3) := by decide +kernel
theorem dL_areTermsRight_161 : decode cL_areTermsRight 161 = .ok (.aload_n 0, 1) := by decide +kernel
theorem dL_areTermsRight_162 : decode cL_areTermsRight 162 = .ok (.bipush 12, 2) := by decide +kernel
theorem dL_areTermsRight_164 : decode cL_areTermsRight 164 = .ok (.invokevirtual 30, 3) := by decide +kernel
theorem dL_areTermsRight_167 : decode cL_areTermsRight 167 = .ok (.if_icmp .gt 45, 3) := by decide +kernel
theorem dL_areTermsRight_170 : decode cL_areTermsRight 170 = .ok (.iload 6, 2) := by decide +kernel
theorem dL_areTermsRight_172 : decode cL_areTermsRight 172 = .ok (.ifCond .ne 25, 3) := by decide +kernel
theorem dL_areTermsRight_175 : decode cL_areTermsRight 175 = .ok (.aload_n 0, 1) := by decide +kernel
theorem dL_areTermsRight_176 : decode cL_areTermsRight 176 = .ok (.iload 5, 2) := by decide +kernel
theorem dL_areTermsRight_178 : decode cL_areTermsRight 178 = .ok (.iconst 4, 1) := by decide +kernel
theorem dL_areTermsRight_179 : decode cL_areTermsRight 179 = .ok (.invokevirtual 60, 3) := by decide +kernel
theorem dL_areTermsRight_182 : decode cL_areTermsRight 182 = .ok (.iconst 2, 1) := by decide +kernel
theorem dL_areTermsRight_183 : decode cL_areTermsRight 183 = .ok (.if_icmp .gt 29, 3) := by decide +kernel
theorem dL_areTermsRight_186 : decode cL_areTermsRight 186 = .ok (.aload_n 0, 1) := by decide +kernel
theorem dL_areTermsRight_187 : decode cL_areTermsRight 187 = .ok (.iload 5, 2) := by decide +kernel
theorem dL_areTermsRight_189 : decode cL_areTermsRight 189 = .ok (.iconst 5, 1) := by decide +kernel
theorem dL_areTermsRight_190 : decode cL_areTermsRight 190 = .ok (.invokevirtual 60, 3) := by decide +kernel
theorem dL_areTermsRight_193 : decode cL_areTermsRight 193 = .ok (.iconst 2, 1) := by decide +kernel
theorem dL_areTermsRight_194 : decode cL_areTermsRight 194 = .ok (.if_icmp .gt 18, 3) := by decide +kernel
theorem dL_areTermsRight_197 : decode cL_areTermsRight 197 = .ok (.aload_n 0, 1) := by decide +kernel
theorem dL_areTermsRight_198 : decode cL_areTermsRight 198 = .ok (.iload 5, 2) := by decide +kernel
theorem dL_areTermsRight_200 : decode cL_areTermsRight 200 = .ok (.invokevirtual 73, 3) := by decide +kernel
theorem dL_areTermsRight_203 : decode cL_areTermsRight 203 = .ok (.aload_n 0, 1) := by decide +kernel
theorem dL_areTermsRight_204 : decode cL_areTermsRight 204 = .ok (.bipush 9, 2) := by decide +kernel
theorem dL_areTermsRight_206 : decode cL_areTermsRight 206 = .ok (.invokevirtual 30, 3) := by decide +kernel
theorem dL_areTermsRight_209 : decode cL_areTermsRight 209 = .ok (.if_icmp .le 5, 3) := by decide +kernel
theorem dL_areTermsRight_212 : decode cL_areTermsRight 212 = .ok (.iconst 0, 1) := by decide +kernel
theorem dL_areTermsRight_213 : decode cL_areTermsRight 213 = .ok (.ireturn, 1) := by decide +kernel
theorem dL_areTermsRight_214 : decode cL_areTermsRight 214 = .ok (.aload_n 3, 1) := by decide +kernel
theorem dL_areTermsRight_215 : decode cL_areTermsRight 215 = .ok (.iload 7, 2) := by decide +kernel
theorem dL_areTermsRight_217 : decode cL_areTermsRight 217 = .ok (.dup2, 1) := by decide +kernel
theorem dL_areTermsRight_218 : decode cL_areTermsRight 218 = .ok (.iaload, 1) := by decide +kernel
theorem dL_areTermsRight_219 : decode cL_areTermsRight 219 = .ok (.iconst 1, 1) := by decide +kernel
theorem dL_areTermsRight_220 : decode cL_areTermsRight 220 = .ok (.aload_n 0, 1) := by decide +kernel
theorem dL_areTermsRight_221 : decode cL_areTermsRight 221 = .ok (.iload 5, 2) := by decide +kernel
theorem dL_areTermsRight_223 : decode cL_areTermsRight 223 = .ok (.iconst 2, 1) := by decide +kernel
theorem dL_areTermsRight_224 : decode cL_areTermsRight 224 = .ok (.invokevirtual 60, 3) := by decide +kernel
theorem dL_areTermsRight_227 : decode cL_areTermsRight 227 = .ok (.ishl, 1) := by decide +kernel
theorem dL_areTermsRight_228 : decode cL_areTermsRight 228 = .ok (.ior, 1) := by decide +kernel
theorem dL_areTermsRight_229 : decode cL_areTermsRight 229 = .ok (.iastore, 1) := by decide +kernel
theorem dL_areTermsRight_230 : decode cL_areTermsRight 230 = .ok (.iinc 5 1, 3) := by decide +kernel
theorem dL_areTermsRight_233 : decode cL_areTermsRight 233 = .ok (.goto (-210), 3) := by decide +kernel
theorem dL_areTermsRight_236 : decode cL_areTermsRight 236 = .ok (.iconst 0, 1) := by decide +kernel
theorem dL_areTermsRight_237 : decode cL_areTermsRight 237 = .ok (.istore 5, 2) := by decide +kernel
theorem dL_areTermsRight_239 : decode cL_areTermsRight 239 = .ok (.iconst 0, 1) := by decide +kernel
theorem dL_areTermsRight_240 : decode cL_areTermsRight 240 = .ok (.istore 6, 2) := by decide +kernel
theorem dL_areTermsRight_242 : decode cL_areTermsRight 242 = .ok (.iload 6, 2) := by decide +kernel
theorem dL_areTermsRight_244 : decode cL_areTermsRight 244 = .ok (.aload_n 0, 1) := by decide +kernel
theorem dL_areTermsRight_245 : decode cL_areTermsRight 245 = .ok (.iconst 0, 1) := by decide +kernel
theorem dL_areTermsRight_246 : decode cL_areTermsRight 246 = .ok (.invokevirtual 30, 3) := by decide +kernel
theorem dL_areTermsRight_249 : decode cL_areTermsRight 249 = .ok (.if_icmp .ge 100, 3) := by decide +kernel
theorem dL_areTermsRight_252 : decode cL_areTermsRight 252 = .ok (.iload 5, 2) := by decide +kernel
theorem dL_areTermsRight_254 : decode cL_areTermsRight 254 = .ok (.aload 4, 2) := by decide +kernel
theorem dL_areTermsRight_256 : decode cL_areTermsRight 256 = .ok (.iload 6, 2) := by decide +kernel
theorem dL_areTermsRight_258 : decode cL_areTermsRight 258 = .ok (.iaload, 1) := by decide +kernel
theorem dL_areTermsRight_259 : decode cL_areTermsRight 259 = .ok (.ifCond .le 7, 3) := by decide +kernel
theorem dL_areTermsRight_262 : decode cL_areTermsRight 262 = .ok (.iconst 1, 1) := by decide +kernel
theorem dL_areTermsRight_263 : decode cL_areTermsRight 263 = .ok (.goto 4, 3) := by decide +kernel
theorem dL_areTermsRight_266 : decode cL_areTermsRight 266 = .ok (.iconst 0, 1) := by decide +kernel
theorem dL_areTermsRight_267 : decode cL_areTermsRight 267 = .ok (.iadd, 1) := by decide +kernel
theorem dL_areTermsRight_268 : decode cL_areTermsRight 268 = .ok (.istore 5, 2) := by decide +kernel
theorem dL_areTermsRight_270 : decode cL_areTermsRight 270 = .ok (.aload_n 0, 1) := by decide +kernel
theorem dL_areTermsRight_271 : decode cL_areTermsRight 271 = .ok (.iload 6, 2) := by decide +kernel
theorem dL_areTermsRight_273 : decode cL_areTermsRight 273 = .ok (.iconst 1, 1) := by decide +kernel
theorem dL_areTermsRight_274 : decode cL_areTermsRight 274 = .ok (.invokevirtual 70, 3) := by decide +kernel
theorem dL_areTermsRight_277 : decode cL_areTermsRight 277 = .ok (.aload 4, 2) := by decide +kernel
theorem dL_areTermsRight_279 : decode cL_areTermsRight 279 = .ok (.iload 6, 2) := by decide +kernel
theorem dL_areTermsRight_281 : decode cL_areTermsRight 281 = .ok (.iaload, 1) := by decide +kernel
theorem dL_areTermsRight_282 : decode cL_areTermsRight 282 = .ok (.if_icmp .eq 5, 3) := by decide +kernel
theorem dL_areTermsRight_285 : decode cL_areTermsRight 285 = .ok (.iconst 0, 1) := by decide +kernel
theorem dL_areTermsRight_286 : decode cL_areTermsRight 286 = .ok (.ireturn, 1) := by decide +kernel
theorem dL_areTermsRight_287 : decode cL_areTermsRight 287 = .ok (.iconst 0, 1) := by decide +kernel
theorem dL_areTermsRight_288 : decode cL_areTermsRight 288 = .ok (.istore 7, 2) := by decide +kernel
theorem dL_areTermsRight_290 : decode cL_areTermsRight 290 = .ok (.iload 7, 2) := by decide +kernel
theorem dL_areTermsRight_292 : decode cL_areTermsRight 292 = .ok (.iconst 3, 1) := by decide +kernel
theorem dL_areTermsRight_293 : decode cL_areTermsRight 293 = .ok (.if_icmp .ge 50, 3) := by decide +kernel
theorem dL_areTermsRight_296 : decode cL_areTermsRight 296 = .ok (.aload_n 0, 1) := by decide +kernel
theorem dL_areTermsRight_297 : decode cL_areTermsRight 297 = .ok (.iload 6, 2) := by decide +kernel
theorem dL_areTermsRight_299 : decode cL_areTermsRight 299 = .ok (.iconst 2, 1) := by decide +kernel
theorem dL_areTermsRight_300 : decode cL_areTermsRight 300 = .ok (.iload 7, 2) := by decide +kernel
theorem dL_areTermsRight_302 : decode cL_areTermsRight 302 = .ok (.iadd, 1) := by decide +kernel
theorem dL_areTermsRight_303 : decode cL_areTermsRight 303 = .ok (.invokevirtual 70, 3) := by decide +kernel
theorem dL_areTermsRight_306 : decode cL_areTermsRight 306 = .ok (.ifCond .lt 7, 3) := by decide +kernel
theorem dL_areTermsRight_309 : decode cL_areTermsRight 309 = .ok (.iconst 1, 1) := by decide +kernel
theorem dL_areTermsRight_310 : decode cL_areTermsRight 310 = .ok (.goto 4, 3) := by decide +kernel
theorem dL_areTermsRight_313 : decode cL_areTermsRight 313 = .ok (.iconst 0, 1) := by decide +kernel
theorem dL_areTermsRight_314 : decode cL_areTermsRight 314 = .ok (.aload_n 2, 1) := by decide +kernel
theorem dL_areTermsRight_315 : decode cL_areTermsRight 315 = .ok (.iload 6, 2) := by decide +kernel
theorem dL_areTermsRight_317 : decode cL_areTermsRight 317 = .ok (.iconst 3, 1) := by decide +kernel
theorem dL_areTermsRight_318 : decode cL_areTermsRight 318 = .ok (.imul, 1) := by decide +kernel
theorem dL_areTermsRight_319 : decode cL_areTermsRight 319 = .ok (.iload 7, 2) := by decide +kernel
theorem dL_areTermsRight_321 : decode cL_areTermsRight 321 = .ok (.iadd, 1) := by decide +kernel
theorem dL_areTermsRight_322 : decode cL_areTermsRight 322 = .ok (.iaload, 1) := by decide +kernel
theorem dL_areTermsRight_323 : decode cL_areTermsRight 323 = .ok (.iconst 1, 1) := by decide +kernel
theorem dL_areTermsRight_324 : decode cL_areTermsRight 324 = .ok (.if_icmp .ne 7, 3) := by decide +kernel
theorem dL_areTermsRight_327 : decode cL_areTermsRight 327 = .ok (.iconst 1, 1) := by decide +kernel
theorem dL_areTermsRight_328 : decode cL_areTermsRight 328 = .ok (.goto 4, 3) := by decide +kernel
theorem dL_areTermsRight_331 : decode cL_areTermsRight 331 = .ok (.iconst 0, 1) := by decide +kernel
theorem dL_areTermsRight_332 : decode cL_areTermsRight 332 = .ok (.if_icmp .eq 5, 3) := by decide +kernel
theorem dL_areTermsRight_335 : decode cL_areTermsRight 335 = .ok (.iconst 0, 1) := by decide +kernel
theorem dL_areTermsRight_336 : decode cL_areTermsRight 336 = .ok (.ireturn, 1) := by decide +kernel
theorem dL_areTermsRight_337 : decode cL_areTermsRight 337 = .ok (.iinc 7 1, 3) := by decide +kernel
theorem dL_areTermsRight_340 : decode cL_areTermsRight 340 = .ok (.goto (-50), 3) := by decide +kernel
theorem dL_areTermsRight_343 : decode cL_areTermsRight 343 = .ok (.iinc 6 1, 3) := by decide +kernel
theorem dL_areTermsRight_346 : decode cL_areTermsRight 346 = .ok (.goto (-104), 3) := by decide +kernel
theorem dL_areTermsRight_349 : decode cL_areTermsRight 349 = .ok (.iconst 0, 1) := by decide +kernel
theorem dL_areTermsRight_350 : decode cL_areTermsRight 350 = .ok (.istore 6, 2) := by decide +kernel
theorem dL_areTermsRight_352 : decode cL_areTermsRight 352 = .ok (.iload 6, 2) := by decide +kernel
theorem dL_areTermsRight_354 : decode cL_areTermsRight 354 = .ok (.iconst 4, 1) := by decide +kernel
theorem dL_areTermsRight_355 : decode cL_areTermsRight 355 = .ok (.if_icmp .ge 26, 3) := by decide +kernel
theorem dL_areTermsRight_358 : decode cL_areTermsRight 358 = .ok (.aload_n 0, 1) := by decide +kernel
theorem dL_areTermsRight_359 : decode cL_areTermsRight 359 = .ok (.iconst 3, 1) := by decide +kernel
theorem dL_areTermsRight_360 : decode cL_areTermsRight 360 = .ok (.iload 6, 2) := by decide +kernel
theorem dL_areTermsRight_362 : decode cL_areTermsRight 362 = .ok (.iadd, 1) := by decide +kernel
theorem dL_areTermsRight_363 : decode cL_areTermsRight 363 = .ok (.invokevirtual 30, 3) := by decide +kernel
theorem dL_areTermsRight_366 : decode cL_areTermsRight 366 = .ok (.aload_n 1, 1) := by decide +kernel
theorem dL_areTermsRight_367 : decode cL_areTermsRight 367 = .ok (.iload 6, 2) := by decide +kernel
theorem dL_areTermsRight_369 : decode cL_areTermsRight 369 = .ok (.iaload, 1) := by decide +kernel
theorem dL_areTermsRight_370 : decode cL_areTermsRight 370 = .ok (.if_icmp .eq 5, 3) := by decide +kernel
theorem dL_areTermsRight_373 : decode cL_areTermsRight 373 = .ok (.iconst 0, 1) := by decide +kernel
theorem dL_areTermsRight_374 : decode cL_areTermsRight 374 = .ok (.ireturn, 1) := by decide +kernel
theorem dL_areTermsRight_375 : decode cL_areTermsRight 375 = .ok (.iinc 6 1, 3) := by decide +kernel
theorem dL_areTermsRight_378 : decode cL_areTermsRight 378 = .ok (.goto (-26), 3) := by decide +kernel
theorem dL_areTermsRight_381 : decode cL_areTermsRight 381 = .ok (.aload_n 0, 1) := by decide +kernel
theorem dL_areTermsRight_382 : decode cL_areTermsRight 382 = .ok (.iconst 1, 1) := by decide +kernel
theorem dL_areTermsRight_383 : decode cL_areTermsRight 383 = .ok (.invokevirtual 30, 3) := by decide +kernel
theorem dL_areTermsRight_386 : decode cL_areTermsRight 386 = .ok (.iload 5, 2) := by decide +kernel
theorem dL_areTermsRight_388 : decode cL_areTermsRight 388 = .ok (.if_icmp .ne 7, 3) := by decide +kernel
theorem dL_areTermsRight_391 : decode cL_areTermsRight 391 = .ok (.iconst 1, 1) := by decide +kernel
theorem dL_areTermsRight_392 : decode cL_areTermsRight 392 = .ok (.goto 4, 3) := by decide +kernel
theorem dL_areTermsRight_395 : decode cL_areTermsRight 395 = .ok (.iconst 0, 1) := by decide +kernel
theorem dL_areTermsRight_396 : decode cL_areTermsRight 396 = .ok (.ireturn, 1) := by decide +kernel
theorem dL_areTextsRight_0 : decode cL_areTextsRight 0 = .ok (.iconst 3, 1) := by decide +kernel
theorem dL_areTextsRight_1 : decode cL_areTextsRight 1 = .ok (.newarray .int, 2) := by decide +kernel
theorem dL_areTextsRight_3 : decode cL_areTextsRight 3 = .ok (.astore_n 1, 1) := by decide +kernel
theorem dL_areTextsRight_4 : decode cL_areTextsRight 4 = .ok (.dconst 0, 1) := by decide +kernel
theorem dL_areTextsRight_5 : decode cL_areTextsRight 5 = .ok (.dstore_n 2, 1) := by decide +kernel
theorem dL_areTextsRight_6 : decode cL_areTextsRight 6 = .ok (.iconst 0, 1) := by decide +kernel
theorem dL_areTextsRight_7 : decode cL_areTextsRight 7 = .ok (.istore 4, 2) := by decide +kernel
theorem dL_areTextsRight_9 : decode cL_areTextsRight 9 = .ok (.iconst 0, 1) := by decide +kernel
theorem dL_areTextsRight_10 : decode cL_areTextsRight 10 = .ok (.istore 5, 2) := by decide +kernel
theorem dL_areTextsRight_12 : decode cL_areTextsRight 12 = .ok (.iload 5, 2) := by decide +kernel
theorem dL_areTextsRight_14 : decode cL_areTextsRight 14 = .ok (.iconst 2, 1) := by decide +kernel
theorem dL_areTextsRight_15 : decode cL_areTextsRight 15 = .ok (.if_icmp .ge 166, 3) := by decide +kernel
theorem dL_areTextsRight_18 : decode cL_areTextsRight 18 = .ok (.iconst 0, 1) := by decide +kernel
theorem dL_areTextsRight_19 : decode cL_areTextsRight 19 = .ok (.istore 6, 2) := by decide +kernel
theorem dL_areTextsRight_21 : decode cL_areTextsRight 21 = .ok (.iload 6, 2) := by decide +kernel
theorem dL_areTextsRight_23 : decode cL_areTextsRight 23 = .ok (.iconst 3, 1) := by decide +kernel
theorem dL_areTextsRight_24 : decode cL_areTextsRight 24 = .ok (.if_icmp .ge 151, 3) := by decide +kernel
theorem dL_areTextsRight_27 : decode cL_areTextsRight 27 = .ok (.aload_n 0, 1) := by decide +kernel
theorem dL_areTextsRight_28 : decode cL_areTextsRight 28 = .ok (.iload 5, 2) := by decide +kernel
theorem dL_areTextsRight_30 : decode cL_areTextsRight 30 = .ok (.iload 6, 2) := by decide +kernel
theorem dL_areTextsRight_32 : decode cL_areTextsRight 32 = .ok (.iconst 0, 1) := by decide +kernel
theorem dL_areTextsRight_33 : decode cL_areTextsRight 33 = .ok (.invokevirtual 100, 3) := by decide +kernel
theorem dL_areTextsRight_36 : decode cL_areTextsRight 36 = .ok (.ifCond .ne 17, 3) := by decide +kernel
theorem dL_areTextsRight_39 : decode cL_areTextsRight 39 = .ok (.aload_n 0, 1) := by decide +kernel
theorem dL_areTextsRight_40 : decode cL_areTextsRight 40 = .ok (.iload 5, 2) := by decide +kernel
theorem dL_areTextsRight_42 : decode cL_areTextsRight 42 = .ok (.iload 6, 2) := by decide +kernel
theorem dL_areTextsRight_44 : decode cL_areTextsRight 44 = .ok (.iconst 1, 1) := by decide +kernel
theorem dL_areTextsRight_45 : decode cL_areTextsRight 45 = .ok (.invokevirtual 100, 3) := by decide +kernel
theorem dL_areTextsRight_48 : decode cL_areTextsRight 48 = .ok (.ifCond .eq 121, 3) := by decide +kernel
theorem dL_areTextsRight_51 : decode cL_areTextsRight 51 = .ok (.iconst 0, 1) := by decide +kernel
theorem dL_areTextsRight_52 : decode cL_areTextsRight 52 = .ok (.ireturn, 1) := by decide +kernel
theorem dL_areTextsRight_53 : decode cL_areTextsRight 53 = .ok (.aload_n 1, 1) := by decide +kernel
theorem dL_areTextsRight_54 : decode cL_areTextsRight 54 = .ok (.aload_n 0, 1) := by decide +kernel
theorem dL_areTextsRight_55 : decode cL_areTextsRight 55 = .ok (.iload 5, 2) := by decide +kernel
theorem dL_areTextsRight_57 : decode cL_areTextsRight 57 = .ok (.iload 6, 2) := by decide +kernel
theorem dL_areTextsRight_59 : decode cL_areTextsRight 59 = .ok (.iconst 1, 1) := by decide +kernel
theorem dL_areTextsRight_60 : decode cL_areTextsRight 60 = .ok (.invokevirtual 100, 3) := by decide +kernel
theorem dL_areTextsRight_63 : decode cL_areTextsRight 63 = .ok (.dup2, 1) := by decide +kernel
theorem dL_areTextsRight_64 : decode cL_areTextsRight 64 = .ok (.iaload, 1) := by decide +kernel
theorem dL_areTextsRight_65 : decode cL_areTextsRight 65 = .ok (.iconst 1, 1) := by decide +kernel
theorem dL_areTextsRight_66 : decode cL_areTextsRight 66 = .ok (.iadd, 1) := by decide +kernel
theorem dL_areTextsRight_67 : decode cL_areTextsRight 67 = .ok (.iastore, 1) := by decide +kernel
theorem dL_areTextsRight_68 : decode cL_areTextsRight 68 = .ok (.dload_n 2, 1) := by decide +kernel
theorem dL_areTextsRight_69 : decode cL_areTextsRight 69 = .ok (.aload_n 0, 1) := by decide +kernel
theorem dL_areTextsRight_70 : decode cL_areTextsRight 70 = .ok (.iload 5, 2) := by decide +kernel
theorem dL_areTextsRight_72 : decode cL_areTextsRight 72 = .ok (.iload 6, 2) := by decide +kernel
theorem dL_areTextsRight_74 : decode cL_areTextsRight 74 = .ok (.iconst 5, 1) := by decide +kernel
theorem dL_areTextsRight_75 : decode cL_areTextsRight 75 = .ok (.invokevirtual 100, 3) := by decide +kernel
theorem dL_areTextsRight_78 : decode cL_areTextsRight 78 = .ok (.i2d, 1) := by decide +kernel
theorem dL_areTextsRight_79 : decode cL_areTextsRight 79 = .ok (.dadd, 1) := by decide +kernel
theorem dL_areTextsRight_80 : decode cL_areTextsRight 80 = .ok (.dstore_n 2, 1) := by decide +kernel
theorem dL_areTextsRight_81 : decode cL_areTextsRight 81 = .ok (.iinc 4 1, 3) := by decide +kernel
theorem dL_areTextsRight_84 : decode cL_areTextsRight 84 = .ok (.iconst 0, 1) := by decide +kernel
theorem dL_areTextsRight_85 : decode cL_areTextsRight 85 = .ok (.istore 7, 2) := by decide +kernel
theorem dL_areTextsRight_87 : decode cL_areTextsRight 87 = .ok (.iload 7, 2) := by decide +kernel
theorem dL_areTextsRight_89 : decode cL_areTextsRight 89 = .ok (.aload_n 0, 1) := by decide +kernel
theorem dL_areTextsRight_90 : decode cL_areTextsRight 90 = .ok (.iload 5, 2) := by decide +kernel
theorem dL_areTextsRight_92 : decode cL_areTextsRight 92 = .ok (.iload 6, 2) := by decide +kernel
theorem dL_areTextsRight_94 : decode cL_areTextsRight 94 = .ok (.iconst 0, 1) := by decide +kernel
theorem dL_areTextsRight_95 : decode cL_areTextsRight 95 = .ok (.invokevirtual 100, 3) := by decide +kernel
theorem dL_areTextsRight_98 : decode cL_areTextsRight 98 = .ok (.if_icmp .ge 71, 3) := by decide +kernel
theorem dL_areTextsRight_101 : decode cL_areTextsRight 101 = .ok (.aload_n 0, 1) := by decide +kernel
theorem dL_areTextsRight_102 : decode cL_areTextsRight 102 = .ok (.iload 5, 2) := by decide +kernel
theorem dL_areTextsRight_104 : decode cL_areTextsRight 104 = .ok (.iload 6, 2) := by decide +kernel
theorem dL_areTextsRight_106 : decode cL_areTextsRight 106 = .ok (.iconst 1, 1) := by decide +kernel
theorem dL_areTextsRight_107 : decode cL_areTextsRight 107 = .ok (.invokevirtual 100, 3) := by decide +kernel
theorem dL_areTextsRight_110 : decode cL_areTextsRight 110 = .ok (.iconst 1, 1) := by decide +kernel
theorem dL_areTextsRight_111 : decode cL_areTextsRight 111 = .ok (.if_icmp .ne 58, 3) := by decide +kernel
theorem dL_areTextsRight_114 : decode cL_areTextsRight 114 = .ok (.aload_n 0, 1) := by decide +kernel
theorem dL_areTextsRight_115 : decode cL_areTextsRight 115 = .ok (.iload 5, 2) := by decide +kernel
theorem dL_areTextsRight_117 : decode cL_areTextsRight 117 = .ok (.iload 6, 2) := by decide +kernel
theorem dL_areTextsRight_119 : decode cL_areTextsRight 119 = .ok (.iload 7, 2) := by decide +kernel
theorem dL_areTextsRight_121 : decode cL_areTextsRight 121 = .ok (.invokevirtual 123, 3) := by decide +kernel
theorem dL_areTextsRight_124 : decode cL_areTextsRight 124 = .ok (.istore 8, 2) := by decide +kernel
theorem dL_areTextsRight_126 : decode cL_areTextsRight 126 = .ok (.iload 8, 2) := by decide +kernel
theorem dL_areTextsRight_128 : decode cL_areTextsRight 128 = .ok (.ifCond .lt 35, 3) := by decide +kernel
theorem dL_areTextsRight_131 : decode cL_areTextsRight 131 = .ok (.aload_n 0, 1) := by decide +kernel
theorem dL_areTextsRight_132 : decode cL_areTextsRight 132 = .ok (.iload 8, 2) := by decide +kernel
theorem dL_areTextsRight_134 : decode cL_areTextsRight 134 = .ok (.iconst 3, 1) := by decide +kernel
theorem dL_areTextsRight_135 : decode cL_areTextsRight 135 = .ok (.invokevirtual 60, 3) := by decide +kernel
theorem dL_areTextsRight_138 : decode cL_areTextsRight 138 = .ok (.iconst 3, 1) := by decide +kernel
theorem dL_areTextsRight_139 : decode cL_areTextsRight 139 = .ok (.if_icmp .ne 24, 3) := by decide +kernel
theorem dL_areTextsRight_142 : decode cL_areTextsRight 142 = .ok (.aload_n 0, 1) := by decide +kernel
theorem dL_areTextsRight_143 : decode cL_areTextsRight 143 = .ok (.bipush 12, 2) := by decide +kernel
theorem dL_areTextsRight_145 : decode cL_areTextsRight 145 = .ok (.invokevirtual 30, 3) := by decide +kernel
theorem dL_areTextsRight_148 : decode cL_areTextsRight 148 = .ok (.aload_n 0, 1) := by decide +kernel
theorem dL_areTextsRight_149 : decode cL_areTextsRight 149 = .ok (.iload 8, 2) := by decide +kernel
theorem dL_areTextsRight_151 : decode cL_areTextsRight 151 = .ok (.bipush 6, 2) := by decide +kernel
theorem dL_areTextsRight_153 : decode cL_areTextsRight 153 = .ok (.invokevirtual 60, 3) := by decide +kernel
theorem dL_areTextsRight_156 : decode cL_areTextsRight 156 = .ok (.isub, 1) := by decide +kernel
theorem dL_areTextsRight_157 : decode cL_areTextsRight 157 = .ok (.iconst 3, 1) := by decide +kernel
theorem dL_areTextsRight_158 : decode cL_areTextsRight 158 = .ok (.if_icmp .le 5, 3) := by decide +kernel
theorem dL_areTextsRight_161 : decode cL_areTextsRight 161 = .ok (.iconst 0, 1) := by decide +kernel
theorem dL_areTextsRight_162 : decode cL_areTextsRight 162 = .ok (.ireturn, 1) := by decide +kernel
theorem dL_areTextsRight_163 : decode cL_areTextsRight 163 = .ok (.iinc 7 1, 3) := by decide +kernel
theorem dL_areTextsRight_166 : decode cL_areTextsRight 166 = .ok (.goto (-79), 3) := by decide +kernel
theorem dL_areTextsRight_169 : decode cL_areTextsRight 169 = .ok (.iinc 6 1, 3) := by decide +kernel
theorem dL_areTextsRight_172 : decode cL_areTextsRight 172 = .ok (.goto (-151), 3) := by decide +kernel
theorem dL_areTextsRight_175 : decode cL_areTextsRight 175 = .ok (.iinc 5 1, 3) := by decide +kernel
theorem dL_areTextsRight_178 : decode cL_areTextsRight 178 = .ok (.goto (-166), 3) := by decide +kernel
theorem dL_areTextsRight_181 : decode cL_areTextsRight 181 = .ok (.iconst 0, 1) := by decide +kernel
theorem dL_areTextsRight_182 : decode cL_areTextsRight 182 = .ok (.istore 5, 2) := by decide +kernel
theorem dL_areTextsRight_184 : decode cL_areTextsRight 184 = .ok (.iload 5, 2) := by decide +kernel
theorem dL_areTextsRight_186 : decode cL_areTextsRight 186 = .ok (.iconst 3, 1) := by decide +kernel
theorem dL_areTextsRight_187 : decode cL_areTextsRight 187 = .ok (.if_icmp .ge 27, 3) := by decide +kernel
theorem dL_areTextsRight_190 : decode cL_areTextsRight 190 = .ok (.aload_n 0, 1) := by decide +kernel
theorem dL_areTextsRight_191 : decode cL_areTextsRight 191 = .ok (.bipush 8, 2) := by decide +kernel
theorem dL_areTextsRight_193 : decode cL_areTextsRight 193 = .ok (.iload 5, 2) := by decide +kernel
theorem dL_areTextsRight_195 : decode cL_areTextsRight 195 = .ok (.iadd, 1) := by decide +kernel
theorem dL_areTextsRight_196 : decode cL_areTextsRight 196 = .ok (.invokevirtual 30, 3) := by decide +kernel
theorem dL_areTextsRight_199 : decode cL_areTextsRight 199 = .ok (.aload_n 1, 1) := by decide +kernel
theorem dL_areTextsRight_200 : decode cL_areTextsRight 200 = .ok (.iload 5, 2) := by decide +kernel
theorem dL_areTextsRight_202 : decode cL_areTextsRight 202 = .ok (.iaload, 1) := by decide +kernel
theorem dL_areTextsRight_203 : decode cL_areTextsRight 203 = .ok (.if_icmp .eq 5, 3) := by decide +kernel
theorem dL_areTextsRight_206 : decode cL_areTextsRight 206 = .ok (.iconst 0, 1) := by decide +kernel
theorem dL_areTextsRight_207 : decode cL_areTextsRight 207 = .ok (.ireturn, 1) := by decide +kernel
theorem dL_areTextsRight_208 : decode cL_areTextsRight 208 = .ok (.iinc 5 1, 3) := by decide +kernel
theorem dL_areTextsRight_211 : decode cL_areTextsRight 211 = .ok (.goto (-27), 3) := by decide +kernel
theorem dL_areTextsRight_214 : decode cL_areTextsRight 214 = .ok (.aload_n 0, 1) := by decide +kernel
theorem dL_areTextsRight_215 : decode cL_areTextsRight 215 = .ok (.invokevirtual 129, 3) := by decide +kernel
theorem dL_areTextsRight_218 : decode cL_areTextsRight 218 = .ok (.iload 4, 2) := by decide +kernel
theorem dL_areTextsRight_220 : decode cL_areTextsRight 220 = .ok (.ifCond .ne 7, 3) := by decide +kernel
theorem dL_areTextsRight_223 : decode cL_areTextsRight 223 = .ok (.dconst 0, 1) := by decide +kernel
theorem dL_areTextsRight_224 : decode cL_areTextsRight 224 = .ok (.goto 8, 3) := by decide +kernel
theorem dL_areTextsRight_227 : decode cL_areTextsRight 227 = .ok (.dload_n 2, 1) := by decide +kernel
theorem dL_areTextsRight_228 : decode cL_areTextsRight 228 = .ok (.iload 4, 2) := by decide +kernel
theorem dL_areTextsRight_230 : decode cL_areTextsRight 230 = .ok (.i2d, 1) := by decide +kernel
theorem dL_areTextsRight_231 : decode cL_areTextsRight 231 = .ok (.ddiv, 1) := by decide +kernel
theorem dL_areTextsRight_232 : decode cL_areTextsRight 232 = .ok (.dsub, 1) := by decide +kernel
theorem dL_areTextsRight_233 : decode cL_areTextsRight 233 = .ok (.invokestatic 133, 3) := by decide +kernel
theorem dL_areTextsRight_236 : decode cL_areTextsRight 236 = .ok (.ldc2_w 137, 3) := by decide +kernel
theorem dL_areTextsRight_239 : decode cL_areTextsRight 239 = .ok (.dcmp .g, 1) := by decide +kernel
theorem dL_areTextsRight_240 : decode cL_areTextsRight 240 = .ok (.ifCond .ge 7, 3) := by decide +kernel
theorem dL_areTextsRight_243 : decode cL_areTextsRight 243 = .ok (.iconst 1, 1) := by decide +kernel
theorem dL_areTextsRight_244 : decode cL_areTextsRight 244 = .ok (.goto 4, 3) := by decide +kernel
theorem dL_areTextsRight_247 : decode cL_areTextsRight 247 = .ok (.iconst 0, 1) := by decide +kernel
theorem dL_areTextsRight_248 : decode cL_areTextsRight 248 = .ok (.ireturn, 1) := by decide +kernel
end
section
theorem dX0_init_0 : decode cX0_init 0 = .ok (.aload_n 0, 1) := by decide +kernel
theorem dX0_init_1 : decode cX0_init 1 = .ok (.invokespecial 3, 3) := by decide +kernel
theorem dX0_init_4 : decode cX0_init 4 = .ok (.aload_n 0, 1) := by decide +kernel
theorem dX0_init_5 : decode cX0_init 5 = .ok (.iconst 0, 1) := by decide +kernel
theorem dX0_init_6 : decode cX0_init 6 = .ok (.putfield 9, 3) := by decide +kernel
theorem dX0_init_9 : decode cX0_init 9 = .ok (.aload_n 0, 1) := by decide +kernel
theorem dX0_init_10 : decode cX0_init 10 = .ok (.iconst 0, 1) := by decide +kernel
theorem dX0_init_11 : decode cX0_init 11 = .ok (.putfield 15, 3) := by decide +kernel
theorem dX0_init_14 : decode cX0_init 14 = .ok (.aload_n 0, 1) := by decide +kernel
theorem dX0_init_15 : decode cX0_init 15 = .ok (.bipush 12, 2) := by decide +kernel
theorem dX0_init_17 : decode cX0_init 17 = .ok (.newarray .int, 2) := by decide +kernel
theorem dX0_init_19 : decode cX0_init 19 = .ok (.putfield 18, 3) := by decide +kernel
theorem dX0_init_22 : decode cX0_init 22 = .ok (.aload_n 0, 1) := by decide +kernel
theorem dX0_init_23 : decode cX0_init 23 = .ok (.bipush 24, 2) := by decide +kernel
theorem dX0_init_25 : decode cX0_init 25 = .ok (.newarray .int, 2) := by decide +kernel
theorem dX0_init_27 : decode cX0_init 27 = .ok (.putfield 22, 3) := by decide +kernel
theorem dX0_init_30 : decode cX0_init 30 = .ok (.aload_n 0, 1) := by decide +kernel
theorem dX0_init_31 : decode cX0_init 31 = .ok (.bipush 24, 2) := by decide +kernel
theorem dX0_init_33 : decode cX0_init 33 = .ok (.newarray .int, 2) := by decide +kernel
theorem dX0_init_35 : decode cX0_init 35 = .ok (.putfield 25, 3) := by decide +kernel
theorem dX0_init_38 : decode cX0_init 38 = .ok (.aload_n 0, 1) := by decide +kernel
theorem dX0_init_39 : decode cX0_init 39 = .ok (.bipush 24, 2) := by decide +kernel
theorem dX0_init_41 : decode cX0_init 41 = .ok (.newarray .int, 2) := by decide +kernel
theorem dX0_init_43 : decode cX0_init 43 = .ok (.putfield 28, 3) := by decide +kernel
theorem dX0_init_46 : decode cX0_init 46 = .ok (.aload_n 0, 1) := by decide +kernel
theorem dX0_init_47 : decode cX0_init 47 = .ok (.bipush 24, 2) := by decide +kernel
theorem dX0_init_49 : decode cX0_init 49 = .ok (.newarray .int, 2) := by decide +kernel
theorem dX0_init_51 : decode cX0_init 51 = .ok (.putfield 31, 3) := by decide +kernel
theorem dX0_init_54 : decode cX0_init 54 = .ok (.aload_n 0, 1) := by decide +kernel
theorem dX0_init_55 : decode cX0_init 55 = .ok (.bipush 24, 2) := by decide +kernel
theorem dX0_init_57 : decode cX0_init 57 = .ok (.newarray .int, 2) := by decide +kernel
theorem dX0_init_59 : decode cX0_init 59 = .ok (.putfield 34, 3) := by decide +kernel
theorem dX0_init_62 : decode cX0_init 62 = .ok (.aload_n 0, 1) := by decide +kernel
theorem dX0_init_63 : decode cX0_init 63 = .ok (.bipush 24, 2) := by decide +kernel
theorem dX0_init_65 : decode cX0_init 65 = .ok (.newarray .int, 2) := by decide +kernel
theorem dX0_init_67 : decode cX0_init 67 = .ok (.putfield 37, 3) := by decide +kernel
theorem dX0_init_70 : decode cX0_init 70 = .ok (.aload_n 0, 1) := by decide +kernel
theorem dX0_init_71 : decode cX0_init 71 = .ok (.bipush 24, 2) := by decide +kernel
theorem dX0_init_73 : decode cX0_init 73 = .ok (.newarray .int, 2) := by decide +kernel
theorem dX0_init_75 : decode cX0_init 75 = .ok (.putfield 40, 3) := by decide +kernel
theorem dX0_init_78 : decode cX0_init 78 = .ok (.aload_n 0, 1) := by decide +kernel
theorem dX0_init_79 : decode cX0_init 79 = .ok (.bipush 24, 2) := by decide +kernel
theorem dX0_init_81 : decode cX0_init 81 = .ok (.newarray .int, 2) := by decide +kernel
theorem dX0_init_83 : decode cX0_init 83 = .ok (.putfield 43, 3) := by decide +kernel
theorem dX0_init_86 : decode cX0_init 86 = .ok (.aload_n 0, 1) := by decide +kernel
theorem dX0_init_87 : decode cX0_init 87 = .ok (.iconst 3, 1) := by decide +kernel
theorem dX0_init_88 : decode cX0_init 88 = .ok (.bipush 20, 2) := by decide +kernel
theorem dX0_init_90 : decode cX0_init 90 = .ok (.multianewarray 46 2, 4) := by decide +kernel
theorem dX0_init_94 : decode cX0_init 94 = .ok (.putfield 48, 3) := by decide +kernel
theorem dX0_init_97 : decode cX0_init 97 = .ok (.return_, 1) := by decide +kernel
theorem dX0_isConcept_0 : decode cX0_isConcept 0 = .ok (.iload_n 1, 1) := by decide +kernel
theorem dX0_isConcept_1 : decode cX0_isConcept 1 = .ok (.ifCond .lt 15, 3) := by decide +kernel
theorem dX0_isConcept_4 : decode cX0_isConcept 4 = .ok (.iload_n 1, 1) := by decide +kernel
theorem dX0_isConcept_5 : decode cX0_isConcept 5 = .ok (.aload_n 0, 1) := by decide +kernel
theorem dX0_isConcept_6 : decode cX0_isConcept 6 = .ok (.getfield 9, 3) := by decide +kernel
theorem dX0_isConcept_9 : decode cX0_isConcept 9 = .ok (.if_icmp .ge 7, 3) := by decide +kernel
theorem dX0_isConcept_12 : decode cX0_isConcept 12 = .ok (.iconst 1, 1) := by decide +kernel
theorem dX0_isConcept_13 : decode cX0_isConcept 13 = .ok (.goto 4, 3) := by decide +kernel
theorem dX0_isConcept_16 : decode cX0_isConcept 16 = .ok (.iconst 0, 1) := by decide +kernel
theorem dX0_isConcept_17 : decode cX0_isConcept 17 = .ok (.ireturn, 1) := by decide +kernel
theorem dX0_isTerm_0 : decode cX0_isTerm 0 = .ok (.iload_n 1, 1) := by decide +kernel
theorem dX0_isTerm_1 : decode cX0_isTerm 1 = .ok (.ifCond .lt 15, 3) := by decide +kernel
theorem dX0_isTerm_4 : decode cX0_isTerm 4 = .ok (.iload_n 1, 1) := by decide +kernel
theorem dX0_isTerm_5 : decode cX0_isTerm 5 = .ok (.aload_n 0, 1) := by decide +kernel
theorem dX0_isTerm_6 : decode cX0_isTerm 6 = .ok (.getfield 15, 3) := by decide +kernel
theorem dX0_isTerm_9 : decode cX0_isTerm 9 = .ok (.if_icmp .ge 7, 3) := by decide +kernel
theorem dX0_isTerm_12 : decode cX0_isTerm 12 = .ok (.iconst 1, 1) := by decide +kernel
theorem dX0_isTerm_13 : decode cX0_isTerm 13 = .ok (.goto 4, 3) := by decide +kernel
theorem dX0_isTerm_16 : decode cX0_isTerm 16 = .ok (.iconst 0, 1) := by decide +kernel
theorem dX0_isTerm_17 : decode cX0_isTerm 17 = .ok (.ireturn, 1) := by decide +kernel
theorem dX0_addConcept_0 : decode cX0_addConcept 0 = .ok (.aload_n 0, 1) := by decide +kernel
theorem dX0_addConcept_1 : decode cX0_addConcept 1 = .ok (.getfield 9, 3) := by decide +kernel
theorem dX0_addConcept_4 : decode cX0_addConcept 4 = .ok (.istore_n 2, 1) := by decide +kernel
theorem dX0_addConcept_5 : decode cX0_addConcept 5 = .ok (.aload_n 0, 1) := by decide +kernel
theorem dX0_addConcept_6 : decode cX0_addConcept 6 = .ok (.getfield 18, 3) := by decide +kernel
theorem dX0_addConcept_9 : decode cX0_addConcept 9 = .ok (.iload_n 2, 1) := by decide +kernel
theorem dX0_addConcept_10 : decode cX0_addConcept 10 = .ok (.iload_n 1, 1) := by decide +kernel
theorem dX0_addConcept_11 : decode cX0_addConcept 11 = .ok (.iastore, 1) := by decide +kernel
theorem dX0_addConcept_12 : decode cX0_addConcept 12 = .ok (.aload_n 0, 1) := by decide +kernel
theorem dX0_addConcept_13 : decode cX0_addConcept 13 = .ok (.dup, 1) := by decide +kernel
theorem dX0_addConcept_14 : decode cX0_addConcept 14 = .ok (.getfield 9, 3) := by decide +kernel
theorem dX0_addConcept_17 : decode cX0_addConcept 17 = .ok (.iconst 1, 1) := by decide +kernel
theorem dX0_addConcept_18 : decode cX0_addConcept 18 = .ok (.iadd, 1) := by decide +kernel
theorem dX0_addConcept_19 : decode cX0_addConcept 19 = .ok (.putfield 9, 3) := by decide +kernel
theorem dX0_addConcept_22 : decode cX0_addConcept 22 = .ok (.iload_n 2, 1) := by decide +kernel
theorem dX0_addConcept_23 : decode cX0_addConcept 23 = .ok (.ireturn, 1) := by decide +kernel
theorem dX0_hasTerm_0 : decode cX0_hasTerm 0 = .ok (.iconst 0, 1) := by decide +kernel
theorem dX0_hasTerm_1 : decode cX0_hasTerm 1 = .ok (.istore 4, 2) := by decide +kernel
theorem dX0_hasTerm_3 : decode cX0_hasTerm 3 = .ok (.iload 4, 2) := by decide +kernel
theorem dX0_hasTerm_5 : decode cX0_hasTerm 5 = .ok (.aload_n 0, 1) := by decide +kernel
theorem dX0_hasTerm_6 : decode cX0_hasTerm 6 = .ok (.getfield 15, 3) := by decide +kernel
theorem dX0_hasTerm_9 : decode cX0_hasTerm 9 = .ok (.if_icmp .ge 44, 3) := by decide +kernel
theorem dX0_hasTerm_12 : decode cX0_hasTerm 12 = .ok (.aload_n 0, 1) := by decide +kernel
theorem dX0_hasTerm_13 : decode cX0_hasTerm 13 = .ok (.getfield 22, 3) := by decide +kernel
theorem dX0_hasTerm_16 : decode cX0_hasTerm 16 = .ok (.iload 4, 2) := by decide +kernel
theorem dX0_hasTerm_18 : decode cX0_hasTerm 18 = .ok (.iaload, 1) := by decide +kernel
theorem dX0_hasTerm_19 : decode cX0_hasTerm 19 = .ok (.iload_n 1, 1) := by decide +kernel
theorem dX0_hasTerm_20 : decode cX0_hasTerm 20 = .ok (.if_icmp .ne 27, 3) := by decide +kernel
theorem dX0_hasTerm_23 : decode cX0_hasTerm 23 = .ok (.aload_n 0, 1) := by decide +kernel
theorem dX0_hasTerm_24 : decode cX0_hasTerm 24 = .ok (.getfield 25, 3) := by decide +kernel
theorem dX0_hasTerm_27 : decode cX0_hasTerm 27 = .ok (.iload 4, 2) := by decide +kernel
theorem dX0_hasTerm_29 : decode cX0_hasTerm 29 = .ok (.iaload, 1) := by decide +kernel
theorem dX0_hasTerm_30 : decode cX0_hasTerm 30 = .ok (.iload_n 2, 1) := by decide +kernel
theorem dX0_hasTerm_31 : decode cX0_hasTerm 31 = .ok (.if_icmp .ne 16, 3) := by decide +kernel
theorem dX0_hasTerm_34 : decode cX0_hasTerm 34 = .ok (.aload_n 0, 1) := by decide +kernel
theorem dX0_hasTerm_35 : decode cX0_hasTerm 35 = .ok (.getfield 28, 3) := by decide +kernel
theorem dX0_hasTerm_38 : decode cX0_hasTerm 38 = .ok (.iload 4, 2) := by decide +kernel
theorem dX0_hasTerm_40 : decode cX0_hasTerm 40 = .ok (.iaload, 1) := by decide +kernel
theorem dX0_hasTerm_41 : decode cX0_hasTerm 41 = .ok (.iload_n 3, 1) := by decide +kernel
theorem dX0_hasTerm_42 : decode cX0_hasTerm 42 = .ok (.if_icmp .ne 5, 3) := by decide +kernel
theorem dX0_hasTerm_45 : decode cX0_hasTerm 45 = .ok (.iconst 1, 1) := by decide +kernel
theorem dX0_hasTerm_46 : decode cX0_hasTerm 46 = .ok (.ireturn, 1) := by decide +kernel
theorem dX0_hasTerm_47 : decode cX0_hasTerm 47 = .ok (.iinc 4 1, 3) := by decide +kernel
theorem dX0_hasTerm_50 : decode cX0_hasTerm 50 = .ok (.goto (-47), 3) := by decide +kernel
theorem dX0_hasTerm_53 : decode cX0_hasTerm 53 = .ok (.iconst 0, 1) := by decide +kernel
theorem dX0_hasTerm_54 : decode cX0_hasTerm 54 = .ok (.ireturn, 1) := by decide +kernel
theorem dX0_addTerm_0 : decode cX0_addTerm 0 = .ok (.aload_n 0, 1) := by decide +kernel
theorem dX0_addTerm_1 : decode cX0_addTerm 1 = .ok (.getfield 15, 3) := by decide +kernel
theorem dX0_addTerm_4 : decode cX0_addTerm 4 = .ok (.istore 4, 2) := by decide +kernel
theorem dX0_addTerm_6 : decode cX0_addTerm 6 = .ok (.aload_n 0, 1) := by decide +kernel
theorem dX0_addTerm_7 : decode cX0_addTerm 7 = .ok (.getfield 22, 3) := by decide +kernel
theorem dX0_addTerm_10 : decode cX0_addTerm 10 = .ok (.iload 4, 2) := by decide +kernel
theorem dX0_addTerm_12 : decode cX0_addTerm 12 = .ok (.iload_n 1, 1) := by decide +kernel
theorem dX0_addTerm_13 : decode cX0_addTerm 13 = .ok (.iastore, 1) := by decide +kernel
theorem dX0_addTerm_14 : decode cX0_addTerm 14 = .ok (.aload_n 0, 1) := by decide +kernel
theorem dX0_addTerm_15 : decode cX0_addTerm 15 = .ok (.getfield 25, 3) := by decide +kernel
theorem dX0_addTerm_18 : decode cX0_addTerm 18 = .ok (.iload 4, 2) := by decide +kernel
theorem dX0_addTerm_20 : decode cX0_addTerm 20 = .ok (.iload_n 2, 1) := by decide +kernel
theorem dX0_addTerm_21 : decode cX0_addTerm 21 = .ok (.iastore, 1) := by decide +kernel
theorem dX0_addTerm_22 : decode cX0_addTerm 22 = .ok (.aload_n 0, 1) := by decide +kernel
theorem dX0_addTerm_23 : decode cX0_addTerm 23 = .ok (.getfield 28, 3) := by decide +kernel
theorem dX0_addTerm_26 : decode cX0_addTerm 26 = .ok (.iload 4, 2) := by decide +kernel
theorem dX0_addTerm_28 : decode cX0_addTerm 28 = .ok (.iload_n 3, 1) := by decide +kernel
theorem dX0_addTerm_29 : decode cX0_addTerm 29 = .ok (.iastore, 1) := by decide +kernel
theorem dX0_addTerm_30 : decode cX0_addTerm 30 = .ok (.aload_n 0, 1) := by decide +kernel
theorem dX0_addTerm_31 : decode cX0_addTerm 31 = .ok (.getfield 31, 3) := by decide +kernel
theorem dX0_addTerm_34 : decode cX0_addTerm 34 = .ok (.iload 4, 2) := by decide +kernel
theorem dX0_addTerm_36 : decode cX0_addTerm 36 = .ok (.iconst 0, 1) := by decide +kernel
theorem dX0_addTerm_37 : decode cX0_addTerm 37 = .ok (.iastore, 1) := by decide +kernel
theorem dX0_addTerm_38 : decode cX0_addTerm 38 = .ok (.aload_n 0, 1) := by decide +kernel
theorem dX0_addTerm_39 : decode cX0_addTerm 39 = .ok (.dup, 1) := by decide +kernel
theorem dX0_addTerm_40 : decode cX0_addTerm 40 = .ok (.getfield 15, 3) := by decide +kernel
theorem dX0_addTerm_43 : decode cX0_addTerm 43 = .ok (.iconst 1, 1) := by decide +kernel
theorem dX0_addTerm_44 : decode cX0_addTerm 44 = .ok (.iadd, 1) := by decide +kernel
theorem dX0_addTerm_45 : decode cX0_addTerm 45 = .ok (.putfield 15, 3) := by decide +kernel
theorem dX0_addTerm_48 : decode cX0_addTerm 48 = .ok (.iload 4, 2) := by decide +kernel
theorem dX0_addTerm_50 : decode cX0_addTerm 50 = .ok (.ireturn, 1) := by decide +kernel
theorem dX0_hasVoted_0 : decode cX0_hasVoted 0 = .ok (.aload_n 0, 1) := by decide +kernel
theorem dX0_hasVoted_1 : decode cX0_hasVoted 1 = .ok (.getfield 34, 3) := by decide +kernel
theorem dX0_hasVoted_4 : decode cX0_hasVoted 4 = .ok (.iload_n 1, 1) := by decide +kernel
theorem dX0_hasVoted_5 : decode cX0_hasVoted 5 = .ok (.iaload, 1) := by decide +kernel
theorem dX0_hasVoted_6 : decode cX0_hasVoted 6 = .ok (.aload_n 0, 1) := by decide +kernel
theorem dX0_hasVoted_7 : decode cX0_hasVoted 7 = .ok (.getfield 37, 3) := by decide +kernel
theorem dX0_hasVoted_10 : decode cX0_hasVoted 10 = .ok (.iload_n 1, 1) := by decide +kernel
theorem dX0_hasVoted_11 : decode cX0_hasVoted 11 = .ok (.iaload, 1) := by decide +kernel
theorem dX0_hasVoted_12 : decode cX0_hasVoted 12 = .ok (.ior, 1) := by decide +kernel
theorem dX0_hasVoted_13 : decode cX0_hasVoted 13 = .ok (.iload_n 2, 1) := by decide +kernel
theorem dX0_hasVoted_14 : decode cX0_hasVoted 14 = .ok (.invokestatic 51, 3) := by decide +kernel
theorem dX0_hasVoted_17 : decode cX0_hasVoted 17 = .ok (.ireturn, 1) := by decide +kernel
theorem dX0_addVote_0 : decode cX0_addVote 0 = .ok (.iload_n 3, 1) := by decide +kernel
theorem dX0_addVote_1 : decode cX0_addVote 1 = .ok (.ifCond .eq 10, 3) := by decide +kernel
theorem dX0_addVote_4 : decode cX0_addVote 4 = .ok (.aload_n 0, 1) := by decide +kernel
theorem dX0_addVote_5 : decode cX0_addVote 5 = .ok (.getfield 34, 3) := by decide +kernel
theorem dX0_addVote_8 : decode cX0_addVote 8 = .ok (.goto 7, 3) := by decide +kernel
theorem dX0_addVote_11 : decode cX0_addVote 11 = .ok (.aload_n 0, 1) := by decide +kernel
theorem dX0_addVote_12 : decode cX0_addVote 12 = .ok (.getfield 37, 3) := by decide +kernel
theorem dX0_addVote_15 : decode cX0_addVote 15 = .ok (.astore 4, 2) := by decide +kernel
theorem dX0_addVote_17 : decode cX0_addVote 17 = .ok (.aload 4, 2) := by decide +kernel
theorem dX0_addVote_19 : decode cX0_addVote 19 = .ok (.iload_n 1, 1) := by decide +kernel
theorem dX0_addVote_20 : decode cX0_addVote 20 = .ok (.dup2, 1) := by decide +kernel
theorem dX0_addVote_21 : decode cX0_addVote 21 = .ok (.iaload, 1) := by decide +kernel
theorem dX0_addVote_22 : decode cX0_addVote 22 = .ok (.iconst 1, 1) := by decide +kernel
theorem dX0_addVote_23 : decode cX0_addVote 23 = .ok (.iload_n 2, 1) := by decide +kernel
theorem dX0_addVote_24 : decode cX0_addVote 24 = .ok (.ishl, 1) := by decide +kernel
theorem dX0_addVote_25 : decode cX0_addVote 25 = .ok (.ior, 1) := by decide +kernel
theorem dX0_addVote_26 : decode cX0_addVote 26 = .ok (.iastore, 1) := by decide +kernel
theorem dX0_addVote_27 : decode cX0_addVote 27 = .ok (.aload_n 0, 1) := by decide +kernel
theorem dX0_addVote_28 : decode cX0_addVote 28 = .ok (.getfield 34, 3) := by decide +kernel
theorem dX0_addVote_31 : decode cX0_addVote 31 = .ok (.iload_n 1, 1) := by decide +kernel
theorem dX0_addVote_32 : decode cX0_addVote 32 = .ok (.iaload, 1) := by decide +kernel
theorem dX0_addVote_33 : decode cX0_addVote 33 = .ok (.invokestatic 55, 3) := by decide +kernel
theorem dX0_addVote_36 : decode cX0_addVote 36 = .ok (.iconst 3, 1) := by decide +kernel
theorem dX0_addVote_37 : decode cX0_addVote 37 = .ok (.if_icmp .lt 30, 3) := by decide +kernel
theorem dX0_addVote_40 : decode cX0_addVote 40 = .ok (.aload_n 0, 1) := by decide +kernel
theorem dX0_addVote_41 : decode cX0_addVote 41 = .ok (.getfield 31, 3) := by decide +kernel
theorem dX0_addVote_44 : decode cX0_addVote 44 = .ok (.iload_n 1, 1) := by decide +kernel
theorem dX0_addVote_45 : decode cX0_addVote 45 = .ok (.iconst 1, 1) := by decide +kernel
theorem dX0_addVote_46 : decode cX0_addVote 46 = .ok (.iastore, 1) := by decide +kernel
theorem dX0_addVote_47 : decode cX0_addVote 47 = .ok (.aload_n 0, 1) := by decide +kernel
theorem dX0_addVote_48 : decode cX0_addVote 48 = .ok (.iload_n 1, 1) := by decide +kernel
theorem dX0_addVote_49 : decode cX0_addVote 49 = .ok (.aload_n 0, 1) := by decide +kernel
theorem dX0_addVote_50 : decode cX0_addVote 50 = .ok (.getfield 25, 3) := by decide +kernel
theorem dX0_addVote_53 : decode cX0_addVote 53 = .ok (.iload_n 1, 1) := by decide +kernel
theorem dX0_addVote_54 : decode cX0_addVote 54 = .ok (.iaload, 1) := by decide +kernel
theorem dX0_addVote_55 : decode cX0_addVote 55 = .ok (.aload_n 0, 1) := by decide +kernel
theorem dX0_addVote_56 : decode cX0_addVote 56 = .ok (.getfield 28, 3) := by decide +kernel
theorem dX0_addVote_59 : decode cX0_addVote 59 = .ok (.iload_n 1, 1) := by decide +kernel
theorem dX0_addVote_60 : decode cX0_addVote 60 = .ok (.iaload, 1) := by decide +kernel
theorem dX0_addVote_61 : decode cX0_addVote 61 = .ok (.invokevirtual 61, 3) := by decide +kernel
theorem dX0_addVote_64 : decode cX0_addVote 64 = .ok (.goto 30, 3) := by decide +kernel
theorem dX0_addVote_67 : decode cX0_addVote 67 = .ok (.aload_n 0, 1) := by decide +kernel
theorem dX0_addVote_68 : decode cX0_addVote 68 = .ok (.getfield 37, 3) := by decide +kernel
theorem dX0_addVote_71 : decode cX0_addVote 71 = .ok (.iload_n 1, 1) := by decide +kernel
theorem dX0_addVote_72 : decode cX0_addVote 72 = .ok (.iaload, 1) := by decide +kernel
theorem dX0_addVote_73 : decode cX0_addVote 73 = .ok (.invokestatic 55, 3) := by decide +kernel
theorem dX0_addVote_76 : decode cX0_addVote 76 = .ok (.iconst 3, 1) := by decide +kernel
theorem dX0_addVote_77 : decode cX0_addVote 77 = .ok (.if_icmp .lt 17, 3) := by decide +kernel
theorem dX0_addVote_80 : decode cX0_addVote 80 = .ok (.aload_n 0, 1) := by decide +kernel
theorem dX0_addVote_81 : decode cX0_addVote 81 = .ok (.getfield 34, 3) := by decide +kernel
theorem dX0_addVote_84 : decode cX0_addVote 84 = .ok (.iload_n 1, 1) := by decide +kernel
theorem dX0_addVote_85 : decode cX0_addVote 85 = .ok (.iconst 0, 1) := by decide +kernel
theorem dX0_addVote_86 : decode cX0_addVote 86 = .ok (.iastore, 1) := by decide +kernel
theorem dX0_addVote_87 : decode cX0_addVote 87 = .ok (.aload_n 0, 1) := by decide +kernel
theorem dX0_addVote_88 : decode cX0_addVote 88 = .ok (.getfield 37, 3) := by decide +kernel
theorem dX0_addVote_91 : decode cX0_addVote 91 = .ok (.iload_n 1, 1) := by decide +kernel
theorem dX0_addVote_92 : decode cX0_addVote 92 = .ok (.iconst 0, 1) := by decide +kernel
theorem dX0_addVote_93 : decode cX0_addVote 93 = .ok (.iastore, 1) := by decide +kernel
theorem dX0_addVote_94 : decode cX0_addVote 94 = .ok (.aload_n 0, 1) := by decide +kernel
theorem dX0_addVote_95 : decode cX0_addVote 95 = .ok (.getfield 31, 3) := by decide +kernel
theorem dX0_addVote_98 : decode cX0_addVote 98 = .ok (.iload_n 1, 1) := by decide +kernel
theorem dX0_addVote_99 : decode cX0_addVote 99 = .ok (.iaload, 1) := by decide +kernel
theorem dX0_addVote_100 : decode cX0_addVote 100 = .ok (.ireturn, 1) := by decide +kernel
theorem dX0_isStem_0 : decode cX0_isStem 0 = .ok (.iload_n 0, 1) := by decide +kernel
theorem dX0_isStem_1 : decode cX0_isStem 1 = .ok (.ifCond .lt 22, 3) := by decide +kernel
theorem dX0_isStem_4 : decode cX0_isStem 4 = .ok (.iload_n 0, 1) := by decide +kernel
theorem dX0_isStem_5 : decode cX0_isStem 5 = .ok (.iconst 3, 1) := by decide +kernel
theorem dX0_isStem_6 : decode cX0_isStem 6 = .ok (.if_icmp .ge 17, 3) := by decide +kernel
theorem dX0_isStem_9 : decode cX0_isStem 9 = .ok (.iload_n 1, 1) := by decide +kernel
theorem dX0_isStem_10 : decode cX0_isStem 10 = .ok (.ifCond .lt 13, 3) := by decide +kernel
theorem dX0_isStem_13 : decode cX0_isStem 13 = .ok (.iload_n 1, 1) := by decide +kernel
theorem dX0_isStem_14 : decode cX0_isStem 14 = .ok (.bipush 20, 2) := by decide +kernel
theorem dX0_isStem_16 : decode cX0_isStem 16 = .ok (.if_icmp .ge 7, 3) := by decide +kernel
theorem dX0_isStem_19 : decode cX0_isStem 19 = .ok (.iconst 1, 1) := by decide +kernel
theorem dX0_isStem_20 : decode cX0_isStem 20 = .ok (.goto 4, 3) := by decide +kernel
theorem dX0_isStem_23 : decode cX0_isStem 23 = .ok (.iconst 0, 1) := by decide +kernel
theorem dX0_isStem_24 : decode cX0_isStem 24 = .ok (.ireturn, 1) := by decide +kernel
theorem dX0_makeKnown_0 : decode cX0_makeKnown 0 = .ok (.iload_n 2, 1) := by decide +kernel
theorem dX0_makeKnown_1 : decode cX0_makeKnown 1 = .ok (.iload_n 3, 1) := by decide +kernel
theorem dX0_makeKnown_2 : decode cX0_makeKnown 2 = .ok (.invokestatic 65, 3) := by decide +kernel
theorem dX0_makeKnown_5 : decode cX0_makeKnown 5 = .ok (.ifCond .eq 17, 3) := by decide +kernel
theorem dX0_makeKnown_8 : decode cX0_makeKnown 8 = .ok (.aload_n 0, 1) := by decide +kernel
theorem dX0_makeKnown_9 : decode cX0_makeKnown 9 = .ok (.getfield 48, 3) := by decide +kernel
theorem dX0_makeKnown_12 : decode cX0_makeKnown 12 = .ok (.iload_n 2, 1) := by decide +kernel
theorem dX0_makeKnown_13 : decode cX0_makeKnown 13 = .ok (.aaload, 1) := by decide +kernel
theorem dX0_makeKnown_14 : decode cX0_makeKnown 14 = .ok (.iload_n 3, 1) := by decide +kernel
theorem dX0_makeKnown_15 : decode cX0_makeKnown 15 = .ok (.dup2, 1) := by decide +kernel
theorem dX0_makeKnown_16 : decode cX0_makeKnown 16 = .ok (.iaload, 1) := by decide +kernel
theorem dX0_makeKnown_17 : decode cX0_makeKnown 17 = .ok (.iconst 1, 1) := by decide +kernel
theorem dX0_makeKnown_18 : decode cX0_makeKnown 18 = .ok (.iload_n 1, 1) := by decide +kernel
theorem dX0_makeKnown_19 : decode cX0_makeKnown 19 = .ok (.ishl, 1) := by decide +kernel
theorem dX0_makeKnown_20 : decode cX0_makeKnown 20 = .ok (.ior, 1) := by decide +kernel
theorem dX0_makeKnown_21 : decode cX0_makeKnown 21 = .ok (.iastore, 1) := by decide +kernel
theorem dX0_makeKnown_22 : decode cX0_makeKnown 22 = .ok (.return_, 1) := by decide +kernel
theorem dX0_raise_0 : decode cX0_raise 0 = .ok (.aload_n 0, 1) := by decide +kernel
theorem dX0_raise_1 : decode cX0_raise 1 = .ok (.aload_n 0, 1) := by decide +kernel
theorem dX0_raise_2 : decode cX0_raise 2 = .ok (.getfield 22, 3) := by decide +kernel
theorem dX0_raise_5 : decode cX0_raise 5 = .ok (.iload_n 1, 1) := by decide +kernel
theorem dX0_raise_6 : decode cX0_raise 6 = .ok (.iaload, 1) := by decide +kernel
theorem dX0_raise_7 : decode cX0_raise 7 = .ok (.aload_n 0, 1) := by decide +kernel
theorem dX0_raise_8 : decode cX0_raise 8 = .ok (.getfield 25, 3) := by decide +kernel
theorem dX0_raise_11 : decode cX0_raise 11 = .ok (.iload_n 1, 1) := by decide +kernel
theorem dX0_raise_12 : decode cX0_raise 12 = .ok (.iaload, 1) := by decide +kernel
theorem dX0_raise_13 : decode cX0_raise 13 = .ok (.invokevirtual 68, 3) := by decide +kernel
theorem dX0_raise_16 : decode cX0_raise 16 = .ok (.istore_n 2, 1) := by decide +kernel
theorem dX0_raise_17 : decode cX0_raise 17 = .ok (.aload_n 0, 1) := by decide +kernel
theorem dX0_raise_18 : decode cX0_raise 18 = .ok (.iload_n 2, 1) := by decide +kernel
theorem dX0_raise_19 : decode cX0_raise 19 = .ok (.invokevirtual 72, 3) := by decide +kernel
theorem dX0_raise_22 : decode cX0_raise 22 = .ok (.ifCond .eq 10, 3) := by decide +kernel
theorem dX0_raise_25 : decode cX0_raise 25 = .ok (.aload_n 0, 1) := by decide +kernel
theorem dX0_raise_26 : decode cX0_raise 26 = .ok (.getfield 31, 3) := by decide +kernel
theorem dX0_raise_29 : decode cX0_raise 29 = .ok (.iload_n 2, 1) := by decide +kernel
theorem dX0_raise_30 : decode cX0_raise 30 = .ok (.iconst 1, 1) := by decide +kernel
theorem dX0_raise_31 : decode cX0_raise 31 = .ok (.iastore, 1) := by decide +kernel
theorem dX0_raise_32 : decode cX0_raise 32 = .ok (.aload_n 0, 1) := by decide +kernel
theorem dX0_raise_33 : decode cX0_raise 33 = .ok (.getfield 31, 3) := by decide +kernel
theorem dX0_raise_36 : decode cX0_raise 36 = .ok (.iload_n 1, 1) := by decide +kernel
theorem dX0_raise_37 : decode cX0_raise 37 = .ok (.iconst 2, 1) := by decide +kernel
theorem dX0_raise_38 : decode cX0_raise 38 = .ok (.iastore, 1) := by decide +kernel
theorem dX0_raise_39 : decode cX0_raise 39 = .ok (.iload_n 2, 1) := by decide +kernel
theorem dX0_raise_40 : decode cX0_raise 40 = .ok (.ireturn, 1) := by decide +kernel
theorem dX0_preferredOf_0 : decode cX0_preferredOf 0 = .ok (.iconst 0, 1) := by decide +kernel
theorem dX0_preferredOf_1 : decode cX0_preferredOf 1 = .ok (.istore_n 3, 1) := by decide +kernel
theorem dX0_preferredOf_2 : decode cX0_preferredOf 2 = .ok (.iload_n 3, 1) := by decide +kernel
theorem dX0_preferredOf_3 : decode cX0_preferredOf 3 = .ok (.aload_n 0, 1) := by decide +kernel
theorem dX0_preferredOf_4 : decode cX0_preferredOf 4 = .ok (.getfield 15, 3) := by decide +kernel
theorem dX0_preferredOf_7 : decode cX0_preferredOf 7 = .ok (.if_icmp .ge 41, 3) := by decide +kernel
theorem dX0_preferredOf_10 : decode cX0_preferredOf 10 = .ok (.aload_n 0, 1) := by decide +kernel
theorem dX0_preferredOf_11 : decode cX0_preferredOf 11 = .ok (.getfield 22, 3) := by decide +kernel
theorem dX0_preferredOf_14 : decode cX0_preferredOf 14 = .ok (.iload_n 3, 1) := by decide +kernel
theorem dX0_preferredOf_15 : decode cX0_preferredOf 15 = .ok (.iaload, 1) := by decide +kernel
theorem dX0_preferredOf_16 : decode cX0_preferredOf 16 = .ok (.iload_n 1, 1) := by decide +kernel
theorem dX0_preferredOf_17 : decode cX0_preferredOf 17 = .ok (.if_icmp .ne 25, 3) := by decide +kernel
theorem dX0_preferredOf_20 : decode cX0_preferredOf 20 = .ok (.aload_n 0, 1) := by decide +kernel
theorem dX0_preferredOf_21 : decode cX0_preferredOf 21 = .ok (.getfield 25, 3) := by decide +kernel
theorem dX0_preferredOf_24 : decode cX0_preferredOf 24 = .ok (.iload_n 3, 1) := by decide +kernel
theorem dX0_preferredOf_25 : decode cX0_preferredOf 25 = .ok (.iaload, 1) := by decide +kernel
theorem dX0_preferredOf_26 : decode cX0_preferredOf 26 = .ok (.iload_n 2, 1) := by decide +kernel
theorem dX0_preferredOf_27 : decode cX0_preferredOf 27 = .ok (.if_icmp .ne 15, 3) := by decide +kernel
theorem dX0_preferredOf_30 : decode cX0_preferredOf 30 = .ok (.aload_n 0, 1) := by decide +kernel
theorem dX0_preferredOf_31 : decode cX0_preferredOf 31 = .ok (.getfield 31, 3) := by decide +kernel
theorem dX0_preferredOf_34 : decode cX0_preferredOf 34 = .ok (.iload_n 3, 1) := by decide +kernel
theorem dX0_preferredOf_35 : decode cX0_preferredOf 35 = .ok (.iaload, 1) := by decide +kernel
theorem dX0_preferredOf_36 : decode cX0_preferredOf 36 = .ok (.iconst 2, 1) := by decide +kernel
theorem dX0_preferredOf_37 : decode cX0_preferredOf 37 = .ok (.if_icmp .ne 5, 3) := by decide +kernel
theorem dX0_preferredOf_40 : decode cX0_preferredOf 40 = .ok (.iload_n 3, 1) := by decide +kernel
theorem dX0_preferredOf_41 : decode cX0_preferredOf 41 = .ok (.ireturn, 1) := by decide +kernel
theorem dX0_preferredOf_42 : decode cX0_preferredOf 42 = .ok (.iinc 3 1, 3) := by decide +kernel
theorem dX0_preferredOf_45 : decode cX0_preferredOf 45 = .ok (.goto (-43), 3) := by decide +kernel
theorem dX0_preferredOf_48 : decode cX0_preferredOf 48 = .ok (.iconst (-1), 1) := by decide +kernel
theorem dX0_preferredOf_49 : decode cX0_preferredOf 49 = .ok (.ireturn, 1) := by decide +kernel
theorem dX0_canBeBanned_0 : decode cX0_canBeBanned 0 = .ok (.aload_n 0, 1) := by decide +kernel
theorem dX0_canBeBanned_1 : decode cX0_canBeBanned 1 = .ok (.getfield 31, 3) := by decide +kernel
theorem dX0_canBeBanned_4 : decode cX0_canBeBanned 4 = .ok (.iload_n 1, 1) := by decide +kernel
theorem dX0_canBeBanned_5 : decode cX0_canBeBanned 5 = .ok (.iaload, 1) := by decide +kernel
theorem dX0_canBeBanned_6 : decode cX0_canBeBanned 6 = .ok (.iconst 1, 1) := by decide +kernel
theorem dX0_canBeBanned_7 : decode cX0_canBeBanned 7 = .ok (.if_icmp .eq 13, 3) := by decide +kernel
theorem dX0_canBeBanned_10 : decode cX0_canBeBanned 10 = .ok (.aload_n 0, 1) := by decide +kernel
theorem dX0_canBeBanned_11 : decode cX0_canBeBanned 11 = .ok (.getfield 31, 3) := by decide +kernel
theorem dX0_canBeBanned_14 : decode cX0_canBeBanned 14 = .ok (.iload_n 1, 1) := by decide +kernel
theorem dX0_canBeBanned_15 : decode cX0_canBeBanned 15 = .ok (.iaload, 1) := by decide +kernel
theorem dX0_canBeBanned_16 : decode cX0_canBeBanned 16 = .ok (.iconst 2, 1) := by decide +kernel
theorem dX0_canBeBanned_17 : decode cX0_canBeBanned 17 = .ok (.if_icmp .ne 7, 3) := by decide +kernel
theorem dX0_canBeBanned_20 : decode cX0_canBeBanned 20 = .ok (.iconst 1, 1) := by decide +kernel
theorem dX0_canBeBanned_21 : decode cX0_canBeBanned 21 = .ok (.goto 4, 3) := by decide +kernel
theorem dX0_canBeBanned_24 : decode cX0_canBeBanned 24 = .ok (.iconst 0, 1) := by decide +kernel
theorem dX0_canBeBanned_25 : decode cX0_canBeBanned 25 = .ok (.ireturn, 1) := by decide +kernel
theorem dX0_forbid_0 : decode cX0_forbid 0 = .ok (.aload_n 0, 1) := by decide +kernel
theorem dX0_forbid_1 : decode cX0_forbid 1 = .ok (.getfield 31, 3) := by decide +kernel
theorem dX0_forbid_4 : decode cX0_forbid 4 = .ok (.iload_n 1, 1) := by decide +kernel
theorem dX0_forbid_5 : decode cX0_forbid 5 = .ok (.iconst 3, 1) := by decide +kernel
theorem dX0_forbid_6 : decode cX0_forbid 6 = .ok (.iastore, 1) := by decide +kernel
theorem dX0_forbid_7 : decode cX0_forbid 7 = .ok (.aload_n 0, 1) := by decide +kernel
theorem dX0_forbid_8 : decode cX0_forbid 8 = .ok (.getfield 40, 3) := by decide +kernel
theorem dX0_forbid_11 : decode cX0_forbid 11 = .ok (.iload_n 1, 1) := by decide +kernel
theorem dX0_forbid_12 : decode cX0_forbid 12 = .ok (.iload_n 2, 1) := by decide +kernel
theorem dX0_forbid_13 : decode cX0_forbid 13 = .ok (.iastore, 1) := by decide +kernel
theorem dX0_forbid_14 : decode cX0_forbid 14 = .ok (.aload_n 0, 1) := by decide +kernel
theorem dX0_forbid_15 : decode cX0_forbid 15 = .ok (.getfield 43, 3) := by decide +kernel
theorem dX0_forbid_18 : decode cX0_forbid 18 = .ok (.iload_n 1, 1) := by decide +kernel
theorem dX0_forbid_19 : decode cX0_forbid 19 = .ok (.iload_n 3, 1) := by decide +kernel
theorem dX0_forbid_20 : decode cX0_forbid 20 = .ok (.iastore, 1) := by decide +kernel
theorem dX0_forbid_21 : decode cX0_forbid 21 = .ok (.return_, 1) := by decide +kernel
theorem dX0_permit_0 : decode cX0_permit 0 = .ok (.aload_n 0, 1) := by decide +kernel
theorem dX0_permit_1 : decode cX0_permit 1 = .ok (.getfield 31, 3) := by decide +kernel
theorem dX0_permit_4 : decode cX0_permit 4 = .ok (.iload_n 1, 1) := by decide +kernel
theorem dX0_permit_5 : decode cX0_permit 5 = .ok (.iconst 1, 1) := by decide +kernel
theorem dX0_permit_6 : decode cX0_permit 6 = .ok (.iastore, 1) := by decide +kernel
theorem dX0_permit_7 : decode cX0_permit 7 = .ok (.iload_n 2, 1) := by decide +kernel
theorem dX0_permit_8 : decode cX0_permit 8 = .ok (.aload_n 0, 1) := by decide +kernel
theorem dX0_permit_9 : decode cX0_permit 9 = .ok (.getfield 40, 3) := by decide +kernel
theorem dX0_permit_12 : decode cX0_permit 12 = .ok (.iload_n 1, 1) := by decide +kernel
theorem dX0_permit_13 : decode cX0_permit 13 = .ok (.iaload, 1) := by decide +kernel
theorem dX0_permit_14 : decode cX0_permit 14 = .ok (.isub, 1) := by decide +kernel
theorem dX0_permit_15 : decode cX0_permit 15 = .ok (.ireturn, 1) := by decide +kernel
theorem dX0_overdueOn_0 : decode cX0_overdueOn 0 = .ok (.iconst 0, 1) := by decide +kernel
theorem dX0_overdueOn_1 : decode cX0_overdueOn 1 = .ok (.istore_n 2, 1) := by decide +kernel
theorem dX0_overdueOn_2 : decode cX0_overdueOn 2 = .ok (.iconst 0, 1) := by decide +kernel
theorem dX0_overdueOn_3 : decode cX0_overdueOn 3 = .ok (.istore_n 3, 1) := by decide +kernel
theorem dX0_overdueOn_4 : decode cX0_overdueOn 4 = .ok (.iload_n 3, 1) := by decide +kernel
theorem dX0_overdueOn_5 : decode cX0_overdueOn 5 = .ok (.aload_n 0, 1) := by decide +kernel
theorem dX0_overdueOn_6 : decode cX0_overdueOn 6 = .ok (.getfield 15, 3) := by decide +kernel
theorem dX0_overdueOn_9 : decode cX0_overdueOn 9 = .ok (.if_icmp .ge 42, 3) := by decide +kernel
theorem dX0_overdueOn_12 : decode cX0_overdueOn 12 = .ok (.aload_n 0, 1) := by decide +kernel
theorem dX0_overdueOn_13 : decode cX0_overdueOn 13 = .ok (.getfield 31, 3) := by decide +kernel
theorem dX0_overdueOn_16 : decode cX0_overdueOn 16 = .ok (.iload_n 3, 1) := by decide +kernel
theorem dX0_overdueOn_17 : decode cX0_overdueOn 17 = .ok (.iaload, 1) := by decide +kernel
theorem dX0_overdueOn_18 : decode cX0_overdueOn 18 = .ok (.iconst 3, 1) := by decide +kernel
theorem dX0_overdueOn_19 : decode cX0_overdueOn 19 = .ok (.if_icmp .ne 26, 3) := by decide +kernel
theorem dX0_overdueOn_22 : decode cX0_overdueOn 22 = .ok (.iload_n 1, 1) := by decide +kernel
theorem dX0_overdueOn_23 : decode cX0_overdueOn 23 = .ok (.aload_n 0, 1) := by decide +kernel
theorem dX0_overdueOn_24 : decode cX0_overdueOn 24 = .ok (.getfield 40, 3) := by decide +kernel
theorem dX0_overdueOn_27 : decode cX0_overdueOn 27 = .ok (.iload_n 3, 1) := by decide +kernel
theorem dX0_overdueOn_28 : decode cX0_overdueOn 28 = .ok (.iaload, 1) := by decide +kernel
theorem dX0_overdueOn_29 : decode cX0_overdueOn 29 = .ok (.aload_n 0, 1) := by decide +kernel
theorem dX0_overdueOn_30 : decode cX0_overdueOn 30 = .ok (.getfield 43, 3) := by decide +kernel
theorem dX0_overdueOn_33 : decode cX0_overdueOn 33 = .ok (.iload_n 3, 1) := by decide +kernel
theorem dX0_overdueOn_34 : decode cX0_overdueOn 34 = .ok (.iaload, 1) := by decide +kernel
theorem dX0_overdueOn_35 : decode cX0_overdueOn 35 = .ok (.iadd, 1) := by decide +kernel
theorem dX0_overdueOn_36 : decode cX0_overdueOn 36 = .ok (.if_icmp .lt 9, 3) := by decide +kernel
theorem dX0_overdueOn_39 : decode cX0_overdueOn 39 = .ok (.iload_n 2, 1) := by decide +kernel
theorem dX0_overdueOn_40 : decode cX0_overdueOn 40 = .ok (.iconst 1, 1) := by decide +kernel
theorem dX0_overdueOn_41 : decode cX0_overdueOn 41 = .ok (.iload_n 3, 1) := by decide +kernel
theorem dX0_overdueOn_42 : decode cX0_overdueOn 42 = .ok (.ishl, 1) := by decide +kernel
theorem dX0_overdueOn_43 : decode cX0_overdueOn 43 = .ok (.ior, 1) := by decide +kernel
theorem dX0_overdueOn_44 : decode cX0_overdueOn 44 = .ok (.istore_n 2, 1) := by decide +kernel
theorem dX0_overdueOn_45 : decode cX0_overdueOn 45 = .ok (.iinc 3 1, 3) := by decide +kernel
theorem dX0_overdueOn_48 : decode cX0_overdueOn 48 = .ok (.goto (-44), 3) := by decide +kernel
theorem dX0_overdueOn_51 : decode cX0_overdueOn 51 = .ok (.iload_n 2, 1) := by decide +kernel
theorem dX0_overdueOn_52 : decode cX0_overdueOn 52 = .ok (.ireturn, 1) := by decide +kernel
theorem dX0_termsOf_0 : decode cX0_termsOf 0 = .ok (.iconst 0, 1) := by decide +kernel
theorem dX0_termsOf_1 : decode cX0_termsOf 1 = .ok (.istore_n 2, 1) := by decide +kernel
theorem dX0_termsOf_2 : decode cX0_termsOf 2 = .ok (.iconst 0, 1) := by decide +kernel
theorem dX0_termsOf_3 : decode cX0_termsOf 3 = .ok (.istore_n 3, 1) := by decide +kernel
theorem dX0_termsOf_4 : decode cX0_termsOf 4 = .ok (.iload_n 3, 1) := by decide +kernel
theorem dX0_termsOf_5 : decode cX0_termsOf 5 = .ok (.aload_n 0, 1) := by decide +kernel
theorem dX0_termsOf_6 : decode cX0_termsOf 6 = .ok (.getfield 15, 3) := by decide +kernel
theorem dX0_termsOf_9 : decode cX0_termsOf 9 = .ok (.if_icmp .ge 25, 3) := by decide +kernel
theorem dX0_termsOf_12 : decode cX0_termsOf 12 = .ok (.aload_n 0, 1) := by decide +kernel
theorem dX0_termsOf_13 : decode cX0_termsOf 13 = .ok (.getfield 22, 3) := by decide +kernel
theorem dX0_termsOf_16 : decode cX0_termsOf 16 = .ok (.iload_n 3, 1) := by decide +kernel
theorem dX0_termsOf_17 : decode cX0_termsOf 17 = .ok (.iaload, 1) := by decide +kernel
theorem dX0_termsOf_18 : decode cX0_termsOf 18 = .ok (.iload_n 1, 1) := by decide +kernel
theorem dX0_termsOf_19 : decode cX0_termsOf 19 = .ok (.if_icmp .ne 9, 3) := by decide +kernel
theorem dX0_termsOf_22 : decode cX0_termsOf 22 = .ok (.iload_n 2, 1) := by decide +kernel
theorem dX0_termsOf_23 : decode cX0_termsOf 23 = .ok (.iconst 1, 1) := by decide +kernel
theorem dX0_termsOf_24 : decode cX0_termsOf 24 = .ok (.iload_n 3, 1) := by decide +kernel
theorem dX0_termsOf_25 : decode cX0_termsOf 25 = .ok (.ishl, 1) := by decide +kernel
theorem dX0_termsOf_26 : decode cX0_termsOf 26 = .ok (.ior, 1) := by decide +kernel
theorem dX0_termsOf_27 : decode cX0_termsOf 27 = .ok (.istore_n 2, 1) := by decide +kernel
theorem dX0_termsOf_28 : decode cX0_termsOf 28 = .ok (.iinc 3 1, 3) := by decide +kernel
theorem dX0_termsOf_31 : decode cX0_termsOf 31 = .ok (.goto (-27), 3) := by decide +kernel
theorem dX0_termsOf_34 : decode cX0_termsOf 34 = .ok (.iload_n 2, 1) := by decide +kernel
theorem dX0_termsOf_35 : decode cX0_termsOf 35 = .ok (.ireturn, 1) := by decide +kernel
theorem dX0_move_0 : decode cX0_move 0 = .ok (.iconst 0, 1) := by decide +kernel
theorem dX0_move_1 : decode cX0_move 1 = .ok (.istore_n 3, 1) := by decide +kernel
theorem dX0_move_2 : decode cX0_move 2 = .ok (.iload_n 3, 1) := by decide +kernel
theorem dX0_move_3 : decode cX0_move 3 = .ok (.aload_n 0, 1) := by decide +kernel
theorem dX0_move_4 : decode cX0_move 4 = .ok (.getfield 15, 3) := by decide +kernel
theorem dX0_move_7 : decode cX0_move 7 = .ok (.if_icmp .ge 24, 3) := by decide +kernel
theorem dX0_move_10 : decode cX0_move 10 = .ok (.iload_n 1, 1) := by decide +kernel
theorem dX0_move_11 : decode cX0_move 11 = .ok (.iload_n 3, 1) := by decide +kernel
theorem dX0_move_12 : decode cX0_move 12 = .ok (.invokestatic 51, 3) := by decide +kernel
theorem dX0_move_15 : decode cX0_move 15 = .ok (.ifCond .eq 10, 3) := by decide +kernel
theorem dX0_move_18 : decode cX0_move 18 = .ok (.aload_n 0, 1) := by decide +kernel
theorem dX0_move_19 : decode cX0_move 19 = .ok (.getfield 22, 3) := by decide +kernel
theorem dX0_move_22 : decode cX0_move 22 = .ok (.iload_n 3, 1) := by decide +kernel
theorem dX0_move_23 : decode cX0_move 23 = .ok (.iload_n 2, 1) := by decide +kernel
theorem dX0_move_24 : decode cX0_move 24 = .ok (.iastore, 1) := by decide +kernel
theorem dX0_move_25 : decode cX0_move 25 = .ok (.iinc 3 1, 3) := by decide +kernel
theorem dX0_move_28 : decode cX0_move 28 = .ok (.goto (-26), 3) := by decide +kernel
theorem dX0_move_31 : decode cX0_move 31 = .ok (.return_, 1) := by decide +kernel
theorem dX0_canBeJoined_0 : decode cX0_canBeJoined 0 = .ok (.iconst 0, 1) := by decide +kernel
theorem dX0_canBeJoined_1 : decode cX0_canBeJoined 1 = .ok (.istore_n 3, 1) := by decide +kernel
theorem dX0_canBeJoined_2 : decode cX0_canBeJoined 2 = .ok (.iload_n 3, 1) := by decide +kernel
theorem dX0_canBeJoined_3 : decode cX0_canBeJoined 3 = .ok (.aload_n 0, 1) := by decide +kernel
theorem dX0_canBeJoined_4 : decode cX0_canBeJoined 4 = .ok (.getfield 15, 3) := by decide +kernel
theorem dX0_canBeJoined_7 : decode cX0_canBeJoined 7 = .ok (.if_icmp .ge 41, 3) := by decide +kernel
theorem dX0_canBeJoined_10 : decode cX0_canBeJoined 10 = .ok (.aload_n 0, 1) := by decide +kernel
theorem dX0_canBeJoined_11 : decode cX0_canBeJoined 11 = .ok (.getfield 22, 3) := by decide +kernel
theorem dX0_canBeJoined_14 : decode cX0_canBeJoined 14 = .ok (.iload_n 3, 1) := by decide +kernel
theorem dX0_canBeJoined_15 : decode cX0_canBeJoined 15 = .ok (.iaload, 1) := by decide +kernel
theorem dX0_canBeJoined_16 : decode cX0_canBeJoined 16 = .ok (.iload_n 1, 1) := by decide +kernel
theorem dX0_canBeJoined_17 : decode cX0_canBeJoined 17 = .ok (.if_icmp .ne 25, 3) := by decide +kernel
theorem dX0_canBeJoined_20 : decode cX0_canBeJoined 20 = .ok (.aload_n 0, 1) := by decide +kernel
theorem dX0_canBeJoined_21 : decode cX0_canBeJoined 21 = .ok (.iload_n 2, 1) := by decide +kernel
theorem dX0_canBeJoined_22 : decode cX0_canBeJoined 22 = .ok (.aload_n 0, 1) := by decide +kernel
theorem dX0_canBeJoined_23 : decode cX0_canBeJoined 23 = .ok (.getfield 25, 3) := by decide +kernel
theorem dX0_canBeJoined_26 : decode cX0_canBeJoined 26 = .ok (.iload_n 3, 1) := by decide +kernel
theorem dX0_canBeJoined_27 : decode cX0_canBeJoined 27 = .ok (.iaload, 1) := by decide +kernel
theorem dX0_canBeJoined_28 : decode cX0_canBeJoined 28 = .ok (.aload_n 0, 1) := by decide +kernel
theorem dX0_canBeJoined_29 : decode cX0_canBeJoined 29 = .ok (.getfield 28, 3) := by decide +kernel
theorem dX0_canBeJoined_32 : decode cX0_canBeJoined 32 = .ok (.iload_n 3, 1) := by decide +kernel
theorem dX0_canBeJoined_33 : decode cX0_canBeJoined 33 = .ok (.iaload, 1) := by decide +kernel
theorem dX0_canBeJoined_34 : decode cX0_canBeJoined 34 = .ok (.invokevirtual 76, 3) := by decide +kernel
theorem dX0_canBeJoined_37 : decode cX0_canBeJoined 37 = .ok (.ifCond .eq 5, 3) := by decide +kernel
theorem dX0_canBeJoined_40 : decode cX0_canBeJoined 40 = .ok (.iconst 0, 1) := by decide +kernel
theorem dX0_canBeJoined_41 : decode cX0_canBeJoined 41 = .ok (.ireturn, 1) := by decide +kernel
theorem dX0_canBeJoined_42 : decode cX0_canBeJoined 42 = .ok (.iinc 3 1, 3) := by decide +kernel
theorem dX0_canBeJoined_45 : decode cX0_canBeJoined 45 = .ok (.goto (-43), 3) := by decide +kernel
theorem dX0_canBeJoined_48 : decode cX0_canBeJoined 48 = .ok (.iconst 1, 1) := by decide +kernel
theorem dX0_canBeJoined_49 : decode cX0_canBeJoined 49 = .ok (.ireturn, 1) := by decide +kernel
theorem dX0_unite_0 : decode cX0_unite 0 = .ok (.iconst 0, 1) := by decide +kernel
theorem dX0_unite_1 : decode cX0_unite 1 = .ok (.istore_n 3, 1) := by decide +kernel
theorem dX0_unite_2 : decode cX0_unite 2 = .ok (.iload_n 3, 1) := by decide +kernel
theorem dX0_unite_3 : decode cX0_unite 3 = .ok (.iconst 3, 1) := by decide +kernel
theorem dX0_unite_4 : decode cX0_unite 4 = .ok (.if_icmp .ge 56, 3) := by decide +kernel
theorem dX0_unite_7 : decode cX0_unite 7 = .ok (.aload_n 0, 1) := by decide +kernel
theorem dX0_unite_8 : decode cX0_unite 8 = .ok (.iload_n 1, 1) := by decide +kernel
theorem dX0_unite_9 : decode cX0_unite 9 = .ok (.iload_n 3, 1) := by decide +kernel
theorem dX0_unite_10 : decode cX0_unite 10 = .ok (.invokevirtual 68, 3) := by decide +kernel
theorem dX0_unite_13 : decode cX0_unite 13 = .ok (.istore 4, 2) := by decide +kernel
theorem dX0_unite_15 : decode cX0_unite 15 = .ok (.aload_n 0, 1) := by decide +kernel
theorem dX0_unite_16 : decode cX0_unite 16 = .ok (.iload_n 2, 1) := by decide +kernel
theorem dX0_unite_17 : decode cX0_unite 17 = .ok (.iload_n 3, 1) := by decide +kernel
theorem dX0_unite_18 : decode cX0_unite 18 = .ok (.invokevirtual 68, 3) := by decide +kernel
theorem dX0_unite_21 : decode cX0_unite 21 = .ok (.istore 5, 2) := by decide +kernel
theorem dX0_unite_23 : decode cX0_unite 23 = .ok (.aload_n 0, 1) := by decide +kernel
theorem dX0_unite_24 : decode cX0_unite 24 = .ok (.iload 4, 2) := by decide +kernel
theorem dX0_unite_26 : decode cX0_unite 26 = .ok (.invokevirtual 72, 3) := by decide +kernel
theorem dX0_unite_29 : decode cX0_unite 29 = .ok (.ifCond .eq 25, 3) := by decide +kernel
theorem dX0_unite_32 : decode cX0_unite 32 = .ok (.aload_n 0, 1) := by decide +kernel
theorem dX0_unite_33 : decode cX0_unite 33 = .ok (.iload 5, 2) := by decide +kernel
theorem dX0_unite_35 : decode cX0_unite 35 = .ok (.invokevirtual 72, 3) := by decide +kernel
theorem dX0_unite_38 : decode cX0_unite 38 = .ok (.ifCond .eq 16, 3) := by decide +kernel
theorem dX0_unite_41 : decode cX0_unite 41 = .ok (.aload_n 0, 1) := by decide +kernel
theorem dX0_unite_42 : decode cX0_unite 42 = .ok (.getfield 31, 3) := by decide +kernel
theorem dX0_unite_45 : decode cX0_unite 45 = .ok (.iload 4, 2) := by decide +kernel
theorem dX0_unite_47 : decode cX0_unite 47 = .ok (.iload 5, 2) := by decide +kernel
theorem dX0_unite_49 : decode cX0_unite 49 = .ok (.invokestatic 80, 3) := by decide +kernel
theorem dX0_unite_52 : decode cX0_unite 52 = .ok (.iconst 1, 1) := by decide +kernel
theorem dX0_unite_53 : decode cX0_unite 53 = .ok (.iastore, 1) := by decide +kernel
theorem dX0_unite_54 : decode cX0_unite 54 = .ok (.iinc 3 1, 3) := by decide +kernel
theorem dX0_unite_57 : decode cX0_unite 57 = .ok (.goto (-55), 3) := by decide +kernel
theorem dX0_unite_60 : decode cX0_unite 60 = .ok (.aload_n 0, 1) := by decide +kernel
theorem dX0_unite_61 : decode cX0_unite 61 = .ok (.aload_n 0, 1) := by decide +kernel
theorem dX0_unite_62 : decode cX0_unite 62 = .ok (.iload_n 2, 1) := by decide +kernel
theorem dX0_unite_63 : decode cX0_unite 63 = .ok (.invokevirtual 85, 3) := by decide +kernel
theorem dX0_unite_66 : decode cX0_unite 66 = .ok (.iload_n 1, 1) := by decide +kernel
theorem dX0_unite_67 : decode cX0_unite 67 = .ok (.invokevirtual 88, 3) := by decide +kernel
theorem dX0_unite_70 : decode cX0_unite 70 = .ok (.return_, 1) := by decide +kernel
theorem dX0_conceptsWithTerms_0 : decode cX0_conceptsWithTerms 0 = .ok (.iconst 0, 1) := by decide +kernel
theorem dX0_conceptsWithTerms_1 : decode cX0_conceptsWithTerms 1 = .ok (.istore_n 1, 1) := by decide +kernel
theorem dX0_conceptsWithTerms_2 : decode cX0_conceptsWithTerms 2 = .ok (.iconst 0, 1) := by decide +kernel
theorem dX0_conceptsWithTerms_3 : decode cX0_conceptsWithTerms 3 = .ok (.istore_n 2, 1) := by decide +kernel
theorem dX0_conceptsWithTerms_4 : decode cX0_conceptsWithTerms 4 = .ok (.iload_n 2, 1) := by decide +kernel
theorem dX0_conceptsWithTerms_5 : decode cX0_conceptsWithTerms 5 = .ok (.aload_n 0, 1) := by decide +kernel
theorem dX0_conceptsWithTerms_6 : decode cX0_conceptsWithTerms 6 = .ok (.getfield 9, 3) := by decide +kernel
theorem dX0_conceptsWithTerms_9 : decode cX0_conceptsWithTerms 9 = .ok (.if_icmp .ge 20, 3) := by decide +kernel
theorem dX0_conceptsWithTerms_12 : decode cX0_conceptsWithTerms 12 = .ok (.aload_n 0, 1) := by decide +kernel
theorem dX0_conceptsWithTerms_13 : decode cX0_conceptsWithTerms 13 = .ok (.iload_n 2, 1) := by decide +kernel
theorem dX0_conceptsWithTerms_14 : decode cX0_conceptsWithTerms 14 = .ok (.invokevirtual 85, 3) := by decide +kernel
theorem dX0_conceptsWithTerms_17 : decode cX0_conceptsWithTerms 17 = .ok (.ifCond .eq 6, 3) := by decide +kernel
theorem dX0_conceptsWithTerms_20 : decode cX0_conceptsWithTerms 20 = .ok (.iinc 1 1, 3) := by decide +kernel
theorem dX0_conceptsWithTerms_23 : decode cX0_conceptsWithTerms 23 = .ok (.iinc 2 1, 3) := by decide +kernel
theorem dX0_conceptsWithTerms_26 : decode cX0_conceptsWithTerms 26 = .ok (.goto (-22), 3) := by decide +kernel
theorem dX0_conceptsWithTerms_29 : decode cX0_conceptsWithTerms 29 = .ok (.iload_n 1, 1) := by decide +kernel
theorem dX0_conceptsWithTerms_30 : decode cX0_conceptsWithTerms 30 = .ok (.ireturn, 1) := by decide +kernel
theorem dX0_termsInState_0 : decode cX0_termsInState 0 = .ok (.iconst 0, 1) := by decide +kernel
theorem dX0_termsInState_1 : decode cX0_termsInState 1 = .ok (.istore_n 2, 1) := by decide +kernel
theorem dX0_termsInState_2 : decode cX0_termsInState 2 = .ok (.iconst 0, 1) := by decide +kernel
theorem dX0_termsInState_3 : decode cX0_termsInState 3 = .ok (.istore_n 3, 1) := by decide +kernel
theorem dX0_termsInState_4 : decode cX0_termsInState 4 = .ok (.iload_n 3, 1) := by decide +kernel
theorem dX0_termsInState_5 : decode cX0_termsInState 5 = .ok (.aload_n 0, 1) := by decide +kernel
theorem dX0_termsInState_6 : decode cX0_termsInState 6 = .ok (.getfield 15, 3) := by decide +kernel
theorem dX0_termsInState_9 : decode cX0_termsInState 9 = .ok (.if_icmp .ge 22, 3) := by decide +kernel
theorem dX0_termsInState_12 : decode cX0_termsInState 12 = .ok (.aload_n 0, 1) := by decide +kernel
theorem dX0_termsInState_13 : decode cX0_termsInState 13 = .ok (.getfield 31, 3) := by decide +kernel
theorem dX0_termsInState_16 : decode cX0_termsInState 16 = .ok (.iload_n 3, 1) := by decide +kernel
theorem dX0_termsInState_17 : decode cX0_termsInState 17 = .ok (.iaload, 1) := by decide +kernel
theorem dX0_termsInState_18 : decode cX0_termsInState 18 = .ok (.iload_n 1, 1) := by decide +kernel
theorem dX0_termsInState_19 : decode cX0_termsInState 19 = .ok (.if_icmp .ne 6, 3) := by decide +kernel
theorem dX0_termsInState_22 : decode cX0_termsInState 22 = .ok (.iinc 2 1, 3) := by decide +kernel
theorem dX0_termsInState_25 : decode cX0_termsInState 25 = .ok (.iinc 3 1, 3) := by decide +kernel
theorem dX0_termsInState_28 : decode cX0_termsInState 28 = .ok (.goto (-24), 3) := by decide +kernel
theorem dX0_termsInState_31 : decode cX0_termsInState 31 = .ok (.iload_n 2, 1) := by decide +kernel
theorem dX0_termsInState_32 : decode cX0_termsInState 32 = .ok (.ireturn, 1) := by decide +kernel
theorem dX0_canBe_0 : decode cX0_canBe 0 = .ok (.iload_n 2, 1) := by decide +kernel
theorem dX0_canBe_1 : decode cX0_canBe 1 = .ok (.iconst 4, 1) := by decide +kernel
theorem dX0_canBe_2 : decode cX0_canBe 2 = .ok (.idiv, 1) := by decide +kernel
theorem dX0_canBe_3 : decode cX0_canBe 3 = .ok (.istore_n 3, 1) := by decide +kernel
theorem dX0_canBe_4 : decode cX0_canBe 4 = .ok (.iload_n 1, 1) := by decide +kernel
theorem dX0_canBe_5 : decode cX0_canBe 5 = .ok (.iload_n 3, 1) := by decide +kernel
theorem dX0_canBe_6 : decode cX0_canBe 6 = .ok (.invokestatic 65, 3) := by decide +kernel
theorem dX0_canBe_9 : decode cX0_canBe 9 = .ok (.ifCond .eq 14, 3) := by decide +kernel
theorem dX0_canBe_12 : decode cX0_canBe 12 = .ok (.aload_n 0, 1) := by decide +kernel
theorem dX0_canBe_13 : decode cX0_canBe 13 = .ok (.getfield 48, 3) := by decide +kernel
theorem dX0_canBe_16 : decode cX0_canBe 16 = .ok (.iload_n 1, 1) := by decide +kernel
theorem dX0_canBe_17 : decode cX0_canBe 17 = .ok (.aaload, 1) := by decide +kernel
theorem dX0_canBe_18 : decode cX0_canBe 18 = .ok (.iload_n 3, 1) := by decide +kernel
theorem dX0_canBe_19 : decode cX0_canBe 19 = .ok (.iaload, 1) := by decide +kernel
theorem dX0_canBe_20 : decode cX0_canBe 20 = .ok (.goto 4, 3) := by decide +kernel
theorem dX0_canBe_23 : decode cX0_canBe 23 = .ok (.iconst 0, 1) := by decide +kernel
theorem dX0_canBe_24 : decode cX0_canBe 24 = .ok (.ireturn, 1) := by decide +kernel
theorem dX0_domainIf_0 : decode cX0_domainIf 0 = .ok (.aload_n 0, 1) := by decide +kernel
theorem dX0_domainIf_1 : decode cX0_domainIf 1 = .ok (.getfield 22, 3) := by decide +kernel
theorem dX0_domainIf_4 : decode cX0_domainIf 4 = .ok (.iload_n 1, 1) := by decide +kernel
theorem dX0_domainIf_5 : decode cX0_domainIf 5 = .ok (.iaload, 1) := by decide +kernel
theorem dX0_domainIf_6 : decode cX0_domainIf 6 = .ok (.iload_n 2, 1) := by decide +kernel
theorem dX0_domainIf_7 : decode cX0_domainIf 7 = .ok (.if_icmp .ne 7, 3) := by decide +kernel
theorem dX0_domainIf_10 : decode cX0_domainIf 10 = .ok (.iload_n 3, 1) := by decide +kernel
theorem dX0_domainIf_11 : decode cX0_domainIf 11 = .ok (.goto 9, 3) := by decide +kernel
theorem dX0_domainIf_14 : decode cX0_domainIf 14 = .ok (.aload_n 0, 1) := by decide +kernel
theorem dX0_domainIf_15 : decode cX0_domainIf 15 = .ok (.getfield 22, 3) := by decide +kernel
theorem dX0_domainIf_18 : decode cX0_domainIf 18 = .ok (.iload_n 1, 1) := by decide +kernel
theorem dX0_domainIf_19 : decode cX0_domainIf 19 = .ok (.iaload, 1) := by decide +kernel
theorem dX0_domainIf_20 : decode cX0_domainIf 20 = .ok (.istore 4, 2) := by decide +kernel
theorem dX0_domainIf_22 : decode cX0_domainIf 22 = .ok (.aload_n 0, 1) := by decide +kernel
theorem dX0_domainIf_23 : decode cX0_domainIf 23 = .ok (.iload 4, 2) := by decide +kernel
theorem dX0_domainIf_25 : decode cX0_domainIf 25 = .ok (.invokevirtual 92, 3) := by decide +kernel
theorem dX0_domainIf_28 : decode cX0_domainIf 28 = .ok (.ifCond .eq 13, 3) := by decide +kernel
theorem dX0_domainIf_31 : decode cX0_domainIf 31 = .ok (.aload_n 0, 1) := by decide +kernel
theorem dX0_domainIf_32 : decode cX0_domainIf 32 = .ok (.getfield 18, 3) := by decide +kernel
theorem dX0_domainIf_35 : decode cX0_domainIf 35 = .ok (.iload 4, 2) := by decide +kernel
theorem dX0_domainIf_37 : decode cX0_domainIf 37 = .ok (.iaload, 1) := by decide +kernel
theorem dX0_domainIf_38 : decode cX0_domainIf 38 = .ok (.goto 4, 3) := by decide +kernel
theorem dX0_domainIf_41 : decode cX0_domainIf 41 = .ok (.iconst (-1), 1) := by decide +kernel
theorem dX0_domainIf_42 : decode cX0_domainIf 42 = .ok (.ireturn, 1) := by decide +kernel
end
section
theorem dX1_init_0 : decode cX1_init 0 = .ok (.aload_n 0, 1) := by decide +kernel
theorem dX1_init_1 : decode cX1_init 1 = .ok (.invokespecial 3, 3) := by decide +kernel
theorem dX1_init_4 : decode cX1_init 4 = .ok (.aload_n 0, 1) := by decide +kernel
theorem dX1_init_5 : decode cX1_init 5 = .ok (.iconst 0, 1) := by decide +kernel
theorem dX1_init_6 : decode cX1_init 6 = .ok (.putfield 9, 3) := by decide +kernel
theorem dX1_init_9 : decode cX1_init 9 = .ok (.aload_n 0, 1) := by decide +kernel
theorem dX1_init_10 : decode cX1_init 10 = .ok (.bipush 18, 2) := by decide +kernel
theorem dX1_init_12 : decode cX1_init 12 = .ok (.newarray .int, 2) := by decide +kernel
theorem dX1_init_14 : decode cX1_init 14 = .ok (.putfield 15, 3) := by decide +kernel
theorem dX1_init_17 : decode cX1_init 17 = .ok (.aload_n 0, 1) := by decide +kernel
theorem dX1_init_18 : decode cX1_init 18 = .ok (.bipush 18, 2) := by decide +kernel
theorem dX1_init_20 : decode cX1_init 20 = .ok (.newarray .int, 2) := by decide +kernel
theorem dX1_init_22 : decode cX1_init 22 = .ok (.putfield 19, 3) := by decide +kernel
theorem dX1_init_25 : decode cX1_init 25 = .ok (.aload_n 0, 1) := by decide +kernel
theorem dX1_init_26 : decode cX1_init 26 = .ok (.bipush 18, 2) := by decide +kernel
theorem dX1_init_28 : decode cX1_init 28 = .ok (.bipush 12, 2) := by decide +kernel
theorem dX1_init_30 : decode cX1_init 30 = .ok (.multianewarray 22 2, 4) := by decide +kernel
theorem dX1_init_34 : decode cX1_init 34 = .ok (.putfield 24, 3) := by decide +kernel
theorem dX1_init_37 : decode cX1_init 37 = .ok (.aload_n 0, 1) := by decide +kernel
theorem dX1_init_38 : decode cX1_init 38 = .ok (.bipush 18, 2) := by decide +kernel
theorem dX1_init_40 : decode cX1_init 40 = .ok (.bipush 12, 2) := by decide +kernel
theorem dX1_init_42 : decode cX1_init 42 = .ok (.multianewarray 22 2, 4) := by decide +kernel
theorem dX1_init_46 : decode cX1_init 46 = .ok (.putfield 27, 3) := by decide +kernel
theorem dX1_init_49 : decode cX1_init 49 = .ok (.aload_n 0, 1) := by decide +kernel
theorem dX1_init_50 : decode cX1_init 50 = .ok (.aload_n 1, 1) := by decide +kernel
theorem dX1_init_51 : decode cX1_init 51 = .ok (.putfield 30, 3) := by decide +kernel
theorem dX1_init_54 : decode cX1_init 54 = .ok (.return_, 1) := by decide +kernel
theorem dX1_addDocument_0 : decode cX1_addDocument 0 = .ok (.aload_n 0, 1) := by decide +kernel
theorem dX1_addDocument_1 : decode cX1_addDocument 1 = .ok (.getfield 9, 3) := by decide +kernel
theorem dX1_addDocument_4 : decode cX1_addDocument 4 = .ok (.istore_n 1, 1) := by decide +kernel
theorem dX1_addDocument_5 : decode cX1_addDocument 5 = .ok (.aload_n 0, 1) := by decide +kernel
theorem dX1_addDocument_6 : decode cX1_addDocument 6 = .ok (.dup, 1) := by decide +kernel
theorem dX1_addDocument_7 : decode cX1_addDocument 7 = .ok (.getfield 9, 3) := by decide +kernel
theorem dX1_addDocument_10 : decode cX1_addDocument 10 = .ok (.iconst 1, 1) := by decide +kernel
theorem dX1_addDocument_11 : decode cX1_addDocument 11 = .ok (.iadd, 1) := by decide +kernel
theorem dX1_addDocument_12 : decode cX1_addDocument 12 = .ok (.putfield 9, 3) := by decide +kernel
theorem dX1_addDocument_15 : decode cX1_addDocument 15 = .ok (.iload_n 1, 1) := by decide +kernel
theorem dX1_addDocument_16 : decode cX1_addDocument 16 = .ok (.ireturn, 1) := by decide +kernel
theorem dX1_textCount_0 : decode cX1_textCount 0 = .ok (.aload_n 0, 1) := by decide +kernel
theorem dX1_textCount_1 : decode cX1_textCount 1 = .ok (.getfield 9, 3) := by decide +kernel
theorem dX1_textCount_4 : decode cX1_textCount 4 = .ok (.iconst 3, 1) := by decide +kernel
theorem dX1_textCount_5 : decode cX1_textCount 5 = .ok (.imul, 1) := by decide +kernel
theorem dX1_textCount_6 : decode cX1_textCount 6 = .ok (.ireturn, 1) := by decide +kernel
theorem dX1_placesToWrite_0 : decode cX1_placesToWrite 0 = .ok (.aload_n 0, 1) := by decide +kernel
theorem dX1_placesToWrite_1 : decode cX1_placesToWrite 1 = .ok (.getfield 15, 3) := by decide +kernel
theorem dX1_placesToWrite_4 : decode cX1_placesToWrite 4 = .ok (.iload_n 1, 1) := by decide +kernel
theorem dX1_placesToWrite_5 : decode cX1_placesToWrite 5 = .ok (.iaload, 1) := by decide +kernel
theorem dX1_placesToWrite_6 : decode cX1_placesToWrite 6 = .ok (.iconst 1, 1) := by decide +kernel
theorem dX1_placesToWrite_7 : decode cX1_placesToWrite 7 = .ok (.iadd, 1) := by decide +kernel
theorem dX1_placesToWrite_8 : decode cX1_placesToWrite 8 = .ok (.bipush 12, 2) := by decide +kernel
theorem dX1_placesToWrite_10 : decode cX1_placesToWrite 10 = .ok (.invokestatic 34, 3) := by decide +kernel
theorem dX1_placesToWrite_13 : decode cX1_placesToWrite 13 = .ok (.ireturn, 1) := by decide +kernel
theorem dX1_put_0 : decode cX1_put 0 = .ok (.aload_n 0, 1) := by decide +kernel
theorem dX1_put_1 : decode cX1_put 1 = .ok (.getfield 24, 3) := by decide +kernel
theorem dX1_put_4 : decode cX1_put 4 = .ok (.iload_n 1, 1) := by decide +kernel
theorem dX1_put_5 : decode cX1_put 5 = .ok (.aaload, 1) := by decide +kernel
theorem dX1_put_6 : decode cX1_put 6 = .ok (.iload_n 2, 1) := by decide +kernel
theorem dX1_put_7 : decode cX1_put 7 = .ok (.iload_n 3, 1) := by decide +kernel
theorem dX1_put_8 : decode cX1_put 8 = .ok (.iastore, 1) := by decide +kernel
theorem dX1_put_9 : decode cX1_put 9 = .ok (.iload_n 2, 1) := by decide +kernel
theorem dX1_put_10 : decode cX1_put 10 = .ok (.aload_n 0, 1) := by decide +kernel
theorem dX1_put_11 : decode cX1_put 11 = .ok (.getfield 15, 3) := by decide +kernel
theorem dX1_put_14 : decode cX1_put 14 = .ok (.iload_n 1, 1) := by decide +kernel
theorem dX1_put_15 : decode cX1_put 15 = .ok (.iaload, 1) := by decide +kernel
theorem dX1_put_16 : decode cX1_put 16 = .ok (.if_icmp .ne 13, 3) := by decide +kernel
theorem dX1_put_19 : decode cX1_put 19 = .ok (.aload_n 0, 1) := by decide +kernel
theorem dX1_put_20 : decode cX1_put 20 = .ok (.getfield 15, 3) := by decide +kernel
theorem dX1_put_23 : decode cX1_put 23 = .ok (.iload_n 1, 1) := by decide +kernel
theorem dX1_put_24 : decode cX1_put 24 = .ok (.dup2, 1) := by decide +kernel
theorem dX1_put_25 : decode cX1_put 25 = .ok (.iaload, 1) := by decide +kernel
theorem dX1_put_26 : decode cX1_put 26 = .ok (.iconst 1, 1) := by decide +kernel
theorem dX1_put_27 : decode cX1_put 27 = .ok (.iadd, 1) := by decide +kernel
theorem dX1_put_28 : decode cX1_put 28 = .ok (.iastore, 1) := by decide +kernel
theorem dX1_put_29 : decode cX1_put 29 = .ok (.aload_n 0, 1) := by decide +kernel
theorem dX1_put_30 : decode cX1_put 30 = .ok (.getfield 19, 3) := by decide +kernel
theorem dX1_put_33 : decode cX1_put 33 = .ok (.iload_n 1, 1) := by decide +kernel
theorem dX1_put_34 : decode cX1_put 34 = .ok (.iconst 0, 1) := by decide +kernel
theorem dX1_put_35 : decode cX1_put 35 = .ok (.iastore, 1) := by decide +kernel
theorem dX1_put_36 : decode cX1_put 36 = .ok (.aload_n 0, 1) := by decide +kernel
theorem dX1_put_37 : decode cX1_put 37 = .ok (.iload_n 1, 1) := by decide +kernel
theorem dX1_put_38 : decode cX1_put 38 = .ok (.invokevirtual 40, 3) := by decide +kernel
theorem dX1_put_41 : decode cX1_put 41 = .ok (.aload_n 0, 1) := by decide +kernel
theorem dX1_put_42 : decode cX1_put 42 = .ok (.getfield 15, 3) := by decide +kernel
theorem dX1_put_45 : decode cX1_put 45 = .ok (.iload_n 1, 1) := by decide +kernel
theorem dX1_put_46 : decode cX1_put 46 = .ok (.iaload, 1) := by decide +kernel
theorem dX1_put_47 : decode cX1_put 47 = .ok (.ireturn, 1) := by decide +kernel
theorem dX1_dropLast_0 : decode cX1_dropLast 0 = .ok (.aload_n 0, 1) := by decide +kernel
theorem dX1_dropLast_1 : decode cX1_dropLast 1 = .ok (.getfield 15, 3) := by decide +kernel
theorem dX1_dropLast_4 : decode cX1_dropLast 4 = .ok (.iload_n 1, 1) := by decide +kernel
theorem dX1_dropLast_5 : decode cX1_dropLast 5 = .ok (.dup2, 1) := by decide +kernel
theorem dX1_dropLast_6 : decode cX1_dropLast 6 = .ok (.iaload, 1) := by decide +kernel
theorem dX1_dropLast_7 : decode cX1_dropLast 7 = .ok (.iconst 1, 1) := by decide +kernel
theorem dX1_dropLast_8 : decode cX1_dropLast 8 = .ok (.isub, 1) := by decide +kernel
theorem dX1_dropLast_9 : decode cX1_dropLast 9 = .ok (.iastore, 1) := by decide +kernel
theorem dX1_dropLast_10 : decode cX1_dropLast 10 = .ok (.aload_n 0, 1) := by decide +kernel
theorem dX1_dropLast_11 : decode cX1_dropLast 11 = .ok (.getfield 19, 3) := by decide +kernel
theorem dX1_dropLast_14 : decode cX1_dropLast 14 = .ok (.iload_n 1, 1) := by decide +kernel
theorem dX1_dropLast_15 : decode cX1_dropLast 15 = .ok (.iconst 0, 1) := by decide +kernel
theorem dX1_dropLast_16 : decode cX1_dropLast 16 = .ok (.iastore, 1) := by decide +kernel
theorem dX1_dropLast_17 : decode cX1_dropLast 17 = .ok (.aload_n 0, 1) := by decide +kernel
theorem dX1_dropLast_18 : decode cX1_dropLast 18 = .ok (.iload_n 1, 1) := by decide +kernel
theorem dX1_dropLast_19 : decode cX1_dropLast 19 = .ok (.invokevirtual 40, 3) := by decide +kernel
theorem dX1_dropLast_22 : decode cX1_dropLast 22 = .ok (.aload_n 0, 1) := by decide +kernel
theorem dX1_dropLast_23 : decode cX1_dropLast 23 = .ok (.getfield 24, 3) := by decide +kernel
theorem dX1_dropLast_26 : decode cX1_dropLast 26 = .ok (.iload_n 1, 1) := by decide +kernel
theorem dX1_dropLast_27 : decode cX1_dropLast 27 = .ok (.aaload, 1) := by decide +kernel
theorem dX1_dropLast_28 : decode cX1_dropLast 28 = .ok (.aload_n 0, 1) := by decide +kernel
theorem dX1_dropLast_29 : decode cX1_dropLast 29 = .ok (.getfield 15, 3) := by decide +kernel
theorem dX1_dropLast_32 : decode cX1_dropLast 32 = .ok (.iload_n 1, 1) := by decide +kernel
theorem dX1_dropLast_33 : decode cX1_dropLast 33 = .ok (.iaload, 1) := by decide +kernel
theorem dX1_dropLast_34 : decode cX1_dropLast 34 = .ok (.iaload, 1) := by decide +kernel
theorem dX1_dropLast_35 : decode cX1_dropLast 35 = .ok (.ireturn, 1) := by decide +kernel
theorem dX1_read_0 : decode cX1_read 0 = .ok (.iconst 0, 1) := by decide +kernel
theorem dX1_read_1 : decode cX1_read 1 = .ok (.istore_n 2, 1) := by decide +kernel
theorem dX1_read_2 : decode cX1_read 2 = .ok (.iload_n 2, 1) := by decide +kernel
theorem dX1_read_3 : decode cX1_read 3 = .ok (.aload_n 0, 1) := by decide +kernel
theorem dX1_read_4 : decode cX1_read 4 = .ok (.getfield 15, 3) := by decide +kernel
theorem dX1_read_7 : decode cX1_read 7 = .ok (.iload_n 1, 1) := by decide +kernel
theorem dX1_read_8 : decode cX1_read 8 = .ok (.iaload, 1) := by decide +kernel
theorem dX1_read_9 : decode cX1_read 9 = .ok (.if_icmp .ge 33, 3) := by decide +kernel
theorem dX1_read_12 : decode cX1_read 12 = .ok (.aload_n 0, 1) := by decide +kernel
theorem dX1_read_13 : decode cX1_read 13 = .ok (.getfield 27, 3) := by decide +kernel
theorem dX1_read_16 : decode cX1_read 16 = .ok (.iload_n 1, 1) := by decide +kernel
theorem dX1_read_17 : decode cX1_read 17 = .ok (.aaload, 1) := by decide +kernel
theorem dX1_read_18 : decode cX1_read 18 = .ok (.iload_n 2, 1) := by decide +kernel
theorem dX1_read_19 : decode cX1_read 19 = .ok (.aload_n 0, 1) := by decide +kernel
theorem dX1_read_20 : decode cX1_read 20 = .ok (.iload_n 1, 1) := by decide +kernel
theorem dX1_read_21 : decode cX1_read 21 = .ok (.iload_n 2, 1) := by decide +kernel
theorem dX1_read_22 : decode cX1_read 22 = .ok (.aload_n 0, 1) := by decide +kernel
theorem dX1_read_23 : decode cX1_read 23 = .ok (.getfield 24, 3) := by decide +kernel
theorem dX1_read_26 : decode cX1_read 26 = .ok (.iload_n 1, 1) := by decide +kernel
theorem dX1_read_27 : decode cX1_read 27 = .ok (.aaload, 1) := by decide +kernel
theorem dX1_read_28 : decode cX1_read 28 = .ok (.iload_n 2, 1) := by decide +kernel
theorem dX1_read_29 : decode cX1_read 29 = .ok (.iaload, 1) := by decide +kernel
theorem dX1_read_30 : decode cX1_read 30 = .ok (.iconst (-1), 1) := by decide +kernel
theorem dX1_read_31 : decode cX1_read 31 = .ok (.iconst (-1), 1) := by decide +kernel
theorem dX1_read_32 : decode cX1_read 32 = .ok (.invokevirtual 44, 3) := by decide +kernel
theorem dX1_read_35 : decode cX1_read 35 = .ok (.iastore, 1) := by decide +kernel
theorem dX1_read_36 : decode cX1_read 36 = .ok (.iinc 2 1, 3) := by decide +kernel
theorem dX1_read_39 : decode cX1_read 39 = .ok (.goto (-37), 3) := by decide +kernel
theorem dX1_read_42 : decode cX1_read 42 = .ok (.return_, 1) := by decide +kernel
theorem dX1_useOf_0 : decode cX1_useOf 0 = .ok (.aload_n 0, 1) := by decide +kernel
theorem dX1_useOf_1 : decode cX1_useOf 1 = .ok (.getfield 30, 3) := by decide +kernel
theorem dX1_useOf_4 : decode cX1_useOf 4 = .ok (.iload_n 1, 1) := by decide +kernel
theorem dX1_useOf_5 : decode cX1_useOf 5 = .ok (.iconst 3, 1) := by decide +kernel
theorem dX1_useOf_6 : decode cX1_useOf 6 = .ok (.irem, 1) := by decide +kernel
theorem dX1_useOf_7 : decode cX1_useOf 7 = .ok (.iload_n 3, 1) := by decide +kernel
theorem dX1_useOf_8 : decode cX1_useOf 8 = .ok (.invokevirtual 48, 3) := by decide +kernel
theorem dX1_useOf_11 : decode cX1_useOf 11 = .ok (.istore 6, 2) := by decide +kernel
theorem dX1_useOf_13 : decode cX1_useOf 13 = .ok (.iload 6, 2) := by decide +kernel
theorem dX1_useOf_15 : decode cX1_useOf 15 = .ok (.invokestatic 53, 3) := by decide +kernel
theorem dX1_useOf_18 : decode cX1_useOf 18 = .ok (.iconst 2, 1) := by decide +kernel
theorem dX1_useOf_19 : decode cX1_useOf 19 = .ok (.if_icmp .ge 9, 3) := by decide +kernel
theorem dX1_useOf_22 : decode cX1_useOf 22 = .ok (.iload 6, 2) := by decide +kernel
theorem dX1_useOf_24 : decode cX1_useOf 24 = .ok (.invokestatic 59, 3) := by decide +kernel
theorem dX1_useOf_27 : decode cX1_useOf 27 = .ok (.ireturn, 1) := by decide +kernel
theorem dX1_useOf_28 : decode cX1_useOf 28 = .ok (.iconst (-1), 1) := by decide +kernel
theorem dX1_useOf_29 : decode cX1_useOf 29 = .ok (.istore 7, 2) := by decide +kernel
theorem dX1_useOf_31 : decode cX1_useOf 31 = .ok (.iconst (-1), 1) := by decide +kernel
theorem dX1_useOf_32 : decode cX1_useOf 32 = .ok (.istore 8, 2) := by decide +kernel
theorem dX1_useOf_34 : decode cX1_useOf 34 = .ok (.iconst 0, 1) := by decide +kernel
theorem dX1_useOf_35 : decode cX1_useOf 35 = .ok (.istore 9, 2) := by decide +kernel
theorem dX1_useOf_37 : decode cX1_useOf 37 = .ok (.iload 9, 2) := by decide +kernel
theorem dX1_useOf_39 : decode cX1_useOf 39 = .ok (.aload_n 0, 1) := by decide +kernel
theorem dX1_useOf_40 : decode cX1_useOf 40 = .ok (.getfield 30, 3) := by decide +kernel
theorem dX1_useOf_43 : decode cX1_useOf 43 = .ok (.getfield 62, 3) := by decide +kernel
theorem dX1_useOf_46 : decode cX1_useOf 46 = .ok (.if_icmp .ge 48, 3) := by decide +kernel
theorem dX1_useOf_49 : decode cX1_useOf 49 = .ok (.iload 6, 2) := by decide +kernel
theorem dX1_useOf_51 : decode cX1_useOf 51 = .ok (.iload 9, 2) := by decide +kernel
theorem dX1_useOf_53 : decode cX1_useOf 53 = .ok (.invokestatic 65, 3) := by decide +kernel
theorem dX1_useOf_56 : decode cX1_useOf 56 = .ok (.ifCond .eq 32, 3) := by decide +kernel
theorem dX1_useOf_59 : decode cX1_useOf 59 = .ok (.aload_n 0, 1) := by decide +kernel
theorem dX1_useOf_60 : decode cX1_useOf 60 = .ok (.iload 9, 2) := by decide +kernel
theorem dX1_useOf_62 : decode cX1_useOf 62 = .ok (.iload_n 1, 1) := by decide +kernel
theorem dX1_useOf_63 : decode cX1_useOf 63 = .ok (.iload_n 2, 1) := by decide +kernel
theorem dX1_useOf_64 : decode cX1_useOf 64 = .ok (.iload 4, 2) := by decide +kernel
theorem dX1_useOf_66 : decode cX1_useOf 66 = .ok (.iload 5, 2) := by decide +kernel
theorem dX1_useOf_68 : decode cX1_useOf 68 = .ok (.invokevirtual 69, 3) := by decide +kernel
theorem dX1_useOf_71 : decode cX1_useOf 71 = .ok (.istore 10, 2) := by decide +kernel
theorem dX1_useOf_73 : decode cX1_useOf 73 = .ok (.iload 10, 2) := by decide +kernel
theorem dX1_useOf_75 : decode cX1_useOf 75 = .ok (.iload 8, 2) := by decide +kernel
theorem dX1_useOf_77 : decode cX1_useOf 77 = .ok (.if_icmp .le 11, 3) := by decide +kernel
theorem dX1_useOf_80 : decode cX1_useOf 80 = .ok (.iload 9, 2) := by decide +kernel
theorem dX1_useOf_82 : decode cX1_useOf 82 = .ok (.istore 7, 2) := by decide +kernel
theorem dX1_useOf_84 : decode cX1_useOf 84 = .ok (.iload 10, 2) := by decide +kernel
theorem dX1_useOf_86 : decode cX1_useOf 86 = .ok (.istore 8, 2) := by decide +kernel
theorem dX1_useOf_88 : decode cX1_useOf 88 = .ok (.iinc 9 1, 3) := by decide +kernel
theorem dX1_useOf_91 : decode cX1_useOf 91 = .ok (.goto (-54), 3) := by decide +kernel
theorem dX1_useOf_94 : decode cX1_useOf 94 = .ok (.iload 7, 2) := by decide +kernel
theorem dX1_useOf_96 : decode cX1_useOf 96 = .ok (.ireturn, 1) := by decide +kernel
theorem dX1_supportFor_0 : decode cX1_supportFor 0 = .ok (.aload_n 0, 1) := by decide +kernel
theorem dX1_supportFor_1 : decode cX1_supportFor 1 = .ok (.getfield 30, 3) := by decide +kernel
theorem dX1_supportFor_4 : decode cX1_supportFor 4 = .ok (.iload_n 1, 1) := by decide +kernel
theorem dX1_supportFor_5 : decode cX1_supportFor 5 = .ok (.iload 4, 2) := by decide +kernel
theorem dX1_supportFor_7 : decode cX1_supportFor 7 = .ok (.iload 5, 2) := by decide +kernel
theorem dX1_supportFor_9 : decode cX1_supportFor 9 = .ok (.invokevirtual 72, 3) := by decide +kernel
theorem dX1_supportFor_12 : decode cX1_supportFor 12 = .ok (.istore 6, 2) := by decide +kernel
theorem dX1_supportFor_14 : decode cX1_supportFor 14 = .ok (.iload_n 3, 1) := by decide +kernel
theorem dX1_supportFor_15 : decode cX1_supportFor 15 = .ok (.iconst 3, 1) := by decide +kernel
theorem dX1_supportFor_16 : decode cX1_supportFor 16 = .ok (.iadd, 1) := by decide +kernel
theorem dX1_supportFor_17 : decode cX1_supportFor 17 = .ok (.aload_n 0, 1) := by decide +kernel
theorem dX1_supportFor_18 : decode cX1_supportFor 18 = .ok (.getfield 15, 3) := by decide +kernel
theorem dX1_supportFor_21 : decode cX1_supportFor 21 = .ok (.iload_n 2, 1) := by decide +kernel
theorem dX1_supportFor_22 : decode cX1_supportFor 22 = .ok (.iaload, 1) := by decide +kernel
theorem dX1_supportFor_23 : decode cX1_supportFor 23 = .ok (.iconst 1, 1) := by decide +kernel
theorem dX1_supportFor_24 : decode cX1_supportFor 24 = .ok (.isub, 1) := by decide +kernel
theorem dX1_supportFor_25 : decode cX1_supportFor 25 = .ok (.invokestatic 34, 3) := by decide +kernel
theorem dX1_supportFor_28 : decode cX1_supportFor 28 = .ok (.istore 7, 2) := by decide +kernel
theorem dX1_supportFor_30 : decode cX1_supportFor 30 = .ok (.iconst 0, 1) := by decide +kernel
theorem dX1_supportFor_31 : decode cX1_supportFor 31 = .ok (.istore 8, 2) := by decide +kernel
theorem dX1_supportFor_33 : decode cX1_supportFor 33 = .ok (.iload_n 3, 1) := by decide +kernel
theorem dX1_supportFor_34 : decode cX1_supportFor 34 = .ok (.iconst 3, 1) := by decide +kernel
theorem dX1_supportFor_35 : decode cX1_supportFor 35 = .ok (.isub, 1) := by decide +kernel
theorem dX1_supportFor_36 : decode cX1_supportFor 36 = .ok (.iconst 0, 1) := by decide +kernel
theorem dX1_supportFor_37 : decode cX1_supportFor 37 = .ok (.invokestatic 76, 3) := by decide +kernel
theorem dX1_supportFor_40 : decode cX1_supportFor 40 = .ok (.istore 9, 2) := by decide +kernel
theorem dX1_supportFor_42 : decode cX1_supportFor 42 = .ok (.iload 9, 2) := by decide +kernel
theorem dX1_supportFor_44 : decode cX1_supportFor 44 = .ok (.iload 7, 2) := by decide +kernel
theorem dX1_supportFor_46 : decode cX1_supportFor 46 = .ok (.if_icmp .gt 72, 3) := by decide +kernel
theorem dX1_supportFor_49 : decode cX1_supportFor 49 = .ok (.aload_n 0, 1) := by decide +kernel
theorem dX1_supportFor_50 : decode cX1_supportFor 50 = .ok (.getfield 30, 3) := by decide +kernel
theorem dX1_supportFor_53 : decode cX1_supportFor 53 = .ok (.iload_n 2, 1) := by decide +kernel
theorem dX1_supportFor_54 : decode cX1_supportFor 54 = .ok (.iconst 3, 1) := by decide +kernel
theorem dX1_supportFor_55 : decode cX1_supportFor 55 = .ok (.irem, 1) := by decide +kernel
theorem dX1_supportFor_56 : decode cX1_supportFor 56 = .ok (.aload_n 0, 1) := by decide +kernel
theorem dX1_supportFor_57 : decode cX1_supportFor 57 = .ok (.getfield 24, 3) := by decide +kernel
theorem dX1_supportFor_60 : decode cX1_supportFor 60 = .ok (.iload_n 2, 1) := by decide +kernel
theorem dX1_supportFor_61 : decode cX1_supportFor 61 = .ok (.aaload, 1) := by decide +kernel
theorem dX1_supportFor_62 : decode cX1_supportFor 62 = .ok (.iload 9, 2) := by decide +kernel
theorem dX1_supportFor_64 : decode cX1_supportFor 64 = .ok (.iaload, 1) := by decide +kernel
theorem dX1_supportFor_65 : decode cX1_supportFor 65 = .ok (.invokevirtual 48, 3) := by decide +kernel
theorem dX1_supportFor_68 : decode cX1_supportFor 68 = .ok (.invokestatic 59, 3) := by decide +kernel
theorem dX1_supportFor_71 : decode cX1_supportFor 71 = .ok (.istore 10, 2) := by decide +kernel
theorem dX1_supportFor_73 : decode cX1_supportFor 73 = .ok (.iload 9, 2) := by decide +kernel
theorem dX1_supportFor_75 : decode cX1_supportFor 75 = .ok (.iload_n 3, 1) := by decide +kernel
theorem dX1_supportFor_76 : decode cX1_supportFor 76 = .ok (.if_icmp .eq 36, 3) := by decide +kernel
theorem dX1_supportFor_79 : decode cX1_supportFor 79 = .ok (.aload_n 0, 1) := by decide +kernel
theorem dX1_supportFor_80 : decode cX1_supportFor 80 = .ok (.getfield 30, 3) := by decide +kernel
theorem dX1_supportFor_83 : decode cX1_supportFor 83 = .ok (.iload 10, 2) := by decide +kernel
theorem dX1_supportFor_85 : decode cX1_supportFor 85 = .ok (.invokevirtual 79, 3) := by decide +kernel
theorem dX1_supportFor_88 : decode cX1_supportFor 88 = .ok (.ifCond .eq 24, 3) := by decide +kernel
theorem dX1_supportFor_91 : decode cX1_supportFor 91 = .ok (.aload_n 0, 1) := by decide +kernel
theorem dX1_supportFor_92 : decode cX1_supportFor 92 = .ok (.getfield 30, 3) := by decide +kernel
theorem dX1_supportFor_95 : decode cX1_supportFor 95 = .ok (.iload 10, 2) := by decide +kernel
theorem dX1_supportFor_97 : decode cX1_supportFor 97 = .ok (.iload 4, 2) := by decide +kernel
theorem dX1_supportFor_99 : decode cX1_supportFor 99 = .ok (.iload 5, 2) := by decide +kernel
theorem dX1_supportFor_101 : decode cX1_supportFor 101 = .ok (.invokevirtual 72, 3) := by decide +kernel
theorem dX1_supportFor_104 : decode cX1_supportFor 104 = .ok (.iload 6, 2) := by decide +kernel
theorem dX1_supportFor_106 : decode cX1_supportFor 106 = .ok (.if_icmp .ne 6, 3) := by decide +kernel
theorem dX1_supportFor_109 : decode cX1_supportFor 109 = .ok (.iinc 8 1, 3) := by decide +kernel
theorem dX1_supportFor_112 : decode cX1_supportFor 112 = .ok (.iinc 9 1, 3) := by decide +kernel
theorem dX1_supportFor_115 : decode cX1_supportFor 115 = .ok (.goto (-73), 3) := by decide +kernel
theorem dX1_supportFor_118 : decode cX1_supportFor 118 = .ok (.iload 8, 2) := by decide +kernel
theorem dX1_supportFor_120 : decode cX1_supportFor 120 = .ok (.ireturn, 1) := by decide +kernel
theorem dX1_onlyOneOf_0 : decode cX1_onlyOneOf 0 = .ok (.iload_n 0, 1) := by decide +kernel
theorem dX1_onlyOneOf_1 : decode cX1_onlyOneOf 1 = .ok (.invokestatic 53, 3) := by decide +kernel
theorem dX1_onlyOneOf_4 : decode cX1_onlyOneOf 4 = .ok (.iconst 1, 1) := by decide +kernel
theorem dX1_onlyOneOf_5 : decode cX1_onlyOneOf 5 = .ok (.if_icmp .ne 12, 3) := by decide +kernel
theorem dX1_onlyOneOf_8 : decode cX1_onlyOneOf 8 = .ok (.iload_n 0, 1) := by decide +kernel
theorem dX1_onlyOneOf_9 : decode cX1_onlyOneOf 9 = .ok (.iconst 1, 1) := by decide +kernel
theorem dX1_onlyOneOf_10 : decode cX1_onlyOneOf 10 = .ok (.isub, 1) := by decide +kernel
theorem dX1_onlyOneOf_11 : decode cX1_onlyOneOf 11 = .ok (.invokestatic 53, 3) := by decide +kernel
theorem dX1_onlyOneOf_14 : decode cX1_onlyOneOf 14 = .ok (.goto 4, 3) := by decide +kernel
theorem dX1_onlyOneOf_17 : decode cX1_onlyOneOf 17 = .ok (.iconst (-1), 1) := by decide +kernel
theorem dX1_onlyOneOf_18 : decode cX1_onlyOneOf 18 = .ok (.ireturn, 1) := by decide +kernel
theorem dX1_usesChangedByMoving_0 : decode cX1_usesChangedByMoving 0 = .ok (.iconst 0, 1) := by decide +kernel
theorem dX1_usesChangedByMoving_1 : decode cX1_usesChangedByMoving 1 = .ok (.istore_n 3, 1) := by decide +kernel
theorem dX1_usesChangedByMoving_2 : decode cX1_usesChangedByMoving 2 = .ok (.iconst 0, 1) := by decide +kernel
theorem dX1_usesChangedByMoving_3 : decode cX1_usesChangedByMoving 3 = .ok (.istore 4, 2) := by decide +kernel
theorem dX1_usesChangedByMoving_5 : decode cX1_usesChangedByMoving 5 = .ok (.iload 4, 2) := by decide +kernel
theorem dX1_usesChangedByMoving_7 : decode cX1_usesChangedByMoving 7 = .ok (.aload_n 0, 1) := by decide +kernel
theorem dX1_usesChangedByMoving_8 : decode cX1_usesChangedByMoving 8 = .ok (.invokevirtual 83, 3) := by decide +kernel
theorem dX1_usesChangedByMoving_11 : decode cX1_usesChangedByMoving 11 = .ok (.if_icmp .ge 66, 3) := by decide +kernel
theorem dX1_usesChangedByMoving_14 : decode cX1_usesChangedByMoving 14 = .ok (.iconst 0, 1) := by decide +kernel
theorem dX1_usesChangedByMoving_15 : decode cX1_usesChangedByMoving 15 = .ok (.istore 5, 2) := by decide +kernel
theorem dX1_usesChangedByMoving_17 : decode cX1_usesChangedByMoving 17 = .ok (.iload 5, 2) := by decide +kernel
theorem dX1_usesChangedByMoving_19 : decode cX1_usesChangedByMoving 19 = .ok (.aload_n 0, 1) := by decide +kernel
theorem dX1_usesChangedByMoving_20 : decode cX1_usesChangedByMoving 20 = .ok (.getfield 15, 3) := by decide +kernel
theorem dX1_usesChangedByMoving_23 : decode cX1_usesChangedByMoving 23 = .ok (.iload 4, 2) := by decide +kernel
theorem dX1_usesChangedByMoving_25 : decode cX1_usesChangedByMoving 25 = .ok (.iaload, 1) := by decide +kernel
theorem dX1_usesChangedByMoving_26 : decode cX1_usesChangedByMoving 26 = .ok (.if_icmp .ge 45, 3) := by decide +kernel
theorem dX1_usesChangedByMoving_29 : decode cX1_usesChangedByMoving 29 = .ok (.aload_n 0, 1) := by decide +kernel
theorem dX1_usesChangedByMoving_30 : decode cX1_usesChangedByMoving 30 = .ok (.iload 4, 2) := by decide +kernel
theorem dX1_usesChangedByMoving_32 : decode cX1_usesChangedByMoving 32 = .ok (.iload 5, 2) := by decide +kernel
theorem dX1_usesChangedByMoving_34 : decode cX1_usesChangedByMoving 34 = .ok (.aload_n 0, 1) := by decide +kernel
theorem dX1_usesChangedByMoving_35 : decode cX1_usesChangedByMoving 35 = .ok (.getfield 24, 3) := by decide +kernel
theorem dX1_usesChangedByMoving_38 : decode cX1_usesChangedByMoving 38 = .ok (.iload 4, 2) := by decide +kernel
theorem dX1_usesChangedByMoving_40 : decode cX1_usesChangedByMoving 40 = .ok (.aaload, 1) := by decide +kernel
theorem dX1_usesChangedByMoving_41 : decode cX1_usesChangedByMoving 41 = .ok (.iload 5, 2) := by decide +kernel
theorem dX1_usesChangedByMoving_43 : decode cX1_usesChangedByMoving 43 = .ok (.iaload, 1) := by decide +kernel
theorem dX1_usesChangedByMoving_44 : decode cX1_usesChangedByMoving 44 = .ok (.iload_n 1, 1) := by decide +kernel
theorem dX1_usesChangedByMoving_45 : decode cX1_usesChangedByMoving 45 = .ok (.iload_n 2, 1) := by decide +kernel
theorem dX1_usesChangedByMoving_46 : decode cX1_usesChangedByMoving 46 = .ok (.invokevirtual 44, 3) := by decide +kernel
theorem dX1_usesChangedByMoving_49 : decode cX1_usesChangedByMoving 49 = .ok (.aload_n 0, 1) := by decide +kernel
theorem dX1_usesChangedByMoving_50 : decode cX1_usesChangedByMoving 50 = .ok (.getfield 27, 3) := by decide +kernel
theorem dX1_usesChangedByMoving_53 : decode cX1_usesChangedByMoving 53 = .ok (.iload 4, 2) := by decide +kernel
theorem dX1_usesChangedByMoving_55 : decode cX1_usesChangedByMoving 55 = .ok (.aaload, 1) := by decide +kernel
theorem dX1_usesChangedByMoving_56 : decode cX1_usesChangedByMoving 56 = .ok (.iload 5, 2) := by decide +kernel
theorem dX1_usesChangedByMoving_58 : decode cX1_usesChangedByMoving 58 = .ok (.iaload, 1) := by decide +kernel
theorem dX1_usesChangedByMoving_59 : decode cX1_usesChangedByMoving 59 = .ok (.if_icmp .eq 6, 3) := by decide +kernel
theorem dX1_usesChangedByMoving_62 : decode cX1_usesChangedByMoving 62 = .ok (.iinc 3 1, 3) := by decide +kernel
theorem dX1_usesChangedByMoving_65 : decode cX1_usesChangedByMoving 65 = .ok (.iinc 5 1, 3) := by decide +kernel
theorem dX1_usesChangedByMoving_68 : decode cX1_usesChangedByMoving 68 = .ok (.goto (-51), 3) := by decide +kernel
theorem dX1_usesChangedByMoving_71 : decode cX1_usesChangedByMoving 71 = .ok (.iinc 4 1, 3) := by decide +kernel
theorem dX1_usesChangedByMoving_74 : decode cX1_usesChangedByMoving 74 = .ok (.goto (-69), 3) := by decide +kernel
theorem dX1_usesChangedByMoving_77 : decode cX1_usesChangedByMoving 77 = .ok (.iload_n 3, 1) := by decide +kernel
theorem dX1_usesChangedByMoving_78 : decode cX1_usesChangedByMoving 78 = .ok (.ireturn, 1) := by decide +kernel
theorem dX1_usesAmongIn_0 : decode cX1_usesAmongIn 0 = .ok (.iconst 0, 1) := by decide +kernel
theorem dX1_usesAmongIn_1 : decode cX1_usesAmongIn 1 = .ok (.istore_n 3, 1) := by decide +kernel
theorem dX1_usesAmongIn_2 : decode cX1_usesAmongIn 2 = .ok (.iconst 0, 1) := by decide +kernel
theorem dX1_usesAmongIn_3 : decode cX1_usesAmongIn 3 = .ok (.istore 4, 2) := by decide +kernel
theorem dX1_usesAmongIn_5 : decode cX1_usesAmongIn 5 = .ok (.iload 4, 2) := by decide +kernel
theorem dX1_usesAmongIn_7 : decode cX1_usesAmongIn 7 = .ok (.aload_n 0, 1) := by decide +kernel
theorem dX1_usesAmongIn_8 : decode cX1_usesAmongIn 8 = .ok (.getfield 15, 3) := by decide +kernel
theorem dX1_usesAmongIn_11 : decode cX1_usesAmongIn 11 = .ok (.iload_n 1, 1) := by decide +kernel
theorem dX1_usesAmongIn_12 : decode cX1_usesAmongIn 12 = .ok (.iaload, 1) := by decide +kernel
theorem dX1_usesAmongIn_13 : decode cX1_usesAmongIn 13 = .ok (.if_icmp .ge 38, 3) := by decide +kernel
theorem dX1_usesAmongIn_16 : decode cX1_usesAmongIn 16 = .ok (.aload_n 0, 1) := by decide +kernel
theorem dX1_usesAmongIn_17 : decode cX1_usesAmongIn 17 = .ok (.getfield 27, 3) := by decide +kernel
theorem dX1_usesAmongIn_20 : decode cX1_usesAmongIn 20 = .ok (.iload_n 1, 1) := by decide +kernel
theorem dX1_usesAmongIn_21 : decode cX1_usesAmongIn 21 = .ok (.aaload, 1) := by decide +kernel
theorem dX1_usesAmongIn_22 : decode cX1_usesAmongIn 22 = .ok (.iload 4, 2) := by decide +kernel
theorem dX1_usesAmongIn_24 : decode cX1_usesAmongIn 24 = .ok (.iaload, 1) := by decide +kernel
theorem dX1_usesAmongIn_25 : decode cX1_usesAmongIn 25 = .ok (.istore 5, 2) := by decide +kernel
theorem dX1_usesAmongIn_27 : decode cX1_usesAmongIn 27 = .ok (.iload 5, 2) := by decide +kernel
theorem dX1_usesAmongIn_29 : decode cX1_usesAmongIn 29 = .ok (.iconst (-1), 1) := by decide +kernel
theorem dX1_usesAmongIn_30 : decode cX1_usesAmongIn 30 = .ok (.if_icmp .eq 15, 3) := by decide +kernel
theorem dX1_usesAmongIn_33 : decode cX1_usesAmongIn 33 = .ok (.iload_n 2, 1) := by decide +kernel
theorem dX1_usesAmongIn_34 : decode cX1_usesAmongIn 34 = .ok (.iload 5, 2) := by decide +kernel
theorem dX1_usesAmongIn_36 : decode cX1_usesAmongIn 36 = .ok (.invokestatic 65, 3) := by decide +kernel
theorem dX1_usesAmongIn_39 : decode cX1_usesAmongIn 39 = .ok (.ifCond .eq 6, 3) := by decide +kernel
theorem dX1_usesAmongIn_42 : decode cX1_usesAmongIn 42 = .ok (.iinc 3 1, 3) := by decide +kernel
theorem dX1_usesAmongIn_45 : decode cX1_usesAmongIn 45 = .ok (.iinc 4 1, 3) := by decide +kernel
theorem dX1_usesAmongIn_48 : decode cX1_usesAmongIn 48 = .ok (.goto (-43), 3) := by decide +kernel
theorem dX1_usesAmongIn_51 : decode cX1_usesAmongIn 51 = .ok (.iload_n 3, 1) := by decide +kernel
theorem dX1_usesAmongIn_52 : decode cX1_usesAmongIn 52 = .ok (.ireturn, 1) := by decide +kernel
theorem dX1_isUseInState_0 : decode cX1_isUseInState 0 = .ok (.aload_n 0, 1) := by decide +kernel
theorem dX1_isUseInState_1 : decode cX1_isUseInState 1 = .ok (.getfield 27, 3) := by decide +kernel
theorem dX1_isUseInState_4 : decode cX1_isUseInState 4 = .ok (.iload_n 1, 1) := by decide +kernel
theorem dX1_isUseInState_5 : decode cX1_isUseInState 5 = .ok (.aaload, 1) := by decide +kernel
theorem dX1_isUseInState_6 : decode cX1_isUseInState 6 = .ok (.iload_n 2, 1) := by decide +kernel
theorem dX1_isUseInState_7 : decode cX1_isUseInState 7 = .ok (.iaload, 1) := by decide +kernel
theorem dX1_isUseInState_8 : decode cX1_isUseInState 8 = .ok (.istore 4, 2) := by decide +kernel
theorem dX1_isUseInState_10 : decode cX1_isUseInState 10 = .ok (.aload_n 0, 1) := by decide +kernel
theorem dX1_isUseInState_11 : decode cX1_isUseInState 11 = .ok (.getfield 30, 3) := by decide +kernel
theorem dX1_isUseInState_14 : decode cX1_isUseInState 14 = .ok (.iload 4, 2) := by decide +kernel
theorem dX1_isUseInState_16 : decode cX1_isUseInState 16 = .ok (.invokevirtual 79, 3) := by decide +kernel
theorem dX1_isUseInState_19 : decode cX1_isUseInState 19 = .ok (.ifCond .eq 21, 3) := by decide +kernel
theorem dX1_isUseInState_22 : decode cX1_isUseInState 22 = .ok (.aload_n 0, 1) := by decide +kernel
theorem dX1_isUseInState_23 : decode cX1_isUseInState 23 = .ok (.getfield 30, 3) := by decide +kernel
theorem dX1_isUseInState_26 : decode cX1_isUseInState 26 = .ok (.getfield 87, 3) := by decide +kernel
theorem dX1_isUseInState_29 : decode cX1_isUseInState 29 = .ok (.iload 4, 2) := by decide +kernel
theorem dX1_isUseInState_31 : decode cX1_isUseInState 31 = .ok (.iaload, 1) := by decide +kernel
theorem dX1_isUseInState_32 : decode cX1_isUseInState 32 = .ok (.iload_n 3, 1) := by decide +kernel
theorem dX1_isUseInState_33 : decode cX1_isUseInState 33 = .ok (.if_icmp .ne 7, 3) := by decide +kernel
theorem dX1_isUseInState_36 : decode cX1_isUseInState 36 = .ok (.iconst 1, 1) := by decide +kernel
theorem dX1_isUseInState_37 : decode cX1_isUseInState 37 = .ok (.goto 4, 3) := by decide +kernel
theorem dX1_isUseInState_40 : decode cX1_isUseInState 40 = .ok (.iconst 0, 1) := by decide +kernel
theorem dX1_isUseInState_41 : decode cX1_isUseInState 41 = .ok (.ireturn, 1) := by decide +kernel
theorem dX1_usesInState_0 : decode cX1_usesInState 0 = .ok (.iconst 0, 1) := by decide +kernel
theorem dX1_usesInState_1 : decode cX1_usesInState 1 = .ok (.istore_n 3, 1) := by decide +kernel
theorem dX1_usesInState_2 : decode cX1_usesInState 2 = .ok (.iconst 0, 1) := by decide +kernel
theorem dX1_usesInState_3 : decode cX1_usesInState 3 = .ok (.istore 4, 2) := by decide +kernel
theorem dX1_usesInState_5 : decode cX1_usesInState 5 = .ok (.iload 4, 2) := by decide +kernel
theorem dX1_usesInState_7 : decode cX1_usesInState 7 = .ok (.aload_n 0, 1) := by decide +kernel
theorem dX1_usesInState_8 : decode cX1_usesInState 8 = .ok (.getfield 15, 3) := by decide +kernel
theorem dX1_usesInState_11 : decode cX1_usesInState 11 = .ok (.iload_n 1, 1) := by decide +kernel
theorem dX1_usesInState_12 : decode cX1_usesInState 12 = .ok (.iaload, 1) := by decide +kernel
theorem dX1_usesInState_13 : decode cX1_usesInState 13 = .ok (.if_icmp .ge 23, 3) := by decide +kernel
theorem dX1_usesInState_16 : decode cX1_usesInState 16 = .ok (.aload_n 0, 1) := by decide +kernel
theorem dX1_usesInState_17 : decode cX1_usesInState 17 = .ok (.iload_n 1, 1) := by decide +kernel
theorem dX1_usesInState_18 : decode cX1_usesInState 18 = .ok (.iload 4, 2) := by decide +kernel
theorem dX1_usesInState_20 : decode cX1_usesInState 20 = .ok (.iload_n 2, 1) := by decide +kernel
theorem dX1_usesInState_21 : decode cX1_usesInState 21 = .ok (.invokevirtual 88, 3) := by decide +kernel
theorem dX1_usesInState_24 : decode cX1_usesInState 24 = .ok (.ifCond .eq 6, 3) := by decide +kernel
theorem dX1_usesInState_27 : decode cX1_usesInState 27 = .ok (.iinc 3 1, 3) := by decide +kernel
theorem dX1_usesInState_30 : decode cX1_usesInState 30 = .ok (.iinc 4 1, 3) := by decide +kernel
theorem dX1_usesInState_33 : decode cX1_usesInState 33 = .ok (.goto (-28), 3) := by decide +kernel
theorem dX1_usesInState_36 : decode cX1_usesInState 36 = .ok (.iload_n 3, 1) := by decide +kernel
theorem dX1_usesInState_37 : decode cX1_usesInState 37 = .ok (.ireturn, 1) := by decide +kernel
theorem dX1_firstBanned_0 : decode cX1_firstBanned 0 = .ok (.iconst 0, 1) := by decide +kernel
theorem dX1_firstBanned_1 : decode cX1_firstBanned 1 = .ok (.istore_n 2, 1) := by decide +kernel
theorem dX1_firstBanned_2 : decode cX1_firstBanned 2 = .ok (.iload_n 2, 1) := by decide +kernel
theorem dX1_firstBanned_3 : decode cX1_firstBanned 3 = .ok (.aload_n 0, 1) := by decide +kernel
theorem dX1_firstBanned_4 : decode cX1_firstBanned 4 = .ok (.getfield 15, 3) := by decide +kernel
theorem dX1_firstBanned_7 : decode cX1_firstBanned 7 = .ok (.iload_n 1, 1) := by decide +kernel
theorem dX1_firstBanned_8 : decode cX1_firstBanned 8 = .ok (.iaload, 1) := by decide +kernel
theorem dX1_firstBanned_9 : decode cX1_firstBanned 9 = .ok (.if_icmp .ge 21, 3) := by decide +kernel
theorem dX1_firstBanned_12 : decode cX1_firstBanned 12 = .ok (.aload_n 0, 1) := by decide +kernel
theorem dX1_firstBanned_13 : decode cX1_firstBanned 13 = .ok (.iload_n 1, 1) := by decide +kernel
theorem dX1_firstBanned_14 : decode cX1_firstBanned 14 = .ok (.iload_n 2, 1) := by decide +kernel
theorem dX1_firstBanned_15 : decode cX1_firstBanned 15 = .ok (.iconst 3, 1) := by decide +kernel
theorem dX1_firstBanned_16 : decode cX1_firstBanned 16 = .ok (.invokevirtual 88, 3) := by decide +kernel
theorem dX1_firstBanned_19 : decode cX1_firstBanned 19 = .ok (.ifCond .eq 5, 3) := by decide +kernel
theorem dX1_firstBanned_22 : decode cX1_firstBanned 22 = .ok (.iload_n 2, 1) := by decide +kernel
theorem dX1_firstBanned_23 : decode cX1_firstBanned 23 = .ok (.ireturn, 1) := by decide +kernel
theorem dX1_firstBanned_24 : decode cX1_firstBanned 24 = .ok (.iinc 2 1, 3) := by decide +kernel
theorem dX1_firstBanned_27 : decode cX1_firstBanned 27 = .ok (.goto (-25), 3) := by decide +kernel
theorem dX1_firstBanned_30 : decode cX1_firstBanned 30 = .ok (.iconst (-1), 1) := by decide +kernel
theorem dX1_firstBanned_31 : decode cX1_firstBanned 31 = .ok (.ireturn, 1) := by decide +kernel
theorem dX1_consistency_0 : decode cX1_consistency 0 = .ok (.aload_n 0, 1) := by decide +kernel
theorem dX1_consistency_1 : decode cX1_consistency 1 = .ok (.iload_n 1, 1) := by decide +kernel
theorem dX1_consistency_2 : decode cX1_consistency 2 = .ok (.iconst (-1), 1) := by decide +kernel
theorem dX1_consistency_3 : decode cX1_consistency 3 = .ok (.invokevirtual 92, 3) := by decide +kernel
theorem dX1_consistency_6 : decode cX1_consistency 6 = .ok (.istore_n 2, 1) := by decide +kernel
theorem dX1_consistency_7 : decode cX1_consistency 7 = .ok (.iload_n 2, 1) := by decide +kernel
theorem dX1_consistency_8 : decode cX1_consistency 8 = .ok (.ifCond .ne 8, 3) := by decide +kernel
theorem dX1_consistency_11 : decode cX1_consistency 11 = .ok (.bipush 100, 2) := by decide +kernel
theorem dX1_consistency_13 : decode cX1_consistency 13 = .ok (.goto 14, 3) := by decide +kernel
theorem dX1_consistency_16 : decode cX1_consistency 16 = .ok (.bipush 100, 2) := by decide +kernel
theorem dX1_consistency_18 : decode cX1_consistency 18 = .ok (.aload_n 0, 1) := by decide +kernel
theorem dX1_consistency_19 : decode cX1_consistency 19 = .ok (.iload_n 1, 1) := by decide +kernel
theorem dX1_consistency_20 : decode cX1_consistency 20 = .ok (.iconst 2, 1) := by decide +kernel
theorem dX1_consistency_21 : decode cX1_consistency 21 = .ok (.invokevirtual 95, 3) := by decide +kernel
theorem dX1_consistency_24 : decode cX1_consistency 24 = .ok (.imul, 1) := by decide +kernel
theorem dX1_consistency_25 : decode cX1_consistency 25 = .ok (.iload_n 2, 1) := by decide +kernel
theorem dX1_consistency_26 : decode cX1_consistency 26 = .ok (.idiv, 1) := by decide +kernel
theorem dX1_consistency_27 : decode cX1_consistency 27 = .ok (.ireturn, 1) := by decide +kernel
theorem dX1_ambiguousForms_0 : decode cX1_ambiguousForms 0 = .ok (.iconst 0, 1) := by decide +kernel
theorem dX1_ambiguousForms_1 : decode cX1_ambiguousForms 1 = .ok (.istore_n 2, 1) := by decide +kernel
theorem dX1_ambiguousForms_2 : decode cX1_ambiguousForms 2 = .ok (.iconst 0, 1) := by decide +kernel
theorem dX1_ambiguousForms_3 : decode cX1_ambiguousForms 3 = .ok (.istore_n 3, 1) := by decide +kernel
theorem dX1_ambiguousForms_4 : decode cX1_ambiguousForms 4 = .ok (.iload_n 3, 1) := by decide +kernel
theorem dX1_ambiguousForms_5 : decode cX1_ambiguousForms 5 = .ok (.aload_n 0, 1) := by decide +kernel
theorem dX1_ambiguousForms_6 : decode cX1_ambiguousForms 6 = .ok (.getfield 15, 3) := by decide +kernel
theorem dX1_ambiguousForms_9 : decode cX1_ambiguousForms 9 = .ok (.iload_n 1, 1) := by decide +kernel
theorem dX1_ambiguousForms_10 : decode cX1_ambiguousForms 10 = .ok (.iaload, 1) := by decide +kernel
theorem dX1_ambiguousForms_11 : decode cX1_ambiguousForms 11 = .ok (.if_icmp .ge 37, 3) := by decide +kernel
theorem dX1_ambiguousForms_14 : decode cX1_ambiguousForms 14 = .ok (.aload_n 0, 1) := by decide +kernel
theorem dX1_ambiguousForms_15 : decode cX1_ambiguousForms 15 = .ok (.getfield 30, 3) := by decide +kernel
theorem dX1_ambiguousForms_18 : decode cX1_ambiguousForms 18 = .ok (.iload_n 1, 1) := by decide +kernel
theorem dX1_ambiguousForms_19 : decode cX1_ambiguousForms 19 = .ok (.iconst 3, 1) := by decide +kernel
theorem dX1_ambiguousForms_20 : decode cX1_ambiguousForms 20 = .ok (.irem, 1) := by decide +kernel
theorem dX1_ambiguousForms_21 : decode cX1_ambiguousForms 21 = .ok (.aload_n 0, 1) := by decide +kernel
theorem dX1_ambiguousForms_22 : decode cX1_ambiguousForms 22 = .ok (.getfield 24, 3) := by decide +kernel
theorem dX1_ambiguousForms_25 : decode cX1_ambiguousForms 25 = .ok (.iload_n 1, 1) := by decide +kernel
theorem dX1_ambiguousForms_26 : decode cX1_ambiguousForms 26 = .ok (.aaload, 1) := by decide +kernel
theorem dX1_ambiguousForms_27 : decode cX1_ambiguousForms 27 = .ok (.iload_n 3, 1) := by decide +kernel
theorem dX1_ambiguousForms_28 : decode cX1_ambiguousForms 28 = .ok (.iaload, 1) := by decide +kernel
theorem dX1_ambiguousForms_29 : decode cX1_ambiguousForms 29 = .ok (.invokevirtual 48, 3) := by decide +kernel
theorem dX1_ambiguousForms_32 : decode cX1_ambiguousForms 32 = .ok (.invokestatic 53, 3) := by decide +kernel
theorem dX1_ambiguousForms_35 : decode cX1_ambiguousForms 35 = .ok (.iconst 1, 1) := by decide +kernel
theorem dX1_ambiguousForms_36 : decode cX1_ambiguousForms 36 = .ok (.if_icmp .le 6, 3) := by decide +kernel
theorem dX1_ambiguousForms_39 : decode cX1_ambiguousForms 39 = .ok (.iinc 2 1, 3) := by decide +kernel
theorem dX1_ambiguousForms_42 : decode cX1_ambiguousForms 42 = .ok (.iinc 3 1, 3) := by decide +kernel
theorem dX1_ambiguousForms_45 : decode cX1_ambiguousForms 45 = .ok (.goto (-41), 3) := by decide +kernel
theorem dX1_ambiguousForms_48 : decode cX1_ambiguousForms 48 = .ok (.iload_n 2, 1) := by decide +kernel
theorem dX1_ambiguousForms_49 : decode cX1_ambiguousForms 49 = .ok (.ireturn, 1) := by decide +kernel
theorem dX1_canBeApproved_0 : decode cX1_canBeApproved 0 = .ok (.aload_n 0, 1) := by decide +kernel
theorem dX1_canBeApproved_1 : decode cX1_canBeApproved 1 = .ok (.getfield 15, 3) := by decide +kernel
theorem dX1_canBeApproved_4 : decode cX1_canBeApproved 4 = .ok (.iload_n 1, 1) := by decide +kernel
theorem dX1_canBeApproved_5 : decode cX1_canBeApproved 5 = .ok (.iaload, 1) := by decide +kernel
theorem dX1_canBeApproved_6 : decode cX1_canBeApproved 6 = .ok (.ifCond .le 26, 3) := by decide +kernel
theorem dX1_canBeApproved_9 : decode cX1_canBeApproved 9 = .ok (.aload_n 0, 1) := by decide +kernel
theorem dX1_canBeApproved_10 : decode cX1_canBeApproved 10 = .ok (.getfield 19, 3) := by decide +kernel
theorem dX1_canBeApproved_13 : decode cX1_canBeApproved 13 = .ok (.iload_n 1, 1) := by decide +kernel
theorem dX1_canBeApproved_14 : decode cX1_canBeApproved 14 = .ok (.iaload, 1) := by decide +kernel
theorem dX1_canBeApproved_15 : decode cX1_canBeApproved 15 = .ok (.iconst 1, 1) := by decide +kernel
theorem dX1_canBeApproved_16 : decode cX1_canBeApproved 16 = .ok (.if_icmp .eq 16, 3) := by decide +kernel
theorem dX1_canBeApproved_19 : decode cX1_canBeApproved 19 = .ok (.aload_n 0, 1) := by decide +kernel
theorem dX1_canBeApproved_20 : decode cX1_canBeApproved 20 = .ok (.iload_n 1, 1) := by decide +kernel
theorem dX1_canBeApproved_21 : decode cX1_canBeApproved 21 = .ok (.invokevirtual 98, 3) := by decide +kernel
theorem dX1_canBeApproved_24 : decode cX1_canBeApproved 24 = .ok (.iconst (-1), 1) := by decide +kernel
theorem dX1_canBeApproved_25 : decode cX1_canBeApproved 25 = .ok (.if_icmp .ne 7, 3) := by decide +kernel
theorem dX1_canBeApproved_28 : decode cX1_canBeApproved 28 = .ok (.iconst 1, 1) := by decide +kernel
theorem dX1_canBeApproved_29 : decode cX1_canBeApproved 29 = .ok (.goto 4, 3) := by decide +kernel
theorem dX1_canBeApproved_32 : decode cX1_canBeApproved 32 = .ok (.iconst 0, 1) := by decide +kernel
theorem dX1_canBeApproved_33 : decode cX1_canBeApproved 33 = .ok (.ireturn, 1) := by decide +kernel
theorem dX1_conceptsIn_0 : decode cX1_conceptsIn 0 = .ok (.iconst 0, 1) := by decide +kernel
theorem dX1_conceptsIn_1 : decode cX1_conceptsIn 1 = .ok (.istore_n 2, 1) := by decide +kernel
theorem dX1_conceptsIn_2 : decode cX1_conceptsIn 2 = .ok (.iconst 0, 1) := by decide +kernel
theorem dX1_conceptsIn_3 : decode cX1_conceptsIn 3 = .ok (.istore_n 3, 1) := by decide +kernel
theorem dX1_conceptsIn_4 : decode cX1_conceptsIn 4 = .ok (.iload_n 3, 1) := by decide +kernel
theorem dX1_conceptsIn_5 : decode cX1_conceptsIn 5 = .ok (.aload_n 0, 1) := by decide +kernel
theorem dX1_conceptsIn_6 : decode cX1_conceptsIn 6 = .ok (.getfield 15, 3) := by decide +kernel
theorem dX1_conceptsIn_9 : decode cX1_conceptsIn 9 = .ok (.iload_n 1, 1) := by decide +kernel
theorem dX1_conceptsIn_10 : decode cX1_conceptsIn 10 = .ok (.iaload, 1) := by decide +kernel
theorem dX1_conceptsIn_11 : decode cX1_conceptsIn 11 = .ok (.if_icmp .ge 46, 3) := by decide +kernel
theorem dX1_conceptsIn_14 : decode cX1_conceptsIn 14 = .ok (.aload_n 0, 1) := by decide +kernel
theorem dX1_conceptsIn_15 : decode cX1_conceptsIn 15 = .ok (.getfield 27, 3) := by decide +kernel
theorem dX1_conceptsIn_18 : decode cX1_conceptsIn 18 = .ok (.iload_n 1, 1) := by decide +kernel
theorem dX1_conceptsIn_19 : decode cX1_conceptsIn 19 = .ok (.aaload, 1) := by decide +kernel
theorem dX1_conceptsIn_20 : decode cX1_conceptsIn 20 = .ok (.iload_n 3, 1) := by decide +kernel
theorem dX1_conceptsIn_21 : decode cX1_conceptsIn 21 = .ok (.iaload, 1) := by decide +kernel
theorem dX1_conceptsIn_22 : decode cX1_conceptsIn 22 = .ok (.istore 4, 2) := by decide +kernel
theorem dX1_conceptsIn_24 : decode cX1_conceptsIn 24 = .ok (.aload_n 0, 1) := by decide +kernel
theorem dX1_conceptsIn_25 : decode cX1_conceptsIn 25 = .ok (.getfield 30, 3) := by decide +kernel
theorem dX1_conceptsIn_28 : decode cX1_conceptsIn 28 = .ok (.iload 4, 2) := by decide +kernel
theorem dX1_conceptsIn_30 : decode cX1_conceptsIn 30 = .ok (.invokevirtual 79, 3) := by decide +kernel
theorem dX1_conceptsIn_33 : decode cX1_conceptsIn 33 = .ok (.ifCond .eq 18, 3) := by decide +kernel
theorem dX1_conceptsIn_36 : decode cX1_conceptsIn 36 = .ok (.iload_n 2, 1) := by decide +kernel
theorem dX1_conceptsIn_37 : decode cX1_conceptsIn 37 = .ok (.iconst 1, 1) := by decide +kernel
theorem dX1_conceptsIn_38 : decode cX1_conceptsIn 38 = .ok (.aload_n 0, 1) := by decide +kernel
theorem dX1_conceptsIn_39 : decode cX1_conceptsIn 39 = .ok (.getfield 30, 3) := by decide +kernel
theorem dX1_conceptsIn_42 : decode cX1_conceptsIn 42 = .ok (.getfield 101, 3) := by decide +kernel
theorem dX1_conceptsIn_45 : decode cX1_conceptsIn 45 = .ok (.iload 4, 2) := by decide +kernel
theorem dX1_conceptsIn_47 : decode cX1_conceptsIn 47 = .ok (.iaload, 1) := by decide +kernel
theorem dX1_conceptsIn_48 : decode cX1_conceptsIn 48 = .ok (.ishl, 1) := by decide +kernel
theorem dX1_conceptsIn_49 : decode cX1_conceptsIn 49 = .ok (.ior, 1) := by decide +kernel
theorem dX1_conceptsIn_50 : decode cX1_conceptsIn 50 = .ok (.istore_n 2, 1) := by decide +kernel
theorem dX1_conceptsIn_51 : decode cX1_conceptsIn 51 = .ok (.iinc 3 1, 3) := by decide +kernel
theorem dX1_conceptsIn_54 : decode cX1_conceptsIn 54 = .ok (.goto (-50), 3) := by decide +kernel
theorem dX1_conceptsIn_57 : decode cX1_conceptsIn 57 = .ok (.iload_n 2, 1) := by decide +kernel
theorem dX1_conceptsIn_58 : decode cX1_conceptsIn 58 = .ok (.ireturn, 1) := by decide +kernel
theorem dX1_agreementOf_0 : decode cX1_agreementOf 0 = .ok (.iconst 0, 1) := by decide +kernel
theorem dX1_agreementOf_1 : decode cX1_agreementOf 1 = .ok (.istore_n 2, 1) := by decide +kernel
theorem dX1_agreementOf_2 : decode cX1_agreementOf 2 = .ok (.iconst (-1), 1) := by decide +kernel
theorem dX1_agreementOf_3 : decode cX1_agreementOf 3 = .ok (.istore_n 3, 1) := by decide +kernel
theorem dX1_agreementOf_4 : decode cX1_agreementOf 4 = .ok (.iconst 0, 1) := by decide +kernel
theorem dX1_agreementOf_5 : decode cX1_agreementOf 5 = .ok (.istore 4, 2) := by decide +kernel
theorem dX1_agreementOf_7 : decode cX1_agreementOf 7 = .ok (.iload 4, 2) := by decide +kernel
theorem dX1_agreementOf_9 : decode cX1_agreementOf 9 = .ok (.iconst 3, 1) := by decide +kernel
theorem dX1_agreementOf_10 : decode cX1_agreementOf 10 = .ok (.if_icmp .ge 45, 3) := by decide +kernel
theorem dX1_agreementOf_13 : decode cX1_agreementOf 13 = .ok (.iload_n 1, 1) := by decide +kernel
theorem dX1_agreementOf_14 : decode cX1_agreementOf 14 = .ok (.iconst 3, 1) := by decide +kernel
theorem dX1_agreementOf_15 : decode cX1_agreementOf 15 = .ok (.imul, 1) := by decide +kernel
theorem dX1_agreementOf_16 : decode cX1_agreementOf 16 = .ok (.iload 4, 2) := by decide +kernel
theorem dX1_agreementOf_18 : decode cX1_agreementOf 18 = .ok (.iadd, 1) := by decide +kernel
theorem dX1_agreementOf_19 : decode cX1_agreementOf 19 = .ok (.istore 5, 2) := by decide +kernel
theorem dX1_agreementOf_21 : decode cX1_agreementOf 21 = .ok (.aload_n 0, 1) := by decide +kernel
theorem dX1_agreementOf_22 : decode cX1_agreementOf 22 = .ok (.getfield 15, 3) := by decide +kernel
theorem dX1_agreementOf_25 : decode cX1_agreementOf 25 = .ok (.iload 5, 2) := by decide +kernel
theorem dX1_agreementOf_27 : decode cX1_agreementOf 27 = .ok (.iaload, 1) := by decide +kernel
theorem dX1_agreementOf_28 : decode cX1_agreementOf 28 = .ok (.ifCond .le 21, 3) := by decide +kernel
theorem dX1_agreementOf_31 : decode cX1_agreementOf 31 = .ok (.aload_n 0, 1) := by decide +kernel
theorem dX1_agreementOf_32 : decode cX1_agreementOf 32 = .ok (.iload 5, 2) := by decide +kernel
theorem dX1_agreementOf_34 : decode cX1_agreementOf 34 = .ok (.invokevirtual 104, 3) := by decide +kernel
theorem dX1_agreementOf_37 : decode cX1_agreementOf 37 = .ok (.istore 6, 2) := by decide +kernel
theorem dX1_agreementOf_39 : decode cX1_agreementOf 39 = .ok (.iload_n 2, 1) := by decide +kernel
theorem dX1_agreementOf_40 : decode cX1_agreementOf 40 = .ok (.iload 6, 2) := by decide +kernel
theorem dX1_agreementOf_42 : decode cX1_agreementOf 42 = .ok (.ior, 1) := by decide +kernel
theorem dX1_agreementOf_43 : decode cX1_agreementOf 43 = .ok (.istore_n 2, 1) := by decide +kernel
theorem dX1_agreementOf_44 : decode cX1_agreementOf 44 = .ok (.iload_n 3, 1) := by decide +kernel
theorem dX1_agreementOf_45 : decode cX1_agreementOf 45 = .ok (.iload 6, 2) := by decide +kernel
theorem dX1_agreementOf_47 : decode cX1_agreementOf 47 = .ok (.iand, 1) := by decide +kernel
theorem dX1_agreementOf_48 : decode cX1_agreementOf 48 = .ok (.istore_n 3, 1) := by decide +kernel
theorem dX1_agreementOf_49 : decode cX1_agreementOf 49 = .ok (.iinc 4 1, 3) := by decide +kernel
theorem dX1_agreementOf_52 : decode cX1_agreementOf 52 = .ok (.goto (-45), 3) := by decide +kernel
theorem dX1_agreementOf_55 : decode cX1_agreementOf 55 = .ok (.iload_n 2, 1) := by decide +kernel
theorem dX1_agreementOf_56 : decode cX1_agreementOf 56 = .ok (.invokestatic 53, 3) := by decide +kernel
theorem dX1_agreementOf_59 : decode cX1_agreementOf 59 = .ok (.istore 4, 2) := by decide +kernel
theorem dX1_agreementOf_61 : decode cX1_agreementOf 61 = .ok (.iload 4, 2) := by decide +kernel
theorem dX1_agreementOf_63 : decode cX1_agreementOf 63 = .ok (.ifCond .ne 8, 3) := by decide +kernel
theorem dX1_agreementOf_66 : decode cX1_agreementOf 66 = .ok (.bipush 100, 2) := by decide +kernel
theorem dX1_agreementOf_68 : decode cX1_agreementOf 68 = .ok (.goto 15, 3) := by decide +kernel
theorem dX1_agreementOf_71 : decode cX1_agreementOf 71 = .ok (.bipush 100, 2) := by decide +kernel
theorem dX1_agreementOf_73 : decode cX1_agreementOf 73 = .ok (.iload_n 2, 1) := by decide +kernel
theorem dX1_agreementOf_74 : decode cX1_agreementOf 74 = .ok (.iload_n 3, 1) := by decide +kernel
theorem dX1_agreementOf_75 : decode cX1_agreementOf 75 = .ok (.iand, 1) := by decide +kernel
theorem dX1_agreementOf_76 : decode cX1_agreementOf 76 = .ok (.invokestatic 53, 3) := by decide +kernel
theorem dX1_agreementOf_79 : decode cX1_agreementOf 79 = .ok (.imul, 1) := by decide +kernel
theorem dX1_agreementOf_80 : decode cX1_agreementOf 80 = .ok (.iload 4, 2) := by decide +kernel
theorem dX1_agreementOf_82 : decode cX1_agreementOf 82 = .ok (.idiv, 1) := by decide +kernel
theorem dX1_agreementOf_83 : decode cX1_agreementOf 83 = .ok (.ireturn, 1) := by decide +kernel
theorem dX1_approvedIn_0 : decode cX1_approvedIn 0 = .ok (.iconst 0, 1) := by decide +kernel
theorem dX1_approvedIn_1 : decode cX1_approvedIn 1 = .ok (.istore_n 2, 1) := by decide +kernel
theorem dX1_approvedIn_2 : decode cX1_approvedIn 2 = .ok (.iconst 0, 1) := by decide +kernel
theorem dX1_approvedIn_3 : decode cX1_approvedIn 3 = .ok (.istore_n 3, 1) := by decide +kernel
theorem dX1_approvedIn_4 : decode cX1_approvedIn 4 = .ok (.iload_n 3, 1) := by decide +kernel
theorem dX1_approvedIn_5 : decode cX1_approvedIn 5 = .ok (.iconst 3, 1) := by decide +kernel
theorem dX1_approvedIn_6 : decode cX1_approvedIn 6 = .ok (.if_icmp .ge 26, 3) := by decide +kernel
theorem dX1_approvedIn_9 : decode cX1_approvedIn 9 = .ok (.aload_n 0, 1) := by decide +kernel
theorem dX1_approvedIn_10 : decode cX1_approvedIn 10 = .ok (.getfield 19, 3) := by decide +kernel
theorem dX1_approvedIn_13 : decode cX1_approvedIn 13 = .ok (.iload_n 1, 1) := by decide +kernel
theorem dX1_approvedIn_14 : decode cX1_approvedIn 14 = .ok (.iconst 3, 1) := by decide +kernel
theorem dX1_approvedIn_15 : decode cX1_approvedIn 15 = .ok (.imul, 1) := by decide +kernel
theorem dX1_approvedIn_16 : decode cX1_approvedIn 16 = .ok (.iload_n 3, 1) := by decide +kernel
theorem dX1_approvedIn_17 : decode cX1_approvedIn 17 = .ok (.iadd, 1) := by decide +kernel
theorem dX1_approvedIn_18 : decode cX1_approvedIn 18 = .ok (.iaload, 1) := by decide +kernel
theorem dX1_approvedIn_19 : decode cX1_approvedIn 19 = .ok (.iconst 1, 1) := by decide +kernel
theorem dX1_approvedIn_20 : decode cX1_approvedIn 20 = .ok (.if_icmp .ne 6, 3) := by decide +kernel
theorem dX1_approvedIn_23 : decode cX1_approvedIn 23 = .ok (.iinc 2 1, 3) := by decide +kernel
theorem dX1_approvedIn_26 : decode cX1_approvedIn 26 = .ok (.iinc 3 1, 3) := by decide +kernel
theorem dX1_approvedIn_29 : decode cX1_approvedIn 29 = .ok (.goto (-25), 3) := by decide +kernel
theorem dX1_approvedIn_32 : decode cX1_approvedIn 32 = .ok (.iload_n 2, 1) := by decide +kernel
theorem dX1_approvedIn_33 : decode cX1_approvedIn 33 = .ok (.ireturn, 1) := by decide +kernel
theorem dX1_hasApprovedUseOf_0 : decode cX1_hasApprovedUseOf 0 = .ok (.iconst 0, 1) := by decide +kernel
theorem dX1_hasApprovedUseOf_1 : decode cX1_hasApprovedUseOf 1 = .ok (.istore_n 3, 1) := by decide +kernel
theorem dX1_hasApprovedUseOf_2 : decode cX1_hasApprovedUseOf 2 = .ok (.iload_n 3, 1) := by decide +kernel
theorem dX1_hasApprovedUseOf_3 : decode cX1_hasApprovedUseOf 3 = .ok (.iconst 3, 1) := by decide +kernel
theorem dX1_hasApprovedUseOf_4 : decode cX1_hasApprovedUseOf 4 = .ok (.if_icmp .ge 39, 3) := by decide +kernel
theorem dX1_hasApprovedUseOf_7 : decode cX1_hasApprovedUseOf 7 = .ok (.iload_n 1, 1) := by decide +kernel
theorem dX1_hasApprovedUseOf_8 : decode cX1_hasApprovedUseOf 8 = .ok (.iconst 3, 1) := by decide +kernel
theorem dX1_hasApprovedUseOf_9 : decode cX1_hasApprovedUseOf 9 = .ok (.imul, 1) := by decide +kernel
theorem dX1_hasApprovedUseOf_10 : decode cX1_hasApprovedUseOf 10 = .ok (.iload_n 3, 1) := by decide +kernel
theorem dX1_hasApprovedUseOf_11 : decode cX1_hasApprovedUseOf 11 = .ok (.iadd, 1) := by decide +kernel
theorem dX1_hasApprovedUseOf_12 : decode cX1_hasApprovedUseOf 12 = .ok (.istore 4, 2) := by decide +kernel
theorem dX1_hasApprovedUseOf_14 : decode cX1_hasApprovedUseOf 14 = .ok (.aload_n 0, 1) := by decide +kernel
theorem dX1_hasApprovedUseOf_15 : decode cX1_hasApprovedUseOf 15 = .ok (.getfield 19, 3) := by decide +kernel
theorem dX1_hasApprovedUseOf_18 : decode cX1_hasApprovedUseOf 18 = .ok (.iload 4, 2) := by decide +kernel
theorem dX1_hasApprovedUseOf_20 : decode cX1_hasApprovedUseOf 20 = .ok (.iaload, 1) := by decide +kernel
theorem dX1_hasApprovedUseOf_21 : decode cX1_hasApprovedUseOf 21 = .ok (.iconst 1, 1) := by decide +kernel
theorem dX1_hasApprovedUseOf_22 : decode cX1_hasApprovedUseOf 22 = .ok (.if_icmp .ne 15, 3) := by decide +kernel
theorem dX1_hasApprovedUseOf_25 : decode cX1_hasApprovedUseOf 25 = .ok (.aload_n 0, 1) := by decide +kernel
theorem dX1_hasApprovedUseOf_26 : decode cX1_hasApprovedUseOf 26 = .ok (.iload 4, 2) := by decide +kernel
theorem dX1_hasApprovedUseOf_28 : decode cX1_hasApprovedUseOf 28 = .ok (.iload_n 2, 1) := by decide +kernel
theorem dX1_hasApprovedUseOf_29 : decode cX1_hasApprovedUseOf 29 = .ok (.invokevirtual 92, 3) := by decide +kernel
theorem dX1_hasApprovedUseOf_32 : decode cX1_hasApprovedUseOf 32 = .ok (.ifCond .le 5, 3) := by decide +kernel
theorem dX1_hasApprovedUseOf_35 : decode cX1_hasApprovedUseOf 35 = .ok (.iconst 1, 1) := by decide +kernel
theorem dX1_hasApprovedUseOf_36 : decode cX1_hasApprovedUseOf 36 = .ok (.ireturn, 1) := by decide +kernel
theorem dX1_hasApprovedUseOf_37 : decode cX1_hasApprovedUseOf 37 = .ok (.iinc 3 1, 3) := by decide +kernel
theorem dX1_hasApprovedUseOf_40 : decode cX1_hasApprovedUseOf 40 = .ok (.goto (-38), 3) := by decide +kernel
theorem dX1_hasApprovedUseOf_43 : decode cX1_hasApprovedUseOf 43 = .ok (.iconst 0, 1) := by decide +kernel
theorem dX1_hasApprovedUseOf_44 : decode cX1_hasApprovedUseOf 44 = .ok (.ireturn, 1) := by decide +kernel
theorem dX1_reopen_0 : decode cX1_reopen 0 = .ok (.iconst 0, 1) := by decide +kernel
theorem dX1_reopen_1 : decode cX1_reopen 1 = .ok (.istore_n 2, 1) := by decide +kernel
theorem dX1_reopen_2 : decode cX1_reopen 2 = .ok (.iload_n 2, 1) := by decide +kernel
theorem dX1_reopen_3 : decode cX1_reopen 3 = .ok (.iconst 3, 1) := by decide +kernel
theorem dX1_reopen_4 : decode cX1_reopen 4 = .ok (.if_icmp .ge 32, 3) := by decide +kernel
theorem dX1_reopen_7 : decode cX1_reopen 7 = .ok (.iload_n 1, 1) := by decide +kernel
theorem dX1_reopen_8 : decode cX1_reopen 8 = .ok (.iconst 3, 1) := by decide +kernel
theorem dX1_reopen_9 : decode cX1_reopen 9 = .ok (.imul, 1) := by decide +kernel
theorem dX1_reopen_10 : decode cX1_reopen 10 = .ok (.iload_n 2, 1) := by decide +kernel
theorem dX1_reopen_11 : decode cX1_reopen 11 = .ok (.iadd, 1) := by decide +kernel
theorem dX1_reopen_12 : decode cX1_reopen 12 = .ok (.istore_n 3, 1) := by decide +kernel
theorem dX1_reopen_13 : decode cX1_reopen 13 = .ok (.aload_n 0, 1) := by decide +kernel
theorem dX1_reopen_14 : decode cX1_reopen 14 = .ok (.getfield 19, 3) := by decide +kernel
theorem dX1_reopen_17 : decode cX1_reopen 17 = .ok (.iload_n 3, 1) := by decide +kernel
theorem dX1_reopen_18 : decode cX1_reopen 18 = .ok (.iaload, 1) := by decide +kernel
theorem dX1_reopen_19 : decode cX1_reopen 19 = .ok (.iconst 1, 1) := by decide +kernel
theorem dX1_reopen_20 : decode cX1_reopen 20 = .ok (.if_icmp .ne 10, 3) := by decide +kernel
theorem dX1_reopen_23 : decode cX1_reopen 23 = .ok (.aload_n 0, 1) := by decide +kernel
theorem dX1_reopen_24 : decode cX1_reopen 24 = .ok (.getfield 19, 3) := by decide +kernel
theorem dX1_reopen_27 : decode cX1_reopen 27 = .ok (.iload_n 3, 1) := by decide +kernel
theorem dX1_reopen_28 : decode cX1_reopen 28 = .ok (.iconst 2, 1) := by decide +kernel
theorem dX1_reopen_29 : decode cX1_reopen 29 = .ok (.iastore, 1) := by decide +kernel
theorem dX1_reopen_30 : decode cX1_reopen 30 = .ok (.iinc 2 1, 3) := by decide +kernel
theorem dX1_reopen_33 : decode cX1_reopen 33 = .ok (.goto (-31), 3) := by decide +kernel
theorem dX1_reopen_36 : decode cX1_reopen 36 = .ok (.return_, 1) := by decide +kernel
theorem dX1_reopenedByOverdue_0 : decode cX1_reopenedByOverdue 0 = .ok (.iconst 0, 1) := by decide +kernel
theorem dX1_reopenedByOverdue_1 : decode cX1_reopenedByOverdue 1 = .ok (.istore_n 2, 1) := by decide +kernel
theorem dX1_reopenedByOverdue_2 : decode cX1_reopenedByOverdue 2 = .ok (.iconst 0, 1) := by decide +kernel
theorem dX1_reopenedByOverdue_3 : decode cX1_reopenedByOverdue 3 = .ok (.istore_n 3, 1) := by decide +kernel
theorem dX1_reopenedByOverdue_4 : decode cX1_reopenedByOverdue 4 = .ok (.iload_n 3, 1) := by decide +kernel
theorem dX1_reopenedByOverdue_5 : decode cX1_reopenedByOverdue 5 = .ok (.aload_n 0, 1) := by decide +kernel
theorem dX1_reopenedByOverdue_6 : decode cX1_reopenedByOverdue 6 = .ok (.getfield 9, 3) := by decide +kernel
theorem dX1_reopenedByOverdue_9 : decode cX1_reopenedByOverdue 9 = .ok (.if_icmp .ge 26, 3) := by decide +kernel
theorem dX1_reopenedByOverdue_12 : decode cX1_reopenedByOverdue 12 = .ok (.aload_n 0, 1) := by decide +kernel
theorem dX1_reopenedByOverdue_13 : decode cX1_reopenedByOverdue 13 = .ok (.iload_n 3, 1) := by decide +kernel
theorem dX1_reopenedByOverdue_14 : decode cX1_reopenedByOverdue 14 = .ok (.iload_n 1, 1) := by decide +kernel
theorem dX1_reopenedByOverdue_15 : decode cX1_reopenedByOverdue 15 = .ok (.invokevirtual 107, 3) := by decide +kernel
theorem dX1_reopenedByOverdue_18 : decode cX1_reopenedByOverdue 18 = .ok (.ifCond .eq 11, 3) := by decide +kernel
theorem dX1_reopenedByOverdue_21 : decode cX1_reopenedByOverdue 21 = .ok (.iload_n 2, 1) := by decide +kernel
theorem dX1_reopenedByOverdue_22 : decode cX1_reopenedByOverdue 22 = .ok (.aload_n 0, 1) := by decide +kernel
theorem dX1_reopenedByOverdue_23 : decode cX1_reopenedByOverdue 23 = .ok (.iload_n 3, 1) := by decide +kernel
theorem dX1_reopenedByOverdue_24 : decode cX1_reopenedByOverdue 24 = .ok (.invokevirtual 110, 3) := by decide +kernel
theorem dX1_reopenedByOverdue_27 : decode cX1_reopenedByOverdue 27 = .ok (.iadd, 1) := by decide +kernel
theorem dX1_reopenedByOverdue_28 : decode cX1_reopenedByOverdue 28 = .ok (.istore_n 2, 1) := by decide +kernel
theorem dX1_reopenedByOverdue_29 : decode cX1_reopenedByOverdue 29 = .ok (.iinc 3 1, 3) := by decide +kernel
theorem dX1_reopenedByOverdue_32 : decode cX1_reopenedByOverdue 32 = .ok (.goto (-28), 3) := by decide +kernel
theorem dX1_reopenedByOverdue_35 : decode cX1_reopenedByOverdue 35 = .ok (.iload_n 2, 1) := by decide +kernel
theorem dX1_reopenedByOverdue_36 : decode cX1_reopenedByOverdue 36 = .ok (.ireturn, 1) := by decide +kernel
theorem dX1_reopenDue_0 : decode cX1_reopenDue 0 = .ok (.aload_n 0, 1) := by decide +kernel
theorem dX1_reopenDue_1 : decode cX1_reopenDue 1 = .ok (.getfield 30, 3) := by decide +kernel
theorem dX1_reopenDue_4 : decode cX1_reopenDue 4 = .ok (.iload_n 1, 1) := by decide +kernel
theorem dX1_reopenDue_5 : decode cX1_reopenDue 5 = .ok (.invokevirtual 113, 3) := by decide +kernel
theorem dX1_reopenDue_8 : decode cX1_reopenDue 8 = .ok (.istore_n 2, 1) := by decide +kernel
theorem dX1_reopenDue_9 : decode cX1_reopenDue 9 = .ok (.aload_n 0, 1) := by decide +kernel
theorem dX1_reopenDue_10 : decode cX1_reopenDue 10 = .ok (.iload_n 2, 1) := by decide +kernel
theorem dX1_reopenDue_11 : decode cX1_reopenDue 11 = .ok (.invokevirtual 116, 3) := by decide +kernel
theorem dX1_reopenDue_14 : decode cX1_reopenDue 14 = .ok (.istore_n 3, 1) := by decide +kernel
theorem dX1_reopenDue_15 : decode cX1_reopenDue 15 = .ok (.iconst 0, 1) := by decide +kernel
theorem dX1_reopenDue_16 : decode cX1_reopenDue 16 = .ok (.istore 4, 2) := by decide +kernel
theorem dX1_reopenDue_18 : decode cX1_reopenDue 18 = .ok (.iload 4, 2) := by decide +kernel
theorem dX1_reopenDue_20 : decode cX1_reopenDue 20 = .ok (.aload_n 0, 1) := by decide +kernel
theorem dX1_reopenDue_21 : decode cX1_reopenDue 21 = .ok (.getfield 9, 3) := by decide +kernel
theorem dX1_reopenDue_24 : decode cX1_reopenDue 24 = .ok (.if_icmp .ge 25, 3) := by decide +kernel
theorem dX1_reopenDue_27 : decode cX1_reopenDue 27 = .ok (.aload_n 0, 1) := by decide +kernel
theorem dX1_reopenDue_28 : decode cX1_reopenDue 28 = .ok (.iload 4, 2) := by decide +kernel
theorem dX1_reopenDue_30 : decode cX1_reopenDue 30 = .ok (.iload_n 2, 1) := by decide +kernel
theorem dX1_reopenDue_31 : decode cX1_reopenDue 31 = .ok (.invokevirtual 107, 3) := by decide +kernel
theorem dX1_reopenDue_34 : decode cX1_reopenDue 34 = .ok (.ifCond .eq 9, 3) := by decide +kernel
theorem dX1_reopenDue_37 : decode cX1_reopenDue 37 = .ok (.aload_n 0, 1) := by decide +kernel
theorem dX1_reopenDue_38 : decode cX1_reopenDue 38 = .ok (.iload 4, 2) := by decide +kernel
theorem dX1_reopenDue_40 : decode cX1_reopenDue 40 = .ok (.invokevirtual 119, 3) := by decide +kernel
theorem dX1_reopenDue_43 : decode cX1_reopenDue 43 = .ok (.iinc 4 1, 3) := by decide +kernel
theorem dX1_reopenDue_46 : decode cX1_reopenDue 46 = .ok (.goto (-28), 3) := by decide +kernel
theorem dX1_reopenDue_49 : decode cX1_reopenDue 49 = .ok (.iload_n 3, 1) := by decide +kernel
theorem dX1_reopenDue_50 : decode cX1_reopenDue 50 = .ok (.ireturn, 1) := by decide +kernel
theorem dX1_usesAmong_0 : decode cX1_usesAmong 0 = .ok (.iconst 0, 1) := by decide +kernel
theorem dX1_usesAmong_1 : decode cX1_usesAmong 1 = .ok (.istore_n 2, 1) := by decide +kernel
theorem dX1_usesAmong_2 : decode cX1_usesAmong 2 = .ok (.iconst 0, 1) := by decide +kernel
theorem dX1_usesAmong_3 : decode cX1_usesAmong 3 = .ok (.istore_n 3, 1) := by decide +kernel
theorem dX1_usesAmong_4 : decode cX1_usesAmong 4 = .ok (.iload_n 3, 1) := by decide +kernel
theorem dX1_usesAmong_5 : decode cX1_usesAmong 5 = .ok (.aload_n 0, 1) := by decide +kernel
theorem dX1_usesAmong_6 : decode cX1_usesAmong 6 = .ok (.invokevirtual 83, 3) := by decide +kernel
theorem dX1_usesAmong_9 : decode cX1_usesAmong 9 = .ok (.if_icmp .ge 18, 3) := by decide +kernel
theorem dX1_usesAmong_12 : decode cX1_usesAmong 12 = .ok (.iload_n 2, 1) := by decide +kernel
theorem dX1_usesAmong_13 : decode cX1_usesAmong 13 = .ok (.aload_n 0, 1) := by decide +kernel
theorem dX1_usesAmong_14 : decode cX1_usesAmong 14 = .ok (.iload_n 3, 1) := by decide +kernel
theorem dX1_usesAmong_15 : decode cX1_usesAmong 15 = .ok (.iload_n 1, 1) := by decide +kernel
theorem dX1_usesAmong_16 : decode cX1_usesAmong 16 = .ok (.invokevirtual 92, 3) := by decide +kernel
theorem dX1_usesAmong_19 : decode cX1_usesAmong 19 = .ok (.iadd, 1) := by decide +kernel
theorem dX1_usesAmong_20 : decode cX1_usesAmong 20 = .ok (.istore_n 2, 1) := by decide +kernel
theorem dX1_usesAmong_21 : decode cX1_usesAmong 21 = .ok (.iinc 3 1, 3) := by decide +kernel
theorem dX1_usesAmong_24 : decode cX1_usesAmong 24 = .ok (.goto (-20), 3) := by decide +kernel
theorem dX1_usesAmong_27 : decode cX1_usesAmong 27 = .ok (.iload_n 2, 1) := by decide +kernel
theorem dX1_usesAmong_28 : decode cX1_usesAmong 28 = .ok (.ireturn, 1) := by decide +kernel
theorem dX1_documentsWith_0 : decode cX1_documentsWith 0 = .ok (.iconst 0, 1) := by decide +kernel
theorem dX1_documentsWith_1 : decode cX1_documentsWith 1 = .ok (.istore_n 2, 1) := by decide +kernel
theorem dX1_documentsWith_2 : decode cX1_documentsWith 2 = .ok (.iconst 0, 1) := by decide +kernel
theorem dX1_documentsWith_3 : decode cX1_documentsWith 3 = .ok (.istore_n 3, 1) := by decide +kernel
theorem dX1_documentsWith_4 : decode cX1_documentsWith 4 = .ok (.iload_n 3, 1) := by decide +kernel
theorem dX1_documentsWith_5 : decode cX1_documentsWith 5 = .ok (.aload_n 0, 1) := by decide +kernel
theorem dX1_documentsWith_6 : decode cX1_documentsWith 6 = .ok (.getfield 9, 3) := by decide +kernel
theorem dX1_documentsWith_9 : decode cX1_documentsWith 9 = .ok (.if_icmp .ge 51, 3) := by decide +kernel
theorem dX1_documentsWith_12 : decode cX1_documentsWith 12 = .ok (.iconst 0, 1) := by decide +kernel
theorem dX1_documentsWith_13 : decode cX1_documentsWith 13 = .ok (.istore 4, 2) := by decide +kernel
theorem dX1_documentsWith_15 : decode cX1_documentsWith 15 = .ok (.iconst 0, 1) := by decide +kernel
theorem dX1_documentsWith_16 : decode cX1_documentsWith 16 = .ok (.istore 5, 2) := by decide +kernel
theorem dX1_documentsWith_18 : decode cX1_documentsWith 18 = .ok (.iload 5, 2) := by decide +kernel
theorem dX1_documentsWith_20 : decode cX1_documentsWith 20 = .ok (.iconst 3, 1) := by decide +kernel
theorem dX1_documentsWith_21 : decode cX1_documentsWith 21 = .ok (.if_icmp .ge 25, 3) := by decide +kernel
theorem dX1_documentsWith_24 : decode cX1_documentsWith 24 = .ok (.iload 4, 2) := by decide +kernel
theorem dX1_documentsWith_26 : decode cX1_documentsWith 26 = .ok (.aload_n 0, 1) := by decide +kernel
theorem dX1_documentsWith_27 : decode cX1_documentsWith 27 = .ok (.iload_n 3, 1) := by decide +kernel
theorem dX1_documentsWith_28 : decode cX1_documentsWith 28 = .ok (.iconst 3, 1) := by decide +kernel
theorem dX1_documentsWith_29 : decode cX1_documentsWith 29 = .ok (.imul, 1) := by decide +kernel
theorem dX1_documentsWith_30 : decode cX1_documentsWith 30 = .ok (.iload 5, 2) := by decide +kernel
theorem dX1_documentsWith_32 : decode cX1_documentsWith 32 = .ok (.iadd, 1) := by decide +kernel
theorem dX1_documentsWith_33 : decode cX1_documentsWith 33 = .ok (.iload_n 1, 1) := by decide +kernel
theorem dX1_documentsWith_34 : decode cX1_documentsWith 34 = .ok (.invokevirtual 92, 3) := by decide +kernel
theorem dX1_documentsWith_37 : decode cX1_documentsWith 37 = .ok (.iadd, 1) := by decide +kernel
theorem dX1_documentsWith_38 : decode cX1_documentsWith 38 = .ok (.istore 4, 2) := by decide +kernel
theorem dX1_documentsWith_40 : decode cX1_documentsWith 40 = .ok (.iinc 5 1, 3) := by decide +kernel
theorem dX1_documentsWith_43 : decode cX1_documentsWith 43 = .ok (.goto (-25), 3) := by decide +kernel
theorem dX1_documentsWith_46 : decode cX1_documentsWith 46 = .ok (.iload 4, 2) := by decide +kernel
theorem dX1_documentsWith_48 : decode cX1_documentsWith 48 = .ok (.ifCond .le 6, 3) := by decide +kernel
theorem dX1_documentsWith_51 : decode cX1_documentsWith 51 = .ok (.iinc 2 1, 3) := by decide +kernel
theorem dX1_documentsWith_54 : decode cX1_documentsWith 54 = .ok (.iinc 3 1, 3) := by decide +kernel
theorem dX1_documentsWith_57 : decode cX1_documentsWith 57 = .ok (.goto (-53), 3) := by decide +kernel
theorem dX1_documentsWith_60 : decode cX1_documentsWith 60 = .ok (.iload_n 2, 1) := by decide +kernel
theorem dX1_documentsWith_61 : decode cX1_documentsWith 61 = .ok (.ireturn, 1) := by decide +kernel
theorem dX1_textsInState_0 : decode cX1_textsInState 0 = .ok (.iconst 0, 1) := by decide +kernel
theorem dX1_textsInState_1 : decode cX1_textsInState 1 = .ok (.istore_n 2, 1) := by decide +kernel
theorem dX1_textsInState_2 : decode cX1_textsInState 2 = .ok (.iconst 0, 1) := by decide +kernel
theorem dX1_textsInState_3 : decode cX1_textsInState 3 = .ok (.istore_n 3, 1) := by decide +kernel
theorem dX1_textsInState_4 : decode cX1_textsInState 4 = .ok (.iload_n 3, 1) := by decide +kernel
theorem dX1_textsInState_5 : decode cX1_textsInState 5 = .ok (.aload_n 0, 1) := by decide +kernel
theorem dX1_textsInState_6 : decode cX1_textsInState 6 = .ok (.invokevirtual 83, 3) := by decide +kernel
theorem dX1_textsInState_9 : decode cX1_textsInState 9 = .ok (.if_icmp .ge 31, 3) := by decide +kernel
theorem dX1_textsInState_12 : decode cX1_textsInState 12 = .ok (.aload_n 0, 1) := by decide +kernel
theorem dX1_textsInState_13 : decode cX1_textsInState 13 = .ok (.getfield 15, 3) := by decide +kernel
theorem dX1_textsInState_16 : decode cX1_textsInState 16 = .ok (.iload_n 3, 1) := by decide +kernel
theorem dX1_textsInState_17 : decode cX1_textsInState 17 = .ok (.iaload, 1) := by decide +kernel
theorem dX1_textsInState_18 : decode cX1_textsInState 18 = .ok (.ifCond .le 16, 3) := by decide +kernel
theorem dX1_textsInState_21 : decode cX1_textsInState 21 = .ok (.aload_n 0, 1) := by decide +kernel
theorem dX1_textsInState_22 : decode cX1_textsInState 22 = .ok (.getfield 19, 3) := by decide +kernel
theorem dX1_textsInState_25 : decode cX1_textsInState 25 = .ok (.iload_n 3, 1) := by decide +kernel
theorem dX1_textsInState_26 : decode cX1_textsInState 26 = .ok (.iaload, 1) := by decide +kernel
theorem dX1_textsInState_27 : decode cX1_textsInState 27 = .ok (.iload_n 1, 1) := by decide +kernel
theorem dX1_textsInState_28 : decode cX1_textsInState 28 = .ok (.if_icmp .ne 6, 3) := by decide +kernel
theorem dX1_textsInState_31 : decode cX1_textsInState 31 = .ok (.iinc 2 1, 3) := by decide +kernel
theorem dX1_textsInState_34 : decode cX1_textsInState 34 = .ok (.iinc 3 1, 3) := by decide +kernel
theorem dX1_textsInState_37 : decode cX1_textsInState 37 = .ok (.goto (-33), 3) := by decide +kernel
theorem dX1_textsInState_40 : decode cX1_textsInState 40 = .ok (.iload_n 2, 1) := by decide +kernel
theorem dX1_textsInState_41 : decode cX1_textsInState 41 = .ok (.ireturn, 1) := by decide +kernel
theorem dX1_textsWithForms_0 : decode cX1_textsWithForms 0 = .ok (.iconst 0, 1) := by decide +kernel
theorem dX1_textsWithForms_1 : decode cX1_textsWithForms 1 = .ok (.istore_n 1, 1) := by decide +kernel
theorem dX1_textsWithForms_2 : decode cX1_textsWithForms 2 = .ok (.iconst 0, 1) := by decide +kernel
theorem dX1_textsWithForms_3 : decode cX1_textsWithForms 3 = .ok (.istore_n 2, 1) := by decide +kernel
theorem dX1_textsWithForms_4 : decode cX1_textsWithForms 4 = .ok (.iload_n 2, 1) := by decide +kernel
theorem dX1_textsWithForms_5 : decode cX1_textsWithForms 5 = .ok (.aload_n 0, 1) := by decide +kernel
theorem dX1_textsWithForms_6 : decode cX1_textsWithForms 6 = .ok (.invokevirtual 83, 3) := by decide +kernel
theorem dX1_textsWithForms_9 : decode cX1_textsWithForms 9 = .ok (.if_icmp .ge 21, 3) := by decide +kernel
theorem dX1_textsWithForms_12 : decode cX1_textsWithForms 12 = .ok (.aload_n 0, 1) := by decide +kernel
theorem dX1_textsWithForms_13 : decode cX1_textsWithForms 13 = .ok (.getfield 15, 3) := by decide +kernel
theorem dX1_textsWithForms_16 : decode cX1_textsWithForms 16 = .ok (.iload_n 2, 1) := by decide +kernel
theorem dX1_textsWithForms_17 : decode cX1_textsWithForms 17 = .ok (.iaload, 1) := by decide +kernel
theorem dX1_textsWithForms_18 : decode cX1_textsWithForms 18 = .ok (.ifCond .le 6, 3) := by decide +kernel
theorem dX1_textsWithForms_21 : decode cX1_textsWithForms 21 = .ok (.iinc 1 1, 3) := by decide +kernel
theorem dX1_textsWithForms_24 : decode cX1_textsWithForms 24 = .ok (.iinc 2 1, 3) := by decide +kernel
theorem dX1_textsWithForms_27 : decode cX1_textsWithForms 27 = .ok (.goto (-23), 3) := by decide +kernel
theorem dX1_textsWithForms_30 : decode cX1_textsWithForms 30 = .ok (.iload_n 1, 1) := by decide +kernel
theorem dX1_textsWithForms_31 : decode cX1_textsWithForms 31 = .ok (.ireturn, 1) := by decide +kernel
theorem dX1_sumOfConsistencies_0 : decode cX1_sumOfConsistencies 0 = .ok (.iconst 0, 1) := by decide +kernel
theorem dX1_sumOfConsistencies_1 : decode cX1_sumOfConsistencies 1 = .ok (.istore_n 1, 1) := by decide +kernel
theorem dX1_sumOfConsistencies_2 : decode cX1_sumOfConsistencies 2 = .ok (.iconst 0, 1) := by decide +kernel
theorem dX1_sumOfConsistencies_3 : decode cX1_sumOfConsistencies 3 = .ok (.istore_n 2, 1) := by decide +kernel
theorem dX1_sumOfConsistencies_4 : decode cX1_sumOfConsistencies 4 = .ok (.iload_n 2, 1) := by decide +kernel
theorem dX1_sumOfConsistencies_5 : decode cX1_sumOfConsistencies 5 = .ok (.aload_n 0, 1) := by decide +kernel
theorem dX1_sumOfConsistencies_6 : decode cX1_sumOfConsistencies 6 = .ok (.invokevirtual 83, 3) := by decide +kernel
theorem dX1_sumOfConsistencies_9 : decode cX1_sumOfConsistencies 9 = .ok (.if_icmp .ge 26, 3) := by decide +kernel
theorem dX1_sumOfConsistencies_12 : decode cX1_sumOfConsistencies 12 = .ok (.aload_n 0, 1) := by decide +kernel
theorem dX1_sumOfConsistencies_13 : decode cX1_sumOfConsistencies 13 = .ok (.getfield 15, 3) := by decide +kernel
theorem dX1_sumOfConsistencies_16 : decode cX1_sumOfConsistencies 16 = .ok (.iload_n 2, 1) := by decide +kernel
theorem dX1_sumOfConsistencies_17 : decode cX1_sumOfConsistencies 17 = .ok (.iaload, 1) := by decide +kernel
theorem dX1_sumOfConsistencies_18 : decode cX1_sumOfConsistencies 18 = .ok (.ifCond .le 11, 3) := by decide +kernel
theorem dX1_sumOfConsistencies_21 : decode cX1_sumOfConsistencies 21 = .ok (.iload_n 1, 1) := by decide +kernel
theorem dX1_sumOfConsistencies_22 : decode cX1_sumOfConsistencies 22 = .ok (.aload_n 0, 1) := by decide +kernel
theorem dX1_sumOfConsistencies_23 : decode cX1_sumOfConsistencies 23 = .ok (.iload_n 2, 1) := by decide +kernel
theorem dX1_sumOfConsistencies_24 : decode cX1_sumOfConsistencies 24 = .ok (.invokevirtual 122, 3) := by decide +kernel
theorem dX1_sumOfConsistencies_27 : decode cX1_sumOfConsistencies 27 = .ok (.iadd, 1) := by decide +kernel
theorem dX1_sumOfConsistencies_28 : decode cX1_sumOfConsistencies 28 = .ok (.istore_n 1, 1) := by decide +kernel
theorem dX1_sumOfConsistencies_29 : decode cX1_sumOfConsistencies 29 = .ok (.iinc 2 1, 3) := by decide +kernel
theorem dX1_sumOfConsistencies_32 : decode cX1_sumOfConsistencies 32 = .ok (.goto (-28), 3) := by decide +kernel
theorem dX1_sumOfConsistencies_35 : decode cX1_sumOfConsistencies 35 = .ok (.iload_n 1, 1) := by decide +kernel
theorem dX1_sumOfConsistencies_36 : decode cX1_sumOfConsistencies 36 = .ok (.ireturn, 1) := by decide +kernel
end
section
theorem dX2_init_0 : decode cX2_init 0 = .ok (.aload_n 0, 1) := by decide +kernel
theorem dX2_init_1 : decode cX2_init 1 = .ok (.invokespecial 3, 3) := by decide +kernel
theorem dX2_init_4 : decode cX2_init 4 = .ok (.aload_n 0, 1) := by decide +kernel
theorem dX2_init_5 : decode cX2_init 5 = .ok (.new 9, 3) := by decide +kernel
theorem dX2_init_8 : decode cX2_init 8 = .ok (.dup, 1) := by decide +kernel
theorem dX2_init_9 : decode cX2_init 9 = .ok (.invokespecial 11, 3) := by decide +kernel
theorem dX2_init_12 : decode cX2_init 12 = .ok (.putfield 12, 3) := by decide +kernel
theorem dX2_init_15 : decode cX2_init 15 = .ok (.aload_n 0, 1) := by decide +kernel
theorem dX2_init_16 : decode cX2_init 16 = .ok (.new 16, 3) := by decide +kernel
theorem dX2_init_19 : decode cX2_init 19 = .ok (.dup, 1) := by decide +kernel
theorem dX2_init_20 : decode cX2_init 20 = .ok (.aload_n 0, 1) := by decide +kernel
theorem dX2_init_21 : decode cX2_init 21 = .ok (.getfield 12, 3) := by decide +kernel
theorem dX2_init_24 : decode cX2_init 24 = .ok (.invokespecial 18, 3) := by decide +kernel
theorem dX2_init_27 : decode cX2_init 27 = .ok (.putfield 21, 3) := by decide +kernel
theorem dX2_init_30 : decode cX2_init 30 = .ok (.aload_n 0, 1) := by decide +kernel
theorem dX2_init_31 : decode cX2_init 31 = .ok (.iconst 0, 1) := by decide +kernel
theorem dX2_init_32 : decode cX2_init 32 = .ok (.putfield 25, 3) := by decide +kernel
theorem dX2_init_35 : decode cX2_init 35 = .ok (.return_, 1) := by decide +kernel
theorem dX2_concept_0 : decode cX2_concept 0 = .ok (.aload_n 0, 1) := by decide +kernel
theorem dX2_concept_1 : decode cX2_concept 1 = .ok (.iload_n 1, 1) := by decide +kernel
theorem dX2_concept_2 : decode cX2_concept 2 = .ok (.invokevirtual 29, 3) := by decide +kernel
theorem dX2_concept_5 : decode cX2_concept 5 = .ok (.aload_n 0, 1) := by decide +kernel
theorem dX2_concept_6 : decode cX2_concept 6 = .ok (.invokevirtual 33, 3) := by decide +kernel
theorem dX2_concept_9 : decode cX2_concept 9 = .ok (.aload_n 0, 1) := by decide +kernel
theorem dX2_concept_10 : decode cX2_concept 10 = .ok (.getfield 12, 3) := by decide +kernel
theorem dX2_concept_13 : decode cX2_concept 13 = .ok (.iload_n 1, 1) := by decide +kernel
theorem dX2_concept_14 : decode cX2_concept 14 = .ok (.invokevirtual 36, 3) := by decide +kernel
theorem dX2_concept_17 : decode cX2_concept 17 = .ok (.ireturn, 1) := by decide +kernel
theorem dX2_term_0 : decode cX2_term 0 = .ok (.aload_n 0, 1) := by decide +kernel
theorem dX2_term_1 : decode cX2_term 1 = .ok (.iload_n 1, 1) := by decide +kernel
theorem dX2_term_2 : decode cX2_term 2 = .ok (.invokevirtual 40, 3) := by decide +kernel
theorem dX2_term_5 : decode cX2_term 5 = .ok (.aload_n 0, 1) := by decide +kernel
theorem dX2_term_6 : decode cX2_term 6 = .ok (.iload_n 2, 1) := by decide +kernel
theorem dX2_term_7 : decode cX2_term 7 = .ok (.invokevirtual 43, 3) := by decide +kernel
theorem dX2_term_10 : decode cX2_term 10 = .ok (.iload_n 3, 1) := by decide +kernel
theorem dX2_term_11 : decode cX2_term 11 = .ok (.ifCond .lt 9, 3) := by decide +kernel
theorem dX2_term_14 : decode cX2_term 14 = .ok (.iload_n 3, 1) := by decide +kernel
theorem dX2_term_15 : decode cX2_term 15 = .ok (.bipush 20, 2) := by decide +kernel
theorem dX2_term_17 : decode cX2_term 17 = .ok (.if_icmp .lt 13, 3) := by decide +kernel
theorem dX2_term_20 : decode cX2_term 20 = .ok (.new 46, 3) := by decide +kernel
theorem dX2_term_23 : decode cX2_term 23 = .ok (.dup, 1) := by decide +kernel
theorem dX2_term_24 : decode cX2_term 24 = .ok (.ldc 48, 2) := by decide +kernel
theorem dX2_term_26 : decode cX2_term 26 = .ok (.invokespecial 50, 3) := by decide +kernel
theorem dX2_term_29 : decode cX2_term 29 = .ok (.athrow, 1) := by decide +kernel
theorem dX2_term_30 : decode cX2_term 30 = .ok (.aload_n 0, 1) := by decide +kernel
theorem dX2_term_31 : decode cX2_term 31 = .ok (.getfield 12, 3) := by decide +kernel
theorem dX2_term_34 : decode cX2_term 34 = .ok (.getfield 53, 3) := by decide +kernel
theorem dX2_term_37 : decode cX2_term 37 = .ok (.bipush 24, 2) := by decide +kernel
theorem dX2_term_39 : decode cX2_term 39 = .ok (.if_icmp .ge 16, 3) := by decide +kernel
theorem dX2_term_42 : decode cX2_term 42 = .ok (.aload_n 0, 1) := by decide +kernel
theorem dX2_term_43 : decode cX2_term 43 = .ok (.getfield 12, 3) := by decide +kernel
theorem dX2_term_46 : decode cX2_term 46 = .ok (.iload_n 1, 1) := by decide +kernel
theorem dX2_term_47 : decode cX2_term 47 = .ok (.iload_n 2, 1) := by decide +kernel
theorem dX2_term_48 : decode cX2_term 48 = .ok (.iload_n 3, 1) := by decide +kernel
theorem dX2_term_49 : decode cX2_term 49 = .ok (.invokevirtual 56, 3) := by decide +kernel
theorem dX2_term_52 : decode cX2_term 52 = .ok (.ifCond .eq 13, 3) := by decide +kernel
theorem dX2_term_55 : decode cX2_term 55 = .ok (.new 60, 3) := by decide +kernel
theorem dX2_term_58 : decode cX2_term 58 = .ok (.dup, 1) := by decide +kernel
theorem dX2_term_59 : decode cX2_term 59 = .ok (.ldc 62, 2) := by decide +kernel
theorem dX2_term_61 : decode cX2_term 61 = .ok (.invokespecial 64, 3) := by decide +kernel
theorem dX2_term_64 : decode cX2_term 64 = .ok (.athrow, 1) := by decide +kernel
theorem dX2_term_65 : decode cX2_term 65 = .ok (.aload_n 0, 1) := by decide +kernel
theorem dX2_term_66 : decode cX2_term 66 = .ok (.getfield 12, 3) := by decide +kernel
theorem dX2_term_69 : decode cX2_term 69 = .ok (.iload_n 1, 1) := by decide +kernel
theorem dX2_term_70 : decode cX2_term 70 = .ok (.iload_n 2, 1) := by decide +kernel
theorem dX2_term_71 : decode cX2_term 71 = .ok (.iload_n 3, 1) := by decide +kernel
theorem dX2_term_72 : decode cX2_term 72 = .ok (.invokevirtual 65, 3) := by decide +kernel
theorem dX2_term_75 : decode cX2_term 75 = .ok (.ireturn, 1) := by decide +kernel
theorem dX2_vote_0 : decode cX2_vote 0 = .ok (.aload_n 0, 1) := by decide +kernel
theorem dX2_vote_1 : decode cX2_vote 1 = .ok (.iload_n 1, 1) := by decide +kernel
theorem dX2_vote_2 : decode cX2_vote 2 = .ok (.invokevirtual 69, 3) := by decide +kernel
theorem dX2_vote_5 : decode cX2_vote 5 = .ok (.iload_n 2, 1) := by decide +kernel
theorem dX2_vote_6 : decode cX2_vote 6 = .ok (.ifCond .lt 8, 3) := by decide +kernel
theorem dX2_vote_9 : decode cX2_vote 9 = .ok (.iload_n 2, 1) := by decide +kernel
theorem dX2_vote_10 : decode cX2_vote 10 = .ok (.iconst 5, 1) := by decide +kernel
theorem dX2_vote_11 : decode cX2_vote 11 = .ok (.if_icmp .lt 13, 3) := by decide +kernel
theorem dX2_vote_14 : decode cX2_vote 14 = .ok (.new 72, 3) := by decide +kernel
theorem dX2_vote_17 : decode cX2_vote 17 = .ok (.dup, 1) := by decide +kernel
theorem dX2_vote_18 : decode cX2_vote 18 = .ok (.ldc 74, 2) := by decide +kernel
theorem dX2_vote_20 : decode cX2_vote 20 = .ok (.invokespecial 76, 3) := by decide +kernel
theorem dX2_vote_23 : decode cX2_vote 23 = .ok (.athrow, 1) := by decide +kernel
theorem dX2_vote_24 : decode cX2_vote 24 = .ok (.aload_n 0, 1) := by decide +kernel
theorem dX2_vote_25 : decode cX2_vote 25 = .ok (.getfield 12, 3) := by decide +kernel
theorem dX2_vote_28 : decode cX2_vote 28 = .ok (.getfield 77, 3) := by decide +kernel
theorem dX2_vote_31 : decode cX2_vote 31 = .ok (.iload_n 1, 1) := by decide +kernel
theorem dX2_vote_32 : decode cX2_vote 32 = .ok (.iaload, 1) := by decide +kernel
theorem dX2_vote_33 : decode cX2_vote 33 = .ok (.ifCond .ne 15, 3) := by decide +kernel
theorem dX2_vote_36 : decode cX2_vote 36 = .ok (.aload_n 0, 1) := by decide +kernel
theorem dX2_vote_37 : decode cX2_vote 37 = .ok (.getfield 12, 3) := by decide +kernel
theorem dX2_vote_40 : decode cX2_vote 40 = .ok (.iload_n 1, 1) := by decide +kernel
theorem dX2_vote_41 : decode cX2_vote 41 = .ok (.iload_n 2, 1) := by decide +kernel
theorem dX2_vote_42 : decode cX2_vote 42 = .ok (.invokevirtual 81, 3) := by decide +kernel
theorem dX2_vote_45 : decode cX2_vote 45 = .ok (.ifCond .eq 13, 3) := by decide +kernel
theorem dX2_vote_48 : decode cX2_vote 48 = .ok (.new 60, 3) := by decide +kernel
theorem dX2_vote_51 : decode cX2_vote 51 = .ok (.dup, 1) := by decide +kernel
theorem dX2_vote_52 : decode cX2_vote 52 = .ok (.ldc 85, 2) := by decide +kernel
theorem dX2_vote_54 : decode cX2_vote 54 = .ok (.invokespecial 64, 3) := by decide +kernel
theorem dX2_vote_57 : decode cX2_vote 57 = .ok (.athrow, 1) := by decide +kernel
theorem dX2_vote_58 : decode cX2_vote 58 = .ok (.aload_n 0, 1) := by decide +kernel
theorem dX2_vote_59 : decode cX2_vote 59 = .ok (.getfield 12, 3) := by decide +kernel
theorem dX2_vote_62 : decode cX2_vote 62 = .ok (.iload_n 1, 1) := by decide +kernel
theorem dX2_vote_63 : decode cX2_vote 63 = .ok (.iload_n 2, 1) := by decide +kernel
theorem dX2_vote_64 : decode cX2_vote 64 = .ok (.iload_n 3, 1) := by decide +kernel
theorem dX2_vote_65 : decode cX2_vote 65 = .ok (.invokevirtual 87, 3) := by decide +kernel
theorem dX2_vote_68 : decode cX2_vote 68 = .ok (.istore 4, 2) := by decide +kernel
theorem dX2_vote_70 : decode cX2_vote 70 = .ok (.iload 4, 2) := by decide +kernel
theorem dX2_vote_72 : decode cX2_vote 72 = .ok (.iconst 1, 1) := by decide +kernel
theorem dX2_vote_73 : decode cX2_vote 73 = .ok (.if_icmp .ne 7, 3) := by decide +kernel
theorem dX2_vote_76 : decode cX2_vote 76 = .ok (.aload_n 0, 1) := by decide +kernel
theorem dX2_vote_77 : decode cX2_vote 77 = .ok (.invokevirtual 91, 3) := by decide +kernel
theorem dX2_vote_80 : decode cX2_vote 80 = .ok (.iload 4, 2) := by decide +kernel
theorem dX2_vote_82 : decode cX2_vote 82 = .ok (.ireturn, 1) := by decide +kernel
theorem dX2_prefer_0 : decode cX2_prefer 0 = .ok (.aload_n 0, 1) := by decide +kernel
theorem dX2_prefer_1 : decode cX2_prefer 1 = .ok (.iload_n 1, 1) := by decide +kernel
theorem dX2_prefer_2 : decode cX2_prefer 2 = .ok (.invokevirtual 69, 3) := by decide +kernel
theorem dX2_prefer_5 : decode cX2_prefer 5 = .ok (.aload_n 0, 1) := by decide +kernel
theorem dX2_prefer_6 : decode cX2_prefer 6 = .ok (.getfield 12, 3) := by decide +kernel
theorem dX2_prefer_9 : decode cX2_prefer 9 = .ok (.getfield 77, 3) := by decide +kernel
theorem dX2_prefer_12 : decode cX2_prefer 12 = .ok (.iload_n 1, 1) := by decide +kernel
theorem dX2_prefer_13 : decode cX2_prefer 13 = .ok (.iaload, 1) := by decide +kernel
theorem dX2_prefer_14 : decode cX2_prefer 14 = .ok (.iconst 1, 1) := by decide +kernel
theorem dX2_prefer_15 : decode cX2_prefer 15 = .ok (.if_icmp .eq 13, 3) := by decide +kernel
theorem dX2_prefer_18 : decode cX2_prefer 18 = .ok (.new 60, 3) := by decide +kernel
theorem dX2_prefer_21 : decode cX2_prefer 21 = .ok (.dup, 1) := by decide +kernel
theorem dX2_prefer_22 : decode cX2_prefer 22 = .ok (.ldc 94, 2) := by decide +kernel
theorem dX2_prefer_24 : decode cX2_prefer 24 = .ok (.invokespecial 64, 3) := by decide +kernel
theorem dX2_prefer_27 : decode cX2_prefer 27 = .ok (.athrow, 1) := by decide +kernel
theorem dX2_prefer_28 : decode cX2_prefer 28 = .ok (.aload_n 0, 1) := by decide +kernel
theorem dX2_prefer_29 : decode cX2_prefer 29 = .ok (.getfield 12, 3) := by decide +kernel
theorem dX2_prefer_32 : decode cX2_prefer 32 = .ok (.iload_n 1, 1) := by decide +kernel
theorem dX2_prefer_33 : decode cX2_prefer 33 = .ok (.invokevirtual 96, 3) := by decide +kernel
theorem dX2_prefer_36 : decode cX2_prefer 36 = .ok (.ireturn, 1) := by decide +kernel
theorem dX2_ban_0 : decode cX2_ban 0 = .ok (.aload_n 0, 1) := by decide +kernel
theorem dX2_ban_1 : decode cX2_ban 1 = .ok (.iload_n 1, 1) := by decide +kernel
theorem dX2_ban_2 : decode cX2_ban 2 = .ok (.invokevirtual 69, 3) := by decide +kernel
theorem dX2_ban_5 : decode cX2_ban 5 = .ok (.iload_n 2, 1) := by decide +kernel
theorem dX2_ban_6 : decode cX2_ban 6 = .ok (.ifCond .lt 9, 3) := by decide +kernel
theorem dX2_ban_9 : decode cX2_ban 9 = .ok (.iload_n 2, 1) := by decide +kernel
theorem dX2_ban_10 : decode cX2_ban 10 = .ok (.bipush 30, 2) := by decide +kernel
theorem dX2_ban_12 : decode cX2_ban 12 = .ok (.if_icmp .le 13, 3) := by decide +kernel
theorem dX2_ban_15 : decode cX2_ban 15 = .ok (.new 46, 3) := by decide +kernel
theorem dX2_ban_18 : decode cX2_ban 18 = .ok (.dup, 1) := by decide +kernel
theorem dX2_ban_19 : decode cX2_ban 19 = .ok (.ldc 99, 2) := by decide +kernel
theorem dX2_ban_21 : decode cX2_ban 21 = .ok (.invokespecial 50, 3) := by decide +kernel
theorem dX2_ban_24 : decode cX2_ban 24 = .ok (.athrow, 1) := by decide +kernel
theorem dX2_ban_25 : decode cX2_ban 25 = .ok (.aload_n 0, 1) := by decide +kernel
theorem dX2_ban_26 : decode cX2_ban 26 = .ok (.getfield 12, 3) := by decide +kernel
theorem dX2_ban_29 : decode cX2_ban 29 = .ok (.iload_n 1, 1) := by decide +kernel
theorem dX2_ban_30 : decode cX2_ban 30 = .ok (.invokevirtual 101, 3) := by decide +kernel
theorem dX2_ban_33 : decode cX2_ban 33 = .ok (.ifCond .ne 13, 3) := by decide +kernel
theorem dX2_ban_36 : decode cX2_ban 36 = .ok (.new 60, 3) := by decide +kernel
theorem dX2_ban_39 : decode cX2_ban 39 = .ok (.dup, 1) := by decide +kernel
theorem dX2_ban_40 : decode cX2_ban 40 = .ok (.ldc 105, 2) := by decide +kernel
theorem dX2_ban_42 : decode cX2_ban 42 = .ok (.invokespecial 64, 3) := by decide +kernel
theorem dX2_ban_45 : decode cX2_ban 45 = .ok (.athrow, 1) := by decide +kernel
theorem dX2_ban_46 : decode cX2_ban 46 = .ok (.aload_n 0, 1) := by decide +kernel
theorem dX2_ban_47 : decode cX2_ban 47 = .ok (.getfield 12, 3) := by decide +kernel
theorem dX2_ban_50 : decode cX2_ban 50 = .ok (.iload_n 1, 1) := by decide +kernel
theorem dX2_ban_51 : decode cX2_ban 51 = .ok (.aload_n 0, 1) := by decide +kernel
theorem dX2_ban_52 : decode cX2_ban 52 = .ok (.getfield 25, 3) := by decide +kernel
theorem dX2_ban_55 : decode cX2_ban 55 = .ok (.iload_n 2, 1) := by decide +kernel
theorem dX2_ban_56 : decode cX2_ban 56 = .ok (.invokevirtual 107, 3) := by decide +kernel
theorem dX2_ban_59 : decode cX2_ban 59 = .ok (.aload_n 0, 1) := by decide +kernel
theorem dX2_ban_60 : decode cX2_ban 60 = .ok (.getfield 21, 3) := by decide +kernel
theorem dX2_ban_63 : decode cX2_ban 63 = .ok (.aload_n 0, 1) := by decide +kernel
theorem dX2_ban_64 : decode cX2_ban 64 = .ok (.getfield 25, 3) := by decide +kernel
theorem dX2_ban_67 : decode cX2_ban 67 = .ok (.invokevirtual 111, 3) := by decide +kernel
theorem dX2_ban_70 : decode cX2_ban 70 = .ok (.ireturn, 1) := by decide +kernel
theorem dX2_allow_0 : decode cX2_allow 0 = .ok (.aload_n 0, 1) := by decide +kernel
theorem dX2_allow_1 : decode cX2_allow 1 = .ok (.iload_n 1, 1) := by decide +kernel
theorem dX2_allow_2 : decode cX2_allow 2 = .ok (.invokevirtual 69, 3) := by decide +kernel
theorem dX2_allow_5 : decode cX2_allow 5 = .ok (.aload_n 0, 1) := by decide +kernel
theorem dX2_allow_6 : decode cX2_allow 6 = .ok (.getfield 12, 3) := by decide +kernel
theorem dX2_allow_9 : decode cX2_allow 9 = .ok (.getfield 77, 3) := by decide +kernel
theorem dX2_allow_12 : decode cX2_allow 12 = .ok (.iload_n 1, 1) := by decide +kernel
theorem dX2_allow_13 : decode cX2_allow 13 = .ok (.iaload, 1) := by decide +kernel
theorem dX2_allow_14 : decode cX2_allow 14 = .ok (.iconst 3, 1) := by decide +kernel
theorem dX2_allow_15 : decode cX2_allow 15 = .ok (.if_icmp .eq 13, 3) := by decide +kernel
theorem dX2_allow_18 : decode cX2_allow 18 = .ok (.new 60, 3) := by decide +kernel
theorem dX2_allow_21 : decode cX2_allow 21 = .ok (.dup, 1) := by decide +kernel
theorem dX2_allow_22 : decode cX2_allow 22 = .ok (.ldc 114, 2) := by decide +kernel
theorem dX2_allow_24 : decode cX2_allow 24 = .ok (.invokespecial 64, 3) := by decide +kernel
theorem dX2_allow_27 : decode cX2_allow 27 = .ok (.athrow, 1) := by decide +kernel
theorem dX2_allow_28 : decode cX2_allow 28 = .ok (.aload_n 0, 1) := by decide +kernel
theorem dX2_allow_29 : decode cX2_allow 29 = .ok (.getfield 12, 3) := by decide +kernel
theorem dX2_allow_32 : decode cX2_allow 32 = .ok (.iload_n 1, 1) := by decide +kernel
theorem dX2_allow_33 : decode cX2_allow 33 = .ok (.aload_n 0, 1) := by decide +kernel
theorem dX2_allow_34 : decode cX2_allow 34 = .ok (.getfield 25, 3) := by decide +kernel
theorem dX2_allow_37 : decode cX2_allow 37 = .ok (.invokevirtual 116, 3) := by decide +kernel
theorem dX2_allow_40 : decode cX2_allow 40 = .ok (.ireturn, 1) := by decide +kernel
theorem dX2_ofTerm_0 : decode cX2_ofTerm 0 = .ok (.aload_n 0, 1) := by decide +kernel
theorem dX2_ofTerm_1 : decode cX2_ofTerm 1 = .ok (.iload_n 1, 1) := by decide +kernel
theorem dX2_ofTerm_2 : decode cX2_ofTerm 2 = .ok (.invokevirtual 69, 3) := by decide +kernel
theorem dX2_ofTerm_5 : decode cX2_ofTerm 5 = .ok (.aload_n 0, 1) := by decide +kernel
theorem dX2_ofTerm_6 : decode cX2_ofTerm 6 = .ok (.iload_n 2, 1) := by decide +kernel
theorem dX2_ofTerm_7 : decode cX2_ofTerm 7 = .ok (.bipush 7, 2) := by decide +kernel
theorem dX2_ofTerm_9 : decode cX2_ofTerm 9 = .ok (.invokevirtual 120, 3) := by decide +kernel
theorem dX2_ofTerm_12 : decode cX2_ofTerm 12 = .ok (.iload_n 2, 1) := by decide +kernel
theorem dX2_ofTerm_13 : decode cX2_ofTerm 13 = .ok (.tableswitch 136 0 6 #[43, 53, 63, 73, 83, 96, 109], 43) := by decide +kernel
theorem dX2_ofTerm_56 : decode cX2_ofTerm 56 = .ok (.aload_n 0, 1) := by decide +kernel
theorem dX2_ofTerm_57 : decode cX2_ofTerm 57 = .ok (.getfield 12, 3) := by decide +kernel
theorem dX2_ofTerm_60 : decode cX2_ofTerm 60 = .ok (.getfield 124, 3) := by decide +kernel
theorem dX2_ofTerm_63 : decode cX2_ofTerm 63 = .ok (.iload_n 1, 1) := by decide +kernel
theorem dX2_ofTerm_64 : decode cX2_ofTerm 64 = .ok (.iaload, 1) := by decide +kernel
theorem dX2_ofTerm_65 : decode cX2_ofTerm 65 = .ok (.ireturn, 1) := by decide +kernel
theorem dX2_ofTerm_66 : decode cX2_ofTerm 66 = .ok (.aload_n 0, 1) := by decide +kernel
theorem dX2_ofTerm_67 : decode cX2_ofTerm 67 = .ok (.getfield 12, 3) := by decide +kernel
theorem dX2_ofTerm_70 : decode cX2_ofTerm 70 = .ok (.getfield 127, 3) := by decide +kernel
theorem dX2_ofTerm_73 : decode cX2_ofTerm 73 = .ok (.iload_n 1, 1) := by decide +kernel
theorem dX2_ofTerm_74 : decode cX2_ofTerm 74 = .ok (.iaload, 1) := by decide +kernel
theorem dX2_ofTerm_75 : decode cX2_ofTerm 75 = .ok (.ireturn, 1) := by decide +kernel
theorem dX2_ofTerm_76 : decode cX2_ofTerm 76 = .ok (.aload_n 0, 1) := by decide +kernel
theorem dX2_ofTerm_77 : decode cX2_ofTerm 77 = .ok (.getfield 12, 3) := by decide +kernel
theorem dX2_ofTerm_80 : decode cX2_ofTerm 80 = .ok (.getfield 130, 3) := by decide +kernel
theorem dX2_ofTerm_83 : decode cX2_ofTerm 83 = .ok (.iload_n 1, 1) := by decide +kernel
theorem dX2_ofTerm_84 : decode cX2_ofTerm 84 = .ok (.iaload, 1) := by decide +kernel
theorem dX2_ofTerm_85 : decode cX2_ofTerm 85 = .ok (.ireturn, 1) := by decide +kernel
theorem dX2_ofTerm_86 : decode cX2_ofTerm 86 = .ok (.aload_n 0, 1) := by decide +kernel
theorem dX2_ofTerm_87 : decode cX2_ofTerm 87 = .ok (.getfield 12, 3) := by decide +kernel
theorem dX2_ofTerm_90 : decode cX2_ofTerm 90 = .ok (.getfield 77, 3) := by decide +kernel
theorem dX2_ofTerm_93 : decode cX2_ofTerm 93 = .ok (.iload_n 1, 1) := by decide +kernel
theorem dX2_ofTerm_94 : decode cX2_ofTerm 94 = .ok (.iaload, 1) := by decide +kernel
theorem dX2_ofTerm_95 : decode cX2_ofTerm 95 = .ok (.ireturn, 1) := by decide +kernel
theorem dX2_ofTerm_96 : decode cX2_ofTerm 96 = .ok (.aload_n 0, 1) := by decide +kernel
theorem dX2_ofTerm_97 : decode cX2_ofTerm 97 = .ok (.getfield 12, 3) := by decide +kernel
theorem dX2_ofTerm_100 : decode cX2_ofTerm 100 = .ok (.getfield 133, 3) := by decide +kernel
theorem dX2_ofTerm_103 : decode cX2_ofTerm 103 = .ok (.iload_n 1, 1) := by decide +kernel
theorem dX2_ofTerm_104 : decode cX2_ofTerm 104 = .ok (.iaload, 1) := by decide +kernel
theorem dX2_ofTerm_105 : decode cX2_ofTerm 105 = .ok (.invokestatic 136, 3) := by decide +kernel
theorem dX2_ofTerm_108 : decode cX2_ofTerm 108 = .ok (.ireturn, 1) := by decide +kernel
theorem dX2_ofTerm_109 : decode cX2_ofTerm 109 = .ok (.aload_n 0, 1) := by decide +kernel
theorem dX2_ofTerm_110 : decode cX2_ofTerm 110 = .ok (.getfield 12, 3) := by decide +kernel
theorem dX2_ofTerm_113 : decode cX2_ofTerm 113 = .ok (.getfield 141, 3) := by decide +kernel
theorem dX2_ofTerm_116 : decode cX2_ofTerm 116 = .ok (.iload_n 1, 1) := by decide +kernel
theorem dX2_ofTerm_117 : decode cX2_ofTerm 117 = .ok (.iaload, 1) := by decide +kernel
theorem dX2_ofTerm_118 : decode cX2_ofTerm 118 = .ok (.invokestatic 136, 3) := by decide +kernel
theorem dX2_ofTerm_121 : decode cX2_ofTerm 121 = .ok (.ireturn, 1) := by decide +kernel
theorem dX2_ofTerm_122 : decode cX2_ofTerm 122 = .ok (.aload_n 0, 1) := by decide +kernel
theorem dX2_ofTerm_123 : decode cX2_ofTerm 123 = .ok (.getfield 12, 3) := by decide +kernel
theorem dX2_ofTerm_126 : decode cX2_ofTerm 126 = .ok (.getfield 77, 3) := by decide +kernel
theorem dX2_ofTerm_129 : decode cX2_ofTerm 129 = .ok (.iload_n 1, 1) := by decide +kernel
theorem dX2_ofTerm_130 : decode cX2_ofTerm 130 = .ok (.iaload, 1) := by decide +kernel
theorem dX2_ofTerm_131 : decode cX2_ofTerm 131 = .ok (.iconst 3, 1) := by decide +kernel
theorem dX2_ofTerm_132 : decode cX2_ofTerm 132 = .ok (.if_icmp .ne 15, 3) := by decide +kernel
theorem dX2_ofTerm_135 : decode cX2_ofTerm 135 = .ok (.aload_n 0, 1) := by decide +kernel
theorem dX2_ofTerm_136 : decode cX2_ofTerm 136 = .ok (.getfield 12, 3) := by decide +kernel
theorem dX2_ofTerm_139 : decode cX2_ofTerm 139 = .ok (.getfield 144, 3) := by decide +kernel
theorem dX2_ofTerm_142 : decode cX2_ofTerm 142 = .ok (.iload_n 1, 1) := by decide +kernel
theorem dX2_ofTerm_143 : decode cX2_ofTerm 143 = .ok (.iaload, 1) := by decide +kernel
theorem dX2_ofTerm_144 : decode cX2_ofTerm 144 = .ok (.goto 4, 3) := by decide +kernel
theorem dX2_ofTerm_147 : decode cX2_ofTerm 147 = .ok (.iconst (-1), 1) := by decide +kernel
theorem dX2_ofTerm_148 : decode cX2_ofTerm 148 = .ok (.ireturn, 1) := by decide +kernel
theorem dX2_ofTerm_149 : decode cX2_ofTerm 149 = .ok (.aload_n 0, 1) := by decide +kernel
theorem dX2_ofTerm_150 : decode cX2_ofTerm 150 = .ok (.getfield 21, 3) := by decide +kernel
theorem dX2_ofTerm_153 : decode cX2_ofTerm 153 = .ok (.iconst 1, 1) := by decide +kernel
theorem dX2_ofTerm_154 : decode cX2_ofTerm 154 = .ok (.iload_n 1, 1) := by decide +kernel
theorem dX2_ofTerm_155 : decode cX2_ofTerm 155 = .ok (.ishl, 1) := by decide +kernel
theorem dX2_ofTerm_156 : decode cX2_ofTerm 156 = .ok (.invokevirtual 147, 3) := by decide +kernel
theorem dX2_ofTerm_159 : decode cX2_ofTerm 159 = .ok (.ireturn, 1) := by decide +kernel
theorem dX2_ofConcept_0 : decode cX2_ofConcept 0 = .ok (.aload_n 0, 1) := by decide +kernel
theorem dX2_ofConcept_1 : decode cX2_ofConcept 1 = .ok (.iload_n 1, 1) := by decide +kernel
theorem dX2_ofConcept_2 : decode cX2_ofConcept 2 = .ok (.invokevirtual 40, 3) := by decide +kernel
theorem dX2_ofConcept_5 : decode cX2_ofConcept 5 = .ok (.aload_n 0, 1) := by decide +kernel
theorem dX2_ofConcept_6 : decode cX2_ofConcept 6 = .ok (.iload_n 2, 1) := by decide +kernel
theorem dX2_ofConcept_7 : decode cX2_ofConcept 7 = .ok (.bipush 6, 2) := by decide +kernel
theorem dX2_ofConcept_9 : decode cX2_ofConcept 9 = .ok (.invokevirtual 120, 3) := by decide +kernel
theorem dX2_ofConcept_12 : decode cX2_ofConcept 12 = .ok (.aload_n 0, 1) := by decide +kernel
theorem dX2_ofConcept_13 : decode cX2_ofConcept 13 = .ok (.getfield 12, 3) := by decide +kernel
theorem dX2_ofConcept_16 : decode cX2_ofConcept 16 = .ok (.iload_n 1, 1) := by decide +kernel
theorem dX2_ofConcept_17 : decode cX2_ofConcept 17 = .ok (.invokevirtual 150, 3) := by decide +kernel
theorem dX2_ofConcept_20 : decode cX2_ofConcept 20 = .ok (.istore_n 3, 1) := by decide +kernel
theorem dX2_ofConcept_21 : decode cX2_ofConcept 21 = .ok (.iload_n 2, 1) := by decide +kernel
theorem dX2_ofConcept_22 : decode cX2_ofConcept 22 = .ok (.tableswitch 75 0 6 #[42, 52, 75, 75, 75, 57, 66], 42) := by decide +kernel
theorem dX2_ofConcept_64 : decode cX2_ofConcept 64 = .ok (.aload_n 0, 1) := by decide +kernel
theorem dX2_ofConcept_65 : decode cX2_ofConcept 65 = .ok (.getfield 12, 3) := by decide +kernel
theorem dX2_ofConcept_68 : decode cX2_ofConcept 68 = .ok (.getfield 153, 3) := by decide +kernel
theorem dX2_ofConcept_71 : decode cX2_ofConcept 71 = .ok (.iload_n 1, 1) := by decide +kernel
theorem dX2_ofConcept_72 : decode cX2_ofConcept 72 = .ok (.iaload, 1) := by decide +kernel
theorem dX2_ofConcept_73 : decode cX2_ofConcept 73 = .ok (.ireturn, 1) := by decide +kernel
theorem dX2_ofConcept_74 : decode cX2_ofConcept 74 = .ok (.iload_n 3, 1) := by decide +kernel
theorem dX2_ofConcept_75 : decode cX2_ofConcept 75 = .ok (.invokestatic 136, 3) := by decide +kernel
theorem dX2_ofConcept_78 : decode cX2_ofConcept 78 = .ok (.ireturn, 1) := by decide +kernel
theorem dX2_ofConcept_79 : decode cX2_ofConcept 79 = .ok (.aload_n 0, 1) := by decide +kernel
theorem dX2_ofConcept_80 : decode cX2_ofConcept 80 = .ok (.getfield 21, 3) := by decide +kernel
theorem dX2_ofConcept_83 : decode cX2_ofConcept 83 = .ok (.iload_n 3, 1) := by decide +kernel
theorem dX2_ofConcept_84 : decode cX2_ofConcept 84 = .ok (.invokevirtual 147, 3) := by decide +kernel
theorem dX2_ofConcept_87 : decode cX2_ofConcept 87 = .ok (.ireturn, 1) := by decide +kernel
theorem dX2_ofConcept_88 : decode cX2_ofConcept 88 = .ok (.aload_n 0, 1) := by decide +kernel
theorem dX2_ofConcept_89 : decode cX2_ofConcept 89 = .ok (.getfield 21, 3) := by decide +kernel
theorem dX2_ofConcept_92 : decode cX2_ofConcept 92 = .ok (.iload_n 3, 1) := by decide +kernel
theorem dX2_ofConcept_93 : decode cX2_ofConcept 93 = .ok (.invokevirtual 156, 3) := by decide +kernel
theorem dX2_ofConcept_96 : decode cX2_ofConcept 96 = .ok (.ireturn, 1) := by decide +kernel
theorem dX2_ofConcept_97 : decode cX2_ofConcept 97 = .ok (.aload_n 0, 1) := by decide +kernel
theorem dX2_ofConcept_98 : decode cX2_ofConcept 98 = .ok (.getfield 12, 3) := by decide +kernel
theorem dX2_ofConcept_101 : decode cX2_ofConcept 101 = .ok (.iload_n 1, 1) := by decide +kernel
theorem dX2_ofConcept_102 : decode cX2_ofConcept 102 = .ok (.iload_n 2, 1) := by decide +kernel
theorem dX2_ofConcept_103 : decode cX2_ofConcept 103 = .ok (.iconst 2, 1) := by decide +kernel
theorem dX2_ofConcept_104 : decode cX2_ofConcept 104 = .ok (.isub, 1) := by decide +kernel
theorem dX2_ofConcept_105 : decode cX2_ofConcept 105 = .ok (.invokevirtual 159, 3) := by decide +kernel
theorem dX2_ofConcept_108 : decode cX2_ofConcept 108 = .ok (.ireturn, 1) := by decide +kernel
theorem dX2_split_0 : decode cX2_split 0 = .ok (.aload_n 0, 1) := by decide +kernel
theorem dX2_split_1 : decode cX2_split 1 = .ok (.iload_n 1, 1) := by decide +kernel
theorem dX2_split_2 : decode cX2_split 2 = .ok (.invokevirtual 40, 3) := by decide +kernel
theorem dX2_split_5 : decode cX2_split 5 = .ok (.aload_n 0, 1) := by decide +kernel
theorem dX2_split_6 : decode cX2_split 6 = .ok (.getfield 12, 3) := by decide +kernel
theorem dX2_split_9 : decode cX2_split 9 = .ok (.iload_n 1, 1) := by decide +kernel
theorem dX2_split_10 : decode cX2_split 10 = .ok (.invokevirtual 150, 3) := by decide +kernel
theorem dX2_split_13 : decode cX2_split 13 = .ok (.istore 4, 2) := by decide +kernel
theorem dX2_split_15 : decode cX2_split 15 = .ok (.iload_n 2, 1) := by decide +kernel
theorem dX2_split_16 : decode cX2_split 16 = .ok (.iconst 1, 1) := by decide +kernel
theorem dX2_split_17 : decode cX2_split 17 = .ok (.if_icmp .lt 18, 3) := by decide +kernel
theorem dX2_split_20 : decode cX2_split 20 = .ok (.iload_n 2, 1) := by decide +kernel
theorem dX2_split_21 : decode cX2_split 21 = .ok (.iload 4, 2) := by decide +kernel
theorem dX2_split_23 : decode cX2_split 23 = .ok (.iconst (-1), 1) := by decide +kernel
theorem dX2_split_24 : decode cX2_split 24 = .ok (.ixor, 1) := by decide +kernel
theorem dX2_split_25 : decode cX2_split 25 = .ok (.iand, 1) := by decide +kernel
theorem dX2_split_26 : decode cX2_split 26 = .ok (.ifCond .ne 9, 3) := by decide +kernel
theorem dX2_split_29 : decode cX2_split 29 = .ok (.iload_n 2, 1) := by decide +kernel
theorem dX2_split_30 : decode cX2_split 30 = .ok (.iload 4, 2) := by decide +kernel
theorem dX2_split_32 : decode cX2_split 32 = .ok (.if_icmp .ne 13, 3) := by decide +kernel
theorem dX2_split_35 : decode cX2_split 35 = .ok (.new 46, 3) := by decide +kernel
theorem dX2_split_38 : decode cX2_split 38 = .ok (.dup, 1) := by decide +kernel
theorem dX2_split_39 : decode cX2_split 39 = .ok (.ldc 162, 2) := by decide +kernel
theorem dX2_split_41 : decode cX2_split 41 = .ok (.invokespecial 50, 3) := by decide +kernel
theorem dX2_split_44 : decode cX2_split 44 = .ok (.athrow, 1) := by decide +kernel
theorem dX2_split_45 : decode cX2_split 45 = .ok (.aload_n 0, 1) := by decide +kernel
theorem dX2_split_46 : decode cX2_split 46 = .ok (.iload_n 3, 1) := by decide +kernel
theorem dX2_split_47 : decode cX2_split 47 = .ok (.invokevirtual 29, 3) := by decide +kernel
theorem dX2_split_50 : decode cX2_split 50 = .ok (.aload_n 0, 1) := by decide +kernel
theorem dX2_split_51 : decode cX2_split 51 = .ok (.invokevirtual 33, 3) := by decide +kernel
theorem dX2_split_54 : decode cX2_split 54 = .ok (.aload_n 0, 1) := by decide +kernel
theorem dX2_split_55 : decode cX2_split 55 = .ok (.getfield 12, 3) := by decide +kernel
theorem dX2_split_58 : decode cX2_split 58 = .ok (.iload_n 3, 1) := by decide +kernel
theorem dX2_split_59 : decode cX2_split 59 = .ok (.invokevirtual 36, 3) := by decide +kernel
theorem dX2_split_62 : decode cX2_split 62 = .ok (.istore 5, 2) := by decide +kernel
theorem dX2_split_64 : decode cX2_split 64 = .ok (.aload_n 0, 1) := by decide +kernel
theorem dX2_split_65 : decode cX2_split 65 = .ok (.getfield 12, 3) := by decide +kernel
theorem dX2_split_68 : decode cX2_split 68 = .ok (.iload_n 2, 1) := by decide +kernel
theorem dX2_split_69 : decode cX2_split 69 = .ok (.iload 5, 2) := by decide +kernel
theorem dX2_split_71 : decode cX2_split 71 = .ok (.invokevirtual 164, 3) := by decide +kernel
theorem dX2_split_74 : decode cX2_split 74 = .ok (.aload_n 0, 1) := by decide +kernel
theorem dX2_split_75 : decode cX2_split 75 = .ok (.invokevirtual 91, 3) := by decide +kernel
theorem dX2_split_78 : decode cX2_split 78 = .ok (.iload 5, 2) := by decide +kernel
theorem dX2_split_80 : decode cX2_split 80 = .ok (.ireturn, 1) := by decide +kernel
theorem dX2_join_0 : decode cX2_join 0 = .ok (.aload_n 0, 1) := by decide +kernel
theorem dX2_join_1 : decode cX2_join 1 = .ok (.iload_n 1, 1) := by decide +kernel
theorem dX2_join_2 : decode cX2_join 2 = .ok (.iload_n 2, 1) := by decide +kernel
theorem dX2_join_3 : decode cX2_join 3 = .ok (.invokevirtual 167, 3) := by decide +kernel
theorem dX2_join_6 : decode cX2_join 6 = .ok (.aload_n 0, 1) := by decide +kernel
theorem dX2_join_7 : decode cX2_join 7 = .ok (.getfield 12, 3) := by decide +kernel
theorem dX2_join_10 : decode cX2_join 10 = .ok (.iload_n 1, 1) := by decide +kernel
theorem dX2_join_11 : decode cX2_join 11 = .ok (.iload_n 2, 1) := by decide +kernel
theorem dX2_join_12 : decode cX2_join 12 = .ok (.invokevirtual 170, 3) := by decide +kernel
theorem dX2_join_15 : decode cX2_join 15 = .ok (.ifCond .ne 13, 3) := by decide +kernel
theorem dX2_join_18 : decode cX2_join 18 = .ok (.new 60, 3) := by decide +kernel
theorem dX2_join_21 : decode cX2_join 21 = .ok (.dup, 1) := by decide +kernel
theorem dX2_join_22 : decode cX2_join 22 = .ok (.ldc 173, 2) := by decide +kernel
theorem dX2_join_24 : decode cX2_join 24 = .ok (.invokespecial 64, 3) := by decide +kernel
theorem dX2_join_27 : decode cX2_join 27 = .ok (.athrow, 1) := by decide +kernel
theorem dX2_join_28 : decode cX2_join 28 = .ok (.iload_n 1, 1) := by decide +kernel
theorem dX2_join_29 : decode cX2_join 29 = .ok (.iload_n 2, 1) := by decide +kernel
theorem dX2_join_30 : decode cX2_join 30 = .ok (.invokestatic 175, 3) := by decide +kernel
theorem dX2_join_33 : decode cX2_join 33 = .ok (.istore_n 3, 1) := by decide +kernel
theorem dX2_join_34 : decode cX2_join 34 = .ok (.aload_n 0, 1) := by decide +kernel
theorem dX2_join_35 : decode cX2_join 35 = .ok (.getfield 12, 3) := by decide +kernel
theorem dX2_join_38 : decode cX2_join 38 = .ok (.iload_n 3, 1) := by decide +kernel
theorem dX2_join_39 : decode cX2_join 39 = .ok (.iload_n 1, 1) := by decide +kernel
theorem dX2_join_40 : decode cX2_join 40 = .ok (.iload_n 2, 1) := by decide +kernel
theorem dX2_join_41 : decode cX2_join 41 = .ok (.invokestatic 180, 3) := by decide +kernel
theorem dX2_join_44 : decode cX2_join 44 = .ok (.invokevirtual 183, 3) := by decide +kernel
theorem dX2_join_47 : decode cX2_join 47 = .ok (.aload_n 0, 1) := by decide +kernel
theorem dX2_join_48 : decode cX2_join 48 = .ok (.invokevirtual 91, 3) := by decide +kernel
theorem dX2_join_51 : decode cX2_join 51 = .ok (.aload_n 0, 1) := by decide +kernel
theorem dX2_join_52 : decode cX2_join 52 = .ok (.getfield 12, 3) := by decide +kernel
theorem dX2_join_55 : decode cX2_join 55 = .ok (.iload_n 3, 1) := by decide +kernel
theorem dX2_join_56 : decode cX2_join 56 = .ok (.invokevirtual 150, 3) := by decide +kernel
theorem dX2_join_59 : decode cX2_join 59 = .ok (.invokestatic 136, 3) := by decide +kernel
theorem dX2_join_62 : decode cX2_join 62 = .ok (.ireturn, 1) := by decide +kernel
theorem dX2_document_0 : decode cX2_document 0 = .ok (.aload_n 0, 1) := by decide +kernel
theorem dX2_document_1 : decode cX2_document 1 = .ok (.getfield 21, 3) := by decide +kernel
theorem dX2_document_4 : decode cX2_document 4 = .ok (.getfield 186, 3) := by decide +kernel
theorem dX2_document_7 : decode cX2_document 7 = .ok (.bipush 6, 2) := by decide +kernel
theorem dX2_document_9 : decode cX2_document 9 = .ok (.if_icmp .lt 13, 3) := by decide +kernel
theorem dX2_document_12 : decode cX2_document 12 = .ok (.new 60, 3) := by decide +kernel
theorem dX2_document_15 : decode cX2_document 15 = .ok (.dup, 1) := by decide +kernel
theorem dX2_document_16 : decode cX2_document 16 = .ok (.ldc 189, 2) := by decide +kernel
theorem dX2_document_18 : decode cX2_document 18 = .ok (.invokespecial 64, 3) := by decide +kernel
theorem dX2_document_21 : decode cX2_document 21 = .ok (.athrow, 1) := by decide +kernel
theorem dX2_document_22 : decode cX2_document 22 = .ok (.aload_n 0, 1) := by decide +kernel
theorem dX2_document_23 : decode cX2_document 23 = .ok (.getfield 21, 3) := by decide +kernel
theorem dX2_document_26 : decode cX2_document 26 = .ok (.invokevirtual 191, 3) := by decide +kernel
theorem dX2_document_29 : decode cX2_document 29 = .ok (.ireturn, 1) := by decide +kernel
theorem dX2_write_0 : decode cX2_write 0 = .ok (.aload_n 0, 1) := by decide +kernel
theorem dX2_write_1 : decode cX2_write 1 = .ok (.iload_n 1, 1) := by decide +kernel
theorem dX2_write_2 : decode cX2_write 2 = .ok (.iload_n 2, 1) := by decide +kernel
theorem dX2_write_3 : decode cX2_write 3 = .ok (.invokevirtual 195, 3) := by decide +kernel
theorem dX2_write_6 : decode cX2_write 6 = .ok (.istore 5, 2) := by decide +kernel
theorem dX2_write_8 : decode cX2_write 8 = .ok (.aload_n 0, 1) := by decide +kernel
theorem dX2_write_9 : decode cX2_write 9 = .ok (.iload_n 3, 1) := by decide +kernel
theorem dX2_write_10 : decode cX2_write 10 = .ok (.aload_n 0, 1) := by decide +kernel
theorem dX2_write_11 : decode cX2_write 11 = .ok (.getfield 21, 3) := by decide +kernel
theorem dX2_write_14 : decode cX2_write 14 = .ok (.iload 5, 2) := by decide +kernel
theorem dX2_write_16 : decode cX2_write 16 = .ok (.invokevirtual 198, 3) := by decide +kernel
theorem dX2_write_19 : decode cX2_write 19 = .ok (.invokevirtual 201, 3) := by decide +kernel
theorem dX2_write_22 : decode cX2_write 22 = .ok (.iload 4, 2) := by decide +kernel
theorem dX2_write_24 : decode cX2_write 24 = .ok (.ifCond .lt 10, 3) := by decide +kernel
theorem dX2_write_27 : decode cX2_write 27 = .ok (.iload 4, 2) := by decide +kernel
theorem dX2_write_29 : decode cX2_write 29 = .ok (.bipush 80, 2) := by decide +kernel
theorem dX2_write_31 : decode cX2_write 31 = .ok (.if_icmp .lt 13, 3) := by decide +kernel
theorem dX2_write_34 : decode cX2_write 34 = .ok (.new 46, 3) := by decide +kernel
theorem dX2_write_37 : decode cX2_write 37 = .ok (.dup, 1) := by decide +kernel
theorem dX2_write_38 : decode cX2_write 38 = .ok (.ldc 204, 2) := by decide +kernel
theorem dX2_write_40 : decode cX2_write 40 = .ok (.invokespecial 50, 3) := by decide +kernel
theorem dX2_write_43 : decode cX2_write 43 = .ok (.athrow, 1) := by decide +kernel
theorem dX2_write_44 : decode cX2_write 44 = .ok (.aload_n 0, 1) := by decide +kernel
theorem dX2_write_45 : decode cX2_write 45 = .ok (.getfield 21, 3) := by decide +kernel
theorem dX2_write_48 : decode cX2_write 48 = .ok (.getfield 206, 3) := by decide +kernel
theorem dX2_write_51 : decode cX2_write 51 = .ok (.iload 5, 2) := by decide +kernel
theorem dX2_write_53 : decode cX2_write 53 = .ok (.iaload, 1) := by decide +kernel
theorem dX2_write_54 : decode cX2_write 54 = .ok (.iconst 1, 1) := by decide +kernel
theorem dX2_write_55 : decode cX2_write 55 = .ok (.if_icmp .ne 13, 3) := by decide +kernel
theorem dX2_write_58 : decode cX2_write 58 = .ok (.new 60, 3) := by decide +kernel
theorem dX2_write_61 : decode cX2_write 61 = .ok (.dup, 1) := by decide +kernel
theorem dX2_write_62 : decode cX2_write 62 = .ok (.ldc 207, 2) := by decide +kernel
theorem dX2_write_64 : decode cX2_write 64 = .ok (.invokespecial 64, 3) := by decide +kernel
theorem dX2_write_67 : decode cX2_write 67 = .ok (.athrow, 1) := by decide +kernel
theorem dX2_write_68 : decode cX2_write 68 = .ok (.aload_n 0, 1) := by decide +kernel
theorem dX2_write_69 : decode cX2_write 69 = .ok (.getfield 21, 3) := by decide +kernel
theorem dX2_write_72 : decode cX2_write 72 = .ok (.iload 5, 2) := by decide +kernel
theorem dX2_write_74 : decode cX2_write 74 = .ok (.iload_n 3, 1) := by decide +kernel
theorem dX2_write_75 : decode cX2_write 75 = .ok (.iload 4, 2) := by decide +kernel
theorem dX2_write_77 : decode cX2_write 77 = .ok (.invokevirtual 209, 3) := by decide +kernel
theorem dX2_write_80 : decode cX2_write 80 = .ok (.ireturn, 1) := by decide +kernel
theorem dX2_cut_0 : decode cX2_cut 0 = .ok (.aload_n 0, 1) := by decide +kernel
theorem dX2_cut_1 : decode cX2_cut 1 = .ok (.iload_n 1, 1) := by decide +kernel
theorem dX2_cut_2 : decode cX2_cut 2 = .ok (.iload_n 2, 1) := by decide +kernel
theorem dX2_cut_3 : decode cX2_cut 3 = .ok (.invokevirtual 195, 3) := by decide +kernel
theorem dX2_cut_6 : decode cX2_cut 6 = .ok (.istore_n 3, 1) := by decide +kernel
theorem dX2_cut_7 : decode cX2_cut 7 = .ok (.aload_n 0, 1) := by decide +kernel
theorem dX2_cut_8 : decode cX2_cut 8 = .ok (.getfield 21, 3) := by decide +kernel
theorem dX2_cut_11 : decode cX2_cut 11 = .ok (.getfield 206, 3) := by decide +kernel
theorem dX2_cut_14 : decode cX2_cut 14 = .ok (.iload_n 3, 1) := by decide +kernel
theorem dX2_cut_15 : decode cX2_cut 15 = .ok (.iaload, 1) := by decide +kernel
theorem dX2_cut_16 : decode cX2_cut 16 = .ok (.iconst 1, 1) := by decide +kernel
theorem dX2_cut_17 : decode cX2_cut 17 = .ok (.if_icmp .eq 16, 3) := by decide +kernel
theorem dX2_cut_20 : decode cX2_cut 20 = .ok (.aload_n 0, 1) := by decide +kernel
theorem dX2_cut_21 : decode cX2_cut 21 = .ok (.getfield 21, 3) := by decide +kernel
theorem dX2_cut_24 : decode cX2_cut 24 = .ok (.getfield 212, 3) := by decide +kernel
theorem dX2_cut_27 : decode cX2_cut 27 = .ok (.iload_n 3, 1) := by decide +kernel
theorem dX2_cut_28 : decode cX2_cut 28 = .ok (.iaload, 1) := by decide +kernel
theorem dX2_cut_29 : decode cX2_cut 29 = .ok (.iconst 1, 1) := by decide +kernel
theorem dX2_cut_30 : decode cX2_cut 30 = .ok (.if_icmp .ge 13, 3) := by decide +kernel
theorem dX2_cut_33 : decode cX2_cut 33 = .ok (.new 60, 3) := by decide +kernel
theorem dX2_cut_36 : decode cX2_cut 36 = .ok (.dup, 1) := by decide +kernel
theorem dX2_cut_37 : decode cX2_cut 37 = .ok (.ldc 215, 2) := by decide +kernel
theorem dX2_cut_39 : decode cX2_cut 39 = .ok (.invokespecial 64, 3) := by decide +kernel
theorem dX2_cut_42 : decode cX2_cut 42 = .ok (.athrow, 1) := by decide +kernel
theorem dX2_cut_43 : decode cX2_cut 43 = .ok (.aload_n 0, 1) := by decide +kernel
theorem dX2_cut_44 : decode cX2_cut 44 = .ok (.getfield 21, 3) := by decide +kernel
theorem dX2_cut_47 : decode cX2_cut 47 = .ok (.iload_n 3, 1) := by decide +kernel
theorem dX2_cut_48 : decode cX2_cut 48 = .ok (.invokevirtual 217, 3) := by decide +kernel
theorem dX2_cut_51 : decode cX2_cut 51 = .ok (.ireturn, 1) := by decide +kernel
theorem dX2_approve_0 : decode cX2_approve 0 = .ok (.aload_n 0, 1) := by decide +kernel
theorem dX2_approve_1 : decode cX2_approve 1 = .ok (.iload_n 1, 1) := by decide +kernel
theorem dX2_approve_2 : decode cX2_approve 2 = .ok (.iload_n 2, 1) := by decide +kernel
theorem dX2_approve_3 : decode cX2_approve 3 = .ok (.invokevirtual 195, 3) := by decide +kernel
theorem dX2_approve_6 : decode cX2_approve 6 = .ok (.istore_n 3, 1) := by decide +kernel
theorem dX2_approve_7 : decode cX2_approve 7 = .ok (.aload_n 0, 1) := by decide +kernel
theorem dX2_approve_8 : decode cX2_approve 8 = .ok (.getfield 21, 3) := by decide +kernel
theorem dX2_approve_11 : decode cX2_approve 11 = .ok (.iload_n 3, 1) := by decide +kernel
theorem dX2_approve_12 : decode cX2_approve 12 = .ok (.invokevirtual 220, 3) := by decide +kernel
theorem dX2_approve_15 : decode cX2_approve 15 = .ok (.ifCond .ne 13, 3) := by decide +kernel
theorem dX2_approve_18 : decode cX2_approve 18 = .ok (.new 60, 3) := by decide +kernel
theorem dX2_approve_21 : decode cX2_approve 21 = .ok (.dup, 1) := by decide +kernel
theorem dX2_approve_22 : decode cX2_approve 22 = .ok (.ldc 223, 2) := by decide +kernel
theorem dX2_approve_24 : decode cX2_approve 24 = .ok (.invokespecial 64, 3) := by decide +kernel
theorem dX2_approve_27 : decode cX2_approve 27 = .ok (.athrow, 1) := by decide +kernel
theorem dX2_approve_28 : decode cX2_approve 28 = .ok (.aload_n 0, 1) := by decide +kernel
theorem dX2_approve_29 : decode cX2_approve 29 = .ok (.getfield 21, 3) := by decide +kernel
theorem dX2_approve_32 : decode cX2_approve 32 = .ok (.getfield 206, 3) := by decide +kernel
theorem dX2_approve_35 : decode cX2_approve 35 = .ok (.iload_n 3, 1) := by decide +kernel
theorem dX2_approve_36 : decode cX2_approve 36 = .ok (.iconst 1, 1) := by decide +kernel
theorem dX2_approve_37 : decode cX2_approve 37 = .ok (.iastore, 1) := by decide +kernel
theorem dX2_approve_38 : decode cX2_approve 38 = .ok (.aload_n 0, 1) := by decide +kernel
theorem dX2_approve_39 : decode cX2_approve 39 = .ok (.getfield 21, 3) := by decide +kernel
theorem dX2_approve_42 : decode cX2_approve 42 = .ok (.iload_n 3, 1) := by decide +kernel
theorem dX2_approve_43 : decode cX2_approve 43 = .ok (.invokevirtual 225, 3) := by decide +kernel
theorem dX2_approve_46 : decode cX2_approve 46 = .ok (.ireturn, 1) := by decide +kernel
theorem dX2_use_0 : decode cX2_use 0 = .ok (.aload_n 0, 1) := by decide +kernel
theorem dX2_use_1 : decode cX2_use 1 = .ok (.iload_n 1, 1) := by decide +kernel
theorem dX2_use_2 : decode cX2_use 2 = .ok (.iload_n 2, 1) := by decide +kernel
theorem dX2_use_3 : decode cX2_use 3 = .ok (.invokevirtual 195, 3) := by decide +kernel
theorem dX2_use_6 : decode cX2_use 6 = .ok (.istore 4, 2) := by decide +kernel
theorem dX2_use_8 : decode cX2_use 8 = .ok (.aload_n 0, 1) := by decide +kernel
theorem dX2_use_9 : decode cX2_use 9 = .ok (.iload_n 3, 1) := by decide +kernel
theorem dX2_use_10 : decode cX2_use 10 = .ok (.aload_n 0, 1) := by decide +kernel
theorem dX2_use_11 : decode cX2_use 11 = .ok (.getfield 21, 3) := by decide +kernel
theorem dX2_use_14 : decode cX2_use 14 = .ok (.getfield 212, 3) := by decide +kernel
theorem dX2_use_17 : decode cX2_use 17 = .ok (.iload 4, 2) := by decide +kernel
theorem dX2_use_19 : decode cX2_use 19 = .ok (.iaload, 1) := by decide +kernel
theorem dX2_use_20 : decode cX2_use 20 = .ok (.invokevirtual 201, 3) := by decide +kernel
theorem dX2_use_23 : decode cX2_use 23 = .ok (.aload_n 0, 1) := by decide +kernel
theorem dX2_use_24 : decode cX2_use 24 = .ok (.getfield 21, 3) := by decide +kernel
theorem dX2_use_27 : decode cX2_use 27 = .ok (.getfield 228, 3) := by decide +kernel
theorem dX2_use_30 : decode cX2_use 30 = .ok (.iload 4, 2) := by decide +kernel
theorem dX2_use_32 : decode cX2_use 32 = .ok (.aaload, 1) := by decide +kernel
theorem dX2_use_33 : decode cX2_use 33 = .ok (.iload_n 3, 1) := by decide +kernel
theorem dX2_use_34 : decode cX2_use 34 = .ok (.iaload, 1) := by decide +kernel
theorem dX2_use_35 : decode cX2_use 35 = .ok (.ireturn, 1) := by decide +kernel
theorem dX2_ofText_0 : decode cX2_ofText 0 = .ok (.aload_n 0, 1) := by decide +kernel
theorem dX2_ofText_1 : decode cX2_ofText 1 = .ok (.iload_n 1, 1) := by decide +kernel
theorem dX2_ofText_2 : decode cX2_ofText 2 = .ok (.iload_n 2, 1) := by decide +kernel
theorem dX2_ofText_3 : decode cX2_ofText 3 = .ok (.invokevirtual 195, 3) := by decide +kernel
theorem dX2_ofText_6 : decode cX2_ofText 6 = .ok (.istore 4, 2) := by decide +kernel
theorem dX2_ofText_8 : decode cX2_ofText 8 = .ok (.aload_n 0, 1) := by decide +kernel
theorem dX2_ofText_9 : decode cX2_ofText 9 = .ok (.iload_n 3, 1) := by decide +kernel
theorem dX2_ofText_10 : decode cX2_ofText 10 = .ok (.bipush 6, 2) := by decide +kernel
theorem dX2_ofText_12 : decode cX2_ofText 12 = .ok (.invokevirtual 120, 3) := by decide +kernel
theorem dX2_ofText_15 : decode cX2_ofText 15 = .ok (.iload_n 3, 1) := by decide +kernel
theorem dX2_ofText_16 : decode cX2_ofText 16 = .ok (.tableswitch 104 0 5 #[40, 51, 62, 73, 84, 94], 40) := by decide +kernel
theorem dX2_ofText_56 : decode cX2_ofText 56 = .ok (.aload_n 0, 1) := by decide +kernel
theorem dX2_ofText_57 : decode cX2_ofText 57 = .ok (.getfield 21, 3) := by decide +kernel
theorem dX2_ofText_60 : decode cX2_ofText 60 = .ok (.getfield 212, 3) := by decide +kernel
theorem dX2_ofText_63 : decode cX2_ofText 63 = .ok (.iload 4, 2) := by decide +kernel
theorem dX2_ofText_65 : decode cX2_ofText 65 = .ok (.iaload, 1) := by decide +kernel
theorem dX2_ofText_66 : decode cX2_ofText 66 = .ok (.ireturn, 1) := by decide +kernel
theorem dX2_ofText_67 : decode cX2_ofText 67 = .ok (.aload_n 0, 1) := by decide +kernel
theorem dX2_ofText_68 : decode cX2_ofText 68 = .ok (.getfield 21, 3) := by decide +kernel
theorem dX2_ofText_71 : decode cX2_ofText 71 = .ok (.getfield 206, 3) := by decide +kernel
theorem dX2_ofText_74 : decode cX2_ofText 74 = .ok (.iload 4, 2) := by decide +kernel
theorem dX2_ofText_76 : decode cX2_ofText 76 = .ok (.iaload, 1) := by decide +kernel
theorem dX2_ofText_77 : decode cX2_ofText 77 = .ok (.ireturn, 1) := by decide +kernel
theorem dX2_ofText_78 : decode cX2_ofText 78 = .ok (.aload_n 0, 1) := by decide +kernel
theorem dX2_ofText_79 : decode cX2_ofText 79 = .ok (.getfield 21, 3) := by decide +kernel
theorem dX2_ofText_82 : decode cX2_ofText 82 = .ok (.iload 4, 2) := by decide +kernel
theorem dX2_ofText_84 : decode cX2_ofText 84 = .ok (.iconst (-1), 1) := by decide +kernel
theorem dX2_ofText_85 : decode cX2_ofText 85 = .ok (.invokevirtual 232, 3) := by decide +kernel
theorem dX2_ofText_88 : decode cX2_ofText 88 = .ok (.ireturn, 1) := by decide +kernel
theorem dX2_ofText_89 : decode cX2_ofText 89 = .ok (.aload_n 0, 1) := by decide +kernel
theorem dX2_ofText_90 : decode cX2_ofText 90 = .ok (.getfield 21, 3) := by decide +kernel
theorem dX2_ofText_93 : decode cX2_ofText 93 = .ok (.iload 4, 2) := by decide +kernel
theorem dX2_ofText_95 : decode cX2_ofText 95 = .ok (.iconst 3, 1) := by decide +kernel
theorem dX2_ofText_96 : decode cX2_ofText 96 = .ok (.invokevirtual 235, 3) := by decide +kernel
theorem dX2_ofText_99 : decode cX2_ofText 99 = .ok (.ireturn, 1) := by decide +kernel
theorem dX2_ofText_100 : decode cX2_ofText 100 = .ok (.aload_n 0, 1) := by decide +kernel
theorem dX2_ofText_101 : decode cX2_ofText 101 = .ok (.getfield 21, 3) := by decide +kernel
theorem dX2_ofText_104 : decode cX2_ofText 104 = .ok (.iload 4, 2) := by decide +kernel
theorem dX2_ofText_106 : decode cX2_ofText 106 = .ok (.invokevirtual 238, 3) := by decide +kernel
theorem dX2_ofText_109 : decode cX2_ofText 109 = .ok (.ireturn, 1) := by decide +kernel
theorem dX2_ofText_110 : decode cX2_ofText 110 = .ok (.aload_n 0, 1) := by decide +kernel
theorem dX2_ofText_111 : decode cX2_ofText 111 = .ok (.getfield 21, 3) := by decide +kernel
theorem dX2_ofText_114 : decode cX2_ofText 114 = .ok (.iload 4, 2) := by decide +kernel
theorem dX2_ofText_116 : decode cX2_ofText 116 = .ok (.invokevirtual 225, 3) := by decide +kernel
theorem dX2_ofText_119 : decode cX2_ofText 119 = .ok (.ireturn, 1) := by decide +kernel
theorem dX2_ofText_120 : decode cX2_ofText 120 = .ok (.aload_n 0, 1) := by decide +kernel
theorem dX2_ofText_121 : decode cX2_ofText 121 = .ok (.getfield 21, 3) := by decide +kernel
theorem dX2_ofText_124 : decode cX2_ofText 124 = .ok (.iload 4, 2) := by decide +kernel
theorem dX2_ofText_126 : decode cX2_ofText 126 = .ok (.invokevirtual 241, 3) := by decide +kernel
theorem dX2_ofText_129 : decode cX2_ofText 129 = .ok (.ireturn, 1) := by decide +kernel
theorem dX2_agreement_0 : decode cX2_agreement 0 = .ok (.aload_n 0, 1) := by decide +kernel
theorem dX2_agreement_1 : decode cX2_agreement 1 = .ok (.iload_n 1, 1) := by decide +kernel
theorem dX2_agreement_2 : decode cX2_agreement 2 = .ok (.invokevirtual 244, 3) := by decide +kernel
theorem dX2_agreement_5 : decode cX2_agreement 5 = .ok (.aload_n 0, 1) := by decide +kernel
theorem dX2_agreement_6 : decode cX2_agreement 6 = .ok (.getfield 21, 3) := by decide +kernel
theorem dX2_agreement_9 : decode cX2_agreement 9 = .ok (.iload_n 1, 1) := by decide +kernel
theorem dX2_agreement_10 : decode cX2_agreement 10 = .ok (.invokevirtual 247, 3) := by decide +kernel
theorem dX2_agreement_13 : decode cX2_agreement 13 = .ok (.ireturn, 1) := by decide +kernel
theorem dX2_pass_0 : decode cX2_pass 0 = .ok (.aload_n 0, 1) := by decide +kernel
theorem dX2_pass_1 : decode cX2_pass 1 = .ok (.iload_n 1, 1) := by decide +kernel
theorem dX2_pass_2 : decode cX2_pass 2 = .ok (.invokevirtual 250, 3) := by decide +kernel
theorem dX2_pass_5 : decode cX2_pass 5 = .ok (.aload_n 0, 1) := by decide +kernel
theorem dX2_pass_6 : decode cX2_pass 6 = .ok (.getfield 25, 3) := by decide +kernel
theorem dX2_pass_9 : decode cX2_pass 9 = .ok (.iload_n 1, 1) := by decide +kernel
theorem dX2_pass_10 : decode cX2_pass 10 = .ok (.iadd, 1) := by decide +kernel
theorem dX2_pass_11 : decode cX2_pass 11 = .ok (.sipush 199, 3) := by decide +kernel
theorem dX2_pass_14 : decode cX2_pass 14 = .ok (.if_icmp .le 13, 3) := by decide +kernel
theorem dX2_pass_17 : decode cX2_pass 17 = .ok (.new 60, 3) := by decide +kernel
theorem dX2_pass_20 : decode cX2_pass 20 = .ok (.dup, 1) := by decide +kernel
theorem dX2_pass_21 : decode cX2_pass 21 = .ok (.ldc 253, 2) := by decide +kernel
theorem dX2_pass_23 : decode cX2_pass 23 = .ok (.invokespecial 64, 3) := by decide +kernel
theorem dX2_pass_26 : decode cX2_pass 26 = .ok (.athrow, 1) := by decide +kernel
theorem dX2_pass_27 : decode cX2_pass 27 = .ok (.iconst 0, 1) := by decide +kernel
theorem dX2_pass_28 : decode cX2_pass 28 = .ok (.istore_n 2, 1) := by decide +kernel
theorem dX2_pass_29 : decode cX2_pass 29 = .ok (.iconst 0, 1) := by decide +kernel
theorem dX2_pass_30 : decode cX2_pass 30 = .ok (.istore_n 3, 1) := by decide +kernel
theorem dX2_pass_31 : decode cX2_pass 31 = .ok (.iload_n 3, 1) := by decide +kernel
theorem dX2_pass_32 : decode cX2_pass 32 = .ok (.iload_n 1, 1) := by decide +kernel
theorem dX2_pass_33 : decode cX2_pass 33 = .ok (.if_icmp .ge 33, 3) := by decide +kernel
theorem dX2_pass_36 : decode cX2_pass 36 = .ok (.aload_n 0, 1) := by decide +kernel
theorem dX2_pass_37 : decode cX2_pass 37 = .ok (.dup, 1) := by decide +kernel
theorem dX2_pass_38 : decode cX2_pass 38 = .ok (.getfield 25, 3) := by decide +kernel
theorem dX2_pass_41 : decode cX2_pass 41 = .ok (.iconst 1, 1) := by decide +kernel
theorem dX2_pass_42 : decode cX2_pass 42 = .ok (.iadd, 1) := by decide +kernel
theorem dX2_pass_43 : decode cX2_pass 43 = .ok (.putfield 25, 3) := by decide +kernel
theorem dX2_pass_46 : decode cX2_pass 46 = .ok (.iload_n 2, 1) := by decide +kernel
theorem dX2_pass_47 : decode cX2_pass 47 = .ok (.aload_n 0, 1) := by decide +kernel
theorem dX2_pass_48 : decode cX2_pass 48 = .ok (.getfield 21, 3) := by decide +kernel
theorem dX2_pass_51 : decode cX2_pass 51 = .ok (.aload_n 0, 1) := by decide +kernel
theorem dX2_pass_52 : decode cX2_pass 52 = .ok (.getfield 25, 3) := by decide +kernel
theorem dX2_pass_55 : decode cX2_pass 55 = .ok (.invokevirtual 111, 3) := by decide +kernel
theorem dX2_pass_58 : decode cX2_pass 58 = .ok (.iadd, 1) := by decide +kernel
theorem dX2_pass_59 : decode cX2_pass 59 = .ok (.istore_n 2, 1) := by decide +kernel
theorem dX2_pass_60 : decode cX2_pass 60 = .ok (.iinc 3 1, 3) := by decide +kernel
theorem dX2_pass_63 : decode cX2_pass 63 = .ok (.goto (-32), 3) := by decide +kernel
theorem dX2_pass_66 : decode cX2_pass 66 = .ok (.iload_n 2, 1) := by decide +kernel
theorem dX2_pass_67 : decode cX2_pass 67 = .ok (.ireturn, 1) := by decide +kernel
theorem dX2_many_0 : decode cX2_many 0 = .ok (.aload_n 0, 1) := by decide +kernel
theorem dX2_many_1 : decode cX2_many 1 = .ok (.iload_n 1, 1) := by decide +kernel
theorem dX2_many_2 : decode cX2_many 2 = .ok (.bipush 12, 2) := by decide +kernel
theorem dX2_many_4 : decode cX2_many 4 = .ok (.invokevirtual 120, 3) := by decide +kernel
theorem dX2_many_7 : decode cX2_many 7 = .ok (.iload_n 1, 1) := by decide +kernel
theorem dX2_many_8 : decode cX2_many 8 = .ok (.tableswitch 128 0 11 #[64, 72, 80, 88, 88, 88, 88, 99, 107, 107, 107, 119], 64) := by decide +kernel
theorem dX2_many_72 : decode cX2_many 72 = .ok (.aload_n 0, 1) := by decide +kernel
theorem dX2_many_73 : decode cX2_many 73 = .ok (.getfield 12, 3) := by decide +kernel
theorem dX2_many_76 : decode cX2_many 76 = .ok (.getfield 255, 3) := by decide +kernel
theorem dX2_many_79 : decode cX2_many 79 = .ok (.ireturn, 1) := by decide +kernel
theorem dX2_many_80 : decode cX2_many 80 = .ok (.aload_n 0, 1) := by decide +kernel
theorem dX2_many_81 : decode cX2_many 81 = .ok (.getfield 12, 3) := by decide +kernel
theorem dX2_many_84 : decode cX2_many 84 = .ok (.invokevirtual 258, 3) := by decide +kernel
theorem dX2_many_87 : decode cX2_many 87 = .ok (.ireturn, 1) := by decide +kernel
theorem dX2_many_88 : decode cX2_many 88 = .ok (.aload_n 0, 1) := by decide +kernel
theorem dX2_many_89 : decode cX2_many 89 = .ok (.getfield 12, 3) := by decide +kernel
theorem dX2_many_92 : decode cX2_many 92 = .ok (.getfield 53, 3) := by decide +kernel
theorem dX2_many_95 : decode cX2_many 95 = .ok (.ireturn, 1) := by decide +kernel
theorem dX2_many_96 : decode cX2_many 96 = .ok (.aload_n 0, 1) := by decide +kernel
theorem dX2_many_97 : decode cX2_many 97 = .ok (.getfield 12, 3) := by decide +kernel
theorem dX2_many_100 : decode cX2_many 100 = .ok (.iload_n 1, 1) := by decide +kernel
theorem dX2_many_101 : decode cX2_many 101 = .ok (.iconst 3, 1) := by decide +kernel
theorem dX2_many_102 : decode cX2_many 102 = .ok (.isub, 1) := by decide +kernel
theorem dX2_many_103 : decode cX2_many 103 = .ok (.invokevirtual 261, 3) := by decide +kernel
theorem dX2_many_106 : decode cX2_many 106 = .ok (.ireturn, 1) := by decide +kernel
theorem dX2_many_107 : decode cX2_many 107 = .ok (.aload_n 0, 1) := by decide +kernel
theorem dX2_many_108 : decode cX2_many 108 = .ok (.getfield 21, 3) := by decide +kernel
theorem dX2_many_111 : decode cX2_many 111 = .ok (.getfield 186, 3) := by decide +kernel
theorem dX2_many_114 : decode cX2_many 114 = .ok (.ireturn, 1) := by decide +kernel
theorem dX2_many_115 : decode cX2_many 115 = .ok (.aload_n 0, 1) := by decide +kernel
theorem dX2_many_116 : decode cX2_many 116 = .ok (.getfield 21, 3) := by decide +kernel
theorem dX2_many_119 : decode cX2_many 119 = .ok (.iload_n 1, 1) := by decide +kernel
theorem dX2_many_120 : decode cX2_many 120 = .ok (.bipush 8, 2) := by decide +kernel
theorem dX2_many_122 : decode cX2_many 122 = .ok (.isub, 1) := by decide +kernel
theorem dX2_many_123 : decode cX2_many 123 = .ok (.invokevirtual 264, 3) := by decide +kernel
theorem dX2_many_126 : decode cX2_many 126 = .ok (.ireturn, 1) := by decide +kernel
theorem dX2_many_127 : decode cX2_many 127 = .ok (.aload_n 0, 1) := by decide +kernel
theorem dX2_many_128 : decode cX2_many 128 = .ok (.getfield 21, 3) := by decide +kernel
theorem dX2_many_131 : decode cX2_many 131 = .ok (.iconst (-1), 1) := by decide +kernel
theorem dX2_many_132 : decode cX2_many 132 = .ok (.invokevirtual 147, 3) := by decide +kernel
theorem dX2_many_135 : decode cX2_many 135 = .ok (.ireturn, 1) := by decide +kernel
theorem dX2_many_136 : decode cX2_many 136 = .ok (.aload_n 0, 1) := by decide +kernel
theorem dX2_many_137 : decode cX2_many 137 = .ok (.getfield 25, 3) := by decide +kernel
theorem dX2_many_140 : decode cX2_many 140 = .ok (.ireturn, 1) := by decide +kernel
theorem dX2_meanConsistency_0 : decode cX2_meanConsistency 0 = .ok (.aload_n 0, 1) := by decide +kernel
theorem dX2_meanConsistency_1 : decode cX2_meanConsistency 1 = .ok (.getfield 21, 3) := by decide +kernel
theorem dX2_meanConsistency_4 : decode cX2_meanConsistency 4 = .ok (.invokevirtual 267, 3) := by decide +kernel
theorem dX2_meanConsistency_7 : decode cX2_meanConsistency 7 = .ok (.istore_n 1, 1) := by decide +kernel
theorem dX2_meanConsistency_8 : decode cX2_meanConsistency 8 = .ok (.iload_n 1, 1) := by decide +kernel
theorem dX2_meanConsistency_9 : decode cX2_meanConsistency 9 = .ok (.ifCond .ne 7, 3) := by decide +kernel
theorem dX2_meanConsistency_12 : decode cX2_meanConsistency 12 = .ok (.dconst 0, 1) := by decide +kernel
theorem dX2_meanConsistency_13 : decode cX2_meanConsistency 13 = .ok (.goto 14, 3) := by decide +kernel
theorem dX2_meanConsistency_16 : decode cX2_meanConsistency 16 = .ok (.aload_n 0, 1) := by decide +kernel
theorem dX2_meanConsistency_17 : decode cX2_meanConsistency 17 = .ok (.getfield 21, 3) := by decide +kernel
theorem dX2_meanConsistency_20 : decode cX2_meanConsistency 20 = .ok (.invokevirtual 270, 3) := by decide +kernel
theorem dX2_meanConsistency_23 : decode cX2_meanConsistency 23 = .ok (.i2d, 1) := by decide +kernel
theorem dX2_meanConsistency_24 : decode cX2_meanConsistency 24 = .ok (.iload_n 1, 1) := by decide +kernel
theorem dX2_meanConsistency_25 : decode cX2_meanConsistency 25 = .ok (.i2d, 1) := by decide +kernel
theorem dX2_meanConsistency_26 : decode cX2_meanConsistency 26 = .ok (.ddiv, 1) := by decide +kernel
theorem dX2_meanConsistency_27 : decode cX2_meanConsistency 27 = .ok (.dreturn, 1) := by decide +kernel
theorem dX2_reopenedBy_0 : decode cX2_reopenedBy 0 = .ok (.aload_n 0, 1) := by decide +kernel
theorem dX2_reopenedBy_1 : decode cX2_reopenedBy 1 = .ok (.iload_n 1, 1) := by decide +kernel
theorem dX2_reopenedBy_2 : decode cX2_reopenedBy 2 = .ok (.invokevirtual 69, 3) := by decide +kernel
theorem dX2_reopenedBy_5 : decode cX2_reopenedBy 5 = .ok (.aload_n 0, 1) := by decide +kernel
theorem dX2_reopenedBy_6 : decode cX2_reopenedBy 6 = .ok (.getfield 12, 3) := by decide +kernel
theorem dX2_reopenedBy_9 : decode cX2_reopenedBy 9 = .ok (.iload_n 1, 1) := by decide +kernel
theorem dX2_reopenedBy_10 : decode cX2_reopenedBy 10 = .ok (.invokevirtual 101, 3) := by decide +kernel
theorem dX2_reopenedBy_13 : decode cX2_reopenedBy 13 = .ok (.ifCond .eq 16, 3) := by decide +kernel
theorem dX2_reopenedBy_16 : decode cX2_reopenedBy 16 = .ok (.aload_n 0, 1) := by decide +kernel
theorem dX2_reopenedBy_17 : decode cX2_reopenedBy 17 = .ok (.getfield 21, 3) := by decide +kernel
theorem dX2_reopenedBy_20 : decode cX2_reopenedBy 20 = .ok (.iconst 1, 1) := by decide +kernel
theorem dX2_reopenedBy_21 : decode cX2_reopenedBy 21 = .ok (.iload_n 1, 1) := by decide +kernel
theorem dX2_reopenedBy_22 : decode cX2_reopenedBy 22 = .ok (.ishl, 1) := by decide +kernel
theorem dX2_reopenedBy_23 : decode cX2_reopenedBy 23 = .ok (.invokevirtual 273, 3) := by decide +kernel
theorem dX2_reopenedBy_26 : decode cX2_reopenedBy 26 = .ok (.goto 4, 3) := by decide +kernel
theorem dX2_reopenedBy_29 : decode cX2_reopenedBy 29 = .ok (.iconst 0, 1) := by decide +kernel
theorem dX2_reopenedBy_30 : decode cX2_reopenedBy 30 = .ok (.ireturn, 1) := by decide +kernel
theorem dX2_reopenedIn_0 : decode cX2_reopenedIn 0 = .ok (.aload_n 0, 1) := by decide +kernel
theorem dX2_reopenedIn_1 : decode cX2_reopenedIn 1 = .ok (.iload_n 1, 1) := by decide +kernel
theorem dX2_reopenedIn_2 : decode cX2_reopenedIn 2 = .ok (.invokevirtual 250, 3) := by decide +kernel
theorem dX2_reopenedIn_5 : decode cX2_reopenedIn 5 = .ok (.aload_n 0, 1) := by decide +kernel
theorem dX2_reopenedIn_6 : decode cX2_reopenedIn 6 = .ok (.getfield 21, 3) := by decide +kernel
theorem dX2_reopenedIn_9 : decode cX2_reopenedIn 9 = .ok (.aload_n 0, 1) := by decide +kernel
theorem dX2_reopenedIn_10 : decode cX2_reopenedIn 10 = .ok (.getfield 12, 3) := by decide +kernel
theorem dX2_reopenedIn_13 : decode cX2_reopenedIn 13 = .ok (.aload_n 0, 1) := by decide +kernel
theorem dX2_reopenedIn_14 : decode cX2_reopenedIn 14 = .ok (.getfield 25, 3) := by decide +kernel
theorem dX2_reopenedIn_17 : decode cX2_reopenedIn 17 = .ok (.iload_n 1, 1) := by decide +kernel
theorem dX2_reopenedIn_18 : decode cX2_reopenedIn 18 = .ok (.iadd, 1) := by decide +kernel
theorem dX2_reopenedIn_19 : decode cX2_reopenedIn 19 = .ok (.invokevirtual 276, 3) := by decide +kernel
theorem dX2_reopenedIn_22 : decode cX2_reopenedIn 22 = .ok (.invokevirtual 273, 3) := by decide +kernel
theorem dX2_reopenedIn_25 : decode cX2_reopenedIn 25 = .ok (.ireturn, 1) := by decide +kernel
theorem dX2_changedBy_0 : decode cX2_changedBy 0 = .ok (.aload_n 0, 1) := by decide +kernel
theorem dX2_changedBy_1 : decode cX2_changedBy 1 = .ok (.iload_n 1, 1) := by decide +kernel
theorem dX2_changedBy_2 : decode cX2_changedBy 2 = .ok (.iload_n 2, 1) := by decide +kernel
theorem dX2_changedBy_3 : decode cX2_changedBy 3 = .ok (.invokevirtual 167, 3) := by decide +kernel
theorem dX2_changedBy_6 : decode cX2_changedBy 6 = .ok (.aload_n 0, 1) := by decide +kernel
theorem dX2_changedBy_7 : decode cX2_changedBy 7 = .ok (.getfield 12, 3) := by decide +kernel
theorem dX2_changedBy_10 : decode cX2_changedBy 10 = .ok (.iload_n 1, 1) := by decide +kernel
theorem dX2_changedBy_11 : decode cX2_changedBy 11 = .ok (.iload_n 2, 1) := by decide +kernel
theorem dX2_changedBy_12 : decode cX2_changedBy 12 = .ok (.invokevirtual 170, 3) := by decide +kernel
theorem dX2_changedBy_15 : decode cX2_changedBy 15 = .ok (.ifCond .ne 5, 3) := by decide +kernel
theorem dX2_changedBy_18 : decode cX2_changedBy 18 = .ok (.iconst (-1), 1) := by decide +kernel
theorem dX2_changedBy_19 : decode cX2_changedBy 19 = .ok (.ireturn, 1) := by decide +kernel
theorem dX2_changedBy_20 : decode cX2_changedBy 20 = .ok (.aload_n 0, 1) := by decide +kernel
theorem dX2_changedBy_21 : decode cX2_changedBy 21 = .ok (.getfield 21, 3) := by decide +kernel
theorem dX2_changedBy_24 : decode cX2_changedBy 24 = .ok (.iload_n 1, 1) := by decide +kernel
theorem dX2_changedBy_25 : decode cX2_changedBy 25 = .ok (.iload_n 2, 1) := by decide +kernel
theorem dX2_changedBy_26 : decode cX2_changedBy 26 = .ok (.invokestatic 180, 3) := by decide +kernel
theorem dX2_changedBy_29 : decode cX2_changedBy 29 = .ok (.iload_n 1, 1) := by decide +kernel
theorem dX2_changedBy_30 : decode cX2_changedBy 30 = .ok (.iload_n 2, 1) := by decide +kernel
theorem dX2_changedBy_31 : decode cX2_changedBy 31 = .ok (.invokestatic 175, 3) := by decide +kernel
theorem dX2_changedBy_34 : decode cX2_changedBy 34 = .ok (.invokevirtual 279, 3) := by decide +kernel
theorem dX2_changedBy_37 : decode cX2_changedBy 37 = .ok (.ireturn, 1) := by decide +kernel
theorem dX2_formFor_0 : decode cX2_formFor 0 = .ok (.aload_n 0, 1) := by decide +kernel
theorem dX2_formFor_1 : decode cX2_formFor 1 = .ok (.iload_n 1, 1) := by decide +kernel
theorem dX2_formFor_2 : decode cX2_formFor 2 = .ok (.iload_n 2, 1) := by decide +kernel
theorem dX2_formFor_3 : decode cX2_formFor 3 = .ok (.invokevirtual 195, 3) := by decide +kernel
theorem dX2_formFor_6 : decode cX2_formFor 6 = .ok (.istore 5, 2) := by decide +kernel
theorem dX2_formFor_8 : decode cX2_formFor 8 = .ok (.aload_n 0, 1) := by decide +kernel
theorem dX2_formFor_9 : decode cX2_formFor 9 = .ok (.iload_n 3, 1) := by decide +kernel
theorem dX2_formFor_10 : decode cX2_formFor 10 = .ok (.aload_n 0, 1) := by decide +kernel
theorem dX2_formFor_11 : decode cX2_formFor 11 = .ok (.getfield 21, 3) := by decide +kernel
theorem dX2_formFor_14 : decode cX2_formFor 14 = .ok (.iload 5, 2) := by decide +kernel
theorem dX2_formFor_16 : decode cX2_formFor 16 = .ok (.invokevirtual 198, 3) := by decide +kernel
theorem dX2_formFor_19 : decode cX2_formFor 19 = .ok (.invokevirtual 201, 3) := by decide +kernel
theorem dX2_formFor_22 : decode cX2_formFor 22 = .ok (.aload_n 0, 1) := by decide +kernel
theorem dX2_formFor_23 : decode cX2_formFor 23 = .ok (.iload 4, 2) := by decide +kernel
theorem dX2_formFor_25 : decode cX2_formFor 25 = .ok (.invokevirtual 69, 3) := by decide +kernel
theorem dX2_formFor_28 : decode cX2_formFor 28 = .ok (.aload_n 0, 1) := by decide +kernel
theorem dX2_formFor_29 : decode cX2_formFor 29 = .ok (.getfield 12, 3) := by decide +kernel
theorem dX2_formFor_32 : decode cX2_formFor 32 = .ok (.getfield 130, 3) := by decide +kernel
theorem dX2_formFor_35 : decode cX2_formFor 35 = .ok (.iload 4, 2) := by decide +kernel
theorem dX2_formFor_37 : decode cX2_formFor 37 = .ok (.iaload, 1) := by decide +kernel
theorem dX2_formFor_38 : decode cX2_formFor 38 = .ok (.iconst 4, 1) := by decide +kernel
theorem dX2_formFor_39 : decode cX2_formFor 39 = .ok (.imul, 1) := by decide +kernel
theorem dX2_formFor_40 : decode cX2_formFor 40 = .ok (.istore 6, 2) := by decide +kernel
theorem dX2_formFor_42 : decode cX2_formFor 42 = .ok (.aload_n 0, 1) := by decide +kernel
theorem dX2_formFor_43 : decode cX2_formFor 43 = .ok (.getfield 21, 3) := by decide +kernel
theorem dX2_formFor_46 : decode cX2_formFor 46 = .ok (.iload 5, 2) := by decide +kernel
theorem dX2_formFor_48 : decode cX2_formFor 48 = .ok (.iload_n 3, 1) := by decide +kernel
theorem dX2_formFor_49 : decode cX2_formFor 49 = .ok (.iload 6, 2) := by decide +kernel
theorem dX2_formFor_51 : decode cX2_formFor 51 = .ok (.iconst (-1), 1) := by decide +kernel
theorem dX2_formFor_52 : decode cX2_formFor 52 = .ok (.iconst (-1), 1) := by decide +kernel
theorem dX2_formFor_53 : decode cX2_formFor 53 = .ok (.invokevirtual 282, 3) := by decide +kernel
theorem dX2_formFor_56 : decode cX2_formFor 56 = .ok (.iload 4, 2) := by decide +kernel
theorem dX2_formFor_58 : decode cX2_formFor 58 = .ok (.if_icmp .ne 8, 3) := by decide +kernel
theorem dX2_formFor_61 : decode cX2_formFor 61 = .ok (.iload 6, 2) := by decide +kernel
theorem dX2_formFor_63 : decode cX2_formFor 63 = .ok (.goto 4, 3) := by decide +kernel
theorem dX2_formFor_66 : decode cX2_formFor 66 = .ok (.iconst (-1), 1) := by decide +kernel
theorem dX2_formFor_67 : decode cX2_formFor 67 = .ok (.ireturn, 1) := by decide +kernel
theorem dX2_digest_0 : decode cX2_digest 0 = .ok (.ldc2_w 286, 3) := by decide +kernel
theorem dX2_digest_3 : decode cX2_digest 3 = .ok (.lstore_n 1, 1) := by decide +kernel
theorem dX2_digest_4 : decode cX2_digest 4 = .ok (.iconst 0, 1) := by decide +kernel
theorem dX2_digest_5 : decode cX2_digest 5 = .ok (.istore_n 3, 1) := by decide +kernel
theorem dX2_digest_6 : decode cX2_digest 6 = .ok (.iload_n 3, 1) := by decide +kernel
theorem dX2_digest_7 : decode cX2_digest 7 = .ok (.bipush 12, 2) := by decide +kernel
theorem dX2_digest_9 : decode cX2_digest 9 = .ok (.if_icmp .gt 22, 3) := by decide +kernel
theorem dX2_digest_12 : decode cX2_digest 12 = .ok (.lload_n 1, 1) := by decide +kernel
theorem dX2_digest_13 : decode cX2_digest 13 = .ok (.ldc2_w 288, 3) := by decide +kernel
theorem dX2_digest_16 : decode cX2_digest 16 = .ok (.lmul, 1) := by decide +kernel
theorem dX2_digest_17 : decode cX2_digest 17 = .ok (.aload_n 0, 1) := by decide +kernel
theorem dX2_digest_18 : decode cX2_digest 18 = .ok (.iload_n 3, 1) := by decide +kernel
theorem dX2_digest_19 : decode cX2_digest 19 = .ok (.invokevirtual 290, 3) := by decide +kernel
theorem dX2_digest_22 : decode cX2_digest 22 = .ok (.i2l, 1) := by decide +kernel
theorem dX2_digest_23 : decode cX2_digest 23 = .ok (.ladd, 1) := by decide +kernel
theorem dX2_digest_24 : decode cX2_digest 24 = .ok (.lstore_n 1, 1) := by decide +kernel
theorem dX2_digest_25 : decode cX2_digest 25 = .ok (.iinc 3 1, 3) := by decide +kernel
theorem dX2_digest_28 : decode cX2_digest 28 = .ok (.goto (-22), 3) := by decide +kernel
theorem dX2_digest_31 : decode cX2_digest 31 = .ok (.aload_n 0, 1) := by decide +kernel
theorem dX2_digest_32 : decode cX2_digest 32 = .ok (.lload_n 1, 1) := by decide +kernel
theorem dX2_digest_33 : decode cX2_digest 33 = .ok (.invokevirtual 293, 3) := by decide +kernel
theorem dX2_digest_36 : decode cX2_digest 36 = .ok (.lstore_n 1, 1) := by decide +kernel
theorem dX2_digest_37 : decode cX2_digest 37 = .ok (.aload_n 0, 1) := by decide +kernel
theorem dX2_digest_38 : decode cX2_digest 38 = .ok (.lload_n 1, 1) := by decide +kernel
theorem dX2_digest_39 : decode cX2_digest 39 = .ok (.invokevirtual 297, 3) := by decide +kernel
theorem dX2_digest_42 : decode cX2_digest 42 = .ok (.lstore_n 1, 1) := by decide +kernel
theorem dX2_digest_43 : decode cX2_digest 43 = .ok (.aload_n 0, 1) := by decide +kernel
theorem dX2_digest_44 : decode cX2_digest 44 = .ok (.lload_n 1, 1) := by decide +kernel
theorem dX2_digest_45 : decode cX2_digest 45 = .ok (.invokevirtual 300, 3) := by decide +kernel
theorem dX2_digest_48 : decode cX2_digest 48 = .ok (.lstore_n 1, 1) := by decide +kernel
theorem dX2_digest_49 : decode cX2_digest 49 = .ok (.iconst 0, 1) := by decide +kernel
theorem dX2_digest_50 : decode cX2_digest 50 = .ok (.istore_n 3, 1) := by decide +kernel
theorem dX2_digest_51 : decode cX2_digest 51 = .ok (.iload_n 3, 1) := by decide +kernel
theorem dX2_digest_52 : decode cX2_digest 52 = .ok (.aload_n 0, 1) := by decide +kernel
theorem dX2_digest_53 : decode cX2_digest 53 = .ok (.getfield 21, 3) := by decide +kernel
theorem dX2_digest_56 : decode cX2_digest 56 = .ok (.getfield 186, 3) := by decide +kernel
theorem dX2_digest_59 : decode cX2_digest 59 = .ok (.if_icmp .ge 22, 3) := by decide +kernel
theorem dX2_digest_62 : decode cX2_digest 62 = .ok (.lload_n 1, 1) := by decide +kernel
theorem dX2_digest_63 : decode cX2_digest 63 = .ok (.ldc2_w 288, 3) := by decide +kernel
theorem dX2_digest_66 : decode cX2_digest 66 = .ok (.lmul, 1) := by decide +kernel
theorem dX2_digest_67 : decode cX2_digest 67 = .ok (.aload_n 0, 1) := by decide +kernel
theorem dX2_digest_68 : decode cX2_digest 68 = .ok (.iload_n 3, 1) := by decide +kernel
theorem dX2_digest_69 : decode cX2_digest 69 = .ok (.invokevirtual 303, 3) := by decide +kernel
theorem dX2_digest_72 : decode cX2_digest 72 = .ok (.i2l, 1) := by decide +kernel
theorem dX2_digest_73 : decode cX2_digest 73 = .ok (.ladd, 1) := by decide +kernel
theorem dX2_digest_74 : decode cX2_digest 74 = .ok (.lstore_n 1, 1) := by decide +kernel
theorem dX2_digest_75 : decode cX2_digest 75 = .ok (.iinc 3 1, 3) := by decide +kernel
theorem dX2_digest_78 : decode cX2_digest 78 = .ok (.goto (-27), 3) := by decide +kernel
theorem dX2_digest_81 : decode cX2_digest 81 = .ok (.lload_n 1, 1) := by decide +kernel
theorem dX2_digest_82 : decode cX2_digest 82 = .ok (.ldc2_w 288, 3) := by decide +kernel
theorem dX2_digest_85 : decode cX2_digest 85 = .ok (.lmul, 1) := by decide +kernel
theorem dX2_digest_86 : decode cX2_digest 86 = .ok (.aload_n 0, 1) := by decide +kernel
theorem dX2_digest_87 : decode cX2_digest 87 = .ok (.bipush 10, 2) := by decide +kernel
theorem dX2_digest_89 : decode cX2_digest 89 = .ok (.invokevirtual 306, 3) := by decide +kernel
theorem dX2_digest_92 : decode cX2_digest 92 = .ok (.i2l, 1) := by decide +kernel
theorem dX2_digest_93 : decode cX2_digest 93 = .ok (.ladd, 1) := by decide +kernel
theorem dX2_digest_94 : decode cX2_digest 94 = .ok (.lreturn, 1) := by decide +kernel
theorem dX2_digestTerms_0 : decode cX2_digestTerms 0 = .ok (.lload_n 1, 1) := by decide +kernel
theorem dX2_digestTerms_1 : decode cX2_digestTerms 1 = .ok (.lstore_n 3, 1) := by decide +kernel
theorem dX2_digestTerms_2 : decode cX2_digestTerms 2 = .ok (.iconst 0, 1) := by decide +kernel
theorem dX2_digestTerms_3 : decode cX2_digestTerms 3 = .ok (.istore 5, 2) := by decide +kernel
theorem dX2_digestTerms_5 : decode cX2_digestTerms 5 = .ok (.iload 5, 2) := by decide +kernel
theorem dX2_digestTerms_7 : decode cX2_digestTerms 7 = .ok (.aload_n 0, 1) := by decide +kernel
theorem dX2_digestTerms_8 : decode cX2_digestTerms 8 = .ok (.getfield 12, 3) := by decide +kernel
theorem dX2_digestTerms_11 : decode cX2_digestTerms 11 = .ok (.getfield 53, 3) := by decide +kernel
theorem dX2_digestTerms_14 : decode cX2_digestTerms 14 = .ok (.if_icmp .ge 55, 3) := by decide +kernel
theorem dX2_digestTerms_17 : decode cX2_digestTerms 17 = .ok (.iconst 0, 1) := by decide +kernel
theorem dX2_digestTerms_18 : decode cX2_digestTerms 18 = .ok (.istore 6, 2) := by decide +kernel
theorem dX2_digestTerms_20 : decode cX2_digestTerms 20 = .ok (.iload 6, 2) := by decide +kernel
theorem dX2_digestTerms_22 : decode cX2_digestTerms 22 = .ok (.bipush 7, 2) := by decide +kernel
theorem dX2_digestTerms_24 : decode cX2_digestTerms 24 = .ok (.if_icmp .gt 25, 3) := by decide +kernel
theorem dX2_digestTerms_27 : decode cX2_digestTerms 27 = .ok (.lload_n 3, 1) := by decide +kernel
theorem dX2_digestTerms_28 : decode cX2_digestTerms 28 = .ok (.ldc2_w 288, 3) := by decide +kernel
theorem dX2_digestTerms_31 : decode cX2_digestTerms 31 = .ok (.lmul, 1) := by decide +kernel
theorem dX2_digestTerms_32 : decode cX2_digestTerms 32 = .ok (.aload_n 0, 1) := by decide +kernel
theorem dX2_digestTerms_33 : decode cX2_digestTerms 33 = .ok (.iload 5, 2) := by decide +kernel
theorem dX2_digestTerms_35 : decode cX2_digestTerms 35 = .ok (.iload 6, 2) := by decide +kernel
theorem dX2_digestTerms_37 : decode cX2_digestTerms 37 = .ok (.invokevirtual 309, 3) := by decide +kernel
theorem dX2_digestTerms_40 : decode cX2_digestTerms 40 = .ok (.i2l, 1) := by decide +kernel
theorem dX2_digestTerms_41 : decode cX2_digestTerms 41 = .ok (.ladd, 1) := by decide +kernel
theorem dX2_digestTerms_42 : decode cX2_digestTerms 42 = .ok (.lstore_n 3, 1) := by decide +kernel
theorem dX2_digestTerms_43 : decode cX2_digestTerms 43 = .ok (.iinc 6 1, 3) := by decide +kernel
theorem dX2_digestTerms_46 : decode cX2_digestTerms 46 = .ok (.goto (-26), 3) := by decide +kernel
theorem dX2_digestTerms_49 : decode cX2_digestTerms 49 = .ok (.lload_n 3, 1) := by decide +kernel
theorem dX2_digestTerms_50 : decode cX2_digestTerms 50 = .ok (.ldc2_w 288, 3) := by decide +kernel
theorem dX2_digestTerms_53 : decode cX2_digestTerms 53 = .ok (.lmul, 1) := by decide +kernel
theorem dX2_digestTerms_54 : decode cX2_digestTerms 54 = .ok (.aload_n 0, 1) := by decide +kernel
theorem dX2_digestTerms_55 : decode cX2_digestTerms 55 = .ok (.iload 5, 2) := by decide +kernel
theorem dX2_digestTerms_57 : decode cX2_digestTerms 57 = .ok (.invokevirtual 312, 3) := by decide +kernel
theorem dX2_digestTerms_60 : decode cX2_digestTerms 60 = .ok (.i2l, 1) := by decide +kernel
theorem dX2_digestTerms_61 : decode cX2_digestTerms 61 = .ok (.ladd, 1) := by decide +kernel
theorem dX2_digestTerms_62 : decode cX2_digestTerms 62 = .ok (.lstore_n 3, 1) := by decide +kernel
theorem dX2_digestTerms_63 : decode cX2_digestTerms 63 = .ok (.iinc 5 1, 3) := by decide +kernel
theorem dX2_digestTerms_66 : decode cX2_digestTerms 66 = .ok (.goto (-61), 3) := by decide +kernel
theorem dX2_digestTerms_69 : decode cX2_digestTerms 69 = .ok (.lload_n 3, 1) := by decide +kernel
theorem dX2_digestTerms_70 : decode cX2_digestTerms 70 = .ok (.lreturn, 1) := by decide +kernel
theorem dX2_digestConcepts_0 : decode cX2_digestConcepts 0 = .ok (.lload_n 1, 1) := by decide +kernel
theorem dX2_digestConcepts_1 : decode cX2_digestConcepts 1 = .ok (.lstore_n 3, 1) := by decide +kernel
theorem dX2_digestConcepts_2 : decode cX2_digestConcepts 2 = .ok (.iconst 0, 1) := by decide +kernel
theorem dX2_digestConcepts_3 : decode cX2_digestConcepts 3 = .ok (.istore 5, 2) := by decide +kernel
theorem dX2_digestConcepts_5 : decode cX2_digestConcepts 5 = .ok (.iload 5, 2) := by decide +kernel
theorem dX2_digestConcepts_7 : decode cX2_digestConcepts 7 = .ok (.aload_n 0, 1) := by decide +kernel
theorem dX2_digestConcepts_8 : decode cX2_digestConcepts 8 = .ok (.getfield 12, 3) := by decide +kernel
theorem dX2_digestConcepts_11 : decode cX2_digestConcepts 11 = .ok (.getfield 255, 3) := by decide +kernel
theorem dX2_digestConcepts_14 : decode cX2_digestConcepts 14 = .ok (.if_icmp .ge 41, 3) := by decide +kernel
theorem dX2_digestConcepts_17 : decode cX2_digestConcepts 17 = .ok (.iconst 0, 1) := by decide +kernel
theorem dX2_digestConcepts_18 : decode cX2_digestConcepts 18 = .ok (.istore 6, 2) := by decide +kernel
theorem dX2_digestConcepts_20 : decode cX2_digestConcepts 20 = .ok (.iload 6, 2) := by decide +kernel
theorem dX2_digestConcepts_22 : decode cX2_digestConcepts 22 = .ok (.bipush 6, 2) := by decide +kernel
theorem dX2_digestConcepts_24 : decode cX2_digestConcepts 24 = .ok (.if_icmp .gt 25, 3) := by decide +kernel
theorem dX2_digestConcepts_27 : decode cX2_digestConcepts 27 = .ok (.lload_n 3, 1) := by decide +kernel
theorem dX2_digestConcepts_28 : decode cX2_digestConcepts 28 = .ok (.ldc2_w 288, 3) := by decide +kernel
theorem dX2_digestConcepts_31 : decode cX2_digestConcepts 31 = .ok (.lmul, 1) := by decide +kernel
theorem dX2_digestConcepts_32 : decode cX2_digestConcepts 32 = .ok (.aload_n 0, 1) := by decide +kernel
theorem dX2_digestConcepts_33 : decode cX2_digestConcepts 33 = .ok (.iload 5, 2) := by decide +kernel
theorem dX2_digestConcepts_35 : decode cX2_digestConcepts 35 = .ok (.iload 6, 2) := by decide +kernel
theorem dX2_digestConcepts_37 : decode cX2_digestConcepts 37 = .ok (.invokevirtual 315, 3) := by decide +kernel
theorem dX2_digestConcepts_40 : decode cX2_digestConcepts 40 = .ok (.i2l, 1) := by decide +kernel
theorem dX2_digestConcepts_41 : decode cX2_digestConcepts 41 = .ok (.ladd, 1) := by decide +kernel
theorem dX2_digestConcepts_42 : decode cX2_digestConcepts 42 = .ok (.lstore_n 3, 1) := by decide +kernel
theorem dX2_digestConcepts_43 : decode cX2_digestConcepts 43 = .ok (.iinc 6 1, 3) := by decide +kernel
theorem dX2_digestConcepts_46 : decode cX2_digestConcepts 46 = .ok (.goto (-26), 3) := by decide +kernel
theorem dX2_digestConcepts_49 : decode cX2_digestConcepts 49 = .ok (.iinc 5 1, 3) := by decide +kernel
theorem dX2_digestConcepts_52 : decode cX2_digestConcepts 52 = .ok (.goto (-47), 3) := by decide +kernel
theorem dX2_digestConcepts_55 : decode cX2_digestConcepts 55 = .ok (.lload_n 3, 1) := by decide +kernel
theorem dX2_digestConcepts_56 : decode cX2_digestConcepts 56 = .ok (.lreturn, 1) := by decide +kernel
theorem dX2_digestTexts_0 : decode cX2_digestTexts 0 = .ok (.lload_n 1, 1) := by decide +kernel
theorem dX2_digestTexts_1 : decode cX2_digestTexts 1 = .ok (.lstore_n 3, 1) := by decide +kernel
theorem dX2_digestTexts_2 : decode cX2_digestTexts 2 = .ok (.iconst 0, 1) := by decide +kernel
theorem dX2_digestTexts_3 : decode cX2_digestTexts 3 = .ok (.istore 5, 2) := by decide +kernel
theorem dX2_digestTexts_5 : decode cX2_digestTexts 5 = .ok (.iload 5, 2) := by decide +kernel
theorem dX2_digestTexts_7 : decode cX2_digestTexts 7 = .ok (.aload_n 0, 1) := by decide +kernel
theorem dX2_digestTexts_8 : decode cX2_digestTexts 8 = .ok (.getfield 21, 3) := by decide +kernel
theorem dX2_digestTexts_11 : decode cX2_digestTexts 11 = .ok (.invokevirtual 318, 3) := by decide +kernel
theorem dX2_digestTexts_14 : decode cX2_digestTexts 14 = .ok (.if_icmp .ge 97, 3) := by decide +kernel
theorem dX2_digestTexts_17 : decode cX2_digestTexts 17 = .ok (.iload 5, 2) := by decide +kernel
theorem dX2_digestTexts_19 : decode cX2_digestTexts 19 = .ok (.iconst 3, 1) := by decide +kernel
theorem dX2_digestTexts_20 : decode cX2_digestTexts 20 = .ok (.idiv, 1) := by decide +kernel
theorem dX2_digestTexts_21 : decode cX2_digestTexts 21 = .ok (.istore 6, 2) := by decide +kernel
theorem dX2_digestTexts_23 : decode cX2_digestTexts 23 = .ok (.iload 5, 2) := by decide +kernel
theorem dX2_digestTexts_25 : decode cX2_digestTexts 25 = .ok (.iconst 3, 1) := by decide +kernel
theorem dX2_digestTexts_26 : decode cX2_digestTexts 26 = .ok (.irem, 1) := by decide +kernel
theorem dX2_digestTexts_27 : decode cX2_digestTexts 27 = .ok (.istore 7, 2) := by decide +kernel
theorem dX2_digestTexts_29 : decode cX2_digestTexts 29 = .ok (.iconst 0, 1) := by decide +kernel
theorem dX2_digestTexts_30 : decode cX2_digestTexts 30 = .ok (.istore 8, 2) := by decide +kernel
theorem dX2_digestTexts_32 : decode cX2_digestTexts 32 = .ok (.iload 8, 2) := by decide +kernel
theorem dX2_digestTexts_34 : decode cX2_digestTexts 34 = .ok (.bipush 6, 2) := by decide +kernel
theorem dX2_digestTexts_36 : decode cX2_digestTexts 36 = .ok (.if_icmp .gt 27, 3) := by decide +kernel
theorem dX2_digestTexts_39 : decode cX2_digestTexts 39 = .ok (.lload_n 3, 1) := by decide +kernel
theorem dX2_digestTexts_40 : decode cX2_digestTexts 40 = .ok (.ldc2_w 288, 3) := by decide +kernel
theorem dX2_digestTexts_43 : decode cX2_digestTexts 43 = .ok (.lmul, 1) := by decide +kernel
theorem dX2_digestTexts_44 : decode cX2_digestTexts 44 = .ok (.aload_n 0, 1) := by decide +kernel
theorem dX2_digestTexts_45 : decode cX2_digestTexts 45 = .ok (.iload 6, 2) := by decide +kernel
theorem dX2_digestTexts_47 : decode cX2_digestTexts 47 = .ok (.iload 7, 2) := by decide +kernel
theorem dX2_digestTexts_49 : decode cX2_digestTexts 49 = .ok (.iload 8, 2) := by decide +kernel
theorem dX2_digestTexts_51 : decode cX2_digestTexts 51 = .ok (.invokevirtual 321, 3) := by decide +kernel
theorem dX2_digestTexts_54 : decode cX2_digestTexts 54 = .ok (.i2l, 1) := by decide +kernel
theorem dX2_digestTexts_55 : decode cX2_digestTexts 55 = .ok (.ladd, 1) := by decide +kernel
theorem dX2_digestTexts_56 : decode cX2_digestTexts 56 = .ok (.lstore_n 3, 1) := by decide +kernel
theorem dX2_digestTexts_57 : decode cX2_digestTexts 57 = .ok (.iinc 8 1, 3) := by decide +kernel
theorem dX2_digestTexts_60 : decode cX2_digestTexts 60 = .ok (.goto (-28), 3) := by decide +kernel
theorem dX2_digestTexts_63 : decode cX2_digestTexts 63 = .ok (.iconst 0, 1) := by decide +kernel
theorem dX2_digestTexts_64 : decode cX2_digestTexts 64 = .ok (.istore 8, 2) := by decide +kernel
theorem dX2_digestTexts_66 : decode cX2_digestTexts 66 = .ok (.iload 8, 2) := by decide +kernel
theorem dX2_digestTexts_68 : decode cX2_digestTexts 68 = .ok (.aload_n 0, 1) := by decide +kernel
theorem dX2_digestTexts_69 : decode cX2_digestTexts 69 = .ok (.getfield 21, 3) := by decide +kernel
theorem dX2_digestTexts_72 : decode cX2_digestTexts 72 = .ok (.getfield 212, 3) := by decide +kernel
theorem dX2_digestTexts_75 : decode cX2_digestTexts 75 = .ok (.iload 5, 2) := by decide +kernel
theorem dX2_digestTexts_77 : decode cX2_digestTexts 77 = .ok (.iaload, 1) := by decide +kernel
theorem dX2_digestTexts_78 : decode cX2_digestTexts 78 = .ok (.if_icmp .ge 27, 3) := by decide +kernel
theorem dX2_digestTexts_81 : decode cX2_digestTexts 81 = .ok (.lload_n 3, 1) := by decide +kernel
theorem dX2_digestTexts_82 : decode cX2_digestTexts 82 = .ok (.ldc2_w 288, 3) := by decide +kernel
theorem dX2_digestTexts_85 : decode cX2_digestTexts 85 = .ok (.lmul, 1) := by decide +kernel
theorem dX2_digestTexts_86 : decode cX2_digestTexts 86 = .ok (.aload_n 0, 1) := by decide +kernel
theorem dX2_digestTexts_87 : decode cX2_digestTexts 87 = .ok (.iload 6, 2) := by decide +kernel
theorem dX2_digestTexts_89 : decode cX2_digestTexts 89 = .ok (.iload 7, 2) := by decide +kernel
theorem dX2_digestTexts_91 : decode cX2_digestTexts 91 = .ok (.iload 8, 2) := by decide +kernel
theorem dX2_digestTexts_93 : decode cX2_digestTexts 93 = .ok (.invokevirtual 324, 3) := by decide +kernel
theorem dX2_digestTexts_96 : decode cX2_digestTexts 96 = .ok (.i2l, 1) := by decide +kernel
theorem dX2_digestTexts_97 : decode cX2_digestTexts 97 = .ok (.ladd, 1) := by decide +kernel
theorem dX2_digestTexts_98 : decode cX2_digestTexts 98 = .ok (.lstore_n 3, 1) := by decide +kernel
theorem dX2_digestTexts_99 : decode cX2_digestTexts 99 = .ok (.iinc 8 1, 3) := by decide +kernel
theorem dX2_digestTexts_102 : decode cX2_digestTexts 102 = .ok (.goto (-36), 3) := by decide +kernel
theorem dX2_digestTexts_105 : decode cX2_digestTexts 105 = .ok (.iinc 5 1, 3) := by decide +kernel
theorem dX2_digestTexts_108 : decode cX2_digestTexts 108 = .ok (.goto (-103), 3) := by decide +kernel
theorem dX2_digestTexts_111 : decode cX2_digestTexts 111 = .ok (.lload_n 3, 1) := by decide +kernel
theorem dX2_digestTexts_112 : decode cX2_digestTexts 112 = .ok (.lreturn, 1) := by decide +kernel
theorem dX2_readAnew_0 : decode cX2_readAnew 0 = .ok (.iconst 0, 1) := by decide +kernel
theorem dX2_readAnew_1 : decode cX2_readAnew 1 = .ok (.istore_n 1, 1) := by decide +kernel
theorem dX2_readAnew_2 : decode cX2_readAnew 2 = .ok (.iload_n 1, 1) := by decide +kernel
theorem dX2_readAnew_3 : decode cX2_readAnew 3 = .ok (.aload_n 0, 1) := by decide +kernel
theorem dX2_readAnew_4 : decode cX2_readAnew 4 = .ok (.getfield 21, 3) := by decide +kernel
theorem dX2_readAnew_7 : decode cX2_readAnew 7 = .ok (.invokevirtual 318, 3) := by decide +kernel
theorem dX2_readAnew_10 : decode cX2_readAnew 10 = .ok (.if_icmp .ge 17, 3) := by decide +kernel
theorem dX2_readAnew_13 : decode cX2_readAnew 13 = .ok (.aload_n 0, 1) := by decide +kernel
theorem dX2_readAnew_14 : decode cX2_readAnew 14 = .ok (.getfield 21, 3) := by decide +kernel
theorem dX2_readAnew_17 : decode cX2_readAnew 17 = .ok (.iload_n 1, 1) := by decide +kernel
theorem dX2_readAnew_18 : decode cX2_readAnew 18 = .ok (.invokevirtual 327, 3) := by decide +kernel
theorem dX2_readAnew_21 : decode cX2_readAnew 21 = .ok (.iinc 1 1, 3) := by decide +kernel
theorem dX2_readAnew_24 : decode cX2_readAnew 24 = .ok (.goto (-22), 3) := by decide +kernel
theorem dX2_readAnew_27 : decode cX2_readAnew 27 = .ok (.aload_n 0, 1) := by decide +kernel
theorem dX2_readAnew_28 : decode cX2_readAnew 28 = .ok (.getfield 21, 3) := by decide +kernel
theorem dX2_readAnew_31 : decode cX2_readAnew 31 = .ok (.aload_n 0, 1) := by decide +kernel
theorem dX2_readAnew_32 : decode cX2_readAnew 32 = .ok (.getfield 25, 3) := by decide +kernel
theorem dX2_readAnew_35 : decode cX2_readAnew 35 = .ok (.invokevirtual 111, 3) := by decide +kernel
theorem dX2_readAnew_38 : decode cX2_readAnew 38 = .ok (.pop, 1) := by decide +kernel
theorem dX2_readAnew_39 : decode cX2_readAnew 39 = .ok (.return_, 1) := by decide +kernel
theorem dX2_requireDomain_0 : decode cX2_requireDomain 0 = .ok (.iload_n 1, 1) := by decide +kernel
theorem dX2_requireDomain_1 : decode cX2_requireDomain 1 = .ok (.ifCond .lt 8, 3) := by decide +kernel
theorem dX2_requireDomain_4 : decode cX2_requireDomain 4 = .ok (.iload_n 1, 1) := by decide +kernel
theorem dX2_requireDomain_5 : decode cX2_requireDomain 5 = .ok (.iconst 4, 1) := by decide +kernel
theorem dX2_requireDomain_6 : decode cX2_requireDomain 6 = .ok (.if_icmp .lt 14, 3) := by decide +kernel
theorem dX2_requireDomain_9 : decode cX2_requireDomain 9 = .ok (.new 46, 3) := by decide +kernel
theorem dX2_requireDomain_12 : decode cX2_requireDomain 12 = .ok (.dup, 1) := by decide +kernel
theorem dX2_requireDomain_13 : decode cX2_requireDomain 13 = .ok (.ldc_w 330, 3) := by decide +kernel
theorem dX2_requireDomain_16 : decode cX2_requireDomain 16 = .ok (.invokespecial 50, 3) := by decide +kernel
theorem dX2_requireDomain_19 : decode cX2_requireDomain 19 = .ok (.athrow, 1) := by decide +kernel
theorem dX2_requireDomain_20 : decode cX2_requireDomain 20 = .ok (.return_, 1) := by decide +kernel
theorem dX2_requireRoomForConcept_0 : decode cX2_requireRoomForConcept 0 = .ok (.aload_n 0, 1) := by decide +kernel
theorem dX2_requireRoomForConcept_1 : decode cX2_requireRoomForConcept 1 = .ok (.getfield 12, 3) := by decide +kernel
theorem dX2_requireRoomForConcept_4 : decode cX2_requireRoomForConcept 4 = .ok (.getfield 255, 3) := by decide +kernel
theorem dX2_requireRoomForConcept_7 : decode cX2_requireRoomForConcept 7 = .ok (.bipush 12, 2) := by decide +kernel
theorem dX2_requireRoomForConcept_9 : decode cX2_requireRoomForConcept 9 = .ok (.if_icmp .lt 14, 3) := by decide +kernel
theorem dX2_requireRoomForConcept_12 : decode cX2_requireRoomForConcept 12 = .ok (.new 60, 3) := by decide +kernel
theorem dX2_requireRoomForConcept_15 : decode cX2_requireRoomForConcept 15 = .ok (.dup, 1) := by decide +kernel
theorem dX2_requireRoomForConcept_16 : decode cX2_requireRoomForConcept 16 = .ok (.ldc_w 332, 3) := by decide +kernel
theorem dX2_requireRoomForConcept_19 : decode cX2_requireRoomForConcept 19 = .ok (.invokespecial 64, 3) := by decide +kernel
theorem dX2_requireRoomForConcept_22 : decode cX2_requireRoomForConcept 22 = .ok (.athrow, 1) := by decide +kernel
theorem dX2_requireRoomForConcept_23 : decode cX2_requireRoomForConcept 23 = .ok (.return_, 1) := by decide +kernel
theorem dX2_requireConcept_0 : decode cX2_requireConcept 0 = .ok (.aload_n 0, 1) := by decide +kernel
theorem dX2_requireConcept_1 : decode cX2_requireConcept 1 = .ok (.getfield 12, 3) := by decide +kernel
theorem dX2_requireConcept_4 : decode cX2_requireConcept 4 = .ok (.iload_n 1, 1) := by decide +kernel
theorem dX2_requireConcept_5 : decode cX2_requireConcept 5 = .ok (.invokevirtual 334, 3) := by decide +kernel
theorem dX2_requireConcept_8 : decode cX2_requireConcept 8 = .ok (.ifCond .ne 14, 3) := by decide +kernel
theorem dX2_requireConcept_11 : decode cX2_requireConcept 11 = .ok (.new 72, 3) := by decide +kernel
theorem dX2_requireConcept_14 : decode cX2_requireConcept 14 = .ok (.dup, 1) := by decide +kernel
theorem dX2_requireConcept_15 : decode cX2_requireConcept 15 = .ok (.ldc_w 337, 3) := by decide +kernel
theorem dX2_requireConcept_18 : decode cX2_requireConcept 18 = .ok (.invokespecial 76, 3) := by decide +kernel
theorem dX2_requireConcept_21 : decode cX2_requireConcept 21 = .ok (.athrow, 1) := by decide +kernel
theorem dX2_requireConcept_22 : decode cX2_requireConcept 22 = .ok (.return_, 1) := by decide +kernel
theorem dX2_requireTwoConcepts_0 : decode cX2_requireTwoConcepts 0 = .ok (.aload_n 0, 1) := by decide +kernel
theorem dX2_requireTwoConcepts_1 : decode cX2_requireTwoConcepts 1 = .ok (.iload_n 1, 1) := by decide +kernel
theorem dX2_requireTwoConcepts_2 : decode cX2_requireTwoConcepts 2 = .ok (.invokevirtual 40, 3) := by decide +kernel
theorem dX2_requireTwoConcepts_5 : decode cX2_requireTwoConcepts 5 = .ok (.aload_n 0, 1) := by decide +kernel
theorem dX2_requireTwoConcepts_6 : decode cX2_requireTwoConcepts 6 = .ok (.iload_n 2, 1) := by decide +kernel
theorem dX2_requireTwoConcepts_7 : decode cX2_requireTwoConcepts 7 = .ok (.invokevirtual 40, 3) := by decide +kernel
theorem dX2_requireTwoConcepts_10 : decode cX2_requireTwoConcepts 10 = .ok (.iload_n 1, 1) := by decide +kernel
theorem dX2_requireTwoConcepts_11 : decode cX2_requireTwoConcepts 11 = .ok (.iload_n 2, 1) := by decide +kernel
theorem dX2_requireTwoConcepts_12 : decode cX2_requireTwoConcepts 12 = .ok (.if_icmp .ne 14, 3) := by decide +kernel
theorem dX2_requireTwoConcepts_15 : decode cX2_requireTwoConcepts 15 = .ok (.new 46, 3) := by decide +kernel
theorem dX2_requireTwoConcepts_18 : decode cX2_requireTwoConcepts 18 = .ok (.dup, 1) := by decide +kernel
theorem dX2_requireTwoConcepts_19 : decode cX2_requireTwoConcepts 19 = .ok (.ldc_w 339, 3) := by decide +kernel
theorem dX2_requireTwoConcepts_22 : decode cX2_requireTwoConcepts 22 = .ok (.invokespecial 50, 3) := by decide +kernel
theorem dX2_requireTwoConcepts_25 : decode cX2_requireTwoConcepts 25 = .ok (.athrow, 1) := by decide +kernel
theorem dX2_requireTwoConcepts_26 : decode cX2_requireTwoConcepts 26 = .ok (.return_, 1) := by decide +kernel
theorem dX2_requireLanguage_0 : decode cX2_requireLanguage 0 = .ok (.iload_n 1, 1) := by decide +kernel
theorem dX2_requireLanguage_1 : decode cX2_requireLanguage 1 = .ok (.ifCond .lt 8, 3) := by decide +kernel
theorem dX2_requireLanguage_4 : decode cX2_requireLanguage 4 = .ok (.iload_n 1, 1) := by decide +kernel
theorem dX2_requireLanguage_5 : decode cX2_requireLanguage 5 = .ok (.iconst 3, 1) := by decide +kernel
theorem dX2_requireLanguage_6 : decode cX2_requireLanguage 6 = .ok (.if_icmp .lt 14, 3) := by decide +kernel
theorem dX2_requireLanguage_9 : decode cX2_requireLanguage 9 = .ok (.new 72, 3) := by decide +kernel
theorem dX2_requireLanguage_12 : decode cX2_requireLanguage 12 = .ok (.dup, 1) := by decide +kernel
theorem dX2_requireLanguage_13 : decode cX2_requireLanguage 13 = .ok (.ldc_w 341, 3) := by decide +kernel
theorem dX2_requireLanguage_16 : decode cX2_requireLanguage 16 = .ok (.invokespecial 76, 3) := by decide +kernel
theorem dX2_requireLanguage_19 : decode cX2_requireLanguage 19 = .ok (.athrow, 1) := by decide +kernel
theorem dX2_requireLanguage_20 : decode cX2_requireLanguage 20 = .ok (.return_, 1) := by decide +kernel
theorem dX2_requireTerm_0 : decode cX2_requireTerm 0 = .ok (.aload_n 0, 1) := by decide +kernel
theorem dX2_requireTerm_1 : decode cX2_requireTerm 1 = .ok (.getfield 12, 3) := by decide +kernel
theorem dX2_requireTerm_4 : decode cX2_requireTerm 4 = .ok (.iload_n 1, 1) := by decide +kernel
theorem dX2_requireTerm_5 : decode cX2_requireTerm 5 = .ok (.invokevirtual 343, 3) := by decide +kernel
theorem dX2_requireTerm_8 : decode cX2_requireTerm 8 = .ok (.ifCond .ne 14, 3) := by decide +kernel
theorem dX2_requireTerm_11 : decode cX2_requireTerm 11 = .ok (.new 72, 3) := by decide +kernel
theorem dX2_requireTerm_14 : decode cX2_requireTerm 14 = .ok (.dup, 1) := by decide +kernel
theorem dX2_requireTerm_15 : decode cX2_requireTerm 15 = .ok (.ldc_w 346, 3) := by decide +kernel
theorem dX2_requireTerm_18 : decode cX2_requireTerm 18 = .ok (.invokespecial 76, 3) := by decide +kernel
theorem dX2_requireTerm_21 : decode cX2_requireTerm 21 = .ok (.athrow, 1) := by decide +kernel
theorem dX2_requireTerm_22 : decode cX2_requireTerm 22 = .ok (.return_, 1) := by decide +kernel
theorem dX2_requireDocument_0 : decode cX2_requireDocument 0 = .ok (.iload_n 1, 1) := by decide +kernel
theorem dX2_requireDocument_1 : decode cX2_requireDocument 1 = .ok (.ifCond .lt 14, 3) := by decide +kernel
theorem dX2_requireDocument_4 : decode cX2_requireDocument 4 = .ok (.iload_n 1, 1) := by decide +kernel
theorem dX2_requireDocument_5 : decode cX2_requireDocument 5 = .ok (.aload_n 0, 1) := by decide +kernel
theorem dX2_requireDocument_6 : decode cX2_requireDocument 6 = .ok (.getfield 21, 3) := by decide +kernel
theorem dX2_requireDocument_9 : decode cX2_requireDocument 9 = .ok (.getfield 186, 3) := by decide +kernel
theorem dX2_requireDocument_12 : decode cX2_requireDocument 12 = .ok (.if_icmp .lt 14, 3) := by decide +kernel
theorem dX2_requireDocument_15 : decode cX2_requireDocument 15 = .ok (.new 72, 3) := by decide +kernel
theorem dX2_requireDocument_18 : decode cX2_requireDocument 18 = .ok (.dup, 1) := by decide +kernel
theorem dX2_requireDocument_19 : decode cX2_requireDocument 19 = .ok (.ldc_w 348, 3) := by decide +kernel
theorem dX2_requireDocument_22 : decode cX2_requireDocument 22 = .ok (.invokespecial 76, 3) := by decide +kernel
theorem dX2_requireDocument_25 : decode cX2_requireDocument 25 = .ok (.athrow, 1) := by decide +kernel
theorem dX2_requireDocument_26 : decode cX2_requireDocument 26 = .ok (.return_, 1) := by decide +kernel
theorem dX2_requireText_0 : decode cX2_requireText 0 = .ok (.aload_n 0, 1) := by decide +kernel
theorem dX2_requireText_1 : decode cX2_requireText 1 = .ok (.iload_n 1, 1) := by decide +kernel
theorem dX2_requireText_2 : decode cX2_requireText 2 = .ok (.invokevirtual 244, 3) := by decide +kernel
theorem dX2_requireText_5 : decode cX2_requireText 5 = .ok (.aload_n 0, 1) := by decide +kernel
theorem dX2_requireText_6 : decode cX2_requireText 6 = .ok (.iload_n 2, 1) := by decide +kernel
theorem dX2_requireText_7 : decode cX2_requireText 7 = .ok (.invokevirtual 43, 3) := by decide +kernel
theorem dX2_requireText_10 : decode cX2_requireText 10 = .ok (.iload_n 1, 1) := by decide +kernel
theorem dX2_requireText_11 : decode cX2_requireText 11 = .ok (.iconst 3, 1) := by decide +kernel
theorem dX2_requireText_12 : decode cX2_requireText 12 = .ok (.imul, 1) := by decide +kernel
theorem dX2_requireText_13 : decode cX2_requireText 13 = .ok (.iload_n 2, 1) := by decide +kernel
theorem dX2_requireText_14 : decode cX2_requireText 14 = .ok (.iadd, 1) := by decide +kernel
theorem dX2_requireText_15 : decode cX2_requireText 15 = .ok (.ireturn, 1) := by decide +kernel
theorem dX2_requirePlace_0 : decode cX2_requirePlace 0 = .ok (.iload_n 1, 1) := by decide +kernel
theorem dX2_requirePlace_1 : decode cX2_requirePlace 1 = .ok (.ifCond .lt 8, 3) := by decide +kernel
theorem dX2_requirePlace_4 : decode cX2_requirePlace 4 = .ok (.iload_n 1, 1) := by decide +kernel
theorem dX2_requirePlace_5 : decode cX2_requirePlace 5 = .ok (.iload_n 2, 1) := by decide +kernel
theorem dX2_requirePlace_6 : decode cX2_requirePlace 6 = .ok (.if_icmp .lt 14, 3) := by decide +kernel
theorem dX2_requirePlace_9 : decode cX2_requirePlace 9 = .ok (.new 72, 3) := by decide +kernel
theorem dX2_requirePlace_12 : decode cX2_requirePlace 12 = .ok (.dup, 1) := by decide +kernel
theorem dX2_requirePlace_13 : decode cX2_requirePlace 13 = .ok (.ldc_w 350, 3) := by decide +kernel
theorem dX2_requirePlace_16 : decode cX2_requirePlace 16 = .ok (.invokespecial 76, 3) := by decide +kernel
theorem dX2_requirePlace_19 : decode cX2_requirePlace 19 = .ok (.athrow, 1) := by decide +kernel
theorem dX2_requirePlace_20 : decode cX2_requirePlace 20 = .ok (.return_, 1) := by decide +kernel
theorem dX2_requireWhat_0 : decode cX2_requireWhat 0 = .ok (.iload_n 1, 1) := by decide +kernel
theorem dX2_requireWhat_1 : decode cX2_requireWhat 1 = .ok (.ifCond .lt 8, 3) := by decide +kernel
theorem dX2_requireWhat_4 : decode cX2_requireWhat 4 = .ok (.iload_n 1, 1) := by decide +kernel
theorem dX2_requireWhat_5 : decode cX2_requireWhat 5 = .ok (.iload_n 2, 1) := by decide +kernel
theorem dX2_requireWhat_6 : decode cX2_requireWhat 6 = .ok (.if_icmp .le 14, 3) := by decide +kernel
theorem dX2_requireWhat_9 : decode cX2_requireWhat 9 = .ok (.new 46, 3) := by decide +kernel
theorem dX2_requireWhat_12 : decode cX2_requireWhat 12 = .ok (.dup, 1) := by decide +kernel
theorem dX2_requireWhat_13 : decode cX2_requireWhat 13 = .ok (.ldc_w 352, 3) := by decide +kernel
theorem dX2_requireWhat_16 : decode cX2_requireWhat 16 = .ok (.invokespecial 50, 3) := by decide +kernel
theorem dX2_requireWhat_19 : decode cX2_requireWhat 19 = .ok (.athrow, 1) := by decide +kernel
theorem dX2_requireWhat_20 : decode cX2_requireWhat 20 = .ok (.return_, 1) := by decide +kernel
theorem dX2_requireDays_0 : decode cX2_requireDays 0 = .ok (.iload_n 1, 1) := by decide +kernel
theorem dX2_requireDays_1 : decode cX2_requireDays 1 = .ok (.iconst 1, 1) := by decide +kernel
theorem dX2_requireDays_2 : decode cX2_requireDays 2 = .ok (.if_icmp .lt 9, 3) := by decide +kernel
theorem dX2_requireDays_5 : decode cX2_requireDays 5 = .ok (.iload_n 1, 1) := by decide +kernel
theorem dX2_requireDays_6 : decode cX2_requireDays 6 = .ok (.bipush 40, 2) := by decide +kernel
theorem dX2_requireDays_8 : decode cX2_requireDays 8 = .ok (.if_icmp .le 14, 3) := by decide +kernel
theorem dX2_requireDays_11 : decode cX2_requireDays 11 = .ok (.new 46, 3) := by decide +kernel
theorem dX2_requireDays_14 : decode cX2_requireDays 14 = .ok (.dup, 1) := by decide +kernel
theorem dX2_requireDays_15 : decode cX2_requireDays 15 = .ok (.ldc_w 354, 3) := by decide +kernel
theorem dX2_requireDays_18 : decode cX2_requireDays 18 = .ok (.invokespecial 50, 3) := by decide +kernel
theorem dX2_requireDays_21 : decode cX2_requireDays 21 = .ok (.athrow, 1) := by decide +kernel
theorem dX2_requireDays_22 : decode cX2_requireDays 22 = .ok (.return_, 1) := by decide +kernel
theorem dX2_has_0 : decode cX2_has 0 = .ok (.iload_n 0, 1) := by decide +kernel
theorem dX2_has_1 : decode cX2_has 1 = .ok (.iload_n 1, 1) := by decide +kernel
theorem dX2_has_2 : decode cX2_has 2 = .ok (.ishr, 1) := by decide +kernel
theorem dX2_has_3 : decode cX2_has 3 = .ok (.iconst 1, 1) := by decide +kernel
theorem dX2_has_4 : decode cX2_has 4 = .ok (.iand, 1) := by decide +kernel
theorem dX2_has_5 : decode cX2_has 5 = .ok (.ifCond .eq 7, 3) := by decide +kernel
theorem dX2_has_8 : decode cX2_has 8 = .ok (.iconst 1, 1) := by decide +kernel
theorem dX2_has_9 : decode cX2_has 9 = .ok (.goto 4, 3) := by decide +kernel
theorem dX2_has_12 : decode cX2_has 12 = .ok (.iconst 0, 1) := by decide +kernel
theorem dX2_has_13 : decode cX2_has 13 = .ok (.ireturn, 1) := by decide +kernel
end
section
/-! The words of the class, one list; each by its place. -/
def gw_0 : List Cond := [Cond.methodLink RX0 3 objectInit, Cond.instanceMethod objectInit, Cond.code objectInit ⟨#[0xb1]⟩ 1 none, Cond.fieldLink RX0 9 "GlossaryCrown$Terms" "conceptCount" "I", Cond.fieldLink RX0 15 "GlossaryCrown$Terms" "termCount" "I", Cond.arrayClass .int, Cond.fieldLink RX0 18 "GlossaryCrown$Terms" "domains" "[I", Cond.fieldLink RX0 22 "GlossaryCrown$Terms" "concepts" "[I", Cond.fieldLink RX0 25 "GlossaryCrown$Terms" "languages" "[I", Cond.fieldLink RX0 28 "GlossaryCrown$Terms" "stems" "[I", Cond.fieldLink RX0 31 "GlossaryCrown$Terms" "states" "[I", Cond.fieldLink RX0 34 "GlossaryCrown$Terms" "votersFor" "[I", Cond.fieldLink RX0 37 "GlossaryCrown$Terms" "votersAgainst" "[I", Cond.fieldLink RX0 40 "GlossaryCrown$Terms" "bannedFrom" "[I", Cond.fieldLink RX0 43 "GlossaryCrown$Terms" "graces" "[I", Cond.classLink RX0 46 "[[I", Cond.fieldLink RX0 48 "GlossaryCrown$Terms" "known" "[[I", Cond.static yX2_has, Cond.initialized RX2, Cond.code yX2_has cX2_has 2 (some .boolean), Cond.constant RJ6 265 (1431655765), Cond.constant RJ6 266 (858993459), Cond.constant RJ6 267 (252645135), Cond.methodLink RX0 65 yX0_isStem, Cond.static yX0_isStem, Cond.initialized RX0, Cond.code yX0_isStem cX0_isStem 2 (some .boolean), Cond.methodLink RX0 55 yJ6_bitCount_0f7a4, Cond.static yJ6_bitCount_0f7a4, Cond.initialized RJ6, Cond.code yJ6_bitCount_0f7a4 cJ6_bitCount_0f7a4 1 (some .int), Cond.methodLink RX0 61 yX0_makeKnown, Cond.instanceMethod yX0_makeKnown, Cond.selects RX0 yX0_makeKnown yX0_makeKnown, Cond.code yX0_makeKnown cX0_makeKnown 4 none, Cond.methodLink RX0 68 yX0_preferredOf, Cond.instanceMethod yX0_preferredOf, Cond.selects RX0 yX0_preferredOf yX0_preferredOf, Cond.code yX0_preferredOf cX0_preferredOf 4 (some .int), Cond.methodLink RX0 72 yX0_isTerm, Cond.instanceMethod yX0_isTerm, Cond.selects RX0 yX0_isTerm yX0_isTerm, Cond.code yX0_isTerm cX0_isTerm 2 (some .boolean), Cond.methodLink RX0 76 yX0_hasTerm, Cond.instanceMethod yX0_hasTerm, Cond.selects RX0 yX0_hasTerm yX0_hasTerm, Cond.code yX0_hasTerm cX0_hasTerm 5 (some .boolean), Cond.methodLink RX0 80 Lib.Math.max.name, Cond.static Lib.Math.max.name, Cond.initialized "java/lang/Math", Cond.code Lib.Math.max.name Lib.Math.max.code 2 (some .int), Cond.methodLink RX0 85 yX0_termsOf, Cond.instanceMethod yX0_termsOf, Cond.selects RX0 yX0_termsOf yX0_termsOf, Cond.code yX0_termsOf cX0_termsOf 4 (some .int), Cond.methodLink RX0 88 yX0_move, Cond.instanceMethod yX0_move, Cond.selects RX0 yX0_move yX0_move, Cond.code yX0_move cX0_move 4 none, Cond.methodLink RX0 92 yX0_isConcept]
def gw_1 : List Cond := [Cond.instanceMethod yX0_isConcept, Cond.selects RX0 yX0_isConcept yX0_isConcept, Cond.code yX0_isConcept cX0_isConcept 2 (some .boolean), Cond.methodLink RX1 3 objectInit, Cond.fieldLink RX1 9 "GlossaryCrown$Texts" "documentCount" "I", Cond.fieldLink RX1 15 "GlossaryCrown$Texts" "lengths" "[I", Cond.fieldLink RX1 19 "GlossaryCrown$Texts" "states" "[I", Cond.classLink RX1 22 "[[I", Cond.fieldLink RX1 24 "GlossaryCrown$Texts" "forms" "[[I", Cond.fieldLink RX1 27 "GlossaryCrown$Texts" "uses" "[[I", Cond.fieldLink RX1 30 "GlossaryCrown$Texts" "terms" "LGlossaryCrown$Terms;", Cond.methodLink RX1 34 Lib.Math.min.name, Cond.static Lib.Math.min.name, Cond.code Lib.Math.min.name Lib.Math.min.code 2 (some .int), Cond.methodLink RX1 53 yJ6_bitCount_0f7a4, Cond.methodLink RX1 76 Lib.Math.max.name, Cond.methodLink RX1 72 yX0_domainIf, Cond.instanceMethod yX0_domainIf, Cond.selects RX0 yX0_domainIf yX0_domainIf, Cond.code yX0_domainIf cX0_domainIf 5 (some .int), Cond.methodLink RX1 48 yX0_canBe, Cond.instanceMethod yX0_canBe, Cond.selects RX0 yX0_canBe yX0_canBe, Cond.code yX0_canBe cX0_canBe 4 (some .int), Cond.methodLink RX1 59 yX1_onlyOneOf, Cond.static yX1_onlyOneOf, Cond.initialized RX1, Cond.code yX1_onlyOneOf cX1_onlyOneOf 1 (some .int), Cond.methodLink RX1 79 yX0_isTerm, Cond.fieldLink RX1 62 "GlossaryCrown$Terms" "termCount" "I", Cond.methodLink RX1 69 yX1_supportFor, Cond.instanceMethod yX1_supportFor, Cond.selects RX1 yX1_supportFor yX1_supportFor, Cond.code yX1_supportFor cX1_supportFor 11 (some .int), Cond.methodLink RX1 44 yX1_useOf, Cond.instanceMethod yX1_useOf, Cond.selects RX1 yX1_useOf yX1_useOf, Cond.code yX1_useOf cX1_useOf 11 (some .int), Cond.methodLink RX1 40 yX1_read, Cond.instanceMethod yX1_read, Cond.selects RX1 yX1_read yX1_read, Cond.code yX1_read cX1_read 3 none, Cond.methodLink RX1 83 yX1_textCount, Cond.instanceMethod yX1_textCount, Cond.selects RX1 yX1_textCount yX1_textCount, Cond.code yX1_textCount cX1_textCount 1 (some .int), Cond.fieldLink RX1 87 "GlossaryCrown$Terms" "states" "[I", Cond.methodLink RX1 88 yX1_isUseInState, Cond.instanceMethod yX1_isUseInState, Cond.selects RX1 yX1_isUseInState yX1_isUseInState, Cond.code yX1_isUseInState cX1_isUseInState 5 (some .boolean), Cond.methodLink RX1 92 yX1_usesAmongIn, Cond.instanceMethod yX1_usesAmongIn, Cond.selects RX1 yX1_usesAmongIn yX1_usesAmongIn, Cond.code yX1_usesAmongIn cX1_usesAmongIn 6 (some .int), Cond.methodLink RX1 95 yX1_usesInState, Cond.instanceMethod yX1_usesInState, Cond.selects RX1 yX1_usesInState yX1_usesInState, Cond.code yX1_usesInState cX1_usesInState 5 (some .int), Cond.methodLink RX1 98 yX1_firstBanned]
def gw_2 : List Cond := [Cond.instanceMethod yX1_firstBanned, Cond.selects RX1 yX1_firstBanned yX1_firstBanned, Cond.code yX1_firstBanned cX1_firstBanned 3 (some .int), Cond.fieldLink RX1 101 "GlossaryCrown$Terms" "concepts" "[I", Cond.methodLink RX1 104 yX1_conceptsIn, Cond.instanceMethod yX1_conceptsIn, Cond.selects RX1 yX1_conceptsIn yX1_conceptsIn, Cond.code yX1_conceptsIn cX1_conceptsIn 5 (some .int), Cond.methodLink RX1 107 yX1_hasApprovedUseOf, Cond.instanceMethod yX1_hasApprovedUseOf, Cond.selects RX1 yX1_hasApprovedUseOf yX1_hasApprovedUseOf, Cond.code yX1_hasApprovedUseOf cX1_hasApprovedUseOf 5 (some .boolean), Cond.methodLink RX1 110 yX1_approvedIn, Cond.instanceMethod yX1_approvedIn, Cond.selects RX1 yX1_approvedIn yX1_approvedIn, Cond.code yX1_approvedIn cX1_approvedIn 4 (some .int), Cond.methodLink RX1 113 yX0_overdueOn, Cond.instanceMethod yX0_overdueOn, Cond.selects RX0 yX0_overdueOn yX0_overdueOn, Cond.code yX0_overdueOn cX0_overdueOn 4 (some .int), Cond.methodLink RX1 116 yX1_reopenedByOverdue, Cond.instanceMethod yX1_reopenedByOverdue, Cond.selects RX1 yX1_reopenedByOverdue yX1_reopenedByOverdue, Cond.code yX1_reopenedByOverdue cX1_reopenedByOverdue 4 (some .int), Cond.methodLink RX1 119 yX1_reopen, Cond.instanceMethod yX1_reopen, Cond.selects RX1 yX1_reopen yX1_reopen, Cond.code yX1_reopen cX1_reopen 4 none, Cond.methodLink RX1 122 yX1_consistency, Cond.instanceMethod yX1_consistency, Cond.selects RX1 yX1_consistency yX1_consistency, Cond.code yX1_consistency cX1_consistency 3 (some .int), Cond.methodLink RX2 3 objectInit, Cond.classLink RX2 9 RX0, Cond.instantiable RX0 12, Cond.fieldLink RX2 12 "GlossaryCrown" "terms" "LGlossaryCrown$Terms;", Cond.classLink RX2 16 RX1, Cond.instantiable RX1 6, Cond.fieldLink RX2 21 "GlossaryCrown" "texts" "LGlossaryCrown$Texts;", Cond.fieldLink RX2 25 "GlossaryCrown" "day" "I", Cond.instanceMethod yX0_init, Cond.code yX0_init cX0_init 1 none, Cond.methodLink RX2 18 yX1_init, Cond.instanceMethod yX1_init, Cond.code yX1_init cX1_init 2 none, Cond.classLink RX2 46 "java/lang/IllegalArgumentException", Cond.initialized "java/lang/IllegalArgumentException", Cond.classLink RX2 60 "java/lang/IllegalStateException", Cond.initialized "java/lang/IllegalStateException", Cond.fieldLink RX2 255 "GlossaryCrown$Terms" "conceptCount" "I", Cond.methodLink RX2 29 yX2_requireDomain, Cond.instanceMethod yX2_requireDomain, Cond.selects RX2 yX2_requireDomain yX2_requireDomain, Cond.code yX2_requireDomain cX2_requireDomain 2 none, Cond.methodLink RX2 33 yX2_requireRoomForConcept, Cond.instanceMethod yX2_requireRoomForConcept, Cond.selects RX2 yX2_requireRoomForConcept yX2_requireRoomForConcept, Cond.code yX2_requireRoomForConcept cX2_requireRoomForConcept 1 none, Cond.methodLink RX2 36 yX0_addConcept, Cond.instanceMethod yX0_addConcept]
def gw_3 : List Cond := [Cond.selects RX0 yX0_addConcept yX0_addConcept, Cond.code yX0_addConcept cX0_addConcept 3 (some .int), Cond.classLink RX2 72 "java/lang/IndexOutOfBoundsException", Cond.initialized "java/lang/IndexOutOfBoundsException", Cond.methodLink RX2 334 yX0_isConcept, Cond.fieldLink RX2 53 "GlossaryCrown$Terms" "termCount" "I", Cond.methodLink RX2 40 yX2_requireConcept, Cond.instanceMethod yX2_requireConcept, Cond.selects RX2 yX2_requireConcept yX2_requireConcept, Cond.code yX2_requireConcept cX2_requireConcept 2 none, Cond.methodLink RX2 43 yX2_requireLanguage, Cond.instanceMethod yX2_requireLanguage, Cond.selects RX2 yX2_requireLanguage yX2_requireLanguage, Cond.code yX2_requireLanguage cX2_requireLanguage 2 none, Cond.methodLink RX2 56 yX0_hasTerm, Cond.methodLink RX2 65 yX0_addTerm, Cond.instanceMethod yX0_addTerm, Cond.selects RX0 yX0_addTerm yX0_addTerm, Cond.code yX0_addTerm cX0_addTerm 5 (some .int), Cond.methodLink RX2 343 yX0_isTerm, Cond.methodLink RX2 318 yX1_textCount, Cond.methodLink RX2 327 yX1_read, Cond.methodLink RX2 111 yX1_reopenDue, Cond.instanceMethod yX1_reopenDue, Cond.selects RX1 yX1_reopenDue yX1_reopenDue, Cond.code yX1_reopenDue cX1_reopenDue 5 (some .int), Cond.fieldLink RX2 77 "GlossaryCrown$Terms" "states" "[I", Cond.methodLink RX2 69 yX2_requireTerm, Cond.instanceMethod yX2_requireTerm, Cond.selects RX2 yX2_requireTerm yX2_requireTerm, Cond.code yX2_requireTerm cX2_requireTerm 2 none, Cond.methodLink RX2 81 yX0_hasVoted, Cond.instanceMethod yX0_hasVoted, Cond.selects RX0 yX0_hasVoted yX0_hasVoted, Cond.code yX0_hasVoted cX0_hasVoted 3 (some .boolean), Cond.methodLink RX2 87 yX0_addVote, Cond.instanceMethod yX0_addVote, Cond.selects RX0 yX0_addVote yX0_addVote, Cond.code yX0_addVote cX0_addVote 5 (some .int), Cond.methodLink RX2 91 yX2_readAnew, Cond.instanceMethod yX2_readAnew, Cond.selects RX2 yX2_readAnew yX2_readAnew, Cond.code yX2_readAnew cX2_readAnew 2 none, Cond.methodLink RX2 96 yX0_raise, Cond.instanceMethod yX0_raise, Cond.selects RX0 yX0_raise yX0_raise, Cond.code yX0_raise cX0_raise 3 (some .int), Cond.methodLink RX2 101 yX0_canBeBanned, Cond.instanceMethod yX0_canBeBanned, Cond.selects RX0 yX0_canBeBanned yX0_canBeBanned, Cond.code yX0_canBeBanned cX0_canBeBanned 2 (some .boolean), Cond.methodLink RX2 107 yX0_forbid, Cond.instanceMethod yX0_forbid, Cond.selects RX0 yX0_forbid yX0_forbid, Cond.code yX0_forbid cX0_forbid 4 none, Cond.methodLink RX2 116 yX0_permit, Cond.instanceMethod yX0_permit, Cond.selects RX0 yX0_permit yX0_permit, Cond.code yX0_permit cX0_permit 3 (some .int), Cond.fieldLink RX2 124 "GlossaryCrown$Terms" "concepts" "[I"]
def gw_4 : List Cond := [Cond.fieldLink RX2 127 "GlossaryCrown$Terms" "languages" "[I", Cond.fieldLink RX2 130 "GlossaryCrown$Terms" "stems" "[I", Cond.fieldLink RX2 133 "GlossaryCrown$Terms" "votersFor" "[I", Cond.fieldLink RX2 141 "GlossaryCrown$Terms" "votersAgainst" "[I", Cond.fieldLink RX2 144 "GlossaryCrown$Terms" "bannedFrom" "[I", Cond.methodLink RX2 120 yX2_requireWhat, Cond.instanceMethod yX2_requireWhat, Cond.selects RX2 yX2_requireWhat yX2_requireWhat, Cond.code yX2_requireWhat cX2_requireWhat 3 none, Cond.methodLink RX2 136 yJ6_bitCount_0f7a4, Cond.methodLink RX2 147 yX1_usesAmong, Cond.instanceMethod yX1_usesAmong, Cond.selects RX1 yX1_usesAmong yX1_usesAmong, Cond.code yX1_usesAmong cX1_usesAmong 4 (some .int), Cond.fieldLink RX2 153 "GlossaryCrown$Terms" "domains" "[I", Cond.methodLink RX2 150 yX0_termsOf, Cond.methodLink RX2 156 yX1_documentsWith, Cond.instanceMethod yX1_documentsWith, Cond.selects RX1 yX1_documentsWith yX1_documentsWith, Cond.code yX1_documentsWith cX1_documentsWith 6 (some .int), Cond.methodLink RX2 159 yX0_preferredOf, Cond.methodLink RX2 164 yX0_move, Cond.methodLink RX2 175 Lib.Math.min.name, Cond.methodLink RX2 180 Lib.Math.max.name, Cond.methodLink RX2 167 yX2_requireTwoConcepts, Cond.instanceMethod yX2_requireTwoConcepts, Cond.selects RX2 yX2_requireTwoConcepts yX2_requireTwoConcepts, Cond.code yX2_requireTwoConcepts cX2_requireTwoConcepts 3 none, Cond.methodLink RX2 170 yX0_canBeJoined, Cond.instanceMethod yX0_canBeJoined, Cond.selects RX0 yX0_canBeJoined yX0_canBeJoined, Cond.code yX0_canBeJoined cX0_canBeJoined 4 (some .boolean), Cond.methodLink RX2 183 yX0_unite, Cond.instanceMethod yX0_unite, Cond.selects RX0 yX0_unite yX0_unite, Cond.code yX0_unite cX0_unite 6 none, Cond.fieldLink RX2 186 "GlossaryCrown$Texts" "documentCount" "I", Cond.methodLink RX2 191 yX1_addDocument, Cond.instanceMethod yX1_addDocument, Cond.selects RX1 yX1_addDocument yX1_addDocument, Cond.code yX1_addDocument cX1_addDocument 2 (some .int), Cond.methodLink RX2 244 yX2_requireDocument, Cond.instanceMethod yX2_requireDocument, Cond.selects RX2 yX2_requireDocument yX2_requireDocument, Cond.code yX2_requireDocument cX2_requireDocument 2 none, Cond.fieldLink RX2 206 "GlossaryCrown$Texts" "states" "[I", Cond.methodLink RX2 195 yX2_requireText, Cond.instanceMethod yX2_requireText, Cond.selects RX2 yX2_requireText yX2_requireText, Cond.code yX2_requireText cX2_requireText 3 (some .int), Cond.methodLink RX2 198 yX1_placesToWrite, Cond.instanceMethod yX1_placesToWrite, Cond.selects RX1 yX1_placesToWrite yX1_placesToWrite, Cond.code yX1_placesToWrite cX1_placesToWrite 2 (some .int), Cond.methodLink RX2 201 yX2_requirePlace, Cond.instanceMethod yX2_requirePlace, Cond.selects RX2 yX2_requirePlace yX2_requirePlace, Cond.code yX2_requirePlace cX2_requirePlace 3 none, Cond.methodLink RX2 209 yX1_put, Cond.instanceMethod yX1_put]
def gw_5 : List Cond := [Cond.selects RX1 yX1_put yX1_put, Cond.code yX1_put cX1_put 4 (some .int), Cond.fieldLink RX2 212 "GlossaryCrown$Texts" "lengths" "[I", Cond.methodLink RX2 217 yX1_dropLast, Cond.instanceMethod yX1_dropLast, Cond.selects RX1 yX1_dropLast yX1_dropLast, Cond.code yX1_dropLast cX1_dropLast 2 (some .int), Cond.methodLink RX2 220 yX1_canBeApproved, Cond.instanceMethod yX1_canBeApproved, Cond.selects RX1 yX1_canBeApproved yX1_canBeApproved, Cond.code yX1_canBeApproved cX1_canBeApproved 2 (some .boolean), Cond.methodLink RX2 225 yX1_consistency, Cond.fieldLink RX2 228 "GlossaryCrown$Texts" "uses" "[[I", Cond.methodLink RX2 232 yX1_usesAmongIn, Cond.methodLink RX2 235 yX1_usesInState, Cond.methodLink RX2 238 yX1_firstBanned, Cond.methodLink RX2 241 yX1_ambiguousForms, Cond.instanceMethod yX1_ambiguousForms, Cond.selects RX1 yX1_ambiguousForms yX1_ambiguousForms, Cond.code yX1_ambiguousForms cX1_ambiguousForms 4 (some .int), Cond.methodLink RX2 247 yX1_agreementOf, Cond.instanceMethod yX1_agreementOf, Cond.selects RX1 yX1_agreementOf yX1_agreementOf, Cond.code yX1_agreementOf cX1_agreementOf 7 (some .int), Cond.methodLink RX2 250 yX2_requireDays, Cond.instanceMethod yX2_requireDays, Cond.selects RX2 yX2_requireDays yX2_requireDays, Cond.code yX2_requireDays cX2_requireDays 2 none, Cond.methodLink RX2 258 yX0_conceptsWithTerms, Cond.instanceMethod yX0_conceptsWithTerms, Cond.selects RX0 yX0_conceptsWithTerms yX0_conceptsWithTerms, Cond.code yX0_conceptsWithTerms cX0_conceptsWithTerms 3 (some .int), Cond.methodLink RX2 261 yX0_termsInState, Cond.instanceMethod yX0_termsInState, Cond.selects RX0 yX0_termsInState yX0_termsInState, Cond.code yX0_termsInState cX0_termsInState 4 (some .int), Cond.methodLink RX2 264 yX1_textsInState, Cond.instanceMethod yX1_textsInState, Cond.selects RX1 yX1_textsInState yX1_textsInState, Cond.code yX1_textsInState cX1_textsInState 4 (some .int), Cond.methodLink RX2 267 yX1_textsWithForms, Cond.instanceMethod yX1_textsWithForms, Cond.selects RX1 yX1_textsWithForms yX1_textsWithForms, Cond.code yX1_textsWithForms cX1_textsWithForms 3 (some .int), Cond.methodLink RX2 270 yX1_sumOfConsistencies, Cond.instanceMethod yX1_sumOfConsistencies, Cond.selects RX1 yX1_sumOfConsistencies yX1_sumOfConsistencies, Cond.code yX1_sumOfConsistencies cX1_sumOfConsistencies 3 (some .int), Cond.methodLink RX2 273 yX1_reopenedByOverdue, Cond.methodLink RX2 276 yX0_overdueOn, Cond.methodLink RX2 279 yX1_usesChangedByMoving, Cond.instanceMethod yX1_usesChangedByMoving, Cond.selects RX1 yX1_usesChangedByMoving yX1_usesChangedByMoving, Cond.code yX1_usesChangedByMoving cX1_usesChangedByMoving 6 (some .int), Cond.methodLink RX2 282 yX1_useOf, Cond.constantLong RX2 288 (31), Cond.methodLink RX2 309 yX2_ofTerm, Cond.instanceMethod yX2_ofTerm, Cond.selects RX2 yX2_ofTerm yX2_ofTerm, Cond.code yX2_ofTerm cX2_ofTerm 3 (some .int)]
def gw_6 : List Cond := [Cond.methodLink RX2 312 yX2_reopenedBy, Cond.instanceMethod yX2_reopenedBy, Cond.selects RX2 yX2_reopenedBy yX2_reopenedBy, Cond.code yX2_reopenedBy cX2_reopenedBy 2 (some .int), Cond.methodLink RX2 315 yX2_ofConcept, Cond.instanceMethod yX2_ofConcept, Cond.selects RX2 yX2_ofConcept yX2_ofConcept, Cond.code yX2_ofConcept cX2_ofConcept 4 (some .int), Cond.methodLink RX2 321 yX2_ofText, Cond.instanceMethod yX2_ofText, Cond.selects RX2 yX2_ofText yX2_ofText, Cond.code yX2_ofText cX2_ofText 5 (some .int), Cond.methodLink RX2 324 yX2_use, Cond.instanceMethod yX2_use, Cond.selects RX2 yX2_use yX2_use, Cond.code yX2_use cX2_use 5 (some .int), Cond.constantLong RX2 286 (58116), Cond.methodLink RX2 290 yX2_many, Cond.instanceMethod yX2_many, Cond.selects RX2 yX2_many yX2_many, Cond.code yX2_many cX2_many 2 (some .int), Cond.methodLink RX2 293 yX2_digestTerms, Cond.instanceMethod yX2_digestTerms, Cond.selects RX2 yX2_digestTerms yX2_digestTerms, Cond.code yX2_digestTerms cX2_digestTerms 7 (some .long), Cond.methodLink RX2 297 yX2_digestConcepts, Cond.instanceMethod yX2_digestConcepts, Cond.selects RX2 yX2_digestConcepts yX2_digestConcepts, Cond.code yX2_digestConcepts cX2_digestConcepts 7 (some .long), Cond.methodLink RX2 300 yX2_digestTexts, Cond.instanceMethod yX2_digestTexts, Cond.selects RX2 yX2_digestTexts yX2_digestTexts, Cond.code yX2_digestTexts cX2_digestTexts 9 (some .long), Cond.methodLink RX2 303 yX2_agreement, Cond.instanceMethod yX2_agreement, Cond.selects RX2 yX2_agreement yX2_agreement, Cond.code yX2_agreement cX2_agreement 2 (some .int), Cond.methodLink RX2 306 yX2_reopenedIn, Cond.instanceMethod yX2_reopenedIn, Cond.selects RX2 yX2_reopenedIn yX2_reopenedIn, Cond.code yX2_reopenedIn cX2_reopenedIn 2 (some .int)]
def gwl : List Cond := gw_0 ++ (gw_1 ++ (gw_2 ++ (gw_3 ++ (gw_4 ++ (gw_5 ++ (gw_6))))))
def gw : List Cond := gwl ++ (wsX00 ++ (wsX10 ++ wsX20))
set_option maxRecDepth 100000 in
theorem gw_good : gw.all goodWord = true := by decide +kernel
theorem gm_0 : Cond.methodLink RX0 3 objectInit ∈ gw := List.mem_append_left _ (List.mem_append_left _ (List.mem_of_getElem? (i := 0) rfl))
theorem gm_1 : Cond.instanceMethod objectInit ∈ gw := List.mem_append_left _ (List.mem_append_left _ (List.mem_of_getElem? (i := 1) rfl))
theorem gm_2 : Cond.code objectInit ⟨#[0xb1]⟩ 1 none ∈ gw := List.mem_append_left _ (List.mem_append_left _ (List.mem_of_getElem? (i := 2) rfl))
theorem gm_3 : Cond.fieldLink RX0 9 "GlossaryCrown$Terms" "conceptCount" "I" ∈ gw := List.mem_append_left _ (List.mem_append_left _ (List.mem_of_getElem? (i := 3) rfl))
theorem gm_4 : Cond.fieldLink RX0 15 "GlossaryCrown$Terms" "termCount" "I" ∈ gw := List.mem_append_left _ (List.mem_append_left _ (List.mem_of_getElem? (i := 4) rfl))
theorem gm_5 : Cond.arrayClass .int ∈ gw := List.mem_append_left _ (List.mem_append_left _ (List.mem_of_getElem? (i := 5) rfl))
theorem gm_6 : Cond.fieldLink RX0 18 "GlossaryCrown$Terms" "domains" "[I" ∈ gw := List.mem_append_left _ (List.mem_append_left _ (List.mem_of_getElem? (i := 6) rfl))
theorem gm_7 : Cond.fieldLink RX0 22 "GlossaryCrown$Terms" "concepts" "[I" ∈ gw := List.mem_append_left _ (List.mem_append_left _ (List.mem_of_getElem? (i := 7) rfl))
theorem gm_8 : Cond.fieldLink RX0 25 "GlossaryCrown$Terms" "languages" "[I" ∈ gw := List.mem_append_left _ (List.mem_append_left _ (List.mem_of_getElem? (i := 8) rfl))
theorem gm_9 : Cond.fieldLink RX0 28 "GlossaryCrown$Terms" "stems" "[I" ∈ gw := List.mem_append_left _ (List.mem_append_left _ (List.mem_of_getElem? (i := 9) rfl))
theorem gm_10 : Cond.fieldLink RX0 31 "GlossaryCrown$Terms" "states" "[I" ∈ gw := List.mem_append_left _ (List.mem_append_left _ (List.mem_of_getElem? (i := 10) rfl))
theorem gm_11 : Cond.fieldLink RX0 34 "GlossaryCrown$Terms" "votersFor" "[I" ∈ gw := List.mem_append_left _ (List.mem_append_left _ (List.mem_of_getElem? (i := 11) rfl))
theorem gm_12 : Cond.fieldLink RX0 37 "GlossaryCrown$Terms" "votersAgainst" "[I" ∈ gw := List.mem_append_left _ (List.mem_append_left _ (List.mem_of_getElem? (i := 12) rfl))
theorem gm_13 : Cond.fieldLink RX0 40 "GlossaryCrown$Terms" "bannedFrom" "[I" ∈ gw := List.mem_append_left _ (List.mem_append_left _ (List.mem_of_getElem? (i := 13) rfl))
theorem gm_14 : Cond.fieldLink RX0 43 "GlossaryCrown$Terms" "graces" "[I" ∈ gw := List.mem_append_left _ (List.mem_append_left _ (List.mem_of_getElem? (i := 14) rfl))
theorem gm_15 : Cond.classLink RX0 46 "[[I" ∈ gw := List.mem_append_left _ (List.mem_append_left _ (List.mem_of_getElem? (i := 15) rfl))
theorem gm_16 : Cond.fieldLink RX0 48 "GlossaryCrown$Terms" "known" "[[I" ∈ gw := List.mem_append_left _ (List.mem_append_left _ (List.mem_of_getElem? (i := 16) rfl))
theorem gm_17 : Cond.static yX2_has ∈ gw := List.mem_append_left _ (List.mem_append_left _ (List.mem_of_getElem? (i := 17) rfl))
theorem gm_18 : Cond.initialized RX2 ∈ gw := List.mem_append_left _ (List.mem_append_left _ (List.mem_of_getElem? (i := 18) rfl))
theorem gm_19 : Cond.code yX2_has cX2_has 2 (some .boolean) ∈ gw := List.mem_append_left _ (List.mem_append_left _ (List.mem_of_getElem? (i := 19) rfl))
theorem gm_20 : Cond.constant RJ6 265 (1431655765) ∈ gw := List.mem_append_left _ (List.mem_append_left _ (List.mem_of_getElem? (i := 20) rfl))
theorem gm_21 : Cond.constant RJ6 266 (858993459) ∈ gw := List.mem_append_left _ (List.mem_append_left _ (List.mem_of_getElem? (i := 21) rfl))
theorem gm_22 : Cond.constant RJ6 267 (252645135) ∈ gw := List.mem_append_left _ (List.mem_append_left _ (List.mem_of_getElem? (i := 22) rfl))
theorem gm_23 : Cond.methodLink RX0 65 yX0_isStem ∈ gw := List.mem_append_left _ (List.mem_append_left _ (List.mem_of_getElem? (i := 23) rfl))
theorem gm_24 : Cond.static yX0_isStem ∈ gw := List.mem_append_left _ (List.mem_append_left _ (List.mem_of_getElem? (i := 24) rfl))
theorem gm_25 : Cond.initialized RX0 ∈ gw := List.mem_append_left _ (List.mem_append_left _ (List.mem_of_getElem? (i := 25) rfl))
theorem gm_26 : Cond.code yX0_isStem cX0_isStem 2 (some .boolean) ∈ gw := List.mem_append_left _ (List.mem_append_left _ (List.mem_of_getElem? (i := 26) rfl))
theorem gm_27 : Cond.methodLink RX0 55 yJ6_bitCount_0f7a4 ∈ gw := List.mem_append_left _ (List.mem_append_left _ (List.mem_of_getElem? (i := 27) rfl))
theorem gm_28 : Cond.static yJ6_bitCount_0f7a4 ∈ gw := List.mem_append_left _ (List.mem_append_left _ (List.mem_of_getElem? (i := 28) rfl))
theorem gm_29 : Cond.initialized RJ6 ∈ gw := List.mem_append_left _ (List.mem_append_left _ (List.mem_of_getElem? (i := 29) rfl))
theorem gm_30 : Cond.code yJ6_bitCount_0f7a4 cJ6_bitCount_0f7a4 1 (some .int) ∈ gw := List.mem_append_left _ (List.mem_append_left _ (List.mem_of_getElem? (i := 30) rfl))
theorem gm_31 : Cond.methodLink RX0 61 yX0_makeKnown ∈ gw := List.mem_append_left _ (List.mem_append_left _ (List.mem_of_getElem? (i := 31) rfl))
theorem gm_32 : Cond.instanceMethod yX0_makeKnown ∈ gw := List.mem_append_left _ (List.mem_append_left _ (List.mem_of_getElem? (i := 32) rfl))
theorem gm_33 : Cond.selects RX0 yX0_makeKnown yX0_makeKnown ∈ gw := List.mem_append_left _ (List.mem_append_left _ (List.mem_of_getElem? (i := 33) rfl))
theorem gm_34 : Cond.code yX0_makeKnown cX0_makeKnown 4 none ∈ gw := List.mem_append_left _ (List.mem_append_left _ (List.mem_of_getElem? (i := 34) rfl))
theorem gm_35 : Cond.methodLink RX0 68 yX0_preferredOf ∈ gw := List.mem_append_left _ (List.mem_append_left _ (List.mem_of_getElem? (i := 35) rfl))
theorem gm_36 : Cond.instanceMethod yX0_preferredOf ∈ gw := List.mem_append_left _ (List.mem_append_left _ (List.mem_of_getElem? (i := 36) rfl))
theorem gm_37 : Cond.selects RX0 yX0_preferredOf yX0_preferredOf ∈ gw := List.mem_append_left _ (List.mem_append_left _ (List.mem_of_getElem? (i := 37) rfl))
theorem gm_38 : Cond.code yX0_preferredOf cX0_preferredOf 4 (some .int) ∈ gw := List.mem_append_left _ (List.mem_append_left _ (List.mem_of_getElem? (i := 38) rfl))
theorem gm_39 : Cond.methodLink RX0 72 yX0_isTerm ∈ gw := List.mem_append_left _ (List.mem_append_left _ (List.mem_of_getElem? (i := 39) rfl))
theorem gm_40 : Cond.instanceMethod yX0_isTerm ∈ gw := List.mem_append_left _ (List.mem_append_left _ (List.mem_of_getElem? (i := 40) rfl))
theorem gm_41 : Cond.selects RX0 yX0_isTerm yX0_isTerm ∈ gw := List.mem_append_left _ (List.mem_append_left _ (List.mem_of_getElem? (i := 41) rfl))
theorem gm_42 : Cond.code yX0_isTerm cX0_isTerm 2 (some .boolean) ∈ gw := List.mem_append_left _ (List.mem_append_left _ (List.mem_of_getElem? (i := 42) rfl))
theorem gm_43 : Cond.methodLink RX0 76 yX0_hasTerm ∈ gw := List.mem_append_left _ (List.mem_append_left _ (List.mem_of_getElem? (i := 43) rfl))
theorem gm_44 : Cond.instanceMethod yX0_hasTerm ∈ gw := List.mem_append_left _ (List.mem_append_left _ (List.mem_of_getElem? (i := 44) rfl))
theorem gm_45 : Cond.selects RX0 yX0_hasTerm yX0_hasTerm ∈ gw := List.mem_append_left _ (List.mem_append_left _ (List.mem_of_getElem? (i := 45) rfl))
theorem gm_46 : Cond.code yX0_hasTerm cX0_hasTerm 5 (some .boolean) ∈ gw := List.mem_append_left _ (List.mem_append_left _ (List.mem_of_getElem? (i := 46) rfl))
theorem gm_47 : Cond.methodLink RX0 80 Lib.Math.max.name ∈ gw := List.mem_append_left _ (List.mem_append_left _ (List.mem_of_getElem? (i := 47) rfl))
theorem gm_48 : Cond.static Lib.Math.max.name ∈ gw := List.mem_append_left _ (List.mem_append_left _ (List.mem_of_getElem? (i := 48) rfl))
theorem gm_49 : Cond.initialized "java/lang/Math" ∈ gw := List.mem_append_left _ (List.mem_append_left _ (List.mem_of_getElem? (i := 49) rfl))
theorem gm_50 : Cond.code Lib.Math.max.name Lib.Math.max.code 2 (some .int) ∈ gw := List.mem_append_left _ (List.mem_append_left _ (List.mem_of_getElem? (i := 50) rfl))
theorem gm_51 : Cond.methodLink RX0 85 yX0_termsOf ∈ gw := List.mem_append_left _ (List.mem_append_left _ (List.mem_of_getElem? (i := 51) rfl))
theorem gm_52 : Cond.instanceMethod yX0_termsOf ∈ gw := List.mem_append_left _ (List.mem_append_left _ (List.mem_of_getElem? (i := 52) rfl))
theorem gm_53 : Cond.selects RX0 yX0_termsOf yX0_termsOf ∈ gw := List.mem_append_left _ (List.mem_append_left _ (List.mem_of_getElem? (i := 53) rfl))
theorem gm_54 : Cond.code yX0_termsOf cX0_termsOf 4 (some .int) ∈ gw := List.mem_append_left _ (List.mem_append_left _ (List.mem_of_getElem? (i := 54) rfl))
theorem gm_55 : Cond.methodLink RX0 88 yX0_move ∈ gw := List.mem_append_left _ (List.mem_append_left _ (List.mem_of_getElem? (i := 55) rfl))
theorem gm_56 : Cond.instanceMethod yX0_move ∈ gw := List.mem_append_left _ (List.mem_append_left _ (List.mem_of_getElem? (i := 56) rfl))
theorem gm_57 : Cond.selects RX0 yX0_move yX0_move ∈ gw := List.mem_append_left _ (List.mem_append_left _ (List.mem_of_getElem? (i := 57) rfl))
theorem gm_58 : Cond.code yX0_move cX0_move 4 none ∈ gw := List.mem_append_left _ (List.mem_append_left _ (List.mem_of_getElem? (i := 58) rfl))
theorem gm_59 : Cond.methodLink RX0 92 yX0_isConcept ∈ gw := List.mem_append_left _ (List.mem_append_left _ (List.mem_of_getElem? (i := 59) rfl))
theorem gm_60 : Cond.instanceMethod yX0_isConcept ∈ gw := List.mem_append_left _ (List.mem_append_right _ (List.mem_append_left _ (List.mem_of_getElem? (i := 0) rfl)))
theorem gm_61 : Cond.selects RX0 yX0_isConcept yX0_isConcept ∈ gw := List.mem_append_left _ (List.mem_append_right _ (List.mem_append_left _ (List.mem_of_getElem? (i := 1) rfl)))
theorem gm_62 : Cond.code yX0_isConcept cX0_isConcept 2 (some .boolean) ∈ gw := List.mem_append_left _ (List.mem_append_right _ (List.mem_append_left _ (List.mem_of_getElem? (i := 2) rfl)))
theorem gm_63 : Cond.methodLink RX1 3 objectInit ∈ gw := List.mem_append_left _ (List.mem_append_right _ (List.mem_append_left _ (List.mem_of_getElem? (i := 3) rfl)))
theorem gm_64 : Cond.fieldLink RX1 9 "GlossaryCrown$Texts" "documentCount" "I" ∈ gw := List.mem_append_left _ (List.mem_append_right _ (List.mem_append_left _ (List.mem_of_getElem? (i := 4) rfl)))
theorem gm_65 : Cond.fieldLink RX1 15 "GlossaryCrown$Texts" "lengths" "[I" ∈ gw := List.mem_append_left _ (List.mem_append_right _ (List.mem_append_left _ (List.mem_of_getElem? (i := 5) rfl)))
theorem gm_66 : Cond.fieldLink RX1 19 "GlossaryCrown$Texts" "states" "[I" ∈ gw := List.mem_append_left _ (List.mem_append_right _ (List.mem_append_left _ (List.mem_of_getElem? (i := 6) rfl)))
theorem gm_67 : Cond.classLink RX1 22 "[[I" ∈ gw := List.mem_append_left _ (List.mem_append_right _ (List.mem_append_left _ (List.mem_of_getElem? (i := 7) rfl)))
theorem gm_68 : Cond.fieldLink RX1 24 "GlossaryCrown$Texts" "forms" "[[I" ∈ gw := List.mem_append_left _ (List.mem_append_right _ (List.mem_append_left _ (List.mem_of_getElem? (i := 8) rfl)))
theorem gm_69 : Cond.fieldLink RX1 27 "GlossaryCrown$Texts" "uses" "[[I" ∈ gw := List.mem_append_left _ (List.mem_append_right _ (List.mem_append_left _ (List.mem_of_getElem? (i := 9) rfl)))
theorem gm_70 : Cond.fieldLink RX1 30 "GlossaryCrown$Texts" "terms" "LGlossaryCrown$Terms;" ∈ gw := List.mem_append_left _ (List.mem_append_right _ (List.mem_append_left _ (List.mem_of_getElem? (i := 10) rfl)))
theorem gm_71 : Cond.methodLink RX1 34 Lib.Math.min.name ∈ gw := List.mem_append_left _ (List.mem_append_right _ (List.mem_append_left _ (List.mem_of_getElem? (i := 11) rfl)))
theorem gm_72 : Cond.static Lib.Math.min.name ∈ gw := List.mem_append_left _ (List.mem_append_right _ (List.mem_append_left _ (List.mem_of_getElem? (i := 12) rfl)))
theorem gm_73 : Cond.code Lib.Math.min.name Lib.Math.min.code 2 (some .int) ∈ gw := List.mem_append_left _ (List.mem_append_right _ (List.mem_append_left _ (List.mem_of_getElem? (i := 13) rfl)))
theorem gm_74 : Cond.methodLink RX1 53 yJ6_bitCount_0f7a4 ∈ gw := List.mem_append_left _ (List.mem_append_right _ (List.mem_append_left _ (List.mem_of_getElem? (i := 14) rfl)))
theorem gm_75 : Cond.methodLink RX1 76 Lib.Math.max.name ∈ gw := List.mem_append_left _ (List.mem_append_right _ (List.mem_append_left _ (List.mem_of_getElem? (i := 15) rfl)))
theorem gm_76 : Cond.methodLink RX1 72 yX0_domainIf ∈ gw := List.mem_append_left _ (List.mem_append_right _ (List.mem_append_left _ (List.mem_of_getElem? (i := 16) rfl)))
theorem gm_77 : Cond.instanceMethod yX0_domainIf ∈ gw := List.mem_append_left _ (List.mem_append_right _ (List.mem_append_left _ (List.mem_of_getElem? (i := 17) rfl)))
theorem gm_78 : Cond.selects RX0 yX0_domainIf yX0_domainIf ∈ gw := List.mem_append_left _ (List.mem_append_right _ (List.mem_append_left _ (List.mem_of_getElem? (i := 18) rfl)))
theorem gm_79 : Cond.code yX0_domainIf cX0_domainIf 5 (some .int) ∈ gw := List.mem_append_left _ (List.mem_append_right _ (List.mem_append_left _ (List.mem_of_getElem? (i := 19) rfl)))
theorem gm_80 : Cond.methodLink RX1 48 yX0_canBe ∈ gw := List.mem_append_left _ (List.mem_append_right _ (List.mem_append_left _ (List.mem_of_getElem? (i := 20) rfl)))
theorem gm_81 : Cond.instanceMethod yX0_canBe ∈ gw := List.mem_append_left _ (List.mem_append_right _ (List.mem_append_left _ (List.mem_of_getElem? (i := 21) rfl)))
theorem gm_82 : Cond.selects RX0 yX0_canBe yX0_canBe ∈ gw := List.mem_append_left _ (List.mem_append_right _ (List.mem_append_left _ (List.mem_of_getElem? (i := 22) rfl)))
theorem gm_83 : Cond.code yX0_canBe cX0_canBe 4 (some .int) ∈ gw := List.mem_append_left _ (List.mem_append_right _ (List.mem_append_left _ (List.mem_of_getElem? (i := 23) rfl)))
theorem gm_84 : Cond.methodLink RX1 59 yX1_onlyOneOf ∈ gw := List.mem_append_left _ (List.mem_append_right _ (List.mem_append_left _ (List.mem_of_getElem? (i := 24) rfl)))
theorem gm_85 : Cond.static yX1_onlyOneOf ∈ gw := List.mem_append_left _ (List.mem_append_right _ (List.mem_append_left _ (List.mem_of_getElem? (i := 25) rfl)))
theorem gm_86 : Cond.initialized RX1 ∈ gw := List.mem_append_left _ (List.mem_append_right _ (List.mem_append_left _ (List.mem_of_getElem? (i := 26) rfl)))
theorem gm_87 : Cond.code yX1_onlyOneOf cX1_onlyOneOf 1 (some .int) ∈ gw := List.mem_append_left _ (List.mem_append_right _ (List.mem_append_left _ (List.mem_of_getElem? (i := 27) rfl)))
theorem gm_88 : Cond.methodLink RX1 79 yX0_isTerm ∈ gw := List.mem_append_left _ (List.mem_append_right _ (List.mem_append_left _ (List.mem_of_getElem? (i := 28) rfl)))
theorem gm_89 : Cond.fieldLink RX1 62 "GlossaryCrown$Terms" "termCount" "I" ∈ gw := List.mem_append_left _ (List.mem_append_right _ (List.mem_append_left _ (List.mem_of_getElem? (i := 29) rfl)))
theorem gm_90 : Cond.methodLink RX1 69 yX1_supportFor ∈ gw := List.mem_append_left _ (List.mem_append_right _ (List.mem_append_left _ (List.mem_of_getElem? (i := 30) rfl)))
theorem gm_91 : Cond.instanceMethod yX1_supportFor ∈ gw := List.mem_append_left _ (List.mem_append_right _ (List.mem_append_left _ (List.mem_of_getElem? (i := 31) rfl)))
theorem gm_92 : Cond.selects RX1 yX1_supportFor yX1_supportFor ∈ gw := List.mem_append_left _ (List.mem_append_right _ (List.mem_append_left _ (List.mem_of_getElem? (i := 32) rfl)))
theorem gm_93 : Cond.code yX1_supportFor cX1_supportFor 11 (some .int) ∈ gw := List.mem_append_left _ (List.mem_append_right _ (List.mem_append_left _ (List.mem_of_getElem? (i := 33) rfl)))
theorem gm_94 : Cond.methodLink RX1 44 yX1_useOf ∈ gw := List.mem_append_left _ (List.mem_append_right _ (List.mem_append_left _ (List.mem_of_getElem? (i := 34) rfl)))
theorem gm_95 : Cond.instanceMethod yX1_useOf ∈ gw := List.mem_append_left _ (List.mem_append_right _ (List.mem_append_left _ (List.mem_of_getElem? (i := 35) rfl)))
theorem gm_96 : Cond.selects RX1 yX1_useOf yX1_useOf ∈ gw := List.mem_append_left _ (List.mem_append_right _ (List.mem_append_left _ (List.mem_of_getElem? (i := 36) rfl)))
theorem gm_97 : Cond.code yX1_useOf cX1_useOf 11 (some .int) ∈ gw := List.mem_append_left _ (List.mem_append_right _ (List.mem_append_left _ (List.mem_of_getElem? (i := 37) rfl)))
theorem gm_98 : Cond.methodLink RX1 40 yX1_read ∈ gw := List.mem_append_left _ (List.mem_append_right _ (List.mem_append_left _ (List.mem_of_getElem? (i := 38) rfl)))
theorem gm_99 : Cond.instanceMethod yX1_read ∈ gw := List.mem_append_left _ (List.mem_append_right _ (List.mem_append_left _ (List.mem_of_getElem? (i := 39) rfl)))
theorem gm_100 : Cond.selects RX1 yX1_read yX1_read ∈ gw := List.mem_append_left _ (List.mem_append_right _ (List.mem_append_left _ (List.mem_of_getElem? (i := 40) rfl)))
theorem gm_101 : Cond.code yX1_read cX1_read 3 none ∈ gw := List.mem_append_left _ (List.mem_append_right _ (List.mem_append_left _ (List.mem_of_getElem? (i := 41) rfl)))
theorem gm_102 : Cond.methodLink RX1 83 yX1_textCount ∈ gw := List.mem_append_left _ (List.mem_append_right _ (List.mem_append_left _ (List.mem_of_getElem? (i := 42) rfl)))
theorem gm_103 : Cond.instanceMethod yX1_textCount ∈ gw := List.mem_append_left _ (List.mem_append_right _ (List.mem_append_left _ (List.mem_of_getElem? (i := 43) rfl)))
theorem gm_104 : Cond.selects RX1 yX1_textCount yX1_textCount ∈ gw := List.mem_append_left _ (List.mem_append_right _ (List.mem_append_left _ (List.mem_of_getElem? (i := 44) rfl)))
theorem gm_105 : Cond.code yX1_textCount cX1_textCount 1 (some .int) ∈ gw := List.mem_append_left _ (List.mem_append_right _ (List.mem_append_left _ (List.mem_of_getElem? (i := 45) rfl)))
theorem gm_106 : Cond.fieldLink RX1 87 "GlossaryCrown$Terms" "states" "[I" ∈ gw := List.mem_append_left _ (List.mem_append_right _ (List.mem_append_left _ (List.mem_of_getElem? (i := 46) rfl)))
theorem gm_107 : Cond.methodLink RX1 88 yX1_isUseInState ∈ gw := List.mem_append_left _ (List.mem_append_right _ (List.mem_append_left _ (List.mem_of_getElem? (i := 47) rfl)))
theorem gm_108 : Cond.instanceMethod yX1_isUseInState ∈ gw := List.mem_append_left _ (List.mem_append_right _ (List.mem_append_left _ (List.mem_of_getElem? (i := 48) rfl)))
theorem gm_109 : Cond.selects RX1 yX1_isUseInState yX1_isUseInState ∈ gw := List.mem_append_left _ (List.mem_append_right _ (List.mem_append_left _ (List.mem_of_getElem? (i := 49) rfl)))
theorem gm_110 : Cond.code yX1_isUseInState cX1_isUseInState 5 (some .boolean) ∈ gw := List.mem_append_left _ (List.mem_append_right _ (List.mem_append_left _ (List.mem_of_getElem? (i := 50) rfl)))
theorem gm_111 : Cond.methodLink RX1 92 yX1_usesAmongIn ∈ gw := List.mem_append_left _ (List.mem_append_right _ (List.mem_append_left _ (List.mem_of_getElem? (i := 51) rfl)))
theorem gm_112 : Cond.instanceMethod yX1_usesAmongIn ∈ gw := List.mem_append_left _ (List.mem_append_right _ (List.mem_append_left _ (List.mem_of_getElem? (i := 52) rfl)))
theorem gm_113 : Cond.selects RX1 yX1_usesAmongIn yX1_usesAmongIn ∈ gw := List.mem_append_left _ (List.mem_append_right _ (List.mem_append_left _ (List.mem_of_getElem? (i := 53) rfl)))
theorem gm_114 : Cond.code yX1_usesAmongIn cX1_usesAmongIn 6 (some .int) ∈ gw := List.mem_append_left _ (List.mem_append_right _ (List.mem_append_left _ (List.mem_of_getElem? (i := 54) rfl)))
theorem gm_115 : Cond.methodLink RX1 95 yX1_usesInState ∈ gw := List.mem_append_left _ (List.mem_append_right _ (List.mem_append_left _ (List.mem_of_getElem? (i := 55) rfl)))
theorem gm_116 : Cond.instanceMethod yX1_usesInState ∈ gw := List.mem_append_left _ (List.mem_append_right _ (List.mem_append_left _ (List.mem_of_getElem? (i := 56) rfl)))
theorem gm_117 : Cond.selects RX1 yX1_usesInState yX1_usesInState ∈ gw := List.mem_append_left _ (List.mem_append_right _ (List.mem_append_left _ (List.mem_of_getElem? (i := 57) rfl)))
theorem gm_118 : Cond.code yX1_usesInState cX1_usesInState 5 (some .int) ∈ gw := List.mem_append_left _ (List.mem_append_right _ (List.mem_append_left _ (List.mem_of_getElem? (i := 58) rfl)))
theorem gm_119 : Cond.methodLink RX1 98 yX1_firstBanned ∈ gw := List.mem_append_left _ (List.mem_append_right _ (List.mem_append_left _ (List.mem_of_getElem? (i := 59) rfl)))
theorem gm_120 : Cond.instanceMethod yX1_firstBanned ∈ gw := List.mem_append_left _ (List.mem_append_right _ (List.mem_append_right _ (List.mem_append_left _ (List.mem_of_getElem? (i := 0) rfl))))
theorem gm_121 : Cond.selects RX1 yX1_firstBanned yX1_firstBanned ∈ gw := List.mem_append_left _ (List.mem_append_right _ (List.mem_append_right _ (List.mem_append_left _ (List.mem_of_getElem? (i := 1) rfl))))
theorem gm_122 : Cond.code yX1_firstBanned cX1_firstBanned 3 (some .int) ∈ gw := List.mem_append_left _ (List.mem_append_right _ (List.mem_append_right _ (List.mem_append_left _ (List.mem_of_getElem? (i := 2) rfl))))
theorem gm_123 : Cond.fieldLink RX1 101 "GlossaryCrown$Terms" "concepts" "[I" ∈ gw := List.mem_append_left _ (List.mem_append_right _ (List.mem_append_right _ (List.mem_append_left _ (List.mem_of_getElem? (i := 3) rfl))))
theorem gm_124 : Cond.methodLink RX1 104 yX1_conceptsIn ∈ gw := List.mem_append_left _ (List.mem_append_right _ (List.mem_append_right _ (List.mem_append_left _ (List.mem_of_getElem? (i := 4) rfl))))
theorem gm_125 : Cond.instanceMethod yX1_conceptsIn ∈ gw := List.mem_append_left _ (List.mem_append_right _ (List.mem_append_right _ (List.mem_append_left _ (List.mem_of_getElem? (i := 5) rfl))))
theorem gm_126 : Cond.selects RX1 yX1_conceptsIn yX1_conceptsIn ∈ gw := List.mem_append_left _ (List.mem_append_right _ (List.mem_append_right _ (List.mem_append_left _ (List.mem_of_getElem? (i := 6) rfl))))
theorem gm_127 : Cond.code yX1_conceptsIn cX1_conceptsIn 5 (some .int) ∈ gw := List.mem_append_left _ (List.mem_append_right _ (List.mem_append_right _ (List.mem_append_left _ (List.mem_of_getElem? (i := 7) rfl))))
theorem gm_128 : Cond.methodLink RX1 107 yX1_hasApprovedUseOf ∈ gw := List.mem_append_left _ (List.mem_append_right _ (List.mem_append_right _ (List.mem_append_left _ (List.mem_of_getElem? (i := 8) rfl))))
theorem gm_129 : Cond.instanceMethod yX1_hasApprovedUseOf ∈ gw := List.mem_append_left _ (List.mem_append_right _ (List.mem_append_right _ (List.mem_append_left _ (List.mem_of_getElem? (i := 9) rfl))))
theorem gm_130 : Cond.selects RX1 yX1_hasApprovedUseOf yX1_hasApprovedUseOf ∈ gw := List.mem_append_left _ (List.mem_append_right _ (List.mem_append_right _ (List.mem_append_left _ (List.mem_of_getElem? (i := 10) rfl))))
theorem gm_131 : Cond.code yX1_hasApprovedUseOf cX1_hasApprovedUseOf 5 (some .boolean) ∈ gw := List.mem_append_left _ (List.mem_append_right _ (List.mem_append_right _ (List.mem_append_left _ (List.mem_of_getElem? (i := 11) rfl))))
theorem gm_132 : Cond.methodLink RX1 110 yX1_approvedIn ∈ gw := List.mem_append_left _ (List.mem_append_right _ (List.mem_append_right _ (List.mem_append_left _ (List.mem_of_getElem? (i := 12) rfl))))
theorem gm_133 : Cond.instanceMethod yX1_approvedIn ∈ gw := List.mem_append_left _ (List.mem_append_right _ (List.mem_append_right _ (List.mem_append_left _ (List.mem_of_getElem? (i := 13) rfl))))
theorem gm_134 : Cond.selects RX1 yX1_approvedIn yX1_approvedIn ∈ gw := List.mem_append_left _ (List.mem_append_right _ (List.mem_append_right _ (List.mem_append_left _ (List.mem_of_getElem? (i := 14) rfl))))
theorem gm_135 : Cond.code yX1_approvedIn cX1_approvedIn 4 (some .int) ∈ gw := List.mem_append_left _ (List.mem_append_right _ (List.mem_append_right _ (List.mem_append_left _ (List.mem_of_getElem? (i := 15) rfl))))
theorem gm_136 : Cond.methodLink RX1 113 yX0_overdueOn ∈ gw := List.mem_append_left _ (List.mem_append_right _ (List.mem_append_right _ (List.mem_append_left _ (List.mem_of_getElem? (i := 16) rfl))))
theorem gm_137 : Cond.instanceMethod yX0_overdueOn ∈ gw := List.mem_append_left _ (List.mem_append_right _ (List.mem_append_right _ (List.mem_append_left _ (List.mem_of_getElem? (i := 17) rfl))))
theorem gm_138 : Cond.selects RX0 yX0_overdueOn yX0_overdueOn ∈ gw := List.mem_append_left _ (List.mem_append_right _ (List.mem_append_right _ (List.mem_append_left _ (List.mem_of_getElem? (i := 18) rfl))))
theorem gm_139 : Cond.code yX0_overdueOn cX0_overdueOn 4 (some .int) ∈ gw := List.mem_append_left _ (List.mem_append_right _ (List.mem_append_right _ (List.mem_append_left _ (List.mem_of_getElem? (i := 19) rfl))))
theorem gm_140 : Cond.methodLink RX1 116 yX1_reopenedByOverdue ∈ gw := List.mem_append_left _ (List.mem_append_right _ (List.mem_append_right _ (List.mem_append_left _ (List.mem_of_getElem? (i := 20) rfl))))
theorem gm_141 : Cond.instanceMethod yX1_reopenedByOverdue ∈ gw := List.mem_append_left _ (List.mem_append_right _ (List.mem_append_right _ (List.mem_append_left _ (List.mem_of_getElem? (i := 21) rfl))))
theorem gm_142 : Cond.selects RX1 yX1_reopenedByOverdue yX1_reopenedByOverdue ∈ gw := List.mem_append_left _ (List.mem_append_right _ (List.mem_append_right _ (List.mem_append_left _ (List.mem_of_getElem? (i := 22) rfl))))
theorem gm_143 : Cond.code yX1_reopenedByOverdue cX1_reopenedByOverdue 4 (some .int) ∈ gw := List.mem_append_left _ (List.mem_append_right _ (List.mem_append_right _ (List.mem_append_left _ (List.mem_of_getElem? (i := 23) rfl))))
theorem gm_144 : Cond.methodLink RX1 119 yX1_reopen ∈ gw := List.mem_append_left _ (List.mem_append_right _ (List.mem_append_right _ (List.mem_append_left _ (List.mem_of_getElem? (i := 24) rfl))))
theorem gm_145 : Cond.instanceMethod yX1_reopen ∈ gw := List.mem_append_left _ (List.mem_append_right _ (List.mem_append_right _ (List.mem_append_left _ (List.mem_of_getElem? (i := 25) rfl))))
theorem gm_146 : Cond.selects RX1 yX1_reopen yX1_reopen ∈ gw := List.mem_append_left _ (List.mem_append_right _ (List.mem_append_right _ (List.mem_append_left _ (List.mem_of_getElem? (i := 26) rfl))))
theorem gm_147 : Cond.code yX1_reopen cX1_reopen 4 none ∈ gw := List.mem_append_left _ (List.mem_append_right _ (List.mem_append_right _ (List.mem_append_left _ (List.mem_of_getElem? (i := 27) rfl))))
theorem gm_148 : Cond.methodLink RX1 122 yX1_consistency ∈ gw := List.mem_append_left _ (List.mem_append_right _ (List.mem_append_right _ (List.mem_append_left _ (List.mem_of_getElem? (i := 28) rfl))))
theorem gm_149 : Cond.instanceMethod yX1_consistency ∈ gw := List.mem_append_left _ (List.mem_append_right _ (List.mem_append_right _ (List.mem_append_left _ (List.mem_of_getElem? (i := 29) rfl))))
theorem gm_150 : Cond.selects RX1 yX1_consistency yX1_consistency ∈ gw := List.mem_append_left _ (List.mem_append_right _ (List.mem_append_right _ (List.mem_append_left _ (List.mem_of_getElem? (i := 30) rfl))))
theorem gm_151 : Cond.code yX1_consistency cX1_consistency 3 (some .int) ∈ gw := List.mem_append_left _ (List.mem_append_right _ (List.mem_append_right _ (List.mem_append_left _ (List.mem_of_getElem? (i := 31) rfl))))
theorem gm_152 : Cond.methodLink RX2 3 objectInit ∈ gw := List.mem_append_left _ (List.mem_append_right _ (List.mem_append_right _ (List.mem_append_left _ (List.mem_of_getElem? (i := 32) rfl))))
theorem gm_153 : Cond.classLink RX2 9 RX0 ∈ gw := List.mem_append_left _ (List.mem_append_right _ (List.mem_append_right _ (List.mem_append_left _ (List.mem_of_getElem? (i := 33) rfl))))
theorem gm_154 : Cond.instantiable RX0 12 ∈ gw := List.mem_append_left _ (List.mem_append_right _ (List.mem_append_right _ (List.mem_append_left _ (List.mem_of_getElem? (i := 34) rfl))))
theorem gm_155 : Cond.fieldLink RX2 12 "GlossaryCrown" "terms" "LGlossaryCrown$Terms;" ∈ gw := List.mem_append_left _ (List.mem_append_right _ (List.mem_append_right _ (List.mem_append_left _ (List.mem_of_getElem? (i := 35) rfl))))
theorem gm_156 : Cond.classLink RX2 16 RX1 ∈ gw := List.mem_append_left _ (List.mem_append_right _ (List.mem_append_right _ (List.mem_append_left _ (List.mem_of_getElem? (i := 36) rfl))))
theorem gm_157 : Cond.instantiable RX1 6 ∈ gw := List.mem_append_left _ (List.mem_append_right _ (List.mem_append_right _ (List.mem_append_left _ (List.mem_of_getElem? (i := 37) rfl))))
theorem gm_158 : Cond.fieldLink RX2 21 "GlossaryCrown" "texts" "LGlossaryCrown$Texts;" ∈ gw := List.mem_append_left _ (List.mem_append_right _ (List.mem_append_right _ (List.mem_append_left _ (List.mem_of_getElem? (i := 38) rfl))))
theorem gm_159 : Cond.fieldLink RX2 25 "GlossaryCrown" "day" "I" ∈ gw := List.mem_append_left _ (List.mem_append_right _ (List.mem_append_right _ (List.mem_append_left _ (List.mem_of_getElem? (i := 39) rfl))))
theorem gm_160 : Cond.instanceMethod yX0_init ∈ gw := List.mem_append_left _ (List.mem_append_right _ (List.mem_append_right _ (List.mem_append_left _ (List.mem_of_getElem? (i := 40) rfl))))
theorem gm_161 : Cond.code yX0_init cX0_init 1 none ∈ gw := List.mem_append_left _ (List.mem_append_right _ (List.mem_append_right _ (List.mem_append_left _ (List.mem_of_getElem? (i := 41) rfl))))
theorem gm_162 : Cond.methodLink RX2 18 yX1_init ∈ gw := List.mem_append_left _ (List.mem_append_right _ (List.mem_append_right _ (List.mem_append_left _ (List.mem_of_getElem? (i := 42) rfl))))
theorem gm_163 : Cond.instanceMethod yX1_init ∈ gw := List.mem_append_left _ (List.mem_append_right _ (List.mem_append_right _ (List.mem_append_left _ (List.mem_of_getElem? (i := 43) rfl))))
theorem gm_164 : Cond.code yX1_init cX1_init 2 none ∈ gw := List.mem_append_left _ (List.mem_append_right _ (List.mem_append_right _ (List.mem_append_left _ (List.mem_of_getElem? (i := 44) rfl))))
theorem gm_165 : Cond.classLink RX2 46 "java/lang/IllegalArgumentException" ∈ gw := List.mem_append_left _ (List.mem_append_right _ (List.mem_append_right _ (List.mem_append_left _ (List.mem_of_getElem? (i := 45) rfl))))
theorem gm_166 : Cond.initialized "java/lang/IllegalArgumentException" ∈ gw := List.mem_append_left _ (List.mem_append_right _ (List.mem_append_right _ (List.mem_append_left _ (List.mem_of_getElem? (i := 46) rfl))))
theorem gm_167 : Cond.classLink RX2 60 "java/lang/IllegalStateException" ∈ gw := List.mem_append_left _ (List.mem_append_right _ (List.mem_append_right _ (List.mem_append_left _ (List.mem_of_getElem? (i := 47) rfl))))
theorem gm_168 : Cond.initialized "java/lang/IllegalStateException" ∈ gw := List.mem_append_left _ (List.mem_append_right _ (List.mem_append_right _ (List.mem_append_left _ (List.mem_of_getElem? (i := 48) rfl))))
theorem gm_169 : Cond.fieldLink RX2 255 "GlossaryCrown$Terms" "conceptCount" "I" ∈ gw := List.mem_append_left _ (List.mem_append_right _ (List.mem_append_right _ (List.mem_append_left _ (List.mem_of_getElem? (i := 49) rfl))))
theorem gm_170 : Cond.methodLink RX2 29 yX2_requireDomain ∈ gw := List.mem_append_left _ (List.mem_append_right _ (List.mem_append_right _ (List.mem_append_left _ (List.mem_of_getElem? (i := 50) rfl))))
theorem gm_171 : Cond.instanceMethod yX2_requireDomain ∈ gw := List.mem_append_left _ (List.mem_append_right _ (List.mem_append_right _ (List.mem_append_left _ (List.mem_of_getElem? (i := 51) rfl))))
theorem gm_172 : Cond.selects RX2 yX2_requireDomain yX2_requireDomain ∈ gw := List.mem_append_left _ (List.mem_append_right _ (List.mem_append_right _ (List.mem_append_left _ (List.mem_of_getElem? (i := 52) rfl))))
theorem gm_173 : Cond.code yX2_requireDomain cX2_requireDomain 2 none ∈ gw := List.mem_append_left _ (List.mem_append_right _ (List.mem_append_right _ (List.mem_append_left _ (List.mem_of_getElem? (i := 53) rfl))))
theorem gm_174 : Cond.methodLink RX2 33 yX2_requireRoomForConcept ∈ gw := List.mem_append_left _ (List.mem_append_right _ (List.mem_append_right _ (List.mem_append_left _ (List.mem_of_getElem? (i := 54) rfl))))
theorem gm_175 : Cond.instanceMethod yX2_requireRoomForConcept ∈ gw := List.mem_append_left _ (List.mem_append_right _ (List.mem_append_right _ (List.mem_append_left _ (List.mem_of_getElem? (i := 55) rfl))))
theorem gm_176 : Cond.selects RX2 yX2_requireRoomForConcept yX2_requireRoomForConcept ∈ gw := List.mem_append_left _ (List.mem_append_right _ (List.mem_append_right _ (List.mem_append_left _ (List.mem_of_getElem? (i := 56) rfl))))
theorem gm_177 : Cond.code yX2_requireRoomForConcept cX2_requireRoomForConcept 1 none ∈ gw := List.mem_append_left _ (List.mem_append_right _ (List.mem_append_right _ (List.mem_append_left _ (List.mem_of_getElem? (i := 57) rfl))))
theorem gm_178 : Cond.methodLink RX2 36 yX0_addConcept ∈ gw := List.mem_append_left _ (List.mem_append_right _ (List.mem_append_right _ (List.mem_append_left _ (List.mem_of_getElem? (i := 58) rfl))))
theorem gm_179 : Cond.instanceMethod yX0_addConcept ∈ gw := List.mem_append_left _ (List.mem_append_right _ (List.mem_append_right _ (List.mem_append_left _ (List.mem_of_getElem? (i := 59) rfl))))
theorem gm_180 : Cond.selects RX0 yX0_addConcept yX0_addConcept ∈ gw := List.mem_append_left _ (List.mem_append_right _ (List.mem_append_right _ (List.mem_append_right _ (List.mem_append_left _ (List.mem_of_getElem? (i := 0) rfl)))))
theorem gm_181 : Cond.code yX0_addConcept cX0_addConcept 3 (some .int) ∈ gw := List.mem_append_left _ (List.mem_append_right _ (List.mem_append_right _ (List.mem_append_right _ (List.mem_append_left _ (List.mem_of_getElem? (i := 1) rfl)))))
theorem gm_182 : Cond.classLink RX2 72 "java/lang/IndexOutOfBoundsException" ∈ gw := List.mem_append_left _ (List.mem_append_right _ (List.mem_append_right _ (List.mem_append_right _ (List.mem_append_left _ (List.mem_of_getElem? (i := 2) rfl)))))
theorem gm_183 : Cond.initialized "java/lang/IndexOutOfBoundsException" ∈ gw := List.mem_append_left _ (List.mem_append_right _ (List.mem_append_right _ (List.mem_append_right _ (List.mem_append_left _ (List.mem_of_getElem? (i := 3) rfl)))))
theorem gm_184 : Cond.methodLink RX2 334 yX0_isConcept ∈ gw := List.mem_append_left _ (List.mem_append_right _ (List.mem_append_right _ (List.mem_append_right _ (List.mem_append_left _ (List.mem_of_getElem? (i := 4) rfl)))))
theorem gm_185 : Cond.fieldLink RX2 53 "GlossaryCrown$Terms" "termCount" "I" ∈ gw := List.mem_append_left _ (List.mem_append_right _ (List.mem_append_right _ (List.mem_append_right _ (List.mem_append_left _ (List.mem_of_getElem? (i := 5) rfl)))))
theorem gm_186 : Cond.methodLink RX2 40 yX2_requireConcept ∈ gw := List.mem_append_left _ (List.mem_append_right _ (List.mem_append_right _ (List.mem_append_right _ (List.mem_append_left _ (List.mem_of_getElem? (i := 6) rfl)))))
theorem gm_187 : Cond.instanceMethod yX2_requireConcept ∈ gw := List.mem_append_left _ (List.mem_append_right _ (List.mem_append_right _ (List.mem_append_right _ (List.mem_append_left _ (List.mem_of_getElem? (i := 7) rfl)))))
theorem gm_188 : Cond.selects RX2 yX2_requireConcept yX2_requireConcept ∈ gw := List.mem_append_left _ (List.mem_append_right _ (List.mem_append_right _ (List.mem_append_right _ (List.mem_append_left _ (List.mem_of_getElem? (i := 8) rfl)))))
theorem gm_189 : Cond.code yX2_requireConcept cX2_requireConcept 2 none ∈ gw := List.mem_append_left _ (List.mem_append_right _ (List.mem_append_right _ (List.mem_append_right _ (List.mem_append_left _ (List.mem_of_getElem? (i := 9) rfl)))))
theorem gm_190 : Cond.methodLink RX2 43 yX2_requireLanguage ∈ gw := List.mem_append_left _ (List.mem_append_right _ (List.mem_append_right _ (List.mem_append_right _ (List.mem_append_left _ (List.mem_of_getElem? (i := 10) rfl)))))
theorem gm_191 : Cond.instanceMethod yX2_requireLanguage ∈ gw := List.mem_append_left _ (List.mem_append_right _ (List.mem_append_right _ (List.mem_append_right _ (List.mem_append_left _ (List.mem_of_getElem? (i := 11) rfl)))))
theorem gm_192 : Cond.selects RX2 yX2_requireLanguage yX2_requireLanguage ∈ gw := List.mem_append_left _ (List.mem_append_right _ (List.mem_append_right _ (List.mem_append_right _ (List.mem_append_left _ (List.mem_of_getElem? (i := 12) rfl)))))
theorem gm_193 : Cond.code yX2_requireLanguage cX2_requireLanguage 2 none ∈ gw := List.mem_append_left _ (List.mem_append_right _ (List.mem_append_right _ (List.mem_append_right _ (List.mem_append_left _ (List.mem_of_getElem? (i := 13) rfl)))))
theorem gm_194 : Cond.methodLink RX2 56 yX0_hasTerm ∈ gw := List.mem_append_left _ (List.mem_append_right _ (List.mem_append_right _ (List.mem_append_right _ (List.mem_append_left _ (List.mem_of_getElem? (i := 14) rfl)))))
theorem gm_195 : Cond.methodLink RX2 65 yX0_addTerm ∈ gw := List.mem_append_left _ (List.mem_append_right _ (List.mem_append_right _ (List.mem_append_right _ (List.mem_append_left _ (List.mem_of_getElem? (i := 15) rfl)))))
theorem gm_196 : Cond.instanceMethod yX0_addTerm ∈ gw := List.mem_append_left _ (List.mem_append_right _ (List.mem_append_right _ (List.mem_append_right _ (List.mem_append_left _ (List.mem_of_getElem? (i := 16) rfl)))))
theorem gm_197 : Cond.selects RX0 yX0_addTerm yX0_addTerm ∈ gw := List.mem_append_left _ (List.mem_append_right _ (List.mem_append_right _ (List.mem_append_right _ (List.mem_append_left _ (List.mem_of_getElem? (i := 17) rfl)))))
theorem gm_198 : Cond.code yX0_addTerm cX0_addTerm 5 (some .int) ∈ gw := List.mem_append_left _ (List.mem_append_right _ (List.mem_append_right _ (List.mem_append_right _ (List.mem_append_left _ (List.mem_of_getElem? (i := 18) rfl)))))
theorem gm_199 : Cond.methodLink RX2 343 yX0_isTerm ∈ gw := List.mem_append_left _ (List.mem_append_right _ (List.mem_append_right _ (List.mem_append_right _ (List.mem_append_left _ (List.mem_of_getElem? (i := 19) rfl)))))
theorem gm_200 : Cond.methodLink RX2 318 yX1_textCount ∈ gw := List.mem_append_left _ (List.mem_append_right _ (List.mem_append_right _ (List.mem_append_right _ (List.mem_append_left _ (List.mem_of_getElem? (i := 20) rfl)))))
theorem gm_201 : Cond.methodLink RX2 327 yX1_read ∈ gw := List.mem_append_left _ (List.mem_append_right _ (List.mem_append_right _ (List.mem_append_right _ (List.mem_append_left _ (List.mem_of_getElem? (i := 21) rfl)))))
theorem gm_202 : Cond.methodLink RX2 111 yX1_reopenDue ∈ gw := List.mem_append_left _ (List.mem_append_right _ (List.mem_append_right _ (List.mem_append_right _ (List.mem_append_left _ (List.mem_of_getElem? (i := 22) rfl)))))
theorem gm_203 : Cond.instanceMethod yX1_reopenDue ∈ gw := List.mem_append_left _ (List.mem_append_right _ (List.mem_append_right _ (List.mem_append_right _ (List.mem_append_left _ (List.mem_of_getElem? (i := 23) rfl)))))
theorem gm_204 : Cond.selects RX1 yX1_reopenDue yX1_reopenDue ∈ gw := List.mem_append_left _ (List.mem_append_right _ (List.mem_append_right _ (List.mem_append_right _ (List.mem_append_left _ (List.mem_of_getElem? (i := 24) rfl)))))
theorem gm_205 : Cond.code yX1_reopenDue cX1_reopenDue 5 (some .int) ∈ gw := List.mem_append_left _ (List.mem_append_right _ (List.mem_append_right _ (List.mem_append_right _ (List.mem_append_left _ (List.mem_of_getElem? (i := 25) rfl)))))
theorem gm_206 : Cond.fieldLink RX2 77 "GlossaryCrown$Terms" "states" "[I" ∈ gw := List.mem_append_left _ (List.mem_append_right _ (List.mem_append_right _ (List.mem_append_right _ (List.mem_append_left _ (List.mem_of_getElem? (i := 26) rfl)))))
theorem gm_207 : Cond.methodLink RX2 69 yX2_requireTerm ∈ gw := List.mem_append_left _ (List.mem_append_right _ (List.mem_append_right _ (List.mem_append_right _ (List.mem_append_left _ (List.mem_of_getElem? (i := 27) rfl)))))
theorem gm_208 : Cond.instanceMethod yX2_requireTerm ∈ gw := List.mem_append_left _ (List.mem_append_right _ (List.mem_append_right _ (List.mem_append_right _ (List.mem_append_left _ (List.mem_of_getElem? (i := 28) rfl)))))
theorem gm_209 : Cond.selects RX2 yX2_requireTerm yX2_requireTerm ∈ gw := List.mem_append_left _ (List.mem_append_right _ (List.mem_append_right _ (List.mem_append_right _ (List.mem_append_left _ (List.mem_of_getElem? (i := 29) rfl)))))
theorem gm_210 : Cond.code yX2_requireTerm cX2_requireTerm 2 none ∈ gw := List.mem_append_left _ (List.mem_append_right _ (List.mem_append_right _ (List.mem_append_right _ (List.mem_append_left _ (List.mem_of_getElem? (i := 30) rfl)))))
theorem gm_211 : Cond.methodLink RX2 81 yX0_hasVoted ∈ gw := List.mem_append_left _ (List.mem_append_right _ (List.mem_append_right _ (List.mem_append_right _ (List.mem_append_left _ (List.mem_of_getElem? (i := 31) rfl)))))
theorem gm_212 : Cond.instanceMethod yX0_hasVoted ∈ gw := List.mem_append_left _ (List.mem_append_right _ (List.mem_append_right _ (List.mem_append_right _ (List.mem_append_left _ (List.mem_of_getElem? (i := 32) rfl)))))
theorem gm_213 : Cond.selects RX0 yX0_hasVoted yX0_hasVoted ∈ gw := List.mem_append_left _ (List.mem_append_right _ (List.mem_append_right _ (List.mem_append_right _ (List.mem_append_left _ (List.mem_of_getElem? (i := 33) rfl)))))
theorem gm_214 : Cond.code yX0_hasVoted cX0_hasVoted 3 (some .boolean) ∈ gw := List.mem_append_left _ (List.mem_append_right _ (List.mem_append_right _ (List.mem_append_right _ (List.mem_append_left _ (List.mem_of_getElem? (i := 34) rfl)))))
theorem gm_215 : Cond.methodLink RX2 87 yX0_addVote ∈ gw := List.mem_append_left _ (List.mem_append_right _ (List.mem_append_right _ (List.mem_append_right _ (List.mem_append_left _ (List.mem_of_getElem? (i := 35) rfl)))))
theorem gm_216 : Cond.instanceMethod yX0_addVote ∈ gw := List.mem_append_left _ (List.mem_append_right _ (List.mem_append_right _ (List.mem_append_right _ (List.mem_append_left _ (List.mem_of_getElem? (i := 36) rfl)))))
theorem gm_217 : Cond.selects RX0 yX0_addVote yX0_addVote ∈ gw := List.mem_append_left _ (List.mem_append_right _ (List.mem_append_right _ (List.mem_append_right _ (List.mem_append_left _ (List.mem_of_getElem? (i := 37) rfl)))))
theorem gm_218 : Cond.code yX0_addVote cX0_addVote 5 (some .int) ∈ gw := List.mem_append_left _ (List.mem_append_right _ (List.mem_append_right _ (List.mem_append_right _ (List.mem_append_left _ (List.mem_of_getElem? (i := 38) rfl)))))
theorem gm_219 : Cond.methodLink RX2 91 yX2_readAnew ∈ gw := List.mem_append_left _ (List.mem_append_right _ (List.mem_append_right _ (List.mem_append_right _ (List.mem_append_left _ (List.mem_of_getElem? (i := 39) rfl)))))
theorem gm_220 : Cond.instanceMethod yX2_readAnew ∈ gw := List.mem_append_left _ (List.mem_append_right _ (List.mem_append_right _ (List.mem_append_right _ (List.mem_append_left _ (List.mem_of_getElem? (i := 40) rfl)))))
theorem gm_221 : Cond.selects RX2 yX2_readAnew yX2_readAnew ∈ gw := List.mem_append_left _ (List.mem_append_right _ (List.mem_append_right _ (List.mem_append_right _ (List.mem_append_left _ (List.mem_of_getElem? (i := 41) rfl)))))
theorem gm_222 : Cond.code yX2_readAnew cX2_readAnew 2 none ∈ gw := List.mem_append_left _ (List.mem_append_right _ (List.mem_append_right _ (List.mem_append_right _ (List.mem_append_left _ (List.mem_of_getElem? (i := 42) rfl)))))
theorem gm_223 : Cond.methodLink RX2 96 yX0_raise ∈ gw := List.mem_append_left _ (List.mem_append_right _ (List.mem_append_right _ (List.mem_append_right _ (List.mem_append_left _ (List.mem_of_getElem? (i := 43) rfl)))))
theorem gm_224 : Cond.instanceMethod yX0_raise ∈ gw := List.mem_append_left _ (List.mem_append_right _ (List.mem_append_right _ (List.mem_append_right _ (List.mem_append_left _ (List.mem_of_getElem? (i := 44) rfl)))))
theorem gm_225 : Cond.selects RX0 yX0_raise yX0_raise ∈ gw := List.mem_append_left _ (List.mem_append_right _ (List.mem_append_right _ (List.mem_append_right _ (List.mem_append_left _ (List.mem_of_getElem? (i := 45) rfl)))))
theorem gm_226 : Cond.code yX0_raise cX0_raise 3 (some .int) ∈ gw := List.mem_append_left _ (List.mem_append_right _ (List.mem_append_right _ (List.mem_append_right _ (List.mem_append_left _ (List.mem_of_getElem? (i := 46) rfl)))))
theorem gm_227 : Cond.methodLink RX2 101 yX0_canBeBanned ∈ gw := List.mem_append_left _ (List.mem_append_right _ (List.mem_append_right _ (List.mem_append_right _ (List.mem_append_left _ (List.mem_of_getElem? (i := 47) rfl)))))
theorem gm_228 : Cond.instanceMethod yX0_canBeBanned ∈ gw := List.mem_append_left _ (List.mem_append_right _ (List.mem_append_right _ (List.mem_append_right _ (List.mem_append_left _ (List.mem_of_getElem? (i := 48) rfl)))))
theorem gm_229 : Cond.selects RX0 yX0_canBeBanned yX0_canBeBanned ∈ gw := List.mem_append_left _ (List.mem_append_right _ (List.mem_append_right _ (List.mem_append_right _ (List.mem_append_left _ (List.mem_of_getElem? (i := 49) rfl)))))
theorem gm_230 : Cond.code yX0_canBeBanned cX0_canBeBanned 2 (some .boolean) ∈ gw := List.mem_append_left _ (List.mem_append_right _ (List.mem_append_right _ (List.mem_append_right _ (List.mem_append_left _ (List.mem_of_getElem? (i := 50) rfl)))))
theorem gm_231 : Cond.methodLink RX2 107 yX0_forbid ∈ gw := List.mem_append_left _ (List.mem_append_right _ (List.mem_append_right _ (List.mem_append_right _ (List.mem_append_left _ (List.mem_of_getElem? (i := 51) rfl)))))
theorem gm_232 : Cond.instanceMethod yX0_forbid ∈ gw := List.mem_append_left _ (List.mem_append_right _ (List.mem_append_right _ (List.mem_append_right _ (List.mem_append_left _ (List.mem_of_getElem? (i := 52) rfl)))))
theorem gm_233 : Cond.selects RX0 yX0_forbid yX0_forbid ∈ gw := List.mem_append_left _ (List.mem_append_right _ (List.mem_append_right _ (List.mem_append_right _ (List.mem_append_left _ (List.mem_of_getElem? (i := 53) rfl)))))
theorem gm_234 : Cond.code yX0_forbid cX0_forbid 4 none ∈ gw := List.mem_append_left _ (List.mem_append_right _ (List.mem_append_right _ (List.mem_append_right _ (List.mem_append_left _ (List.mem_of_getElem? (i := 54) rfl)))))
theorem gm_235 : Cond.methodLink RX2 116 yX0_permit ∈ gw := List.mem_append_left _ (List.mem_append_right _ (List.mem_append_right _ (List.mem_append_right _ (List.mem_append_left _ (List.mem_of_getElem? (i := 55) rfl)))))
theorem gm_236 : Cond.instanceMethod yX0_permit ∈ gw := List.mem_append_left _ (List.mem_append_right _ (List.mem_append_right _ (List.mem_append_right _ (List.mem_append_left _ (List.mem_of_getElem? (i := 56) rfl)))))
theorem gm_237 : Cond.selects RX0 yX0_permit yX0_permit ∈ gw := List.mem_append_left _ (List.mem_append_right _ (List.mem_append_right _ (List.mem_append_right _ (List.mem_append_left _ (List.mem_of_getElem? (i := 57) rfl)))))
theorem gm_238 : Cond.code yX0_permit cX0_permit 3 (some .int) ∈ gw := List.mem_append_left _ (List.mem_append_right _ (List.mem_append_right _ (List.mem_append_right _ (List.mem_append_left _ (List.mem_of_getElem? (i := 58) rfl)))))
theorem gm_239 : Cond.fieldLink RX2 124 "GlossaryCrown$Terms" "concepts" "[I" ∈ gw := List.mem_append_left _ (List.mem_append_right _ (List.mem_append_right _ (List.mem_append_right _ (List.mem_append_left _ (List.mem_of_getElem? (i := 59) rfl)))))
theorem gm_240 : Cond.fieldLink RX2 127 "GlossaryCrown$Terms" "languages" "[I" ∈ gw := List.mem_append_left _ (List.mem_append_right _ (List.mem_append_right _ (List.mem_append_right _ (List.mem_append_right _ (List.mem_append_left _ (List.mem_of_getElem? (i := 0) rfl))))))
theorem gm_241 : Cond.fieldLink RX2 130 "GlossaryCrown$Terms" "stems" "[I" ∈ gw := List.mem_append_left _ (List.mem_append_right _ (List.mem_append_right _ (List.mem_append_right _ (List.mem_append_right _ (List.mem_append_left _ (List.mem_of_getElem? (i := 1) rfl))))))
theorem gm_242 : Cond.fieldLink RX2 133 "GlossaryCrown$Terms" "votersFor" "[I" ∈ gw := List.mem_append_left _ (List.mem_append_right _ (List.mem_append_right _ (List.mem_append_right _ (List.mem_append_right _ (List.mem_append_left _ (List.mem_of_getElem? (i := 2) rfl))))))
theorem gm_243 : Cond.fieldLink RX2 141 "GlossaryCrown$Terms" "votersAgainst" "[I" ∈ gw := List.mem_append_left _ (List.mem_append_right _ (List.mem_append_right _ (List.mem_append_right _ (List.mem_append_right _ (List.mem_append_left _ (List.mem_of_getElem? (i := 3) rfl))))))
theorem gm_244 : Cond.fieldLink RX2 144 "GlossaryCrown$Terms" "bannedFrom" "[I" ∈ gw := List.mem_append_left _ (List.mem_append_right _ (List.mem_append_right _ (List.mem_append_right _ (List.mem_append_right _ (List.mem_append_left _ (List.mem_of_getElem? (i := 4) rfl))))))
theorem gm_245 : Cond.methodLink RX2 120 yX2_requireWhat ∈ gw := List.mem_append_left _ (List.mem_append_right _ (List.mem_append_right _ (List.mem_append_right _ (List.mem_append_right _ (List.mem_append_left _ (List.mem_of_getElem? (i := 5) rfl))))))
theorem gm_246 : Cond.instanceMethod yX2_requireWhat ∈ gw := List.mem_append_left _ (List.mem_append_right _ (List.mem_append_right _ (List.mem_append_right _ (List.mem_append_right _ (List.mem_append_left _ (List.mem_of_getElem? (i := 6) rfl))))))
theorem gm_247 : Cond.selects RX2 yX2_requireWhat yX2_requireWhat ∈ gw := List.mem_append_left _ (List.mem_append_right _ (List.mem_append_right _ (List.mem_append_right _ (List.mem_append_right _ (List.mem_append_left _ (List.mem_of_getElem? (i := 7) rfl))))))
theorem gm_248 : Cond.code yX2_requireWhat cX2_requireWhat 3 none ∈ gw := List.mem_append_left _ (List.mem_append_right _ (List.mem_append_right _ (List.mem_append_right _ (List.mem_append_right _ (List.mem_append_left _ (List.mem_of_getElem? (i := 8) rfl))))))
theorem gm_249 : Cond.methodLink RX2 136 yJ6_bitCount_0f7a4 ∈ gw := List.mem_append_left _ (List.mem_append_right _ (List.mem_append_right _ (List.mem_append_right _ (List.mem_append_right _ (List.mem_append_left _ (List.mem_of_getElem? (i := 9) rfl))))))
theorem gm_250 : Cond.methodLink RX2 147 yX1_usesAmong ∈ gw := List.mem_append_left _ (List.mem_append_right _ (List.mem_append_right _ (List.mem_append_right _ (List.mem_append_right _ (List.mem_append_left _ (List.mem_of_getElem? (i := 10) rfl))))))
theorem gm_251 : Cond.instanceMethod yX1_usesAmong ∈ gw := List.mem_append_left _ (List.mem_append_right _ (List.mem_append_right _ (List.mem_append_right _ (List.mem_append_right _ (List.mem_append_left _ (List.mem_of_getElem? (i := 11) rfl))))))
theorem gm_252 : Cond.selects RX1 yX1_usesAmong yX1_usesAmong ∈ gw := List.mem_append_left _ (List.mem_append_right _ (List.mem_append_right _ (List.mem_append_right _ (List.mem_append_right _ (List.mem_append_left _ (List.mem_of_getElem? (i := 12) rfl))))))
theorem gm_253 : Cond.code yX1_usesAmong cX1_usesAmong 4 (some .int) ∈ gw := List.mem_append_left _ (List.mem_append_right _ (List.mem_append_right _ (List.mem_append_right _ (List.mem_append_right _ (List.mem_append_left _ (List.mem_of_getElem? (i := 13) rfl))))))
theorem gm_254 : Cond.fieldLink RX2 153 "GlossaryCrown$Terms" "domains" "[I" ∈ gw := List.mem_append_left _ (List.mem_append_right _ (List.mem_append_right _ (List.mem_append_right _ (List.mem_append_right _ (List.mem_append_left _ (List.mem_of_getElem? (i := 14) rfl))))))
theorem gm_255 : Cond.methodLink RX2 150 yX0_termsOf ∈ gw := List.mem_append_left _ (List.mem_append_right _ (List.mem_append_right _ (List.mem_append_right _ (List.mem_append_right _ (List.mem_append_left _ (List.mem_of_getElem? (i := 15) rfl))))))
theorem gm_256 : Cond.methodLink RX2 156 yX1_documentsWith ∈ gw := List.mem_append_left _ (List.mem_append_right _ (List.mem_append_right _ (List.mem_append_right _ (List.mem_append_right _ (List.mem_append_left _ (List.mem_of_getElem? (i := 16) rfl))))))
theorem gm_257 : Cond.instanceMethod yX1_documentsWith ∈ gw := List.mem_append_left _ (List.mem_append_right _ (List.mem_append_right _ (List.mem_append_right _ (List.mem_append_right _ (List.mem_append_left _ (List.mem_of_getElem? (i := 17) rfl))))))
theorem gm_258 : Cond.selects RX1 yX1_documentsWith yX1_documentsWith ∈ gw := List.mem_append_left _ (List.mem_append_right _ (List.mem_append_right _ (List.mem_append_right _ (List.mem_append_right _ (List.mem_append_left _ (List.mem_of_getElem? (i := 18) rfl))))))
theorem gm_259 : Cond.code yX1_documentsWith cX1_documentsWith 6 (some .int) ∈ gw := List.mem_append_left _ (List.mem_append_right _ (List.mem_append_right _ (List.mem_append_right _ (List.mem_append_right _ (List.mem_append_left _ (List.mem_of_getElem? (i := 19) rfl))))))
theorem gm_260 : Cond.methodLink RX2 159 yX0_preferredOf ∈ gw := List.mem_append_left _ (List.mem_append_right _ (List.mem_append_right _ (List.mem_append_right _ (List.mem_append_right _ (List.mem_append_left _ (List.mem_of_getElem? (i := 20) rfl))))))
theorem gm_261 : Cond.methodLink RX2 164 yX0_move ∈ gw := List.mem_append_left _ (List.mem_append_right _ (List.mem_append_right _ (List.mem_append_right _ (List.mem_append_right _ (List.mem_append_left _ (List.mem_of_getElem? (i := 21) rfl))))))
theorem gm_262 : Cond.methodLink RX2 175 Lib.Math.min.name ∈ gw := List.mem_append_left _ (List.mem_append_right _ (List.mem_append_right _ (List.mem_append_right _ (List.mem_append_right _ (List.mem_append_left _ (List.mem_of_getElem? (i := 22) rfl))))))
theorem gm_263 : Cond.methodLink RX2 180 Lib.Math.max.name ∈ gw := List.mem_append_left _ (List.mem_append_right _ (List.mem_append_right _ (List.mem_append_right _ (List.mem_append_right _ (List.mem_append_left _ (List.mem_of_getElem? (i := 23) rfl))))))
theorem gm_264 : Cond.methodLink RX2 167 yX2_requireTwoConcepts ∈ gw := List.mem_append_left _ (List.mem_append_right _ (List.mem_append_right _ (List.mem_append_right _ (List.mem_append_right _ (List.mem_append_left _ (List.mem_of_getElem? (i := 24) rfl))))))
theorem gm_265 : Cond.instanceMethod yX2_requireTwoConcepts ∈ gw := List.mem_append_left _ (List.mem_append_right _ (List.mem_append_right _ (List.mem_append_right _ (List.mem_append_right _ (List.mem_append_left _ (List.mem_of_getElem? (i := 25) rfl))))))
theorem gm_266 : Cond.selects RX2 yX2_requireTwoConcepts yX2_requireTwoConcepts ∈ gw := List.mem_append_left _ (List.mem_append_right _ (List.mem_append_right _ (List.mem_append_right _ (List.mem_append_right _ (List.mem_append_left _ (List.mem_of_getElem? (i := 26) rfl))))))
theorem gm_267 : Cond.code yX2_requireTwoConcepts cX2_requireTwoConcepts 3 none ∈ gw := List.mem_append_left _ (List.mem_append_right _ (List.mem_append_right _ (List.mem_append_right _ (List.mem_append_right _ (List.mem_append_left _ (List.mem_of_getElem? (i := 27) rfl))))))
theorem gm_268 : Cond.methodLink RX2 170 yX0_canBeJoined ∈ gw := List.mem_append_left _ (List.mem_append_right _ (List.mem_append_right _ (List.mem_append_right _ (List.mem_append_right _ (List.mem_append_left _ (List.mem_of_getElem? (i := 28) rfl))))))
theorem gm_269 : Cond.instanceMethod yX0_canBeJoined ∈ gw := List.mem_append_left _ (List.mem_append_right _ (List.mem_append_right _ (List.mem_append_right _ (List.mem_append_right _ (List.mem_append_left _ (List.mem_of_getElem? (i := 29) rfl))))))
theorem gm_270 : Cond.selects RX0 yX0_canBeJoined yX0_canBeJoined ∈ gw := List.mem_append_left _ (List.mem_append_right _ (List.mem_append_right _ (List.mem_append_right _ (List.mem_append_right _ (List.mem_append_left _ (List.mem_of_getElem? (i := 30) rfl))))))
theorem gm_271 : Cond.code yX0_canBeJoined cX0_canBeJoined 4 (some .boolean) ∈ gw := List.mem_append_left _ (List.mem_append_right _ (List.mem_append_right _ (List.mem_append_right _ (List.mem_append_right _ (List.mem_append_left _ (List.mem_of_getElem? (i := 31) rfl))))))
theorem gm_272 : Cond.methodLink RX2 183 yX0_unite ∈ gw := List.mem_append_left _ (List.mem_append_right _ (List.mem_append_right _ (List.mem_append_right _ (List.mem_append_right _ (List.mem_append_left _ (List.mem_of_getElem? (i := 32) rfl))))))
theorem gm_273 : Cond.instanceMethod yX0_unite ∈ gw := List.mem_append_left _ (List.mem_append_right _ (List.mem_append_right _ (List.mem_append_right _ (List.mem_append_right _ (List.mem_append_left _ (List.mem_of_getElem? (i := 33) rfl))))))
theorem gm_274 : Cond.selects RX0 yX0_unite yX0_unite ∈ gw := List.mem_append_left _ (List.mem_append_right _ (List.mem_append_right _ (List.mem_append_right _ (List.mem_append_right _ (List.mem_append_left _ (List.mem_of_getElem? (i := 34) rfl))))))
theorem gm_275 : Cond.code yX0_unite cX0_unite 6 none ∈ gw := List.mem_append_left _ (List.mem_append_right _ (List.mem_append_right _ (List.mem_append_right _ (List.mem_append_right _ (List.mem_append_left _ (List.mem_of_getElem? (i := 35) rfl))))))
theorem gm_276 : Cond.fieldLink RX2 186 "GlossaryCrown$Texts" "documentCount" "I" ∈ gw := List.mem_append_left _ (List.mem_append_right _ (List.mem_append_right _ (List.mem_append_right _ (List.mem_append_right _ (List.mem_append_left _ (List.mem_of_getElem? (i := 36) rfl))))))
theorem gm_277 : Cond.methodLink RX2 191 yX1_addDocument ∈ gw := List.mem_append_left _ (List.mem_append_right _ (List.mem_append_right _ (List.mem_append_right _ (List.mem_append_right _ (List.mem_append_left _ (List.mem_of_getElem? (i := 37) rfl))))))
theorem gm_278 : Cond.instanceMethod yX1_addDocument ∈ gw := List.mem_append_left _ (List.mem_append_right _ (List.mem_append_right _ (List.mem_append_right _ (List.mem_append_right _ (List.mem_append_left _ (List.mem_of_getElem? (i := 38) rfl))))))
theorem gm_279 : Cond.selects RX1 yX1_addDocument yX1_addDocument ∈ gw := List.mem_append_left _ (List.mem_append_right _ (List.mem_append_right _ (List.mem_append_right _ (List.mem_append_right _ (List.mem_append_left _ (List.mem_of_getElem? (i := 39) rfl))))))
theorem gm_280 : Cond.code yX1_addDocument cX1_addDocument 2 (some .int) ∈ gw := List.mem_append_left _ (List.mem_append_right _ (List.mem_append_right _ (List.mem_append_right _ (List.mem_append_right _ (List.mem_append_left _ (List.mem_of_getElem? (i := 40) rfl))))))
theorem gm_281 : Cond.methodLink RX2 244 yX2_requireDocument ∈ gw := List.mem_append_left _ (List.mem_append_right _ (List.mem_append_right _ (List.mem_append_right _ (List.mem_append_right _ (List.mem_append_left _ (List.mem_of_getElem? (i := 41) rfl))))))
theorem gm_282 : Cond.instanceMethod yX2_requireDocument ∈ gw := List.mem_append_left _ (List.mem_append_right _ (List.mem_append_right _ (List.mem_append_right _ (List.mem_append_right _ (List.mem_append_left _ (List.mem_of_getElem? (i := 42) rfl))))))
theorem gm_283 : Cond.selects RX2 yX2_requireDocument yX2_requireDocument ∈ gw := List.mem_append_left _ (List.mem_append_right _ (List.mem_append_right _ (List.mem_append_right _ (List.mem_append_right _ (List.mem_append_left _ (List.mem_of_getElem? (i := 43) rfl))))))
theorem gm_284 : Cond.code yX2_requireDocument cX2_requireDocument 2 none ∈ gw := List.mem_append_left _ (List.mem_append_right _ (List.mem_append_right _ (List.mem_append_right _ (List.mem_append_right _ (List.mem_append_left _ (List.mem_of_getElem? (i := 44) rfl))))))
theorem gm_285 : Cond.fieldLink RX2 206 "GlossaryCrown$Texts" "states" "[I" ∈ gw := List.mem_append_left _ (List.mem_append_right _ (List.mem_append_right _ (List.mem_append_right _ (List.mem_append_right _ (List.mem_append_left _ (List.mem_of_getElem? (i := 45) rfl))))))
theorem gm_286 : Cond.methodLink RX2 195 yX2_requireText ∈ gw := List.mem_append_left _ (List.mem_append_right _ (List.mem_append_right _ (List.mem_append_right _ (List.mem_append_right _ (List.mem_append_left _ (List.mem_of_getElem? (i := 46) rfl))))))
theorem gm_287 : Cond.instanceMethod yX2_requireText ∈ gw := List.mem_append_left _ (List.mem_append_right _ (List.mem_append_right _ (List.mem_append_right _ (List.mem_append_right _ (List.mem_append_left _ (List.mem_of_getElem? (i := 47) rfl))))))
theorem gm_288 : Cond.selects RX2 yX2_requireText yX2_requireText ∈ gw := List.mem_append_left _ (List.mem_append_right _ (List.mem_append_right _ (List.mem_append_right _ (List.mem_append_right _ (List.mem_append_left _ (List.mem_of_getElem? (i := 48) rfl))))))
theorem gm_289 : Cond.code yX2_requireText cX2_requireText 3 (some .int) ∈ gw := List.mem_append_left _ (List.mem_append_right _ (List.mem_append_right _ (List.mem_append_right _ (List.mem_append_right _ (List.mem_append_left _ (List.mem_of_getElem? (i := 49) rfl))))))
theorem gm_290 : Cond.methodLink RX2 198 yX1_placesToWrite ∈ gw := List.mem_append_left _ (List.mem_append_right _ (List.mem_append_right _ (List.mem_append_right _ (List.mem_append_right _ (List.mem_append_left _ (List.mem_of_getElem? (i := 50) rfl))))))
theorem gm_291 : Cond.instanceMethod yX1_placesToWrite ∈ gw := List.mem_append_left _ (List.mem_append_right _ (List.mem_append_right _ (List.mem_append_right _ (List.mem_append_right _ (List.mem_append_left _ (List.mem_of_getElem? (i := 51) rfl))))))
theorem gm_292 : Cond.selects RX1 yX1_placesToWrite yX1_placesToWrite ∈ gw := List.mem_append_left _ (List.mem_append_right _ (List.mem_append_right _ (List.mem_append_right _ (List.mem_append_right _ (List.mem_append_left _ (List.mem_of_getElem? (i := 52) rfl))))))
theorem gm_293 : Cond.code yX1_placesToWrite cX1_placesToWrite 2 (some .int) ∈ gw := List.mem_append_left _ (List.mem_append_right _ (List.mem_append_right _ (List.mem_append_right _ (List.mem_append_right _ (List.mem_append_left _ (List.mem_of_getElem? (i := 53) rfl))))))
theorem gm_294 : Cond.methodLink RX2 201 yX2_requirePlace ∈ gw := List.mem_append_left _ (List.mem_append_right _ (List.mem_append_right _ (List.mem_append_right _ (List.mem_append_right _ (List.mem_append_left _ (List.mem_of_getElem? (i := 54) rfl))))))
theorem gm_295 : Cond.instanceMethod yX2_requirePlace ∈ gw := List.mem_append_left _ (List.mem_append_right _ (List.mem_append_right _ (List.mem_append_right _ (List.mem_append_right _ (List.mem_append_left _ (List.mem_of_getElem? (i := 55) rfl))))))
theorem gm_296 : Cond.selects RX2 yX2_requirePlace yX2_requirePlace ∈ gw := List.mem_append_left _ (List.mem_append_right _ (List.mem_append_right _ (List.mem_append_right _ (List.mem_append_right _ (List.mem_append_left _ (List.mem_of_getElem? (i := 56) rfl))))))
theorem gm_297 : Cond.code yX2_requirePlace cX2_requirePlace 3 none ∈ gw := List.mem_append_left _ (List.mem_append_right _ (List.mem_append_right _ (List.mem_append_right _ (List.mem_append_right _ (List.mem_append_left _ (List.mem_of_getElem? (i := 57) rfl))))))
theorem gm_298 : Cond.methodLink RX2 209 yX1_put ∈ gw := List.mem_append_left _ (List.mem_append_right _ (List.mem_append_right _ (List.mem_append_right _ (List.mem_append_right _ (List.mem_append_left _ (List.mem_of_getElem? (i := 58) rfl))))))
theorem gm_299 : Cond.instanceMethod yX1_put ∈ gw := List.mem_append_left _ (List.mem_append_right _ (List.mem_append_right _ (List.mem_append_right _ (List.mem_append_right _ (List.mem_append_left _ (List.mem_of_getElem? (i := 59) rfl))))))
theorem gm_300 : Cond.selects RX1 yX1_put yX1_put ∈ gw := List.mem_append_left _ (List.mem_append_right _ (List.mem_append_right _ (List.mem_append_right _ (List.mem_append_right _ (List.mem_append_right _ (List.mem_append_left _ (List.mem_of_getElem? (i := 0) rfl)))))))
theorem gm_301 : Cond.code yX1_put cX1_put 4 (some .int) ∈ gw := List.mem_append_left _ (List.mem_append_right _ (List.mem_append_right _ (List.mem_append_right _ (List.mem_append_right _ (List.mem_append_right _ (List.mem_append_left _ (List.mem_of_getElem? (i := 1) rfl)))))))
theorem gm_302 : Cond.fieldLink RX2 212 "GlossaryCrown$Texts" "lengths" "[I" ∈ gw := List.mem_append_left _ (List.mem_append_right _ (List.mem_append_right _ (List.mem_append_right _ (List.mem_append_right _ (List.mem_append_right _ (List.mem_append_left _ (List.mem_of_getElem? (i := 2) rfl)))))))
theorem gm_303 : Cond.methodLink RX2 217 yX1_dropLast ∈ gw := List.mem_append_left _ (List.mem_append_right _ (List.mem_append_right _ (List.mem_append_right _ (List.mem_append_right _ (List.mem_append_right _ (List.mem_append_left _ (List.mem_of_getElem? (i := 3) rfl)))))))
theorem gm_304 : Cond.instanceMethod yX1_dropLast ∈ gw := List.mem_append_left _ (List.mem_append_right _ (List.mem_append_right _ (List.mem_append_right _ (List.mem_append_right _ (List.mem_append_right _ (List.mem_append_left _ (List.mem_of_getElem? (i := 4) rfl)))))))
theorem gm_305 : Cond.selects RX1 yX1_dropLast yX1_dropLast ∈ gw := List.mem_append_left _ (List.mem_append_right _ (List.mem_append_right _ (List.mem_append_right _ (List.mem_append_right _ (List.mem_append_right _ (List.mem_append_left _ (List.mem_of_getElem? (i := 5) rfl)))))))
theorem gm_306 : Cond.code yX1_dropLast cX1_dropLast 2 (some .int) ∈ gw := List.mem_append_left _ (List.mem_append_right _ (List.mem_append_right _ (List.mem_append_right _ (List.mem_append_right _ (List.mem_append_right _ (List.mem_append_left _ (List.mem_of_getElem? (i := 6) rfl)))))))
theorem gm_307 : Cond.methodLink RX2 220 yX1_canBeApproved ∈ gw := List.mem_append_left _ (List.mem_append_right _ (List.mem_append_right _ (List.mem_append_right _ (List.mem_append_right _ (List.mem_append_right _ (List.mem_append_left _ (List.mem_of_getElem? (i := 7) rfl)))))))
theorem gm_308 : Cond.instanceMethod yX1_canBeApproved ∈ gw := List.mem_append_left _ (List.mem_append_right _ (List.mem_append_right _ (List.mem_append_right _ (List.mem_append_right _ (List.mem_append_right _ (List.mem_append_left _ (List.mem_of_getElem? (i := 8) rfl)))))))
theorem gm_309 : Cond.selects RX1 yX1_canBeApproved yX1_canBeApproved ∈ gw := List.mem_append_left _ (List.mem_append_right _ (List.mem_append_right _ (List.mem_append_right _ (List.mem_append_right _ (List.mem_append_right _ (List.mem_append_left _ (List.mem_of_getElem? (i := 9) rfl)))))))
theorem gm_310 : Cond.code yX1_canBeApproved cX1_canBeApproved 2 (some .boolean) ∈ gw := List.mem_append_left _ (List.mem_append_right _ (List.mem_append_right _ (List.mem_append_right _ (List.mem_append_right _ (List.mem_append_right _ (List.mem_append_left _ (List.mem_of_getElem? (i := 10) rfl)))))))
theorem gm_311 : Cond.methodLink RX2 225 yX1_consistency ∈ gw := List.mem_append_left _ (List.mem_append_right _ (List.mem_append_right _ (List.mem_append_right _ (List.mem_append_right _ (List.mem_append_right _ (List.mem_append_left _ (List.mem_of_getElem? (i := 11) rfl)))))))
theorem gm_312 : Cond.fieldLink RX2 228 "GlossaryCrown$Texts" "uses" "[[I" ∈ gw := List.mem_append_left _ (List.mem_append_right _ (List.mem_append_right _ (List.mem_append_right _ (List.mem_append_right _ (List.mem_append_right _ (List.mem_append_left _ (List.mem_of_getElem? (i := 12) rfl)))))))
theorem gm_313 : Cond.methodLink RX2 232 yX1_usesAmongIn ∈ gw := List.mem_append_left _ (List.mem_append_right _ (List.mem_append_right _ (List.mem_append_right _ (List.mem_append_right _ (List.mem_append_right _ (List.mem_append_left _ (List.mem_of_getElem? (i := 13) rfl)))))))
theorem gm_314 : Cond.methodLink RX2 235 yX1_usesInState ∈ gw := List.mem_append_left _ (List.mem_append_right _ (List.mem_append_right _ (List.mem_append_right _ (List.mem_append_right _ (List.mem_append_right _ (List.mem_append_left _ (List.mem_of_getElem? (i := 14) rfl)))))))
theorem gm_315 : Cond.methodLink RX2 238 yX1_firstBanned ∈ gw := List.mem_append_left _ (List.mem_append_right _ (List.mem_append_right _ (List.mem_append_right _ (List.mem_append_right _ (List.mem_append_right _ (List.mem_append_left _ (List.mem_of_getElem? (i := 15) rfl)))))))
theorem gm_316 : Cond.methodLink RX2 241 yX1_ambiguousForms ∈ gw := List.mem_append_left _ (List.mem_append_right _ (List.mem_append_right _ (List.mem_append_right _ (List.mem_append_right _ (List.mem_append_right _ (List.mem_append_left _ (List.mem_of_getElem? (i := 16) rfl)))))))
theorem gm_317 : Cond.instanceMethod yX1_ambiguousForms ∈ gw := List.mem_append_left _ (List.mem_append_right _ (List.mem_append_right _ (List.mem_append_right _ (List.mem_append_right _ (List.mem_append_right _ (List.mem_append_left _ (List.mem_of_getElem? (i := 17) rfl)))))))
theorem gm_318 : Cond.selects RX1 yX1_ambiguousForms yX1_ambiguousForms ∈ gw := List.mem_append_left _ (List.mem_append_right _ (List.mem_append_right _ (List.mem_append_right _ (List.mem_append_right _ (List.mem_append_right _ (List.mem_append_left _ (List.mem_of_getElem? (i := 18) rfl)))))))
theorem gm_319 : Cond.code yX1_ambiguousForms cX1_ambiguousForms 4 (some .int) ∈ gw := List.mem_append_left _ (List.mem_append_right _ (List.mem_append_right _ (List.mem_append_right _ (List.mem_append_right _ (List.mem_append_right _ (List.mem_append_left _ (List.mem_of_getElem? (i := 19) rfl)))))))
theorem gm_320 : Cond.methodLink RX2 247 yX1_agreementOf ∈ gw := List.mem_append_left _ (List.mem_append_right _ (List.mem_append_right _ (List.mem_append_right _ (List.mem_append_right _ (List.mem_append_right _ (List.mem_append_left _ (List.mem_of_getElem? (i := 20) rfl)))))))
theorem gm_321 : Cond.instanceMethod yX1_agreementOf ∈ gw := List.mem_append_left _ (List.mem_append_right _ (List.mem_append_right _ (List.mem_append_right _ (List.mem_append_right _ (List.mem_append_right _ (List.mem_append_left _ (List.mem_of_getElem? (i := 21) rfl)))))))
theorem gm_322 : Cond.selects RX1 yX1_agreementOf yX1_agreementOf ∈ gw := List.mem_append_left _ (List.mem_append_right _ (List.mem_append_right _ (List.mem_append_right _ (List.mem_append_right _ (List.mem_append_right _ (List.mem_append_left _ (List.mem_of_getElem? (i := 22) rfl)))))))
theorem gm_323 : Cond.code yX1_agreementOf cX1_agreementOf 7 (some .int) ∈ gw := List.mem_append_left _ (List.mem_append_right _ (List.mem_append_right _ (List.mem_append_right _ (List.mem_append_right _ (List.mem_append_right _ (List.mem_append_left _ (List.mem_of_getElem? (i := 23) rfl)))))))
theorem gm_324 : Cond.methodLink RX2 250 yX2_requireDays ∈ gw := List.mem_append_left _ (List.mem_append_right _ (List.mem_append_right _ (List.mem_append_right _ (List.mem_append_right _ (List.mem_append_right _ (List.mem_append_left _ (List.mem_of_getElem? (i := 24) rfl)))))))
theorem gm_325 : Cond.instanceMethod yX2_requireDays ∈ gw := List.mem_append_left _ (List.mem_append_right _ (List.mem_append_right _ (List.mem_append_right _ (List.mem_append_right _ (List.mem_append_right _ (List.mem_append_left _ (List.mem_of_getElem? (i := 25) rfl)))))))
theorem gm_326 : Cond.selects RX2 yX2_requireDays yX2_requireDays ∈ gw := List.mem_append_left _ (List.mem_append_right _ (List.mem_append_right _ (List.mem_append_right _ (List.mem_append_right _ (List.mem_append_right _ (List.mem_append_left _ (List.mem_of_getElem? (i := 26) rfl)))))))
theorem gm_327 : Cond.code yX2_requireDays cX2_requireDays 2 none ∈ gw := List.mem_append_left _ (List.mem_append_right _ (List.mem_append_right _ (List.mem_append_right _ (List.mem_append_right _ (List.mem_append_right _ (List.mem_append_left _ (List.mem_of_getElem? (i := 27) rfl)))))))
theorem gm_328 : Cond.methodLink RX2 258 yX0_conceptsWithTerms ∈ gw := List.mem_append_left _ (List.mem_append_right _ (List.mem_append_right _ (List.mem_append_right _ (List.mem_append_right _ (List.mem_append_right _ (List.mem_append_left _ (List.mem_of_getElem? (i := 28) rfl)))))))
theorem gm_329 : Cond.instanceMethod yX0_conceptsWithTerms ∈ gw := List.mem_append_left _ (List.mem_append_right _ (List.mem_append_right _ (List.mem_append_right _ (List.mem_append_right _ (List.mem_append_right _ (List.mem_append_left _ (List.mem_of_getElem? (i := 29) rfl)))))))
theorem gm_330 : Cond.selects RX0 yX0_conceptsWithTerms yX0_conceptsWithTerms ∈ gw := List.mem_append_left _ (List.mem_append_right _ (List.mem_append_right _ (List.mem_append_right _ (List.mem_append_right _ (List.mem_append_right _ (List.mem_append_left _ (List.mem_of_getElem? (i := 30) rfl)))))))
theorem gm_331 : Cond.code yX0_conceptsWithTerms cX0_conceptsWithTerms 3 (some .int) ∈ gw := List.mem_append_left _ (List.mem_append_right _ (List.mem_append_right _ (List.mem_append_right _ (List.mem_append_right _ (List.mem_append_right _ (List.mem_append_left _ (List.mem_of_getElem? (i := 31) rfl)))))))
theorem gm_332 : Cond.methodLink RX2 261 yX0_termsInState ∈ gw := List.mem_append_left _ (List.mem_append_right _ (List.mem_append_right _ (List.mem_append_right _ (List.mem_append_right _ (List.mem_append_right _ (List.mem_append_left _ (List.mem_of_getElem? (i := 32) rfl)))))))
theorem gm_333 : Cond.instanceMethod yX0_termsInState ∈ gw := List.mem_append_left _ (List.mem_append_right _ (List.mem_append_right _ (List.mem_append_right _ (List.mem_append_right _ (List.mem_append_right _ (List.mem_append_left _ (List.mem_of_getElem? (i := 33) rfl)))))))
theorem gm_334 : Cond.selects RX0 yX0_termsInState yX0_termsInState ∈ gw := List.mem_append_left _ (List.mem_append_right _ (List.mem_append_right _ (List.mem_append_right _ (List.mem_append_right _ (List.mem_append_right _ (List.mem_append_left _ (List.mem_of_getElem? (i := 34) rfl)))))))
theorem gm_335 : Cond.code yX0_termsInState cX0_termsInState 4 (some .int) ∈ gw := List.mem_append_left _ (List.mem_append_right _ (List.mem_append_right _ (List.mem_append_right _ (List.mem_append_right _ (List.mem_append_right _ (List.mem_append_left _ (List.mem_of_getElem? (i := 35) rfl)))))))
theorem gm_336 : Cond.methodLink RX2 264 yX1_textsInState ∈ gw := List.mem_append_left _ (List.mem_append_right _ (List.mem_append_right _ (List.mem_append_right _ (List.mem_append_right _ (List.mem_append_right _ (List.mem_append_left _ (List.mem_of_getElem? (i := 36) rfl)))))))
theorem gm_337 : Cond.instanceMethod yX1_textsInState ∈ gw := List.mem_append_left _ (List.mem_append_right _ (List.mem_append_right _ (List.mem_append_right _ (List.mem_append_right _ (List.mem_append_right _ (List.mem_append_left _ (List.mem_of_getElem? (i := 37) rfl)))))))
theorem gm_338 : Cond.selects RX1 yX1_textsInState yX1_textsInState ∈ gw := List.mem_append_left _ (List.mem_append_right _ (List.mem_append_right _ (List.mem_append_right _ (List.mem_append_right _ (List.mem_append_right _ (List.mem_append_left _ (List.mem_of_getElem? (i := 38) rfl)))))))
theorem gm_339 : Cond.code yX1_textsInState cX1_textsInState 4 (some .int) ∈ gw := List.mem_append_left _ (List.mem_append_right _ (List.mem_append_right _ (List.mem_append_right _ (List.mem_append_right _ (List.mem_append_right _ (List.mem_append_left _ (List.mem_of_getElem? (i := 39) rfl)))))))
theorem gm_340 : Cond.methodLink RX2 267 yX1_textsWithForms ∈ gw := List.mem_append_left _ (List.mem_append_right _ (List.mem_append_right _ (List.mem_append_right _ (List.mem_append_right _ (List.mem_append_right _ (List.mem_append_left _ (List.mem_of_getElem? (i := 40) rfl)))))))
theorem gm_341 : Cond.instanceMethod yX1_textsWithForms ∈ gw := List.mem_append_left _ (List.mem_append_right _ (List.mem_append_right _ (List.mem_append_right _ (List.mem_append_right _ (List.mem_append_right _ (List.mem_append_left _ (List.mem_of_getElem? (i := 41) rfl)))))))
theorem gm_342 : Cond.selects RX1 yX1_textsWithForms yX1_textsWithForms ∈ gw := List.mem_append_left _ (List.mem_append_right _ (List.mem_append_right _ (List.mem_append_right _ (List.mem_append_right _ (List.mem_append_right _ (List.mem_append_left _ (List.mem_of_getElem? (i := 42) rfl)))))))
theorem gm_343 : Cond.code yX1_textsWithForms cX1_textsWithForms 3 (some .int) ∈ gw := List.mem_append_left _ (List.mem_append_right _ (List.mem_append_right _ (List.mem_append_right _ (List.mem_append_right _ (List.mem_append_right _ (List.mem_append_left _ (List.mem_of_getElem? (i := 43) rfl)))))))
theorem gm_344 : Cond.methodLink RX2 270 yX1_sumOfConsistencies ∈ gw := List.mem_append_left _ (List.mem_append_right _ (List.mem_append_right _ (List.mem_append_right _ (List.mem_append_right _ (List.mem_append_right _ (List.mem_append_left _ (List.mem_of_getElem? (i := 44) rfl)))))))
theorem gm_345 : Cond.instanceMethod yX1_sumOfConsistencies ∈ gw := List.mem_append_left _ (List.mem_append_right _ (List.mem_append_right _ (List.mem_append_right _ (List.mem_append_right _ (List.mem_append_right _ (List.mem_append_left _ (List.mem_of_getElem? (i := 45) rfl)))))))
theorem gm_346 : Cond.selects RX1 yX1_sumOfConsistencies yX1_sumOfConsistencies ∈ gw := List.mem_append_left _ (List.mem_append_right _ (List.mem_append_right _ (List.mem_append_right _ (List.mem_append_right _ (List.mem_append_right _ (List.mem_append_left _ (List.mem_of_getElem? (i := 46) rfl)))))))
theorem gm_347 : Cond.code yX1_sumOfConsistencies cX1_sumOfConsistencies 3 (some .int) ∈ gw := List.mem_append_left _ (List.mem_append_right _ (List.mem_append_right _ (List.mem_append_right _ (List.mem_append_right _ (List.mem_append_right _ (List.mem_append_left _ (List.mem_of_getElem? (i := 47) rfl)))))))
theorem gm_348 : Cond.methodLink RX2 273 yX1_reopenedByOverdue ∈ gw := List.mem_append_left _ (List.mem_append_right _ (List.mem_append_right _ (List.mem_append_right _ (List.mem_append_right _ (List.mem_append_right _ (List.mem_append_left _ (List.mem_of_getElem? (i := 48) rfl)))))))
theorem gm_349 : Cond.methodLink RX2 276 yX0_overdueOn ∈ gw := List.mem_append_left _ (List.mem_append_right _ (List.mem_append_right _ (List.mem_append_right _ (List.mem_append_right _ (List.mem_append_right _ (List.mem_append_left _ (List.mem_of_getElem? (i := 49) rfl)))))))
theorem gm_350 : Cond.methodLink RX2 279 yX1_usesChangedByMoving ∈ gw := List.mem_append_left _ (List.mem_append_right _ (List.mem_append_right _ (List.mem_append_right _ (List.mem_append_right _ (List.mem_append_right _ (List.mem_append_left _ (List.mem_of_getElem? (i := 50) rfl)))))))
theorem gm_351 : Cond.instanceMethod yX1_usesChangedByMoving ∈ gw := List.mem_append_left _ (List.mem_append_right _ (List.mem_append_right _ (List.mem_append_right _ (List.mem_append_right _ (List.mem_append_right _ (List.mem_append_left _ (List.mem_of_getElem? (i := 51) rfl)))))))
theorem gm_352 : Cond.selects RX1 yX1_usesChangedByMoving yX1_usesChangedByMoving ∈ gw := List.mem_append_left _ (List.mem_append_right _ (List.mem_append_right _ (List.mem_append_right _ (List.mem_append_right _ (List.mem_append_right _ (List.mem_append_left _ (List.mem_of_getElem? (i := 52) rfl)))))))
theorem gm_353 : Cond.code yX1_usesChangedByMoving cX1_usesChangedByMoving 6 (some .int) ∈ gw := List.mem_append_left _ (List.mem_append_right _ (List.mem_append_right _ (List.mem_append_right _ (List.mem_append_right _ (List.mem_append_right _ (List.mem_append_left _ (List.mem_of_getElem? (i := 53) rfl)))))))
theorem gm_354 : Cond.methodLink RX2 282 yX1_useOf ∈ gw := List.mem_append_left _ (List.mem_append_right _ (List.mem_append_right _ (List.mem_append_right _ (List.mem_append_right _ (List.mem_append_right _ (List.mem_append_left _ (List.mem_of_getElem? (i := 54) rfl)))))))
theorem gm_355 : Cond.constantLong RX2 288 (31) ∈ gw := List.mem_append_left _ (List.mem_append_right _ (List.mem_append_right _ (List.mem_append_right _ (List.mem_append_right _ (List.mem_append_right _ (List.mem_append_left _ (List.mem_of_getElem? (i := 55) rfl)))))))
theorem gm_356 : Cond.methodLink RX2 309 yX2_ofTerm ∈ gw := List.mem_append_left _ (List.mem_append_right _ (List.mem_append_right _ (List.mem_append_right _ (List.mem_append_right _ (List.mem_append_right _ (List.mem_append_left _ (List.mem_of_getElem? (i := 56) rfl)))))))
theorem gm_357 : Cond.instanceMethod yX2_ofTerm ∈ gw := List.mem_append_left _ (List.mem_append_right _ (List.mem_append_right _ (List.mem_append_right _ (List.mem_append_right _ (List.mem_append_right _ (List.mem_append_left _ (List.mem_of_getElem? (i := 57) rfl)))))))
theorem gm_358 : Cond.selects RX2 yX2_ofTerm yX2_ofTerm ∈ gw := List.mem_append_left _ (List.mem_append_right _ (List.mem_append_right _ (List.mem_append_right _ (List.mem_append_right _ (List.mem_append_right _ (List.mem_append_left _ (List.mem_of_getElem? (i := 58) rfl)))))))
theorem gm_359 : Cond.code yX2_ofTerm cX2_ofTerm 3 (some .int) ∈ gw := List.mem_append_left _ (List.mem_append_right _ (List.mem_append_right _ (List.mem_append_right _ (List.mem_append_right _ (List.mem_append_right _ (List.mem_append_left _ (List.mem_of_getElem? (i := 59) rfl)))))))
theorem gm_360 : Cond.methodLink RX2 312 yX2_reopenedBy ∈ gw := List.mem_append_left _ (List.mem_append_right _ (List.mem_append_right _ (List.mem_append_right _ (List.mem_append_right _ (List.mem_append_right _ (List.mem_append_right _ (List.mem_of_getElem? (i := 0) rfl)))))))
theorem gm_361 : Cond.instanceMethod yX2_reopenedBy ∈ gw := List.mem_append_left _ (List.mem_append_right _ (List.mem_append_right _ (List.mem_append_right _ (List.mem_append_right _ (List.mem_append_right _ (List.mem_append_right _ (List.mem_of_getElem? (i := 1) rfl)))))))
theorem gm_362 : Cond.selects RX2 yX2_reopenedBy yX2_reopenedBy ∈ gw := List.mem_append_left _ (List.mem_append_right _ (List.mem_append_right _ (List.mem_append_right _ (List.mem_append_right _ (List.mem_append_right _ (List.mem_append_right _ (List.mem_of_getElem? (i := 2) rfl)))))))
theorem gm_363 : Cond.code yX2_reopenedBy cX2_reopenedBy 2 (some .int) ∈ gw := List.mem_append_left _ (List.mem_append_right _ (List.mem_append_right _ (List.mem_append_right _ (List.mem_append_right _ (List.mem_append_right _ (List.mem_append_right _ (List.mem_of_getElem? (i := 3) rfl)))))))
theorem gm_364 : Cond.methodLink RX2 315 yX2_ofConcept ∈ gw := List.mem_append_left _ (List.mem_append_right _ (List.mem_append_right _ (List.mem_append_right _ (List.mem_append_right _ (List.mem_append_right _ (List.mem_append_right _ (List.mem_of_getElem? (i := 4) rfl)))))))
theorem gm_365 : Cond.instanceMethod yX2_ofConcept ∈ gw := List.mem_append_left _ (List.mem_append_right _ (List.mem_append_right _ (List.mem_append_right _ (List.mem_append_right _ (List.mem_append_right _ (List.mem_append_right _ (List.mem_of_getElem? (i := 5) rfl)))))))
theorem gm_366 : Cond.selects RX2 yX2_ofConcept yX2_ofConcept ∈ gw := List.mem_append_left _ (List.mem_append_right _ (List.mem_append_right _ (List.mem_append_right _ (List.mem_append_right _ (List.mem_append_right _ (List.mem_append_right _ (List.mem_of_getElem? (i := 6) rfl)))))))
theorem gm_367 : Cond.code yX2_ofConcept cX2_ofConcept 4 (some .int) ∈ gw := List.mem_append_left _ (List.mem_append_right _ (List.mem_append_right _ (List.mem_append_right _ (List.mem_append_right _ (List.mem_append_right _ (List.mem_append_right _ (List.mem_of_getElem? (i := 7) rfl)))))))
theorem gm_368 : Cond.methodLink RX2 321 yX2_ofText ∈ gw := List.mem_append_left _ (List.mem_append_right _ (List.mem_append_right _ (List.mem_append_right _ (List.mem_append_right _ (List.mem_append_right _ (List.mem_append_right _ (List.mem_of_getElem? (i := 8) rfl)))))))
theorem gm_369 : Cond.instanceMethod yX2_ofText ∈ gw := List.mem_append_left _ (List.mem_append_right _ (List.mem_append_right _ (List.mem_append_right _ (List.mem_append_right _ (List.mem_append_right _ (List.mem_append_right _ (List.mem_of_getElem? (i := 9) rfl)))))))
theorem gm_370 : Cond.selects RX2 yX2_ofText yX2_ofText ∈ gw := List.mem_append_left _ (List.mem_append_right _ (List.mem_append_right _ (List.mem_append_right _ (List.mem_append_right _ (List.mem_append_right _ (List.mem_append_right _ (List.mem_of_getElem? (i := 10) rfl)))))))
theorem gm_371 : Cond.code yX2_ofText cX2_ofText 5 (some .int) ∈ gw := List.mem_append_left _ (List.mem_append_right _ (List.mem_append_right _ (List.mem_append_right _ (List.mem_append_right _ (List.mem_append_right _ (List.mem_append_right _ (List.mem_of_getElem? (i := 11) rfl)))))))
theorem gm_372 : Cond.methodLink RX2 324 yX2_use ∈ gw := List.mem_append_left _ (List.mem_append_right _ (List.mem_append_right _ (List.mem_append_right _ (List.mem_append_right _ (List.mem_append_right _ (List.mem_append_right _ (List.mem_of_getElem? (i := 12) rfl)))))))
theorem gm_373 : Cond.instanceMethod yX2_use ∈ gw := List.mem_append_left _ (List.mem_append_right _ (List.mem_append_right _ (List.mem_append_right _ (List.mem_append_right _ (List.mem_append_right _ (List.mem_append_right _ (List.mem_of_getElem? (i := 13) rfl)))))))
theorem gm_374 : Cond.selects RX2 yX2_use yX2_use ∈ gw := List.mem_append_left _ (List.mem_append_right _ (List.mem_append_right _ (List.mem_append_right _ (List.mem_append_right _ (List.mem_append_right _ (List.mem_append_right _ (List.mem_of_getElem? (i := 14) rfl)))))))
theorem gm_375 : Cond.code yX2_use cX2_use 5 (some .int) ∈ gw := List.mem_append_left _ (List.mem_append_right _ (List.mem_append_right _ (List.mem_append_right _ (List.mem_append_right _ (List.mem_append_right _ (List.mem_append_right _ (List.mem_of_getElem? (i := 15) rfl)))))))
theorem gm_376 : Cond.constantLong RX2 286 (58116) ∈ gw := List.mem_append_left _ (List.mem_append_right _ (List.mem_append_right _ (List.mem_append_right _ (List.mem_append_right _ (List.mem_append_right _ (List.mem_append_right _ (List.mem_of_getElem? (i := 16) rfl)))))))
theorem gm_377 : Cond.methodLink RX2 290 yX2_many ∈ gw := List.mem_append_left _ (List.mem_append_right _ (List.mem_append_right _ (List.mem_append_right _ (List.mem_append_right _ (List.mem_append_right _ (List.mem_append_right _ (List.mem_of_getElem? (i := 17) rfl)))))))
theorem gm_378 : Cond.instanceMethod yX2_many ∈ gw := List.mem_append_left _ (List.mem_append_right _ (List.mem_append_right _ (List.mem_append_right _ (List.mem_append_right _ (List.mem_append_right _ (List.mem_append_right _ (List.mem_of_getElem? (i := 18) rfl)))))))
theorem gm_379 : Cond.selects RX2 yX2_many yX2_many ∈ gw := List.mem_append_left _ (List.mem_append_right _ (List.mem_append_right _ (List.mem_append_right _ (List.mem_append_right _ (List.mem_append_right _ (List.mem_append_right _ (List.mem_of_getElem? (i := 19) rfl)))))))
theorem gm_380 : Cond.code yX2_many cX2_many 2 (some .int) ∈ gw := List.mem_append_left _ (List.mem_append_right _ (List.mem_append_right _ (List.mem_append_right _ (List.mem_append_right _ (List.mem_append_right _ (List.mem_append_right _ (List.mem_of_getElem? (i := 20) rfl)))))))
theorem gm_381 : Cond.methodLink RX2 293 yX2_digestTerms ∈ gw := List.mem_append_left _ (List.mem_append_right _ (List.mem_append_right _ (List.mem_append_right _ (List.mem_append_right _ (List.mem_append_right _ (List.mem_append_right _ (List.mem_of_getElem? (i := 21) rfl)))))))
theorem gm_382 : Cond.instanceMethod yX2_digestTerms ∈ gw := List.mem_append_left _ (List.mem_append_right _ (List.mem_append_right _ (List.mem_append_right _ (List.mem_append_right _ (List.mem_append_right _ (List.mem_append_right _ (List.mem_of_getElem? (i := 22) rfl)))))))
theorem gm_383 : Cond.selects RX2 yX2_digestTerms yX2_digestTerms ∈ gw := List.mem_append_left _ (List.mem_append_right _ (List.mem_append_right _ (List.mem_append_right _ (List.mem_append_right _ (List.mem_append_right _ (List.mem_append_right _ (List.mem_of_getElem? (i := 23) rfl)))))))
theorem gm_384 : Cond.code yX2_digestTerms cX2_digestTerms 7 (some .long) ∈ gw := List.mem_append_left _ (List.mem_append_right _ (List.mem_append_right _ (List.mem_append_right _ (List.mem_append_right _ (List.mem_append_right _ (List.mem_append_right _ (List.mem_of_getElem? (i := 24) rfl)))))))
theorem gm_385 : Cond.methodLink RX2 297 yX2_digestConcepts ∈ gw := List.mem_append_left _ (List.mem_append_right _ (List.mem_append_right _ (List.mem_append_right _ (List.mem_append_right _ (List.mem_append_right _ (List.mem_append_right _ (List.mem_of_getElem? (i := 25) rfl)))))))
theorem gm_386 : Cond.instanceMethod yX2_digestConcepts ∈ gw := List.mem_append_left _ (List.mem_append_right _ (List.mem_append_right _ (List.mem_append_right _ (List.mem_append_right _ (List.mem_append_right _ (List.mem_append_right _ (List.mem_of_getElem? (i := 26) rfl)))))))
theorem gm_387 : Cond.selects RX2 yX2_digestConcepts yX2_digestConcepts ∈ gw := List.mem_append_left _ (List.mem_append_right _ (List.mem_append_right _ (List.mem_append_right _ (List.mem_append_right _ (List.mem_append_right _ (List.mem_append_right _ (List.mem_of_getElem? (i := 27) rfl)))))))
theorem gm_388 : Cond.code yX2_digestConcepts cX2_digestConcepts 7 (some .long) ∈ gw := List.mem_append_left _ (List.mem_append_right _ (List.mem_append_right _ (List.mem_append_right _ (List.mem_append_right _ (List.mem_append_right _ (List.mem_append_right _ (List.mem_of_getElem? (i := 28) rfl)))))))
theorem gm_389 : Cond.methodLink RX2 300 yX2_digestTexts ∈ gw := List.mem_append_left _ (List.mem_append_right _ (List.mem_append_right _ (List.mem_append_right _ (List.mem_append_right _ (List.mem_append_right _ (List.mem_append_right _ (List.mem_of_getElem? (i := 29) rfl)))))))
theorem gm_390 : Cond.instanceMethod yX2_digestTexts ∈ gw := List.mem_append_left _ (List.mem_append_right _ (List.mem_append_right _ (List.mem_append_right _ (List.mem_append_right _ (List.mem_append_right _ (List.mem_append_right _ (List.mem_of_getElem? (i := 30) rfl)))))))
theorem gm_391 : Cond.selects RX2 yX2_digestTexts yX2_digestTexts ∈ gw := List.mem_append_left _ (List.mem_append_right _ (List.mem_append_right _ (List.mem_append_right _ (List.mem_append_right _ (List.mem_append_right _ (List.mem_append_right _ (List.mem_of_getElem? (i := 31) rfl)))))))
theorem gm_392 : Cond.code yX2_digestTexts cX2_digestTexts 9 (some .long) ∈ gw := List.mem_append_left _ (List.mem_append_right _ (List.mem_append_right _ (List.mem_append_right _ (List.mem_append_right _ (List.mem_append_right _ (List.mem_append_right _ (List.mem_of_getElem? (i := 32) rfl)))))))
theorem gm_393 : Cond.methodLink RX2 303 yX2_agreement ∈ gw := List.mem_append_left _ (List.mem_append_right _ (List.mem_append_right _ (List.mem_append_right _ (List.mem_append_right _ (List.mem_append_right _ (List.mem_append_right _ (List.mem_of_getElem? (i := 33) rfl)))))))
theorem gm_394 : Cond.instanceMethod yX2_agreement ∈ gw := List.mem_append_left _ (List.mem_append_right _ (List.mem_append_right _ (List.mem_append_right _ (List.mem_append_right _ (List.mem_append_right _ (List.mem_append_right _ (List.mem_of_getElem? (i := 34) rfl)))))))
theorem gm_395 : Cond.selects RX2 yX2_agreement yX2_agreement ∈ gw := List.mem_append_left _ (List.mem_append_right _ (List.mem_append_right _ (List.mem_append_right _ (List.mem_append_right _ (List.mem_append_right _ (List.mem_append_right _ (List.mem_of_getElem? (i := 35) rfl)))))))
theorem gm_396 : Cond.code yX2_agreement cX2_agreement 2 (some .int) ∈ gw := List.mem_append_left _ (List.mem_append_right _ (List.mem_append_right _ (List.mem_append_right _ (List.mem_append_right _ (List.mem_append_right _ (List.mem_append_right _ (List.mem_of_getElem? (i := 36) rfl)))))))
theorem gm_397 : Cond.methodLink RX2 306 yX2_reopenedIn ∈ gw := List.mem_append_left _ (List.mem_append_right _ (List.mem_append_right _ (List.mem_append_right _ (List.mem_append_right _ (List.mem_append_right _ (List.mem_append_right _ (List.mem_of_getElem? (i := 37) rfl)))))))
theorem gm_398 : Cond.instanceMethod yX2_reopenedIn ∈ gw := List.mem_append_left _ (List.mem_append_right _ (List.mem_append_right _ (List.mem_append_right _ (List.mem_append_right _ (List.mem_append_right _ (List.mem_append_right _ (List.mem_of_getElem? (i := 38) rfl)))))))
theorem gm_399 : Cond.selects RX2 yX2_reopenedIn yX2_reopenedIn ∈ gw := List.mem_append_left _ (List.mem_append_right _ (List.mem_append_right _ (List.mem_append_right _ (List.mem_append_right _ (List.mem_append_right _ (List.mem_append_right _ (List.mem_of_getElem? (i := 39) rfl)))))))
theorem gm_400 : Cond.code yX2_reopenedIn cX2_reopenedIn 2 (some .int) ∈ gw := List.mem_append_left _ (List.mem_append_right _ (List.mem_append_right _ (List.mem_append_right _ (List.mem_append_right _ (List.mem_append_right _ (List.mem_append_right _ (List.mem_of_getElem? (i := 40) rfl)))))))
theorem gin0 : ∀ w ∈ u_ws RX0 TX0 12, w ∈ gw := fun _ h => List.mem_append_right _ (List.mem_append_left _ h)
theorem gin1 : ∀ w ∈ u_ws RX1 TX1 6, w ∈ gw := fun _ h => List.mem_append_right _ (List.mem_append_right _ (List.mem_append_left _ h))
theorem gin2 : ∀ w ∈ u_ws RX2 TX2 3, w ∈ gw := fun _ h => List.mem_append_right _ (List.mem_append_right _ (List.mem_append_right _ h))
end
section
/-! The class's world: 56 cells, their addresses 'ad', what they hold a function f of a row's number and a place.
Rows: 0 the numbers (0 conceptCount, 1 termCount, 2 documentCount, 3 day), 1 domains, 2 concepts, 3 languages, 4 stems, 5 states, 6 votersFor, 7 votersAgainst, 8 bannedFrom, 9 graces, 60 + l known[l], 11 lengths, 12 states of texts, 20 + t forms[t], 40 + t uses[t]. -/
abbrev gcl : List vw_C := [(RX0, TX0, 12), (RX1, TX1, 6), (RX2, TX2, 3)]
abbrev CS : Type := Nat → Nat → Int32
def gset (f : CS) (i j : Nat) (v : Int32) : CS := fun a b => if a = i ∧ b = j then v else f a b
theorem gset_eq (f : CS) (i j : Nat) (v : Int32) : gset f i j v i j = v := if_pos ⟨rfl, rfl⟩
theorem gset_ne {f : CS} {i j a b : Nat} {v : Int32} (h : ¬ (a = i ∧ b = j)) : gset f i j v a b = f a b := if_neg h
abbrev GP : Type := va_G × ClassId × ClassId × (Nat → Nat)
def gid (j : Nat) : Nat := if j < 12 then j - 2 else if j < 16 then j + 47 else if j < 18 then j - 5 else if j < 37 then j + 1 else j + 2
def gn (j : Nat) : Nat := if j = 3 then 12 else if j < 12 then 24 else if j < 16 then 20 else if j < 18 then 18 else 12
def gE (w : GP) (f : CS) (j : Nat) : va_E :=
  if j = 0 then .inr (2, [.ref (w.2.2.2 1), .ref (w.2.2.2 2), .int (f 0 3)])
  else if j = 1 then .inr (0, [.int (f 0 0), .int (f 0 1), .ref (w.2.2.2 3), .ref (w.2.2.2 4), .ref (w.2.2.2 5), .ref (w.2.2.2 6), .ref (w.2.2.2 7), .ref (w.2.2.2 8), .ref (w.2.2.2 9), .ref (w.2.2.2 10), .ref (w.2.2.2 11), .ref (w.2.2.2 12)])
  else if j = 2 then .inr (1, [.ref (w.2.2.2 1), .int (f 0 2), .ref (w.2.2.2 16), .ref (w.2.2.2 17), .ref (w.2.2.2 18), .ref (w.2.2.2 37)])
  else if j = 12 then .inl (w.2.2.1, 3, .inr (.inr (.inr (.inr (fun i => if i < 3 then some (w.2.2.2 (13 + i)) else none)))))
  else if j = 18 then .inl (w.2.2.1, 18, .inr (.inr (.inr (.inr (fun i => if i < 18 then some (w.2.2.2 (19 + i)) else none)))))
  else if j = 37 then .inl (w.2.2.1, 18, .inr (.inr (.inr (.inr (fun i => if i < 18 then some (w.2.2.2 (38 + i)) else none)))))
  else .inl (w.2.1, gn j, .inl (f (gid j)))
def gW (w : GP) (f : CS) : va_W := (List.range 56).map (fun j => (w.2.2.2 j, gE w f j))
theorem gW_get {w : GP} {f : CS} {j : Nat} (h : j < 56) : (gW w f)[j]? = some (w.2.2.2 j, gE w f j) := by
  unfold gW
  rw [List.getElem?_map, List.getElem?_range h]
  rfl
theorem gW_of {w : GP} {f : CS} {k : Nat} {q : Nat × va_E} (h : (gW w f)[k]? = some q) : k < 56 ∧ q = (w.2.2.2 k, gE w f k) := by
  have hk : k < 56 := by
    have := (List.getElem?_eq_some_iff.mp h).1
    simpa [gW] using this
  rw [gW_get hk] at h
  exact ⟨hk, (Option.some.inj h).symm⟩
theorem gW_set {w : GP} {f f' : CS} {j : Nat} {e : va_E} (hj : j < 56) (he : gE w f' j = e) (ho : ∀ i, i < 56 → i ≠ j → gE w f' i = gE w f i) : (gW w f).set j (w.2.2.2 j, e) = gW w f' := by
  apply List.ext_getElem?
  intro i
  rw [List.getElem?_set]
  by_cases hi : i < 56
  · by_cases h : j = i
    · subst h
      rw [if_pos rfl, if_pos (by simpa [gW] using hi), gW_get hi, he]
    · rw [if_neg h, gW_get hi, gW_get hi, ho i hi (fun q => h q.symm)]
  · rw [if_neg (fun h : j = i => hi (h ▸ hj)), List.getElem?_eq_none (by simpa [gW] using hi), List.getElem?_eq_none (by simpa [gW] using hi)]
def gA (w : GP) : Nat → Prop := fun q => ∃ j, j < 56 ∧ q = w.2.2.2 j
/-- the world: in the tables of U, in the heap H -/
def GK (w : GP) (U : State) : Prop := va_K w.1 gcl [(w.2.1, .int), (w.2.2.1, .array .int)] U ∧ va_Nw (.methodLinkNest RX0 51 yX2_has "GlossaryCrown") U ∧ va_Nw (.methodLinkNest RX1 65 yX2_has "GlossaryCrown") U
def GV (w : GP) (U : State) (f : CS) (H : Heap) : Prop := GK w U ∧ va_P w.1 gcl (gW w f) H ∧ va_D (fun _ => True) (gW w f)
theorem GK.moved {w : GP} {u U : State} (hW : u.WarmedH U.vm) (h : GK w u) : GK w U := ⟨va_K.moved hW.alike h.1, va_Nw.warmM hW h.2.1, va_Nw.warmM hW h.2.2⟩
theorem GK.same {w : GP} {u U : State} (hW : u.vm = U.vm) (h : GK w u) : GK w U := ⟨va_K.moved (by rw [hW]; exact Vm.Alike.refl U.vm) h.1, va_Nw.same rfl hW h.2.1, va_Nw.same rfl hW h.2.2⟩
theorem GV.moved {w : GP} {u U : State} {f : CS} {H : Heap} (hW : u.WarmedH U.vm) (h : GV w u f H) : GV w U f H := ⟨h.1.moved hW, h.2.1, h.2.2⟩
theorem gW_D {w : GP} {f f' : CS} {A : Nat → Prop} (h : va_D A (gW w f)) : va_D A (gW w f') := by
  refine ⟨fun i j p q hp hq hpq => ?_, fun k q hq => ?_⟩
  · obtain ⟨hi, rfl⟩ := gW_of hp
    obtain ⟨hj, rfl⟩ := gW_of hq
    exact h.1 i j _ _ (gW_get hi) (gW_get hj) hpq
  · obtain ⟨hk, rfl⟩ := gW_of hq
    exact h.2 k (w.2.2.2 k, gE w f k) (gW_get hk)
theorem GV.apart {w : GP} {U : State} {f : CS} {H : Heap} (h : GV w U f H) : va_D (gA w) (gW w f) := ⟨h.2.2.1, fun k q hq => by
  obtain ⟨hk, rfl⟩ := gW_of hq
  exact ⟨k, hk, rfl⟩⟩
/-- the same, and what has changed since the start of the method: the world's cells alone, or those that A names -/
def GS (w : GP) (A : Nat → Prop) (s : State) (H : Heap) (locs : List Loc) (f : CS) : Prop := GV w s f H ∧ va_S A s.heap H locs ∧ ∀ q, gA w q → A q
theorem GV.start {w : GP} {s : State} {f : CS} (h : GV w s f s.heap) : GS w (gA w) s s.heap [] f := ⟨h, va_S.rf, fun _ h => h⟩
theorem gE_arr {w : GP} {f : CS} {j : Nat} (h : 3 ≤ j ∧ j ≠ 12 ∧ j ≠ 18 ∧ j ≠ 37) : gE w f j = .inl (w.2.1, gn j, .inl (f (gid j))) := by
  unfold gE
  rw [if_neg (by omega), if_neg (by omega), if_neg (by omega), if_neg h.2.1, if_neg h.2.2.1, if_neg h.2.2.2]
theorem gid_inj {i j : Nat} (hi : 3 ≤ i ∧ i ≠ 12 ∧ i ≠ 18 ∧ i ≠ 37) (hj : 3 ≤ j ∧ j ≠ 12 ∧ j ≠ 18 ∧ j ≠ 37) (h : gid i = gid j) (h1 : i < 56) (h2 : j < 56) : i = j := by
  unfold gid at h
  repeat' split at h
  all_goals omega
theorem gid_pos {i : Nat} (hi : 3 ≤ i ∧ i ≠ 12 ∧ i ≠ 18 ∧ i ≠ 37) : gid i ≠ 0 := by
  unfold gid
  repeat' split
  all_goals omega
theorem gE_put {w : GP} {f : CS} {i j k : Nat} {v : Int32} (hj : 3 ≤ j ∧ j ≠ 12 ∧ j ≠ 18 ∧ j ≠ 37) (hj2 : j < 56) (hi : i < 56) (h : i ≠ j) : gE w (gset f (gid j) k v) i = gE w f i := by
  have h0 : ∀ b, gset f (gid j) k v 0 b = f 0 b := fun b => gset_ne (fun q => gid_pos hj q.1.symm)
  by_cases ha : 3 ≤ i ∧ i ≠ 12 ∧ i ≠ 18 ∧ i ≠ 37
  · rw [gE_arr ha, gE_arr ha]
    have : gset f (gid j) k v (gid i) = f (gid i) := funext fun b => gset_ne (fun q => h (gid_inj ha hj q.1 hi hj2))
    rw [this]
  · have : i = 0 ∨ i = 1 ∨ i = 2 ∨ i = 12 ∨ i = 18 ∨ i = 37 := by omega
    rcases this with rfl | rfl | rfl | rfl | rfl | rfl <;> simp [gE, h0]
theorem gset_row (f : CS) (a k : Nat) (v : Int32) : gset f a k v a = upd (f a) k v := by
  funext b
  simp [gset, upd]
section GR
variable {p : Program} {l : Launch} {e : Env} {R : Room} {s : State} {m : MethodId} {args : Array Value} {below : List Frame} {meth : Method} {c : Code} {H : Heap} {locs : List Loc} {cells slots : Nat} {Q : State → Prop}
variable {cc : ByteArray} {pc : Nat} {ls : Array Slot} {rest : List Value} {w : GP} {f : CS} {A : Nat → Prop} {own : String}
/-- a field is read -/
theorem g_get (hx : p.tables.exec = Jvm.exec) (hb : c.code = cc) (hts : ∀ w ∈ gw, w.before args s = true) (hown : s.vm.findClass own = some m.cls) (hV : GV w s f H) (j k : Nat) (hj : j < 56) {ci N index : Nat} {C : String} {T : u_T} {fs : List Value} {v : Value} (he : gE w f j = .inr (ci, fs)) (hc : gcl[ci]? = some (C, T, N)) (hin : ∀ w ∈ u_ws C T N, w ∈ gw) (hk : k < N) (hlink : Cond.fieldLink own index (T k).1 (T k).2.1 (T k).2.2.1 ∈ gw) (hv : fs[k]? = some v) (hdg : decode cc pc = .ok (.getfield index, 3))
    (kk : W p l e R s m args below meth c H locs cells slots Q (F0 m (pc + 3) ls (v :: rest))) : W p l e R s m args below meth c H locs cells slots Q (F0 m pc ls (.ref (w.2.2.2 j) :: rest)) :=
  va_get hx hb hts hin hown hV.1.1 hV.2.1 j (by rw [gW_get hj, he]) hc k hk (hts _ hlink) (fun _ h => h) hv hdg kk
/-- a place of an array of ints is read -/
theorem g_iald (hx : p.tables.exec = Jvm.exec) (hb : c.code = cc) (hV : GV w s f H) (j : Nat) (hj : j < 56) (ha : 3 ≤ j ∧ j ≠ 12 ∧ j ≠ 18 ∧ j ≠ 37) {a n : Nat} (hid : gid j = a) (hn : gn j = n) {i : Int32} (hin : vp_in i n) (hdg : decode cc pc = .ok (.iaload, 1))
    (kk : W p l e R s m args below meth c H locs cells slots Q (F0 m (pc + 1) ls (.int (f a i.toNatClampNeg) :: rest))) : W p l e R s m args below meth c H locs cells slots Q (F0 m pc ls (.int i :: .ref (w.2.2.2 j) :: rest)) := by
  subst hid
  subst hn
  exact va_iald hx hb hV.1.1 hV.2.1 j 0 (by rw [gW_get hj, gE_arr ha]) rfl hin hdg kk
/-- the same, at a place that is a number -/
theorem g_ialn (hx : p.tables.exec = Jvm.exec) (hb : c.code = cc) (hV : GV w s f H) (j : Nat) (hj : j < 56) (ha : 3 ≤ j ∧ j ≠ 12 ∧ j ≠ 18 ∧ j ≠ 37) {a n : Nat} (hid : gid j = a) (hn : gn j = n) {i : Nat} (hi : i < n) (hdg : decode cc pc = .ok (.iaload, 1))
    (kk : W p l e R s m args below meth c H locs cells slots Q (F0 m (pc + 1) ls (.int (f a i) :: rest))) : W p l e R s m args below meth c H locs cells slots Q (F0 m pc ls (.int (nI i) :: .ref (w.2.2.2 j) :: rest)) := by
  have hle : n ≤ 24 := by
    rw [← hn]
    unfold gn
    repeat' split
    all_goals omega
  refine g_iald hx hb hV j hj ha hid hn (nI_in hi (by omega)) hdg ?_
  rw [nI_clamp (by omega)]
  exact kk
/-- a row of a grid is read -/
theorem g_row (hx : p.tables.exec = Jvm.exec) (hb : c.code = cc) (hV : GV w s f H) (j : Nat) {n b : Nat} (hj : j < 56) (he : gE w f j = .inl (w.2.2.1, n, .inr (.inr (.inr (.inr (fun i => if i < n then some (w.2.2.2 (b + i)) else none)))))) {i : Nat} (hi : i < n) (hn : n < 2 ^ 31) (hdg : decode cc pc = .ok (.aaload, 1))
    (kk : W p l e R s m args below meth c H locs cells slots Q (F0 m (pc + 1) ls (.ref (w.2.2.2 (b + i)) :: rest))) : W p l e R s m args below meth c H locs cells slots Q (F0 m pc ls (.int (nI i) :: .ref (w.2.2.2 j) :: rest)) := by
  have hP := hV.2.1 j _ (gW_get hj)
  rw [he] at hP
  have hcl : (nI i).toNatClampNeg = i := nI_clamp (by omega)
  refine W.aald (v := .ref (w.2.2.2 (b + i))) (ty := .array .int) hx hb hP ((hV.1.1.2 1 _ rfl).1 n (fun j => va_rf (if j < n then some (w.2.2.2 (b + j)) else none))) rfl (fun q => by cases q) ?_ ?_ rfl rfl hdg kk
  · show ¬ (_ ∨ (arrV _ _ _).slots.size ≤ _)
    rw [arrV_size]
    exact nI_in hi hn
  · show (arrV _ _ _).slots[_]? = _
    rw [hcl, arrV_read _ _ hi]
    show some (va_rf (if i < n then some (w.2.2.2 (b + i)) else none)) = _
    rw [if_pos hi]
    rfl
/-- a place of an array of ints is written -/
theorem g_iast (hx : p.tables.exec = Jvm.exec) (hb : c.code = cc) (hG : GS w A s H locs f) (j : Nat) (hj : j < 56) (ha : 3 ≤ j ∧ j ≠ 12 ∧ j ≠ 18 ∧ j ≠ 37) {a n : Nat} (hid : gid j = a) (hn : gn j = n) {i : Nat} (hi : i < n) {x : Int32} (hdg : decode cc pc = .ok (.iastore, 1))
    (kk : ∀ (H1 : Heap) (locs1 : List Loc), GS w A s H1 locs1 (gset f a i x) → W p l e R s m args below meth c H1 locs1 cells slots Q (F0 m (pc + 1) ls rest)) : W p l e R s m args below meth c H locs cells slots Q (F0 m pc ls (.int x :: .int (nI i) :: .ref (w.2.2.2 j) :: rest)) := by
  obtain ⟨hV, hS, hA⟩ := hG
  have hle : n ≤ 24 := by
    rw [← hn]
    unfold gn
    repeat' split
    all_goals omega
  subst hid
  subst hn
  have hc : (nI i).toNatClampNeg = i := nI_clamp (by omega)
  have hD : va_D A (gW w f) := hV.apart.weaken (fun _ _ _ h => hA _ h)
  refine va_iast hx hb hV.1.1 hV.2.1 hD hS j 0 (by rw [gW_get hj, gE_arr ha]) rfl (nI_in hi (by omega)) hdg (fun H1 locs1 hP hD1 hS1 => ?_)
  rw [hc] at hP
  rw [gW_set (f' := gset f (gid j) i x) hj (by rw [gE_arr ha, gset_row]) (fun i' h1 h2 => gE_put ha hj h1 h2)] at hP
  exact kk H1 locs1 ⟨⟨hV.1, hP, gW_D hV.2.2⟩, hS1, hA⟩
/-- a field is written: one of the numbers -/
theorem g_put (hx : p.tables.exec = Jvm.exec) (hb : c.code = cc) (hts : ∀ w ∈ gw, w.before args s = true) (hown : s.vm.findClass own = some m.cls) (hG : GS w A s H locs f) (j k : Nat) (hj : j < 56) {ci N index a : Nat} {C : String} {T : u_T} {ty0 : Nat → FieldType} {fs : List Value} {x : Int32} (he : gE w f j = .inr (ci, fs)) (hc : gcl[ci]? = some (C, T, N)) (hin : ∀ w ∈ u_ws C T N, w ∈ gw) (hty : ∀ k, k < N → parseFieldDescriptor (T k).2.2.1 = some (ty0 k)) (hnm : ∀ a, a < N → ∀ b, b < N → a ≠ b → (T a).2.1 ≠ (T b).2.1) (hk : k < N) (hlink : Cond.fieldLink own index (T k).1 (T k).2.1 (T k).2.2.1 ∈ gw) (hfin : (T k).2.2.2 = false) (hd : parseFieldDescriptor (T k).2.2.1 = some .int) (hl : k < fs.length) (hdg : decode cc pc = .ok (.putfield index, 3))
    (he2 : gE w (gset f 0 a x) j = .inr (ci, fs.set k (.int x))) (ho : ∀ i, i < 56 → i ≠ j → gE w (gset f 0 a x) i = gE w f i)
    (kk : ∀ (H1 : Heap) (locs1 : List Loc), GS w A s H1 locs1 (gset f 0 a x) → W p l e R s m args below meth c H1 locs1 cells slots Q (F0 m (pc + 3) ls rest)) : W p l e R s m args below meth c H locs cells slots Q (F0 m pc ls (.int x :: .ref (w.2.2.2 j) :: rest)) := by
  obtain ⟨hV, hS, hA⟩ := hG
  have hD : va_D A (gW w f) := hV.apart.weaken (fun _ _ _ h => hA _ h)
  refine va_put hx hb hts hin ty0 hty hnm hown hV.1.1 hV.2.1 hD hS j (by rw [gW_get hj, he]) hc k hk (hts _ hlink) (fun _ h => h) hfin hd rfl rfl hl hdg (fun H1 locs1 hP hD1 hS1 => ?_)
  rw [gW_set (f' := gset f 0 a x) hj he2 ho] at hP
  exact kk H1 locs1 ⟨⟨hV.1, hP, gW_D hV.2.2⟩, hS1, hA⟩
end GR
theorem gE_num {w : GP} {f : CS} {a i j : Nat} {x : Int32} (ho : (a < 2 ∧ j = 1) ∨ (a = 2 ∧ j = 2) ∨ (a = 3 ∧ j = 0)) (h : i ≠ j) : gE w (gset f 0 a x) i = gE w f i := by
  by_cases ha : 3 ≤ i ∧ i ≠ 12 ∧ i ≠ 18 ∧ i ≠ 37
  · rw [gE_arr ha, gE_arr ha]
    have : gset f 0 a x (gid i) = f (gid i) := funext fun b => gset_ne (fun q => gid_pos ha q.1)
    rw [this]
  · have : i = 0 ∨ i = 1 ∨ i = 2 ∨ i = 12 ∨ i = 18 ∨ i = 37 := by omega
    rcases this with rfl | rfl | rfl | rfl | rfl | rfl
    · simp [gE, gset_ne (show ¬ ((0 : Nat) = 0 ∧ 3 = a) by omega)]
    · simp [gE, gset_ne (show ¬ ((0 : Nat) = 0 ∧ 0 = a) by omega), gset_ne (show ¬ ((0 : Nat) = 0 ∧ 1 = a) by omega)]
    · simp [gE, gset_ne (show ¬ ((0 : Nat) = 0 ∧ 2 = a) by omega)]
    · simp [gE]
    · simp [gE]
    · simp [gE]
end
section
/-! Calls among the class's methods. -/
abbrev gws (y : MethodName) (b : ByteArray) (n : Nat) (r : Option FieldType) : List Cond := .code y b n r :: gw
def gOK (y : MethodName) (b : ByteArray) (n : Nat) (r : Option FieldType) (k : Nat) : Prop := Cond.code y b n r ∈ gw ∧ Cond.initialized y.cls ∈ gw ∧ (y.cls ≠ "java/lang/invoke/MethodHandle" ∧ y.cls ≠ "java/lang/invoke/VarHandle" ∧ (parseMethodDescriptor y.desc).map (fun d => d.parameters.length) = some k)
theorem g_good {y : MethodName} {b : ByteArray} {n : Nat} {r : Option FieldType} (h : Cond.code y b n r ∈ gw) : GoodIn gw (gws y b n r) := fun v hv => by
  rcases List.mem_cons.mp hv with rfl | hv
  · exact ⟨h, good_of_word (List.all_eq_true.mp gw_good _ h)⟩
  · exact ⟨hv, good_of_word (List.all_eq_true.mp gw_good _ hv)⟩
abbrev gPc (w : GP) (f : CS) (av : List Value) : Array Value → State → Prop := va_Pc av (fun U => GV w U f U.heap)
theorem g_blind {w : GP} {f : CS} {av : List Value} : FrameBlind (gPc w f av) := fun a U g mk q => ⟨q.1, q.2.1.same (U := U.calling g mk a) rfl, q.2.2⟩
/-- what a method that only reads answers -/
def gRd (v : Value) : Array Value → State → Outcome → State → Prop := fun _ st o t => o = .returned (some v) ∧ t.heap = st.heap
def gRv : Array Value → State → Outcome → State → Prop := fun _ st o t => o = .returned none ∧ t.heap = st.heap
/-- what a method that writes the world answers -/
def gWr (w : GP) (post : Option Value → CS → Prop) : Array Value → State → Outcome → State → Prop := fun _ st o t => (∃ (v : Option Value) (f' : CS), o = .returned v ∧ post v f' ∧ GV w t f' t.heap) ∧ va_F (gA w) st t
section GC
variable {p : Program} {l : Launch} {e : Env} {R : Room} {s : State} {m : MethodId} {args : Array Value} {below : List Frame} {meth : Method} {c : Code} {H : Heap} {locs : List Loc} {cells slots : Nat} {Q : State → Prop}
variable {cc : ByteArray} {pc : Nat} {ls : Array Slot} {rest : List Value} {w : GP} {f : CS} {A : Nat → Prop} {own : String} {nL : Nat}
variable {y : MethodName} {b : ByteArray} {mL n index : Nat} {ret : Option FieldType} {rm : Room} {As st : List Value} {a : Array Value} {mc ms : Nat}
theorem g_preV (hV : GV w s f H) (j : Nat) (hj : j < 56) {ci N : Nat} {C : String} {T : u_T} {fs : List Value} (he : gE w f j = .inr (ci, fs)) (hc : gcl[ci]? = some (C, T, N)) : PreV s H C (w.2.2.2 j) (gPc w f (.ref (w.2.2.2 j) :: As)) As :=
  ⟨g_blind, va_recv hV.1.1 hV.2.1 hc (by rw [gW_get hj, he]), fun U hU hW => ⟨rfl, by show GV w U f U.heap; rw [hU]; exact hV.moved hW⟩⟩
theorem g_preS (hV : GV w s f H) : PreS s H (gPc w f As) As := ⟨g_blind, fun U hU hW => ⟨rfl, by show GV w U f U.heap; rw [hU]; exact hV.moved hW⟩⟩
theorem g_backR {v : Value} (hr : va_Run p l e R s m args below meth c H locs cells slots 0 0 (F0 m pc ls st) rest (gRd v a) (fun _ => False)) (kk : W p l e R s m args below meth c H locs cells slots Q (F0 m (pc + 3) ls (v :: rest))) : W p l e R s m args below meth c H locs cells slots Q (F0 m pc ls st) := by
  intro T hT X
  obtain ⟨v', st₀, t, T', L, h0, X', hL, e1, e2, ⟨hv, hh⟩, stp⟩ := hr T hT X
  cases hv
  obtain ⟨t2, a1, b1⟩ := kk T' (by rw [e1, hh, h0]) (Stand.forget X' (fun q h => (hL q h).elim))
  exact ⟨t2, stp t2 a1, b1⟩
theorem g_backV (hr : va_Run p l e R s m args below meth c H locs cells slots 0 0 (F0 m pc ls st) rest (gRv a) (fun _ => False)) (kk : W p l e R s m args below meth c H locs cells slots Q (F0 m (pc + 3) ls rest)) : W p l e R s m args below meth c H locs cells slots Q (F0 m pc ls st) := by
  intro T hT X
  obtain ⟨v', st₀, t, T', L, h0, X', hL, e1, e2, ⟨hv, hh⟩, stp⟩ := hr T hT X
  cases hv
  obtain ⟨t2, a1, b1⟩ := kk T' (by rw [e1, hh, h0]) (Stand.forget X' (fun q h => (hL q h).elim))
  exact ⟨t2, stp t2 a1, b1⟩
theorem g_backW {post : Option Value → CS → Prop} (hG : GS w A s H locs f) (hr : va_Run p l e R s m args below meth c H locs cells slots mc ms (F0 m pc ls st) rest (gWr w post a) (gA w)) (kk : ∀ (v : Option Value) (f' : CS) (H1 : Heap) (locs1 : List Loc), post v f' → GS w A s H1 locs1 f' → W p l e R s m args below meth c H1 locs1 (cells + mc) (slots + ms) Q (F0 m (pc + 3) ls (v.toList ++ rest))) : W p l e R s m args below meth c H locs cells slots Q (F0 m pc ls st) := by
  obtain ⟨hV, hS, hA⟩ := hG
  intro T hT X
  obtain ⟨v', st₀, t, T', L, h0, X', hL, e1, e2, ⟨⟨v, f', hv, hp, hgv⟩, hz, hk⟩, stp⟩ := hr T hT X
  cases hv
  rw [h0] at hz hk
  obtain ⟨t2, a1, b1⟩ := kk v' f' T'.heap (locs ++ L) hp ⟨⟨hV.1, by rw [e1]; exact hgv.2.1, hgv.2.2⟩, ⟨Nat.le_trans hS.1 (by rw [e1]; exact hz), fun q h1 h2 => by rw [e1, hk q (Nat.lt_of_lt_of_le h1 hS.1) (fun z => h2 (hA q z))]; exact hS.2.1 q h1 h2, fun q hq => by
    rcases List.mem_append.mp hq with h | h
    · exact hS.2.2 q h
    · exact hA _ (hL q h)⟩, hA⟩ T' rfl X'
  exact ⟨t2, stp t2 a1, b1⟩
theorem g_cb (hts : ∀ w ∈ gw, w.before args s = true) (ok : gOK y b mL ret n) (hlk : Cond.methodLink own index y ∈ gw) (hrc : rm.cells = mc) (hrs : rm.slots = ms) (hR : rm.frames + 1 ≤ R.frames ∧ 8 + (mL + 11) + rm.locals ≤ R.locals) : CallB R s args own index y b mL ret (gws y b mL ret) rm mc ms n :=
  callB_of n hts (g_good ok.1) rfl hrc hrs (hts _ ok.2.1) (hts _ hlk) ok.2.2 hR
theorem g_cn {host : String} (hts : ∀ w ∈ gw, w.before args s = true) (ok : gOK y b mL ret n) (hl : va_Nw (.methodLinkNest own index y host) s) (hrc : rm.cells = mc) (hrs : rm.slots = ms) (hR : rm.frames + 1 ≤ R.frames ∧ 8 + (mL + 11) + rm.locals ≤ R.locals) : va_CN R s args own index y host b mL ret (gws y b mL ret) rm mc ms n :=
  va_cnB n hts (g_good ok.1) rfl hrc hrs hl (hts _ ok.2.1) ok.2.2 hR
/-- a call of a method of the object j, that only reads -/
theorem g_callV (S : CallFix p m c cc nL s args gw own) (hV : GV w s f H) (j : Nat) (hj : j < 56) {ci N : Nat} {T : u_T} {fs : List Value} {v : Value} (he : gE w f j = .inr (ci, fs)) (hc : gcl[ci]? = some (y.cls, T, N)) (ok : gOK y b mL ret n) (hin : Cond.instanceMethod y ∈ gw) (hse : Cond.selects y.cls y y ∈ gw) (hlk : Cond.methodLink own index y ∈ gw)
    (hM : Met l y (gws y b mL ret) rm (gPc w f (.ref (w.2.2.2 j) :: As)) (gRd v) 0 0 (fun _ => False)) (hrm : rm.cells = 0 ∧ rm.slots = 0) (hR : rm.frames + 1 ≤ R.frames ∧ 8 + (mL + 11) + rm.locals ≤ R.locals) (hn : As.length = n) (hsz : ls.size = nL) (hst : st = As.reverse ++ .ref (w.2.2.2 j) :: rest) (hW : (rest.map fun v => v.category).sum ≤ 8) (hcs : cells ≤ R.cells ∧ slots ≤ R.slots) (hdg : decode cc pc = .ok (.invokevirtual index, 3))
    (kk : W p l e R s m args below meth c H locs cells slots Q (F0 m (pc + 3) ls (v :: rest))) : W p l e R s m args below meth c H locs cells slots Q (F0 m pc ls st) :=
  g_backR (va_runV S hM ⟨g_cb S.2.2.2.2 ok hlk hrm.1 hrm.2 hR, S.2.2.2.2 _ hin, S.2.2.2.2 _ hse⟩ (g_preV hV j hj he hc) rfl hn hsz hst (lv_room hW) hdg hcs) kk
/-- the same of a static method -/
theorem g_callS (S : CallFix p m c cc nL s args gw own) (hV : GV w s f H) {v : Value} (ok : gOK y b mL ret n) (hin : Cond.static y ∈ gw) (hlk : Cond.methodLink own index y ∈ gw)
    (hM : Met l y (gws y b mL ret) rm (gPc w f As) (gRd v) 0 0 (fun _ => False)) (hrm : rm.cells = 0 ∧ rm.slots = 0) (hR : rm.frames + 1 ≤ R.frames ∧ 8 + (mL + 11) + rm.locals ≤ R.locals) (hn : As.length = n) (hsz : ls.size = nL) (hst : st = As.reverse ++ rest) (hW : (rest.map fun v => v.category).sum ≤ 8) (hcs : cells ≤ R.cells ∧ slots ≤ R.slots) (hdg : decode cc pc = .ok (.invokestatic index, 3))
    (kk : W p l e R s m args below meth c H locs cells slots Q (F0 m (pc + 3) ls (v :: rest))) : W p l e R s m args below meth c H locs cells slots Q (F0 m pc ls st) :=
  g_backR (va_runS S hM ⟨g_cb S.2.2.2.2 ok hlk hrm.1 hrm.2 hR, S.2.2.2.2 _ hin⟩ (g_preS hV) rfl hn hsz hst (lv_room hW) hdg hcs) kk
/-- the same of a static method of a nest mate -/
theorem g_callN {host : String} (S : CallFix p m c cc nL s args gw own) (hV : GV w s f H) {v : Value} (ok : gOK y b mL ret n) (hin : Cond.static y ∈ gw) (hlk : va_Nw (.methodLinkNest own index y host) s)
    (hM : Met l y (gws y b mL ret) rm (gPc w f As) (gRd v) 0 0 (fun _ => False)) (hrm : rm.cells = 0 ∧ rm.slots = 0) (hR : rm.frames + 1 ≤ R.frames ∧ 8 + (mL + 11) + rm.locals ≤ R.locals) (hn : As.length = n) (hsz : ls.size = nL) (hst : st = As.reverse ++ rest) (hW : (rest.map fun v => v.category).sum ≤ 8) (hcs : cells ≤ R.cells ∧ slots ≤ R.slots) (hdg : decode cc pc = .ok (.invokestatic index, 3))
    (kk : W p l e R s m args below meth c H locs cells slots Q (F0 m (pc + 3) ls (v :: rest))) : W p l e R s m args below meth c H locs cells slots Q (F0 m pc ls st) :=
  g_backR (va_runSN S hM ⟨g_cn S.2.2.2.2 ok hlk hrm.1 hrm.2 hR, S.2.2.2.2 _ hin, trivial⟩ (g_preS hV) rfl hn hsz hst (lv_room hW) hdg hcs) kk
/-- a call of a method of the object j without an answer, that only reads (and returns) -/
theorem g_callVv (S : CallFix p m c cc nL s args gw own) (hV : GV w s f H) (j : Nat) (hj : j < 56) {ci N : Nat} {T : u_T} {fs : List Value} (he : gE w f j = .inr (ci, fs)) (hc : gcl[ci]? = some (y.cls, T, N)) (ok : gOK y b mL ret n) (hin : Cond.instanceMethod y ∈ gw) (hse : Cond.selects y.cls y y ∈ gw) (hlk : Cond.methodLink own index y ∈ gw)
    (hM : Met l y (gws y b mL ret) rm (gPc w f (.ref (w.2.2.2 j) :: As)) gRv 0 0 (fun _ => False)) (hrm : rm.cells = 0 ∧ rm.slots = 0) (hR : rm.frames + 1 ≤ R.frames ∧ 8 + (mL + 11) + rm.locals ≤ R.locals) (hn : As.length = n) (hsz : ls.size = nL) (hst : st = As.reverse ++ .ref (w.2.2.2 j) :: rest) (hW : (rest.map fun v => v.category).sum ≤ 8) (hcs : cells ≤ R.cells ∧ slots ≤ R.slots) (hdg : decode cc pc = .ok (.invokevirtual index, 3))
    (kk : W p l e R s m args below meth c H locs cells slots Q (F0 m (pc + 3) ls rest)) : W p l e R s m args below meth c H locs cells slots Q (F0 m pc ls st) :=
  g_backV (va_runV S hM ⟨g_cb S.2.2.2.2 ok hlk hrm.1 hrm.2 hR, S.2.2.2.2 _ hin, S.2.2.2.2 _ hse⟩ (g_preV hV j hj he hc) rfl hn hsz hst (lv_room hW) hdg hcs) kk
/-- a call of a method of the object j that writes the world -/
theorem g_callW (S : CallFix p m c cc nL s args gw own) (hG : GS w A s H locs f) (j : Nat) (hj : j < 56) {ci N : Nat} {T : u_T} {fs : List Value} {post : Option Value → CS → Prop} (he : gE w f j = .inr (ci, fs)) (hc : gcl[ci]? = some (y.cls, T, N)) (ok : gOK y b mL ret n) (hin : Cond.instanceMethod y ∈ gw) (hse : Cond.selects y.cls y y ∈ gw) (hlk : Cond.methodLink own index y ∈ gw)
    (hM : Met l y (gws y b mL ret) rm (gPc w f (.ref (w.2.2.2 j) :: As)) (gWr w post) 0 0 (gA w)) (hrm : rm.cells = 0 ∧ rm.slots = 0) (hR : rm.frames + 1 ≤ R.frames ∧ 8 + (mL + 11) + rm.locals ≤ R.locals) (hn : As.length = n) (hsz : ls.size = nL) (hst : st = As.reverse ++ .ref (w.2.2.2 j) :: rest) (hW : (rest.map fun v => v.category).sum ≤ 8) (hcs : cells ≤ R.cells ∧ slots ≤ R.slots) (hdg : decode cc pc = .ok (.invokevirtual index, 3))
    (kk : ∀ (v : Option Value) (f' : CS) (H1 : Heap) (locs1 : List Loc), post v f' → GS w A s H1 locs1 f' → W p l e R s m args below meth c H1 locs1 cells slots Q (F0 m (pc + 3) ls (v.toList ++ rest))) : W p l e R s m args below meth c H locs cells slots Q (F0 m pc ls st) :=
  g_backW hG (va_runV S hM ⟨g_cb S.2.2.2.2 ok hlk hrm.1 hrm.2 hR, S.2.2.2.2 _ hin, S.2.2.2.2 _ hse⟩ (g_preV hG.1 j hj he hc) rfl hn hsz hst (lv_room hW) hdg hcs) kk
end GC
/-- from the last to the first: a loop that counts up -/
theorem g_for {P : Nat → Prop} (N : Nat) (step : ∀ k, k < N → P (k + 1) → P k) (last : P N) : ∀ k, k ≤ N → P k := by
  intro k hk
  obtain ⟨d, rfl⟩ := Nat.le.dest hk
  induction d generalizing k with
  | zero => exact last
  | succ d ih => exact step k (by omega) (by
      have h : k + (d + 1) = (k + 1) + d := by omega
      rw [h] at last step
      exact ih (k + 1) step last (by omega))
/-- a method's walk: what holds at its entry -/
def Gx (p : Program) (c : Code) (cc : ByteArray) (nL : Nat) (s : State) (args : Array Value) (own : String) (m : MethodId) (meth : Method) (ret : Option FieldType) : Prop := CallFix p m c cc nL s args gw own ∧ meth.sig.returnType = ret ∧ meth.locks = false
theorem g_read {l : Launch} {y : MethodName} {b : ByteArray} {mL : Nat} {ret : Option FieldType} {rm : Room} {av : List Value} {w : GP} {f : CS} {Qc : Array Value → State → Outcome → State → Prop} {fr : Nat → Prop} (hy : plainName y.cls = true) (hsz : (lg_sl av).length ≤ mL)
    (body : ∀ (p : Program) (e : Env) (s : State) (m : MethodId) (below : List Frame) (meth : Method) (c : Code) (ls : Array Slot), Gx p c b mL s av.toArray y.cls m meth ret → GV w s f s.heap → lv_has ls mL (lv_args 0 av) → W p l e rm s m av.toArray below meth c s.heap [] 0 0 (MQ below Qc av.toArray s 0 0 fr) (F0 m 0 ls [])) :
    Met l y (gws y b mL ret) rm (gPc w f av) Qc 0 0 fr := by
  refine Met.ofW (cc := b) (maxL := mL) (ret := ret) hy rfl ?_
  intro p e s m args below meth c s₁ B hml hv
  obtain ⟨rfl, hV⟩ := hv
  rw [lg_entry_eq]
  exact body p e s m below meth c _ ⟨⟨B.exec, B.bytes, hml, findClass_of_methodNamed B.named, fun v hv => atoms_spec (ws := gws y b mL ret) B.pre v (List.mem_cons_of_mem _ hv)⟩, B.returns, B.notSynchronized⟩ hV (lv_entry av hsz)
section GE
variable {p : Program} {l : Launch} {e : Env} {R : Room} {s : State} {m : MethodId} {args : Array Value} {below : List Frame} {meth : Method} {c : Code} {H : Heap} {locs : List Loc} {cells slots : Nat}
variable {cc : ByteArray} {pc : Nat} {ls : Array Slot} {w : GP} {f : CS} {own : String} {nL : Nat} {fr : Nat → Prop}
theorem g_iret (G : Gx p c cc nL s args own m meth (some .int)) {v : Int32} {r : Value} (hv : Value.int v = r) (hdg : decode cc pc = .ok (.ireturn, 1)) : W p l e R s m args below meth c s.heap [] 0 0 (MQ below (gRd r) args s 0 0 fr) (F0 m pc ls [.int v]) :=
  W.iret G.1.1 G.1.2.1 G.2.1 (fun t ht _ => ⟨by rw [hv], ht⟩) (fun q hq => absurd hq List.not_mem_nil) hdg G.2.2
theorem g_zret (G : Gx p c cc nL s args own m meth (some .boolean)) {v : Int32} {r : Value} (hv : Value.int v = r) (hn : v = 0 ∨ v = 1) (hdg : decode cc pc = .ok (.ireturn, 1)) : W p l e R s m args below meth c s.heap [] 0 0 (MQ below (gRd r) args s 0 0 fr) (F0 m pc ls [.int v]) :=
  W.zret (ty := .boolean) G.1.1 G.1.2.1 G.2.1 (by rcases hn with rfl | rfl <;> decide) (fun t ht _ => ⟨by rw [hv], ht⟩) (fun q hq => absurd hq List.not_mem_nil) hdg G.2.2
theorem g_lret (G : Gx p c cc nL s args own m meth (some .long)) {v : Int64} {r : Value} (hv : Value.long v = r) (hdg : decode cc pc = .ok (.lreturn, 1)) : W p l e R s m args below meth c s.heap [] 0 0 (MQ below (gRd r) args s 0 0 fr) (F0 m pc ls [.long v]) :=
  W.lret G.1.1 G.1.2.1 G.2.1 (fun t ht _ => ⟨by rw [hv], ht⟩) (fun q hq => absurd hq List.not_mem_nil) hdg G.2.2
theorem g_dret (G : Gx p c cc nL s args own m meth (some .double)) {v : UInt64} {r : Value} (hv : Value.double v = r) (hdg : decode cc pc = .ok (.dreturn, 1)) : W p l e R s m args below meth c s.heap [] 0 0 (MQ below (gRd r) args s 0 0 fr) (F0 m pc ls [.double v]) :=
  W.dret G.1.1 G.1.2.1 G.2.1 (fun t ht _ => ⟨by rw [hv], ht⟩) (fun q hq => absurd hq List.not_mem_nil) hdg G.2.2
theorem g_vret (G : Gx p c cc nL s args own m meth none) (hdg : decode cc pc = .ok (.return_, 1)) : W p l e R s m args below meth c s.heap [] 0 0 (MQ below gRv args s 0 0 fr) (F0 m pc ls []) :=
  W.vret G.1.1 G.1.2.1 G.2.1 (fun t ht _ => ⟨rfl, ht⟩) (fun q hq => absurd hq List.not_mem_nil) hdg G.2.2
theorem g_iretW (G : Gx p c cc nL s args own m meth (some .int)) (hG : GS w (gA w) s H locs f) {v : Int32} {post : Option Value → CS → Prop} (hv : post (some (.int v)) f) (hdg : decode cc pc = .ok (.ireturn, 1)) : W p l e R s m args below meth c H locs 0 0 (MQ below (gWr w post) args s 0 0 (gA w)) (F0 m pc ls [.int v]) :=
  W.iret G.1.1 G.1.2.1 G.2.1 (fun t ht hW => ⟨⟨_, f, rfl, hv, by rw [ht]; exact hG.1.moved hW⟩, hG.2.1.F ht⟩) hG.2.1.2.2 hdg G.2.2
theorem g_vretW (G : Gx p c cc nL s args own m meth none) (hG : GS w (gA w) s H locs f) {post : Option Value → CS → Prop} (hv : post none f) (hdg : decode cc pc = .ok (.return_, 1)) : W p l e R s m args below meth c H locs 0 0 (MQ below (gWr w post) args s 0 0 (gA w)) (F0 m pc ls []) :=
  W.vret G.1.1 G.1.2.1 G.2.1 (fun t ht hW => ⟨⟨_, f, rfl, hv, by rw [ht]; exact hG.1.moved hW⟩, hG.2.1.F ht⟩) hG.2.1.2.2 hdg G.2.2
end GE
theorem g_inc (k n : Nat) : nI k + Int32.ofInt (n : Int) = nI (k + n) := by
  show Int32.ofNat k + Int32.ofInt (n : Int) = Int32.ofNat (k + n)
  rw [Int32.ofInt_eq_ofNat, ← Int32.ofNat_add]
theorem g_nn {C : Prop} [Decidable C] : (if C then (1 : Int32) else 0) = 0 ∨ (if C then (1 : Int32) else 0) = 1 := by
  by_cases h : C
  · exact Or.inr (if_pos h)
  · exact Or.inl (if_neg h)
theorem g_if0 {C : Prop} [Decidable C] : (if C then (1 : Int32) else 0) = 0 ↔ ¬ C := by
  by_cases h : C
  · rw [if_pos h]; exact ⟨fun q => absurd q (by decide), fun q => absurd h q⟩
  · rw [if_neg h]; exact ⟨fun _ => h, fun _ => rfl⟩
theorem g_if1 {C : Prop} [Decidable C] : ¬ (if C then (1 : Int32) else 0) = 0 ↔ C := by
  rw [g_if0]; exact Decidable.not_not
theorem g_le {a b : Nat} (ha : a < 2 ^ 31) (hb : b < 2 ^ 31) : nI a ≤ nI b ↔ a ≤ b := ⟨fun h => Nat.not_lt.mp fun q => absurd h (nI_ge q ha), fun h => nI_le h hb⟩
theorem g_lt {a b : Nat} (ha : a < 2 ^ 31) (hb : b < 2 ^ 31) : nI a < nI b ↔ a < b := ⟨fun h => Nat.not_le.mp fun q => absurd h (nI_nlt q ha), fun h => nI_lt h hb⟩
theorem g_eq {a b : Nat} (ha : a < 2 ^ 31) (hb : b < 2 ^ 31) : nI a = nI b ↔ a = b := ⟨fun h => by
  have := congrArg Int32.toNatClampNeg h
  rwa [nI_clamp ha, nI_clamp hb] at this, fun h => by rw [h]⟩
/-- the numbers of a world -/
def nT (f : CS) : Nat := (f 0 1).toNatClampNeg
def nC (f : CS) : Nat := (f 0 0).toNatClampNeg
def nD (f : CS) : Nat := (f 0 2).toNatClampNeg
def nL (f : CS) (t : Nat) : Nat := (f 11 t).toNatClampNeg
def gI (f : CS) : Prop := (f 0 1 = nI (nT f) ∧ nT f ≤ 24) ∧ (f 0 0 = nI (nC f) ∧ nC f ≤ 12) ∧ (f 0 2 = nI (nD f) ∧ nD f ≤ 6) ∧ ∀ t, t < 18 → f 11 t = nI (nL f t) ∧ nL f t ≤ 12
end
section
theorem gid_13 {t : Nat} (h : t < 3) : gid (13 + t) = 60 + t := by
  unfold gid; rw [if_neg (by omega), if_pos (by omega)]; omega
theorem gid_19 {t : Nat} (h : t < 18) : gid (19 + t) = 20 + t := by
  unfold gid; rw [if_neg (by omega), if_neg (by omega), if_neg (by omega), if_pos (by omega)]; omega
theorem gid_38 {t : Nat} (h : t < 18) : gid (38 + t) = 40 + t := by
  unfold gid; rw [if_neg (by omega), if_neg (by omega), if_neg (by omega), if_neg (by omega)]; omega
theorem gn_13 {t : Nat} (h : t < 3) : gn (13 + t) = 20 := by
  unfold gn; rw [if_neg (by omega), if_neg (by omega), if_pos (by omega)]
theorem gn_19 {t : Nat} (h : t < 18) : gn (19 + t) = 12 := by
  unfold gn; rw [if_neg (by omega), if_neg (by omega), if_neg (by omega), if_neg (by omega)]
theorem gn_38 {t : Nat} (h : t < 18) : gn (38 + t) = 12 := by
  unfold gn; rw [if_neg (by omega), if_neg (by omega), if_neg (by omega), if_neg (by omega)]
section GM
variable {p : Program} {l : Launch} {e : Env} {R : Room} {s : State} {m : MethodId} {args : Array Value} {below : List Frame} {meth : Method} {c : Code} {H : Heap} {locs : List Loc} {cells slots : Nat} {Q : State → Prop}
variable {cc : ByteArray} {pc : Nat} {ls : Array Slot} {rest : List Value} {a b : Nat}
theorem g_iaddn (hx : p.tables.exec = Jvm.exec) (hb : c.code = cc) (hdg : decode cc pc = .ok (.iadd, 1)) (k : W p l e R s m args below meth c H locs cells slots Q (F0 m (pc + 1) ls (.int (nI (a + b)) :: rest))) : W p l e R s m args below meth c H locs cells slots Q (F0 m pc ls (.int (nI b) :: .int (nI a) :: rest)) :=
  lv_iadd hx hb hdg (by rw [show nI a + nI b = nI (a + b) from (Int32.ofNat_add a b).symm]; exact k)
theorem g_imuln (hx : p.tables.exec = Jvm.exec) (hb : c.code = cc) (hdg : decode cc pc = .ok (.imul, 1)) (k : W p l e R s m args below meth c H locs cells slots Q (F0 m (pc + 1) ls (.int (nI (a * b)) :: rest))) : W p l e R s m args below meth c H locs cells slots Q (F0 m pc ls (.int (nI b) :: .int (nI a) :: rest)) :=
  lv_imul hx hb hdg (by rw [show nI a * nI b = nI (a * b) from (Int32.ofNat_mul a b).symm]; exact k)
end GM
theorem nz {x : Int32} {n : Nat} (h0 : 0 ≤ x) (h : x < nI n) (hn : n < 2 ^ 31) : ∃ u, u < n ∧ x = nI u := by
  have e : (0 : Int) ≤ x.toInt := Int32.le_iff_toInt_le.mp h0
  refine ⟨x.toNatClampNeg, ?_, ?_⟩
  · have h1 := Int32.lt_iff_toInt_lt.mp h
    rw [nI_toInt hn] at h1
    show x.toInt.toNat < n
    omega
  · apply Int32.toInt_inj.mp
    have hb : x.toNatClampNeg < 2 ^ 31 := by
      have h1 := Int32.lt_iff_toInt_lt.mp h
      rw [nI_toInt hn] at h1
      show x.toInt.toNat < 2 ^ 31
      omega
    rw [nI_toInt hb]
    show x.toInt = ((x.toInt.toNat : Nat) : Int)
    omega
theorem gz1 {C : Prop} [Decidable C] (h : C) : Value.int (nI 1) = Value.int (if C then 1 else 0) := by rw [if_pos h]; rfl
theorem gz0 {C : Prop} [Decidable C] (h : ¬ C) : Value.int (nI 0) = Value.int (if C then 1 else 0) := by rw [if_neg h]; rfl
/-! What the methods answer, told once more over f. -/
def ct (p : Nat → Bool) : Nat → Nat
  | 0 => 0
  | n + 1 => ct p n + (if p n then 1 else 0)
theorem ct_y {p : Nat → Bool} {n : Nat} (h : p n = true) : ct p (n + 1) = ct p n + 1 := by simp [ct, h]
theorem ct_n {p : Nat → Bool} {n : Nat} (h : ¬ p n = true) : ct p (n + 1) = ct p n := by simp [ct, h]
theorem ct_le (p : Nat → Bool) : ∀ n, ct p n ≤ n
  | 0 => Nat.le_refl 0
  | n + 1 => by
    have := ct_le p n
    unfold ct
    split <;> omega
def aT (p : Nat → Bool) : Nat → Bool
  | 0 => false
  | n + 1 => aT p n || p n
theorem aT_iff {p : Nat → Bool} : ∀ {n : Nat}, aT p n = true ↔ ∃ t, t < n ∧ p t = true
  | 0 => ⟨fun h => absurd h (by unfold aT; decide), fun ⟨_, h, _⟩ => absurd h (Nat.not_lt_zero _)⟩
  | n + 1 => by
    unfold aT
    rw [Bool.or_eq_true, aT_iff]
    constructor
    · rintro (⟨t, h1, h2⟩ | h)
      · exact ⟨t, by omega, h2⟩
      · exact ⟨n, by omega, h⟩
    · rintro ⟨t, h1, h2⟩
      by_cases e : t = n
      · subst e; exact Or.inr h2
      · exact Or.inl ⟨t, by omega, h2⟩
def bit (k : Nat) : Int32 := nI 1 <<< (nI k &&& 31)
def mk (p : Nat → Bool) : Nat → Int32
  | 0 => 0
  | n + 1 => if p n then mk p n ||| bit n else mk p n
def hs (x y : Int32) : Bool := decide (¬ ((x >>> (y &&& 31)) &&& nI 1) = 0)
/-- the first place of n that p holds at, or n -/
def fst (p : Nat → Bool) (n : Nat) : Nat := ((List.range n).find? p).getD n
theorem fst_ex {p : Nat → Bool} {n k : Nat} (hk : k < n) (hp : p k = true) (ho : ∀ t, t < k → ¬ p t = true) : fst p n = k := by
  have : (List.range n).find? p = some k := by
    rw [List.find?_eq_some_iff_getElem]
    refine ⟨hp, k, by simpa using hk, by simp, ?_⟩
    intro j hj
    have := ho j hj
    simpa using this
  simp [fst, this]
theorem fst_no {p : Nat → Bool} {n : Nat} (ho : ∀ t, t < n → ¬ p t = true) : fst p n = n := by
  have : (List.range n).find? p = none := by
    rw [List.find?_eq_none]
    intro x hx
    exact ho x (List.mem_range.mp hx)
  simp [fst, this]
theorem fst_cases (p : Nat → Bool) (n : Nat) : (fst p n < n ∧ p (fst p n) = true ∧ ∀ t, t < fst p n → ¬ p t = true) ∨ (fst p n = n ∧ ∀ t, t < n → ¬ p t = true) := by
  cases h : (List.range n).find? p with
  | none =>
    rw [List.find?_eq_none] at h
    exact Or.inr ⟨fst_no (fun t ht => h t (List.mem_range.mpr ht)), fun t ht => h t (List.mem_range.mpr ht)⟩
  | some k =>
    rw [List.find?_eq_some_iff_getElem] at h
    obtain ⟨hp, i, hi, he, ho⟩ := h
    have hi' : i < n := by simpa using hi
    have he' : i = k := by simpa using he
    subst he'
    have e := fst_ex hi' hp (fun t ht => by have := ho t ht; simpa using this)
    rw [e]
    exact Or.inl ⟨hi', hp, fun t ht => by have := ho t ht; simpa using this⟩
/-- isConcept, isTerm of any number -/
abbrev isC (f : CS) (x : Int32) : Prop := 0 ≤ x ∧ x < nI (nC f)
abbrev isT (f : CS) (x : Int32) : Prop := 0 ≤ x ∧ x < nI (nT f)
abbrev isS (g x : Int32) : Prop := (0 ≤ g ∧ g < nI 3) ∧ 0 ≤ x ∧ x < nI 20
def hasT (f : CS) (c g x : Int32) : Bool := aT (fun t => decide (f 2 t = c ∧ f 3 t = g ∧ f 4 t = x)) (nT f)
def prT (f : CS) (c g : Int32) : Nat := fst (fun t => decide (f 2 t = c ∧ f 3 t = g ∧ f 5 t = nI 2)) (nT f)
/-- the PREFERRED one of a CONCEPT in a LANGUAGE, or -1 -/
def prI (f : CS) (c g : Int32) : Int32 := if prT f c g < nT f then nI (prT f c g) else -1
def due (f : CS) (d : Int32) : Int32 := mk (fun t => decide (f 5 t = nI 3 ∧ f 8 t + f 9 t ≤ d)) (nT f)
def ofC (f : CS) (c : Int32) : Int32 := mk (fun t => decide (f 2 t = c)) (nT f)
abbrev canJ (f : CS) (a b : Int32) : Prop := aT (fun t => decide (f 2 t = a) && hasT f b (f 3 t) (f 4 t)) (nT f) = false
abbrev canB (f : CS) (t : Nat) : Prop := f 5 t = nI 1 ∨ f 5 t = nI 2
/-- the set of what a form of a language can be -/
def cb (f : CS) (g : Nat) (x : Int32) : Int32 := if 0 ≤ x / nI 4 ∧ x / nI 4 < nI 20 then f (60 + g) (x / nI 4).toNatClampNeg else 0
def own (f : CS) (t : Nat) (mv kp : Int32) : Int32 := if f 2 t = mv then kp else f 2 t
def domI (f : CS) (t : Nat) (mv kp : Int32) : Int32 := if isC f (own f t mv kp) then f 1 (own f t mv kp).toNatClampNeg else -1
end
section
theorem ok_X2_has : gOK yX2_has cX2_has 2 (some .boolean) 2 := ⟨gm_19, gm_18, by decide +kernel⟩
set_option maxRecDepth 100000 in
set_option maxHeartbeats 4000000 in
theorem c_X2_has (l : Launch) (w : GP) (f : CS) (x : Int32) (y : Int32)   : Met l yX2_has (gws yX2_has cX2_has 2 (some .boolean)) ({ frames := 0, cells := 0, slots := 0, locals := 0 }) (gPc w f [.int x, .int y]) (gRd (.int (if hs x y = true then 1 else 0))) 0 0 (fun _ => False) := by
  refine g_read (by decide) (Nat.le_of_ble_eq_true rfl) ?_
  intro P_ E_ S_ M_ B_ T_ C_ ls G hV hl
  obtain ⟨hx, hb, hml, hown, hts⟩ := id G.1
  have hl : lv_has ls 2 [(0, .int x), (1, .int y)] := hl
  refine lv_iload_n hx hb dX2_has_0 rfl (lv_at hl 0 rfl) ?_
  refine lv_iload_n hx hb dX2_has_1 rfl (lv_at hl 1 rfl) ?_
  refine lv_ishr hx hb dX2_has_2 ?_
  refine lv_iconst (v := nI 1) hx hb dX2_has_3 (by decide) ?_
  refine lv_iand hx hb dX2_has_4 ?_
  refine lv_if_eq (tgt := 12) hx hb dX2_has_5 (by decide) (fun c5 => ?_) (fun c5 => ?_)
  · skip
    refine lv_iconst (v := nI 0) hx hb dX2_has_12 (by decide) ?_
    exact g_zret G (gz0 (fun q => by have := of_decide_eq_true q; exact this c5)) (by decide) dX2_has_13
  · skip
    refine lv_iconst (v := nI 1) hx hb dX2_has_8 (by decide) ?_
    refine lv_goto (tgt := 13) hx hb dX2_has_9 (by decide) ?_
    exact g_zret G (gz1 (decide_eq_true c5)) (by decide) dX2_has_13
theorem ok_X0_isConcept : gOK yX0_isConcept cX0_isConcept 2 (some .boolean) 1 := ⟨gm_62, gm_25, by decide +kernel⟩
set_option maxRecDepth 100000 in
set_option maxHeartbeats 4000000 in
theorem c_X0_isConcept (l : Launch) (w : GP) (f : CS) (x : Int32) (hI : gI f)  : Met l yX0_isConcept (gws yX0_isConcept cX0_isConcept 2 (some .boolean)) ({ frames := 0, cells := 0, slots := 0, locals := 0 }) (gPc w f [.ref (w.2.2.2 1), .int x]) (gRd (.int (if 0 ≤ x ∧ x < nI (nC f) then 1 else 0))) 0 0 (fun _ => False) := by
  refine g_read (by decide) (Nat.le_of_ble_eq_true rfl) ?_
  intro P_ E_ S_ M_ B_ T_ C_ ls G hV hl
  obtain ⟨hx, hb, hml, hown, hts⟩ := id G.1
  obtain ⟨⟨hT, hT24⟩, ⟨hC, hC12⟩, ⟨hD, hD6⟩, hLn⟩ := id hI
  have hl : lv_has ls 2 [(0, .ref (w.2.2.2 1)), (1, .int x)] := hl
  refine lv_iload_n hx hb dX0_isConcept_0 rfl (lv_at hl 1 rfl) ?_
  refine lv_if_lt (tgt := 16) hx hb dX0_isConcept_1 (by decide) (fun c1 => ?_) (fun c1 => ?_)
  · skip
    refine lv_iconst (v := nI 0) hx hb dX0_isConcept_16 (by decide) ?_
    exact g_zret G (gz0 (fun q => absurd q.1 (Int32.not_le.mpr c1))) (by decide) dX0_isConcept_17
  · skip
    refine lv_iload_n hx hb dX0_isConcept_4 rfl (lv_at hl 1 rfl) ?_
    refine lv_aload_n hx hb dX0_isConcept_5 rfl (lv_at hl 0 rfl) ?_
    refine g_get hx hb hts hown hV 1 0 (by decide) (v := .int (nI (nC f))) rfl rfl gin0 (by decide) gm_3 (by rw [← hC]; rfl) dX0_isConcept_6 ?_
    refine lv_icmp_ge (tgt := 16) hx hb dX0_isConcept_9 (by decide) (fun c9 => ?_) (fun c9 => ?_)
    · skip
      refine lv_iconst (v := nI 0) hx hb dX0_isConcept_16 (by decide) ?_
      exact g_zret G (gz0 (fun q => absurd q.2 (Int32.not_lt.mpr c9))) (by decide) dX0_isConcept_17
    · skip
      refine lv_iconst (v := nI 1) hx hb dX0_isConcept_12 (by decide) ?_
      refine lv_goto (tgt := 17) hx hb dX0_isConcept_13 (by decide) ?_
      exact g_zret G (gz1 ⟨Int32.not_lt.mp c1, Int32.not_le.mp c9⟩) (by decide) dX0_isConcept_17
theorem ok_X0_isTerm : gOK yX0_isTerm cX0_isTerm 2 (some .boolean) 1 := ⟨gm_42, gm_25, by decide +kernel⟩
set_option maxRecDepth 100000 in
set_option maxHeartbeats 4000000 in
theorem c_X0_isTerm (l : Launch) (w : GP) (f : CS) (x : Int32) (hI : gI f)  : Met l yX0_isTerm (gws yX0_isTerm cX0_isTerm 2 (some .boolean)) ({ frames := 0, cells := 0, slots := 0, locals := 0 }) (gPc w f [.ref (w.2.2.2 1), .int x]) (gRd (.int (if 0 ≤ x ∧ x < nI (nT f) then 1 else 0))) 0 0 (fun _ => False) := by
  refine g_read (by decide) (Nat.le_of_ble_eq_true rfl) ?_
  intro P_ E_ S_ M_ B_ T_ C_ ls G hV hl
  obtain ⟨hx, hb, hml, hown, hts⟩ := id G.1
  obtain ⟨⟨hT, hT24⟩, ⟨hC, hC12⟩, ⟨hD, hD6⟩, hLn⟩ := id hI
  have hl : lv_has ls 2 [(0, .ref (w.2.2.2 1)), (1, .int x)] := hl
  refine lv_iload_n hx hb dX0_isTerm_0 rfl (lv_at hl 1 rfl) ?_
  refine lv_if_lt (tgt := 16) hx hb dX0_isTerm_1 (by decide) (fun c1 => ?_) (fun c1 => ?_)
  · skip
    refine lv_iconst (v := nI 0) hx hb dX0_isTerm_16 (by decide) ?_
    exact g_zret G (gz0 (fun q => absurd q.1 (Int32.not_le.mpr c1))) (by decide) dX0_isTerm_17
  · skip
    refine lv_iload_n hx hb dX0_isTerm_4 rfl (lv_at hl 1 rfl) ?_
    refine lv_aload_n hx hb dX0_isTerm_5 rfl (lv_at hl 0 rfl) ?_
    refine g_get hx hb hts hown hV 1 1 (by decide) (v := .int (nI (nT f))) rfl rfl gin0 (by decide) gm_4 (by rw [← hT]; rfl) dX0_isTerm_6 ?_
    refine lv_icmp_ge (tgt := 16) hx hb dX0_isTerm_9 (by decide) (fun c9 => ?_) (fun c9 => ?_)
    · skip
      refine lv_iconst (v := nI 0) hx hb dX0_isTerm_16 (by decide) ?_
      exact g_zret G (gz0 (fun q => absurd q.2 (Int32.not_lt.mpr c9))) (by decide) dX0_isTerm_17
    · skip
      refine lv_iconst (v := nI 1) hx hb dX0_isTerm_12 (by decide) ?_
      refine lv_goto (tgt := 17) hx hb dX0_isTerm_13 (by decide) ?_
      exact g_zret G (gz1 ⟨Int32.not_lt.mp c1, Int32.not_le.mp c9⟩) (by decide) dX0_isTerm_17
theorem ok_X0_isStem : gOK yX0_isStem cX0_isStem 2 (some .boolean) 2 := ⟨gm_26, gm_25, by decide +kernel⟩
set_option maxRecDepth 100000 in
set_option maxHeartbeats 4000000 in
theorem c_X0_isStem (l : Launch) (w : GP) (f : CS) (g : Int32) (x : Int32)   : Met l yX0_isStem (gws yX0_isStem cX0_isStem 2 (some .boolean)) ({ frames := 0, cells := 0, slots := 0, locals := 0 }) (gPc w f [.int g, .int x]) (gRd (.int (if isS g x then 1 else 0))) 0 0 (fun _ => False) := by
  refine g_read (by decide) (Nat.le_of_ble_eq_true rfl) ?_
  intro P_ E_ S_ M_ B_ T_ C_ ls G hV hl
  obtain ⟨hx, hb, hml, hown, hts⟩ := id G.1
  have hl : lv_has ls 2 [(0, .int g), (1, .int x)] := hl
  refine lv_iload_n hx hb dX0_isStem_0 rfl (lv_at hl 0 rfl) ?_
  refine lv_if_lt (tgt := 23) hx hb dX0_isStem_1 (by decide) (fun c1 => ?_) (fun c1 => ?_)
  · skip
    refine lv_iconst (v := nI 0) hx hb dX0_isStem_23 (by decide) ?_
    exact g_zret G (gz0 (fun q => absurd q.1.1 (Int32.not_le.mpr c1))) (by decide) dX0_isStem_24
  · skip
    refine lv_iload_n hx hb dX0_isStem_4 rfl (lv_at hl 0 rfl) ?_
    refine lv_iconst (v := nI 3) hx hb dX0_isStem_5 (by decide) ?_
    refine lv_icmp_ge (tgt := 23) hx hb dX0_isStem_6 (by decide) (fun c6 => ?_) (fun c6 => ?_)
    · skip
      refine lv_iconst (v := nI 0) hx hb dX0_isStem_23 (by decide) ?_
      exact g_zret G (gz0 (fun q => absurd q.1.2 (Int32.not_lt.mpr c6))) (by decide) dX0_isStem_24
    · skip
      refine lv_iload_n hx hb dX0_isStem_9 rfl (lv_at hl 1 rfl) ?_
      refine lv_if_lt (tgt := 23) hx hb dX0_isStem_10 (by decide) (fun c10 => ?_) (fun c10 => ?_)
      · skip
        refine lv_iconst (v := nI 0) hx hb dX0_isStem_23 (by decide) ?_
        exact g_zret G (gz0 (fun q => absurd q.2.1 (Int32.not_le.mpr c10))) (by decide) dX0_isStem_24
      · skip
        refine lv_iload_n hx hb dX0_isStem_13 rfl (lv_at hl 1 rfl) ?_
        refine lv_bipush (v := nI 20) hx hb dX0_isStem_14 (by decide) ?_
        refine lv_icmp_ge (tgt := 23) hx hb dX0_isStem_16 (by decide) (fun c16 => ?_) (fun c16 => ?_)
        · skip
          refine lv_iconst (v := nI 0) hx hb dX0_isStem_23 (by decide) ?_
          exact g_zret G (gz0 (fun q => absurd q.2.2 (Int32.not_lt.mpr c16))) (by decide) dX0_isStem_24
        · skip
          refine lv_iconst (v := nI 1) hx hb dX0_isStem_19 (by decide) ?_
          refine lv_goto (tgt := 24) hx hb dX0_isStem_20 (by decide) ?_
          exact g_zret G (gz1 ⟨⟨Int32.not_lt.mp c1, Int32.not_le.mp c6⟩, Int32.not_lt.mp c10, Int32.not_le.mp c16⟩) (by decide) dX0_isStem_24
theorem ok_X0_hasTerm : gOK yX0_hasTerm cX0_hasTerm 5 (some .boolean) 3 := ⟨gm_46, gm_25, by decide +kernel⟩
set_option maxRecDepth 100000 in
set_option maxHeartbeats 4000000 in
theorem c_X0_hasTerm (l : Launch) (w : GP) (f : CS) (c : Int32) (g : Int32) (x : Int32) (hI : gI f)  : Met l yX0_hasTerm (gws yX0_hasTerm cX0_hasTerm 5 (some .boolean)) ({ frames := 0, cells := 0, slots := 0, locals := 0 }) (gPc w f [.ref (w.2.2.2 1), .int c, .int g, .int x]) (gRd (.int (if hasT f c g x = true then 1 else 0))) 0 0 (fun _ => False) := by
  refine g_read (by decide) (Nat.le_of_ble_eq_true rfl) ?_
  intro P_ E_ S_ M_ B_ T_ C_ ls G hV hl
  obtain ⟨hx, hb, hml, hown, hts⟩ := id G.1
  obtain ⟨⟨hT, hT24⟩, ⟨hC, hC12⟩, ⟨hD, hD6⟩, hLn⟩ := id hI
  have hl : lv_has ls 5 [(0, .ref (w.2.2.2 1)), (1, .int c), (2, .int g), (3, .int x)] := hl
  refine lv_iconst (v := nI 0) hx hb dX0_hasTerm_0 (by decide) ?_
  refine lv_istore (lv' := [(4, .int (nI 0)), (0, .ref (w.2.2.2 1)), (1, .int c), (2, .int g), (3, .int x)]) hx hb dX0_hasTerm_1 hl (by decide) rfl (fun ls hl => ?_)
  refine g_for (P := fun k => ∀ (ls : Array Slot), lv_has ls 5 [(4, .int (nI k)), (0, .ref (w.2.2.2 1)), (1, .int c), (2, .int g), (3, .int x)] → (∀ t, t < k → ¬ (fun t => decide (f 2 t = c ∧ f 3 t = g ∧ f 4 t = x)) t = true) → W P_ l E_ _ S_ M_ _ B_ T_ C_ S_.heap [] 0 0 _ (F0 M_ 3 ls [])) (nT f) ?_ ?_ 0 (Nat.zero_le _) ls (lv_sub hl [0, 1, 2, 3, 4] rfl) (fun t ht => absurd ht (Nat.not_lt_zero t))
  · intro k hk ih ls hl hik
    refine lv_iload hx hb dX0_hasTerm_3 (lv_at hl 0 rfl) ?_
    refine lv_aload_n hx hb dX0_hasTerm_5 rfl (lv_at hl 1 rfl) ?_
    refine g_get hx hb hts hown hV 1 1 (by decide) (v := .int (nI (nT f))) rfl rfl gin0 (by decide) gm_4 (by rw [← hT]; rfl) dX0_hasTerm_6 ?_
    refine lv_icmp_ge (tgt := 53) hx hb dX0_hasTerm_9 (by decide) (fun c9 => ?_) (fun c9 => ?_)
    · skip
      have c9 : (nT f) ≤ k := (g_le (by omega) (by omega)).mp c9
      exact absurd c9 (by omega)
    · skip
      have c9 : ¬ ((nT f) ≤ k) := fun q => c9 ((g_le (by omega) (by omega)).mpr q)
      refine lv_aload_n hx hb dX0_hasTerm_12 rfl (lv_at hl 1 rfl) ?_
      refine g_get hx hb hts hown hV 1 3 (by decide) (v := .ref (w.2.2.2 4)) rfl rfl gin0 (by decide) gm_7 (rfl) dX0_hasTerm_13 ?_
      refine lv_iload hx hb dX0_hasTerm_16 (lv_at hl 0 rfl) ?_
      refine g_ialn (a := 2) (n := 24) hx hb hV 4 (by decide) (by decide) rfl rfl (i := k) (by omega) dX0_hasTerm_18 ?_
      refine lv_iload_n hx hb dX0_hasTerm_19 rfl (lv_at hl 2 rfl) ?_
      refine lv_icmp_ne (tgt := 47) hx hb dX0_hasTerm_20 (by decide) (fun c20 => ?_) (fun c20 => ?_)
      · skip
        refine lv_iinc (v := nI (k + 1)) (lv' := [(4, .int (nI (k + 1))), (0, .ref (w.2.2.2 1)), (1, .int c), (2, .int g), (3, .int x)]) hx hb dX0_hasTerm_47 hl (k := 0) rfl (g_inc k 1) (by decide) rfl (fun ls hl => ?_)
        refine lv_goto (tgt := 3) hx hb dX0_hasTerm_50 (by decide) ?_
        refine ih ls ?_ (fun t ht q => by rcases Nat.lt_succ_iff_lt_or_eq.mp ht with h | h; exact hik t h q; subst h; have := of_decide_eq_true q; simp_all)
        exact lv_sub hl [0, 1, 2, 3, 4] rfl
      · skip
        refine lv_aload_n hx hb dX0_hasTerm_23 rfl (lv_at hl 1 rfl) ?_
        refine g_get hx hb hts hown hV 1 4 (by decide) (v := .ref (w.2.2.2 5)) rfl rfl gin0 (by decide) gm_8 (rfl) dX0_hasTerm_24 ?_
        refine lv_iload hx hb dX0_hasTerm_27 (lv_at hl 0 rfl) ?_
        refine g_ialn (a := 3) (n := 24) hx hb hV 5 (by decide) (by decide) rfl rfl (i := k) (by omega) dX0_hasTerm_29 ?_
        refine lv_iload_n hx hb dX0_hasTerm_30 rfl (lv_at hl 3 rfl) ?_
        refine lv_icmp_ne (tgt := 47) hx hb dX0_hasTerm_31 (by decide) (fun c31 => ?_) (fun c31 => ?_)
        · skip
          refine lv_iinc (v := nI (k + 1)) (lv' := [(4, .int (nI (k + 1))), (0, .ref (w.2.2.2 1)), (1, .int c), (2, .int g), (3, .int x)]) hx hb dX0_hasTerm_47 hl (k := 0) rfl (g_inc k 1) (by decide) rfl (fun ls hl => ?_)
          refine lv_goto (tgt := 3) hx hb dX0_hasTerm_50 (by decide) ?_
          refine ih ls ?_ (fun t ht q => by rcases Nat.lt_succ_iff_lt_or_eq.mp ht with h | h; exact hik t h q; subst h; have := of_decide_eq_true q; simp_all)
          exact lv_sub hl [0, 1, 2, 3, 4] rfl
        · skip
          refine lv_aload_n hx hb dX0_hasTerm_34 rfl (lv_at hl 1 rfl) ?_
          refine g_get hx hb hts hown hV 1 5 (by decide) (v := .ref (w.2.2.2 6)) rfl rfl gin0 (by decide) gm_9 (rfl) dX0_hasTerm_35 ?_
          refine lv_iload hx hb dX0_hasTerm_38 (lv_at hl 0 rfl) ?_
          refine g_ialn (a := 4) (n := 24) hx hb hV 6 (by decide) (by decide) rfl rfl (i := k) (by omega) dX0_hasTerm_40 ?_
          refine lv_iload_n hx hb dX0_hasTerm_41 rfl (lv_at hl 4 rfl) ?_
          refine lv_icmp_ne (tgt := 47) hx hb dX0_hasTerm_42 (by decide) (fun c42 => ?_) (fun c42 => ?_)
          · skip
            refine lv_iinc (v := nI (k + 1)) (lv' := [(4, .int (nI (k + 1))), (0, .ref (w.2.2.2 1)), (1, .int c), (2, .int g), (3, .int x)]) hx hb dX0_hasTerm_47 hl (k := 0) rfl (g_inc k 1) (by decide) rfl (fun ls hl => ?_)
            refine lv_goto (tgt := 3) hx hb dX0_hasTerm_50 (by decide) ?_
            refine ih ls ?_ (fun t ht q => by rcases Nat.lt_succ_iff_lt_or_eq.mp ht with h | h; exact hik t h q; subst h; have := of_decide_eq_true q; simp_all)
            exact lv_sub hl [0, 1, 2, 3, 4] rfl
          · skip
            refine lv_iconst (v := nI 1) hx hb dX0_hasTerm_45 (by decide) ?_
            exact g_zret G (gz1 (aT_iff.mpr ⟨k, hk, decide_eq_true ⟨c20, c31, c42⟩⟩)) (by decide) dX0_hasTerm_46
  · intro ls hl hik
    refine lv_iload hx hb dX0_hasTerm_3 (lv_at hl 0 rfl) ?_
    refine lv_aload_n hx hb dX0_hasTerm_5 rfl (lv_at hl 1 rfl) ?_
    refine g_get hx hb hts hown hV 1 1 (by decide) (v := .int (nI (nT f))) rfl rfl gin0 (by decide) gm_4 (by rw [← hT]; rfl) dX0_hasTerm_6 ?_
    refine lv_icmp_ge (tgt := 53) hx hb dX0_hasTerm_9 (by decide) (fun c9 => ?_) (fun c9 => ?_)
    · skip
      have c9 : (nT f) ≤ (nT f) := (g_le (by omega) (by omega)).mp c9
      refine lv_iconst (v := nI 0) hx hb dX0_hasTerm_53 (by decide) ?_
      exact g_zret G (gz0 (fun q => by obtain ⟨t, h1, h2⟩ := aT_iff.mp q; exact hik t h1 h2)) (by decide) dX0_hasTerm_54
    · skip
      have c9 : ¬ ((nT f) ≤ (nT f)) := fun q => c9 ((g_le (by omega) (by omega)).mpr q)
      exact absurd c9 (by omega)
theorem ok_X0_preferredOf : gOK yX0_preferredOf cX0_preferredOf 4 (some .int) 2 := ⟨gm_38, gm_25, by decide +kernel⟩
set_option maxRecDepth 100000 in
set_option maxHeartbeats 4000000 in
theorem c_X0_preferredOf (l : Launch) (w : GP) (f : CS) (c : Int32) (g : Int32) (hI : gI f)  : Met l yX0_preferredOf (gws yX0_preferredOf cX0_preferredOf 4 (some .int)) ({ frames := 0, cells := 0, slots := 0, locals := 0 }) (gPc w f [.ref (w.2.2.2 1), .int c, .int g]) (gRd (.int (prI f c g))) 0 0 (fun _ => False) := by
  refine g_read (by decide) (Nat.le_of_ble_eq_true rfl) ?_
  intro P_ E_ S_ M_ B_ T_ C_ ls G hV hl
  obtain ⟨hx, hb, hml, hown, hts⟩ := id G.1
  obtain ⟨⟨hT, hT24⟩, ⟨hC, hC12⟩, ⟨hD, hD6⟩, hLn⟩ := id hI
  have hl : lv_has ls 4 [(0, .ref (w.2.2.2 1)), (1, .int c), (2, .int g)] := hl
  refine lv_iconst (v := nI 0) hx hb dX0_preferredOf_0 (by decide) ?_
  refine lv_istore_n (lv' := [(3, .int (nI 0)), (0, .ref (w.2.2.2 1)), (1, .int c), (2, .int g)]) hx hb dX0_preferredOf_1 rfl hl (by decide) rfl (fun ls hl => ?_)
  refine g_for (P := fun k => ∀ (ls : Array Slot), lv_has ls 4 [(3, .int (nI k)), (0, .ref (w.2.2.2 1)), (1, .int c), (2, .int g)] → (∀ t, t < k → ¬ (fun t => decide (f 2 t = c ∧ f 3 t = g ∧ f 5 t = nI 2)) t = true) → W P_ l E_ _ S_ M_ _ B_ T_ C_ S_.heap [] 0 0 _ (F0 M_ 2 ls [])) (nT f) ?_ ?_ 0 (Nat.zero_le _) ls (lv_sub hl [0, 1, 2, 3] rfl) (fun t ht => absurd ht (Nat.not_lt_zero t))
  · intro k hk ih ls hl hik
    refine lv_iload_n hx hb dX0_preferredOf_2 rfl (lv_at hl 0 rfl) ?_
    refine lv_aload_n hx hb dX0_preferredOf_3 rfl (lv_at hl 1 rfl) ?_
    refine g_get hx hb hts hown hV 1 1 (by decide) (v := .int (nI (nT f))) rfl rfl gin0 (by decide) gm_4 (by rw [← hT]; rfl) dX0_preferredOf_4 ?_
    refine lv_icmp_ge (tgt := 48) hx hb dX0_preferredOf_7 (by decide) (fun c7 => ?_) (fun c7 => ?_)
    · skip
      have c7 : (nT f) ≤ k := (g_le (by omega) (by omega)).mp c7
      exact absurd c7 (by omega)
    · skip
      have c7 : ¬ ((nT f) ≤ k) := fun q => c7 ((g_le (by omega) (by omega)).mpr q)
      refine lv_aload_n hx hb dX0_preferredOf_10 rfl (lv_at hl 1 rfl) ?_
      refine g_get hx hb hts hown hV 1 3 (by decide) (v := .ref (w.2.2.2 4)) rfl rfl gin0 (by decide) gm_7 (rfl) dX0_preferredOf_11 ?_
      refine lv_iload_n hx hb dX0_preferredOf_14 rfl (lv_at hl 0 rfl) ?_
      refine g_ialn (a := 2) (n := 24) hx hb hV 4 (by decide) (by decide) rfl rfl (i := k) (by omega) dX0_preferredOf_15 ?_
      refine lv_iload_n hx hb dX0_preferredOf_16 rfl (lv_at hl 2 rfl) ?_
      refine lv_icmp_ne (tgt := 42) hx hb dX0_preferredOf_17 (by decide) (fun c17 => ?_) (fun c17 => ?_)
      · skip
        refine lv_iinc (v := nI (k + 1)) (lv' := [(3, .int (nI (k + 1))), (0, .ref (w.2.2.2 1)), (1, .int c), (2, .int g)]) hx hb dX0_preferredOf_42 hl (k := 0) rfl (g_inc k 1) (by decide) rfl (fun ls hl => ?_)
        refine lv_goto (tgt := 2) hx hb dX0_preferredOf_45 (by decide) ?_
        refine ih ls ?_ (fun t ht q => by rcases Nat.lt_succ_iff_lt_or_eq.mp ht with h | h; exact hik t h q; subst h; have := of_decide_eq_true q; simp_all)
        exact lv_sub hl [0, 1, 2, 3] rfl
      · skip
        refine lv_aload_n hx hb dX0_preferredOf_20 rfl (lv_at hl 1 rfl) ?_
        refine g_get hx hb hts hown hV 1 4 (by decide) (v := .ref (w.2.2.2 5)) rfl rfl gin0 (by decide) gm_8 (rfl) dX0_preferredOf_21 ?_
        refine lv_iload_n hx hb dX0_preferredOf_24 rfl (lv_at hl 0 rfl) ?_
        refine g_ialn (a := 3) (n := 24) hx hb hV 5 (by decide) (by decide) rfl rfl (i := k) (by omega) dX0_preferredOf_25 ?_
        refine lv_iload_n hx hb dX0_preferredOf_26 rfl (lv_at hl 3 rfl) ?_
        refine lv_icmp_ne (tgt := 42) hx hb dX0_preferredOf_27 (by decide) (fun c27 => ?_) (fun c27 => ?_)
        · skip
          refine lv_iinc (v := nI (k + 1)) (lv' := [(3, .int (nI (k + 1))), (0, .ref (w.2.2.2 1)), (1, .int c), (2, .int g)]) hx hb dX0_preferredOf_42 hl (k := 0) rfl (g_inc k 1) (by decide) rfl (fun ls hl => ?_)
          refine lv_goto (tgt := 2) hx hb dX0_preferredOf_45 (by decide) ?_
          refine ih ls ?_ (fun t ht q => by rcases Nat.lt_succ_iff_lt_or_eq.mp ht with h | h; exact hik t h q; subst h; have := of_decide_eq_true q; simp_all)
          exact lv_sub hl [0, 1, 2, 3] rfl
        · skip
          refine lv_aload_n hx hb dX0_preferredOf_30 rfl (lv_at hl 1 rfl) ?_
          refine g_get hx hb hts hown hV 1 6 (by decide) (v := .ref (w.2.2.2 7)) rfl rfl gin0 (by decide) gm_10 (rfl) dX0_preferredOf_31 ?_
          refine lv_iload_n hx hb dX0_preferredOf_34 rfl (lv_at hl 0 rfl) ?_
          refine g_ialn (a := 5) (n := 24) hx hb hV 7 (by decide) (by decide) rfl rfl (i := k) (by omega) dX0_preferredOf_35 ?_
          refine lv_iconst (v := nI 2) hx hb dX0_preferredOf_36 (by decide) ?_
          refine lv_icmp_ne (tgt := 42) hx hb dX0_preferredOf_37 (by decide) (fun c37 => ?_) (fun c37 => ?_)
          · skip
            refine lv_iinc (v := nI (k + 1)) (lv' := [(3, .int (nI (k + 1))), (0, .ref (w.2.2.2 1)), (1, .int c), (2, .int g)]) hx hb dX0_preferredOf_42 hl (k := 0) rfl (g_inc k 1) (by decide) rfl (fun ls hl => ?_)
            refine lv_goto (tgt := 2) hx hb dX0_preferredOf_45 (by decide) ?_
            refine ih ls ?_ (fun t ht q => by rcases Nat.lt_succ_iff_lt_or_eq.mp ht with h | h; exact hik t h q; subst h; have := of_decide_eq_true q; simp_all)
            exact lv_sub hl [0, 1, 2, 3] rfl
          · skip
            refine lv_iload_n hx hb dX0_preferredOf_40 rfl (lv_at hl 0 rfl) ?_
            exact g_iret G (by unfold prI prT; rw [fst_ex hk (decide_eq_true ⟨c17, c27, c37⟩) hik, if_pos hk]) dX0_preferredOf_41
  · intro ls hl hik
    refine lv_iload_n hx hb dX0_preferredOf_2 rfl (lv_at hl 0 rfl) ?_
    refine lv_aload_n hx hb dX0_preferredOf_3 rfl (lv_at hl 1 rfl) ?_
    refine g_get hx hb hts hown hV 1 1 (by decide) (v := .int (nI (nT f))) rfl rfl gin0 (by decide) gm_4 (by rw [← hT]; rfl) dX0_preferredOf_4 ?_
    refine lv_icmp_ge (tgt := 48) hx hb dX0_preferredOf_7 (by decide) (fun c7 => ?_) (fun c7 => ?_)
    · skip
      have c7 : (nT f) ≤ (nT f) := (g_le (by omega) (by omega)).mp c7
      refine lv_iconst (v := -1) hx hb dX0_preferredOf_48 (by decide) ?_
      exact g_iret G (by unfold prI prT; rw [fst_no hik, if_neg (Nat.lt_irrefl _)]) dX0_preferredOf_49
    · skip
      have c7 : ¬ ((nT f) ≤ (nT f)) := fun q => c7 ((g_le (by omega) (by omega)).mpr q)
      exact absurd c7 (by omega)
theorem ok_X0_hasVoted : gOK yX0_hasVoted cX0_hasVoted 3 (some .boolean) 2 := ⟨gm_214, gm_25, by decide +kernel⟩
set_option maxRecDepth 100000 in
set_option maxHeartbeats 4000000 in
theorem c_X0_hasVoted (l : Launch) (w : GP) (f : CS) (t : Nat) (v : Int32) (hI : gI f) (ht : t < 24) : Met l yX0_hasVoted (gws yX0_hasVoted cX0_hasVoted 3 (some .boolean)) ({ frames := 1, cells := 0, slots := 0, locals := 21 }) (gPc w f [.ref (w.2.2.2 1), .int (nI t), .int v]) (gRd (.int (if hs (f 6 t ||| f 7 t) v = true then 1 else 0))) 0 0 (fun _ => False) := by
  refine g_read (by decide) (Nat.le_of_ble_eq_true rfl) ?_
  intro P_ E_ S_ M_ B_ T_ C_ ls G hV hl
  obtain ⟨hx, hb, hml, hown, hts⟩ := id G.1
  obtain ⟨⟨hT, hT24⟩, ⟨hC, hC12⟩, ⟨hD, hD6⟩, hLn⟩ := id hI
  have hl : lv_has ls 3 [(0, .ref (w.2.2.2 1)), (1, .int (nI t)), (2, .int v)] := hl
  refine lv_aload_n hx hb dX0_hasVoted_0 rfl (lv_at hl 0 rfl) ?_
  refine g_get hx hb hts hown hV 1 7 (by decide) (v := .ref (w.2.2.2 8)) rfl rfl gin0 (by decide) gm_11 (rfl) dX0_hasVoted_1 ?_
  refine lv_iload_n hx hb dX0_hasVoted_4 rfl (lv_at hl 1 rfl) ?_
  refine g_ialn (a := 6) (n := 24) hx hb hV 8 (by decide) (by decide) rfl rfl (i := t) (by omega) dX0_hasVoted_5 ?_
  refine lv_aload_n hx hb dX0_hasVoted_6 rfl (lv_at hl 0 rfl) ?_
  refine g_get hx hb hts hown hV 1 8 (by decide) (v := .ref (w.2.2.2 9)) rfl rfl gin0 (by decide) gm_12 (rfl) dX0_hasVoted_7 ?_
  refine lv_iload_n hx hb dX0_hasVoted_10 rfl (lv_at hl 1 rfl) ?_
  refine g_ialn (a := 7) (n := 24) hx hb hV 9 (by decide) (by decide) rfl rfl (i := t) (by omega) dX0_hasVoted_11 ?_
  refine lv_ior hx hb dX0_hasVoted_12 ?_
  refine lv_iload_n hx hb dX0_hasVoted_13 rfl (lv_at hl 2 rfl) ?_
  refine g_callN (As := [.int ((f 6 t) ||| (f 7 t)), .int v]) (rest := []) G.1 hV ok_X2_has gm_17 hV.1.2.1 (c_X2_has l w f ((f 6 t) ||| (f 7 t)) v  ) ⟨rfl, rfl⟩ ⟨Nat.le_of_ble_eq_true rfl, Nat.le_of_ble_eq_true rfl⟩ rfl hl.1 rfl (by decide) ⟨Nat.zero_le _, Nat.zero_le _⟩ dX0_hasVoted_14 ?_
  exact g_zret G (rfl) (g_nn) dX0_hasVoted_17
theorem ok_X0_canBeBanned : gOK yX0_canBeBanned cX0_canBeBanned 2 (some .boolean) 1 := ⟨gm_230, gm_25, by decide +kernel⟩
set_option maxRecDepth 100000 in
set_option maxHeartbeats 4000000 in
theorem c_X0_canBeBanned (l : Launch) (w : GP) (f : CS) (t : Nat) (hI : gI f) (ht : t < 24) : Met l yX0_canBeBanned (gws yX0_canBeBanned cX0_canBeBanned 2 (some .boolean)) ({ frames := 0, cells := 0, slots := 0, locals := 0 }) (gPc w f [.ref (w.2.2.2 1), .int (nI t)]) (gRd (.int (if canB f t then 1 else 0))) 0 0 (fun _ => False) := by
  refine g_read (by decide) (Nat.le_of_ble_eq_true rfl) ?_
  intro P_ E_ S_ M_ B_ T_ C_ ls G hV hl
  obtain ⟨hx, hb, hml, hown, hts⟩ := id G.1
  obtain ⟨⟨hT, hT24⟩, ⟨hC, hC12⟩, ⟨hD, hD6⟩, hLn⟩ := id hI
  have hl : lv_has ls 2 [(0, .ref (w.2.2.2 1)), (1, .int (nI t))] := hl
  refine lv_aload_n hx hb dX0_canBeBanned_0 rfl (lv_at hl 0 rfl) ?_
  refine g_get hx hb hts hown hV 1 6 (by decide) (v := .ref (w.2.2.2 7)) rfl rfl gin0 (by decide) gm_10 (rfl) dX0_canBeBanned_1 ?_
  refine lv_iload_n hx hb dX0_canBeBanned_4 rfl (lv_at hl 1 rfl) ?_
  refine g_ialn (a := 5) (n := 24) hx hb hV 7 (by decide) (by decide) rfl rfl (i := t) (by omega) dX0_canBeBanned_5 ?_
  refine lv_iconst (v := nI 1) hx hb dX0_canBeBanned_6 (by decide) ?_
  refine lv_icmp_eq (tgt := 20) hx hb dX0_canBeBanned_7 (by decide) (fun c7 => ?_) (fun c7 => ?_)
  · skip
    refine lv_iconst (v := nI 1) hx hb dX0_canBeBanned_20 (by decide) ?_
    refine lv_goto (tgt := 25) hx hb dX0_canBeBanned_21 (by decide) ?_
    exact g_zret G (gz1 (Or.inl c7)) (by decide) dX0_canBeBanned_25
  · skip
    refine lv_aload_n hx hb dX0_canBeBanned_10 rfl (lv_at hl 0 rfl) ?_
    refine g_get hx hb hts hown hV 1 6 (by decide) (v := .ref (w.2.2.2 7)) rfl rfl gin0 (by decide) gm_10 (rfl) dX0_canBeBanned_11 ?_
    refine lv_iload_n hx hb dX0_canBeBanned_14 rfl (lv_at hl 1 rfl) ?_
    refine g_ialn (a := 5) (n := 24) hx hb hV 7 (by decide) (by decide) rfl rfl (i := t) (by omega) dX0_canBeBanned_15 ?_
    refine lv_iconst (v := nI 2) hx hb dX0_canBeBanned_16 (by decide) ?_
    refine lv_icmp_ne (tgt := 24) hx hb dX0_canBeBanned_17 (by decide) (fun c17 => ?_) (fun c17 => ?_)
    · skip
      refine lv_iconst (v := nI 0) hx hb dX0_canBeBanned_24 (by decide) ?_
      exact g_zret G (gz0 (fun q => q.elim c7 c17)) (by decide) dX0_canBeBanned_25
    · skip
      refine lv_iconst (v := nI 1) hx hb dX0_canBeBanned_20 (by decide) ?_
      refine lv_goto (tgt := 25) hx hb dX0_canBeBanned_21 (by decide) ?_
      exact g_zret G (gz1 (Or.inr c17)) (by decide) dX0_canBeBanned_25
theorem ok_X0_overdueOn : gOK yX0_overdueOn cX0_overdueOn 4 (some .int) 1 := ⟨gm_139, gm_25, by decide +kernel⟩
set_option maxRecDepth 100000 in
set_option maxHeartbeats 4000000 in
theorem c_X0_overdueOn (l : Launch) (w : GP) (f : CS) (d : Int32) (hI : gI f)  : Met l yX0_overdueOn (gws yX0_overdueOn cX0_overdueOn 4 (some .int)) ({ frames := 0, cells := 0, slots := 0, locals := 0 }) (gPc w f [.ref (w.2.2.2 1), .int d]) (gRd (.int (due f d))) 0 0 (fun _ => False) := by
  refine g_read (by decide) (Nat.le_of_ble_eq_true rfl) ?_
  intro P_ E_ S_ M_ B_ T_ C_ ls G hV hl
  obtain ⟨hx, hb, hml, hown, hts⟩ := id G.1
  obtain ⟨⟨hT, hT24⟩, ⟨hC, hC12⟩, ⟨hD, hD6⟩, hLn⟩ := id hI
  have hl : lv_has ls 4 [(0, .ref (w.2.2.2 1)), (1, .int d)] := hl
  refine lv_iconst (v := nI 0) hx hb dX0_overdueOn_0 (by decide) ?_
  refine lv_istore_n (lv' := [(2, .int (nI 0)), (0, .ref (w.2.2.2 1)), (1, .int d)]) hx hb dX0_overdueOn_1 rfl hl (by decide) rfl (fun ls hl => ?_)
  refine lv_iconst (v := nI 0) hx hb dX0_overdueOn_2 (by decide) ?_
  refine lv_istore_n (lv' := [(3, .int (nI 0)), (2, .int (nI 0)), (0, .ref (w.2.2.2 1)), (1, .int d)]) hx hb dX0_overdueOn_3 rfl hl (by decide) rfl (fun ls hl => ?_)
  refine g_for (P := fun k => ∀ (ls : Array Slot), lv_has ls 4 [(2, .int (mk (fun t => decide (f 5 t = nI 3 ∧ f 8 t + f 9 t ≤ d)) k)), (3, .int (nI k)), (0, .ref (w.2.2.2 1)), (1, .int d)] → W P_ l E_ _ S_ M_ _ B_ T_ C_ S_.heap [] 0 0 _ (F0 M_ 4 ls [])) (nT f) ?_ ?_ 0 (Nat.zero_le _) ls (lv_sub hl [1, 0, 2, 3] rfl)
  · intro k hk ih ls hl
    refine lv_iload_n hx hb dX0_overdueOn_4 rfl (lv_at hl 1 rfl) ?_
    refine lv_aload_n hx hb dX0_overdueOn_5 rfl (lv_at hl 2 rfl) ?_
    refine g_get hx hb hts hown hV 1 1 (by decide) (v := .int (nI (nT f))) rfl rfl gin0 (by decide) gm_4 (by rw [← hT]; rfl) dX0_overdueOn_6 ?_
    refine lv_icmp_ge (tgt := 51) hx hb dX0_overdueOn_9 (by decide) (fun c9 => ?_) (fun c9 => ?_)
    · skip
      have c9 : (nT f) ≤ k := (g_le (by omega) (by omega)).mp c9
      exact absurd c9 (by omega)
    · skip
      have c9 : ¬ ((nT f) ≤ k) := fun q => c9 ((g_le (by omega) (by omega)).mpr q)
      refine lv_aload_n hx hb dX0_overdueOn_12 rfl (lv_at hl 2 rfl) ?_
      refine g_get hx hb hts hown hV 1 6 (by decide) (v := .ref (w.2.2.2 7)) rfl rfl gin0 (by decide) gm_10 (rfl) dX0_overdueOn_13 ?_
      refine lv_iload_n hx hb dX0_overdueOn_16 rfl (lv_at hl 1 rfl) ?_
      refine g_ialn (a := 5) (n := 24) hx hb hV 7 (by decide) (by decide) rfl rfl (i := k) (by omega) dX0_overdueOn_17 ?_
      refine lv_iconst (v := nI 3) hx hb dX0_overdueOn_18 (by decide) ?_
      refine lv_icmp_ne (tgt := 45) hx hb dX0_overdueOn_19 (by decide) (fun c19 => ?_) (fun c19 => ?_)
      · skip
        refine lv_iinc (v := nI (k + 1)) (lv' := [(3, .int (nI (k + 1))), (2, .int (mk (fun t => decide (f 5 t = nI 3 ∧ f 8 t + f 9 t ≤ d)) k)), (0, .ref (w.2.2.2 1)), (1, .int d)]) hx hb dX0_overdueOn_45 hl (k := 1) rfl (g_inc k 1) (by decide) rfl (fun ls hl => ?_)
        refine lv_goto (tgt := 4) hx hb dX0_overdueOn_48 (by decide) ?_
        refine ih ls ?_
        rw [(show mk (fun t => decide (f 5 t = nI 3 ∧ f 8 t + f 9 t ≤ d)) (k + 1) = mk (fun t => decide (f 5 t = nI 3 ∧ f 8 t + f 9 t ≤ d)) k from by first | (simp [mk, bit, c9, c19]; done) | (have h9 := Int32.not_le.mpr c36; simp [mk, h9]))]
        exact lv_sub hl [1, 0, 2, 3] rfl
      · skip
        refine lv_iload_n hx hb dX0_overdueOn_22 rfl (lv_at hl 3 rfl) ?_
        refine lv_aload_n hx hb dX0_overdueOn_23 rfl (lv_at hl 2 rfl) ?_
        refine g_get hx hb hts hown hV 1 9 (by decide) (v := .ref (w.2.2.2 10)) rfl rfl gin0 (by decide) gm_13 (rfl) dX0_overdueOn_24 ?_
        refine lv_iload_n hx hb dX0_overdueOn_27 rfl (lv_at hl 1 rfl) ?_
        refine g_ialn (a := 8) (n := 24) hx hb hV 10 (by decide) (by decide) rfl rfl (i := k) (by omega) dX0_overdueOn_28 ?_
        refine lv_aload_n hx hb dX0_overdueOn_29 rfl (lv_at hl 2 rfl) ?_
        refine g_get hx hb hts hown hV 1 10 (by decide) (v := .ref (w.2.2.2 11)) rfl rfl gin0 (by decide) gm_14 (rfl) dX0_overdueOn_30 ?_
        refine lv_iload_n hx hb dX0_overdueOn_33 rfl (lv_at hl 1 rfl) ?_
        refine g_ialn (a := 9) (n := 24) hx hb hV 11 (by decide) (by decide) rfl rfl (i := k) (by omega) dX0_overdueOn_34 ?_
        refine lv_iadd hx hb dX0_overdueOn_35 ?_
        refine lv_icmp_lt (tgt := 45) hx hb dX0_overdueOn_36 (by decide) (fun c36 => ?_) (fun c36 => ?_)
        · skip
          refine lv_iinc (v := nI (k + 1)) (lv' := [(3, .int (nI (k + 1))), (2, .int (mk (fun t => decide (f 5 t = nI 3 ∧ f 8 t + f 9 t ≤ d)) k)), (0, .ref (w.2.2.2 1)), (1, .int d)]) hx hb dX0_overdueOn_45 hl (k := 1) rfl (g_inc k 1) (by decide) rfl (fun ls hl => ?_)
          refine lv_goto (tgt := 4) hx hb dX0_overdueOn_48 (by decide) ?_
          refine ih ls ?_
          rw [(show mk (fun t => decide (f 5 t = nI 3 ∧ f 8 t + f 9 t ≤ d)) (k + 1) = mk (fun t => decide (f 5 t = nI 3 ∧ f 8 t + f 9 t ≤ d)) k from by first | (simp [mk, bit, c9, c19, c36]; done) | (have h9 := Int32.not_le.mpr c36; simp [mk, h9]))]
          exact lv_sub hl [1, 0, 2, 3] rfl
        · skip
          refine lv_iload_n hx hb dX0_overdueOn_39 rfl (lv_at hl 0 rfl) ?_
          refine lv_iconst (v := nI 1) hx hb dX0_overdueOn_40 (by decide) ?_
          refine lv_iload_n hx hb dX0_overdueOn_41 rfl (lv_at hl 1 rfl) ?_
          refine lv_ishl hx hb dX0_overdueOn_42 ?_
          refine lv_ior hx hb dX0_overdueOn_43 ?_
          refine lv_istore_n (lv' := [(2, .int ((mk (fun t => decide (f 5 t = nI 3 ∧ f 8 t + f 9 t ≤ d)) k) ||| ((nI 1) <<< ((nI k) &&& 31)))), (3, .int (nI k)), (0, .ref (w.2.2.2 1)), (1, .int d)]) hx hb dX0_overdueOn_44 rfl hl (by decide) rfl (fun ls hl => ?_)
          refine lv_iinc (v := nI (k + 1)) (lv' := [(3, .int (nI (k + 1))), (2, .int ((mk (fun t => decide (f 5 t = nI 3 ∧ f 8 t + f 9 t ≤ d)) k) ||| ((nI 1) <<< ((nI k) &&& 31)))), (0, .ref (w.2.2.2 1)), (1, .int d)]) hx hb dX0_overdueOn_45 hl (k := 1) rfl (g_inc k 1) (by decide) rfl (fun ls hl => ?_)
          refine lv_goto (tgt := 4) hx hb dX0_overdueOn_48 (by decide) ?_
          refine ih ls ?_
          rw [(show mk (fun t => decide (f 5 t = nI 3 ∧ f 8 t + f 9 t ≤ d)) (k + 1) = (mk (fun t => decide (f 5 t = nI 3 ∧ f 8 t + f 9 t ≤ d)) k) ||| ((nI 1) <<< ((nI k) &&& 31)) from by first | (simp [mk, bit, c9, c19, c36]; done) | (have h9 := Int32.not_le.mpr c36; simp [mk, h9]))]
          exact lv_sub hl [1, 0, 2, 3] rfl
  · intro ls hl
    refine lv_iload_n hx hb dX0_overdueOn_4 rfl (lv_at hl 1 rfl) ?_
    refine lv_aload_n hx hb dX0_overdueOn_5 rfl (lv_at hl 2 rfl) ?_
    refine g_get hx hb hts hown hV 1 1 (by decide) (v := .int (nI (nT f))) rfl rfl gin0 (by decide) gm_4 (by rw [← hT]; rfl) dX0_overdueOn_6 ?_
    refine lv_icmp_ge (tgt := 51) hx hb dX0_overdueOn_9 (by decide) (fun c9 => ?_) (fun c9 => ?_)
    · skip
      have c9 : (nT f) ≤ (nT f) := (g_le (by omega) (by omega)).mp c9
      refine lv_iload_n hx hb dX0_overdueOn_51 rfl (lv_at hl 0 rfl) ?_
      exact g_iret G (rfl) dX0_overdueOn_52
    · skip
      have c9 : ¬ ((nT f) ≤ (nT f)) := fun q => c9 ((g_le (by omega) (by omega)).mpr q)
      exact absurd c9 (by omega)
theorem ok_X0_termsOf : gOK yX0_termsOf cX0_termsOf 4 (some .int) 1 := ⟨gm_54, gm_25, by decide +kernel⟩
set_option maxRecDepth 100000 in
set_option maxHeartbeats 4000000 in
theorem c_X0_termsOf (l : Launch) (w : GP) (f : CS) (c : Int32) (hI : gI f)  : Met l yX0_termsOf (gws yX0_termsOf cX0_termsOf 4 (some .int)) ({ frames := 0, cells := 0, slots := 0, locals := 0 }) (gPc w f [.ref (w.2.2.2 1), .int c]) (gRd (.int (ofC f c))) 0 0 (fun _ => False) := by
  refine g_read (by decide) (Nat.le_of_ble_eq_true rfl) ?_
  intro P_ E_ S_ M_ B_ T_ C_ ls G hV hl
  obtain ⟨hx, hb, hml, hown, hts⟩ := id G.1
  obtain ⟨⟨hT, hT24⟩, ⟨hC, hC12⟩, ⟨hD, hD6⟩, hLn⟩ := id hI
  have hl : lv_has ls 4 [(0, .ref (w.2.2.2 1)), (1, .int c)] := hl
  refine lv_iconst (v := nI 0) hx hb dX0_termsOf_0 (by decide) ?_
  refine lv_istore_n (lv' := [(2, .int (nI 0)), (0, .ref (w.2.2.2 1)), (1, .int c)]) hx hb dX0_termsOf_1 rfl hl (by decide) rfl (fun ls hl => ?_)
  refine lv_iconst (v := nI 0) hx hb dX0_termsOf_2 (by decide) ?_
  refine lv_istore_n (lv' := [(3, .int (nI 0)), (2, .int (nI 0)), (0, .ref (w.2.2.2 1)), (1, .int c)]) hx hb dX0_termsOf_3 rfl hl (by decide) rfl (fun ls hl => ?_)
  refine g_for (P := fun k => ∀ (ls : Array Slot), lv_has ls 4 [(2, .int (mk (fun t => decide (f 2 t = c)) k)), (3, .int (nI k)), (0, .ref (w.2.2.2 1)), (1, .int c)] → W P_ l E_ _ S_ M_ _ B_ T_ C_ S_.heap [] 0 0 _ (F0 M_ 4 ls [])) (nT f) ?_ ?_ 0 (Nat.zero_le _) ls (lv_sub hl [1, 0, 2, 3] rfl)
  · intro k hk ih ls hl
    refine lv_iload_n hx hb dX0_termsOf_4 rfl (lv_at hl 1 rfl) ?_
    refine lv_aload_n hx hb dX0_termsOf_5 rfl (lv_at hl 2 rfl) ?_
    refine g_get hx hb hts hown hV 1 1 (by decide) (v := .int (nI (nT f))) rfl rfl gin0 (by decide) gm_4 (by rw [← hT]; rfl) dX0_termsOf_6 ?_
    refine lv_icmp_ge (tgt := 34) hx hb dX0_termsOf_9 (by decide) (fun c9 => ?_) (fun c9 => ?_)
    · skip
      have c9 : (nT f) ≤ k := (g_le (by omega) (by omega)).mp c9
      exact absurd c9 (by omega)
    · skip
      have c9 : ¬ ((nT f) ≤ k) := fun q => c9 ((g_le (by omega) (by omega)).mpr q)
      refine lv_aload_n hx hb dX0_termsOf_12 rfl (lv_at hl 2 rfl) ?_
      refine g_get hx hb hts hown hV 1 3 (by decide) (v := .ref (w.2.2.2 4)) rfl rfl gin0 (by decide) gm_7 (rfl) dX0_termsOf_13 ?_
      refine lv_iload_n hx hb dX0_termsOf_16 rfl (lv_at hl 1 rfl) ?_
      refine g_ialn (a := 2) (n := 24) hx hb hV 4 (by decide) (by decide) rfl rfl (i := k) (by omega) dX0_termsOf_17 ?_
      refine lv_iload_n hx hb dX0_termsOf_18 rfl (lv_at hl 3 rfl) ?_
      refine lv_icmp_ne (tgt := 28) hx hb dX0_termsOf_19 (by decide) (fun c19 => ?_) (fun c19 => ?_)
      · skip
        refine lv_iinc (v := nI (k + 1)) (lv' := [(3, .int (nI (k + 1))), (2, .int (mk (fun t => decide (f 2 t = c)) k)), (0, .ref (w.2.2.2 1)), (1, .int c)]) hx hb dX0_termsOf_28 hl (k := 1) rfl (g_inc k 1) (by decide) rfl (fun ls hl => ?_)
        refine lv_goto (tgt := 4) hx hb dX0_termsOf_31 (by decide) ?_
        refine ih ls ?_
        rw [(show mk (fun t => decide (f 2 t = c)) (k + 1) = mk (fun t => decide (f 2 t = c)) k from by simp [mk, bit, c9, c19])]
        exact lv_sub hl [1, 0, 2, 3] rfl
      · skip
        refine lv_iload_n hx hb dX0_termsOf_22 rfl (lv_at hl 0 rfl) ?_
        refine lv_iconst (v := nI 1) hx hb dX0_termsOf_23 (by decide) ?_
        refine lv_iload_n hx hb dX0_termsOf_24 rfl (lv_at hl 1 rfl) ?_
        refine lv_ishl hx hb dX0_termsOf_25 ?_
        refine lv_ior hx hb dX0_termsOf_26 ?_
        refine lv_istore_n (lv' := [(2, .int ((mk (fun t => decide (f 2 t = c)) k) ||| ((nI 1) <<< ((nI k) &&& 31)))), (3, .int (nI k)), (0, .ref (w.2.2.2 1)), (1, .int c)]) hx hb dX0_termsOf_27 rfl hl (by decide) rfl (fun ls hl => ?_)
        refine lv_iinc (v := nI (k + 1)) (lv' := [(3, .int (nI (k + 1))), (2, .int ((mk (fun t => decide (f 2 t = c)) k) ||| ((nI 1) <<< ((nI k) &&& 31)))), (0, .ref (w.2.2.2 1)), (1, .int c)]) hx hb dX0_termsOf_28 hl (k := 1) rfl (g_inc k 1) (by decide) rfl (fun ls hl => ?_)
        refine lv_goto (tgt := 4) hx hb dX0_termsOf_31 (by decide) ?_
        refine ih ls ?_
        rw [(show mk (fun t => decide (f 2 t = c)) (k + 1) = (mk (fun t => decide (f 2 t = c)) k) ||| ((nI 1) <<< ((nI k) &&& 31)) from by simp [mk, bit, c9, c19])]
        exact lv_sub hl [1, 0, 2, 3] rfl
  · intro ls hl
    refine lv_iload_n hx hb dX0_termsOf_4 rfl (lv_at hl 1 rfl) ?_
    refine lv_aload_n hx hb dX0_termsOf_5 rfl (lv_at hl 2 rfl) ?_
    refine g_get hx hb hts hown hV 1 1 (by decide) (v := .int (nI (nT f))) rfl rfl gin0 (by decide) gm_4 (by rw [← hT]; rfl) dX0_termsOf_6 ?_
    refine lv_icmp_ge (tgt := 34) hx hb dX0_termsOf_9 (by decide) (fun c9 => ?_) (fun c9 => ?_)
    · skip
      have c9 : (nT f) ≤ (nT f) := (g_le (by omega) (by omega)).mp c9
      refine lv_iload_n hx hb dX0_termsOf_34 rfl (lv_at hl 0 rfl) ?_
      exact g_iret G (rfl) dX0_termsOf_35
    · skip
      have c9 : ¬ ((nT f) ≤ (nT f)) := fun q => c9 ((g_le (by omega) (by omega)).mpr q)
      exact absurd c9 (by omega)
theorem ok_X0_canBeJoined : gOK yX0_canBeJoined cX0_canBeJoined 4 (some .boolean) 2 := ⟨gm_271, gm_25, by decide +kernel⟩
set_option maxRecDepth 100000 in
set_option maxHeartbeats 4000000 in
theorem c_X0_canBeJoined (l : Launch) (w : GP) (f : CS) (a : Int32) (b : Int32) (hI : gI f)  : Met l yX0_canBeJoined (gws yX0_canBeJoined cX0_canBeJoined 4 (some .boolean)) ({ frames := 1, cells := 0, slots := 0, locals := 24 }) (gPc w f [.ref (w.2.2.2 1), .int a, .int b]) (gRd (.int (if canJ f a b then 1 else 0))) 0 0 (fun _ => False) := by
  refine g_read (by decide) (Nat.le_of_ble_eq_true rfl) ?_
  intro P_ E_ S_ M_ B_ T_ C_ ls G hV hl
  obtain ⟨hx, hb, hml, hown, hts⟩ := id G.1
  obtain ⟨⟨hT, hT24⟩, ⟨hC, hC12⟩, ⟨hD, hD6⟩, hLn⟩ := id hI
  have hl : lv_has ls 4 [(0, .ref (w.2.2.2 1)), (1, .int a), (2, .int b)] := hl
  refine lv_iconst (v := nI 0) hx hb dX0_canBeJoined_0 (by decide) ?_
  refine lv_istore_n (lv' := [(3, .int (nI 0)), (0, .ref (w.2.2.2 1)), (1, .int a), (2, .int b)]) hx hb dX0_canBeJoined_1 rfl hl (by decide) rfl (fun ls hl => ?_)
  refine g_for (P := fun k => ∀ (ls : Array Slot), lv_has ls 4 [(3, .int (nI k)), (0, .ref (w.2.2.2 1)), (1, .int a), (2, .int b)] → (∀ t, t < k → ¬ (decide (f 2 t = a) && hasT f b (f 3 t) (f 4 t)) = true) → W P_ l E_ _ S_ M_ _ B_ T_ C_ S_.heap [] 0 0 _ (F0 M_ 2 ls [])) (nT f) ?_ ?_ 0 (Nat.zero_le _) ls (lv_sub hl [0, 1, 2, 3] rfl) (fun t ht => absurd ht (Nat.not_lt_zero t))
  · intro k hk ih ls hl hik
    refine lv_iload_n hx hb dX0_canBeJoined_2 rfl (lv_at hl 0 rfl) ?_
    refine lv_aload_n hx hb dX0_canBeJoined_3 rfl (lv_at hl 1 rfl) ?_
    refine g_get hx hb hts hown hV 1 1 (by decide) (v := .int (nI (nT f))) rfl rfl gin0 (by decide) gm_4 (by rw [← hT]; rfl) dX0_canBeJoined_4 ?_
    refine lv_icmp_ge (tgt := 48) hx hb dX0_canBeJoined_7 (by decide) (fun c7 => ?_) (fun c7 => ?_)
    · skip
      have c7 : (nT f) ≤ k := (g_le (by omega) (by omega)).mp c7
      exact absurd c7 (by omega)
    · skip
      have c7 : ¬ ((nT f) ≤ k) := fun q => c7 ((g_le (by omega) (by omega)).mpr q)
      refine lv_aload_n hx hb dX0_canBeJoined_10 rfl (lv_at hl 1 rfl) ?_
      refine g_get hx hb hts hown hV 1 3 (by decide) (v := .ref (w.2.2.2 4)) rfl rfl gin0 (by decide) gm_7 (rfl) dX0_canBeJoined_11 ?_
      refine lv_iload_n hx hb dX0_canBeJoined_14 rfl (lv_at hl 0 rfl) ?_
      refine g_ialn (a := 2) (n := 24) hx hb hV 4 (by decide) (by decide) rfl rfl (i := k) (by omega) dX0_canBeJoined_15 ?_
      refine lv_iload_n hx hb dX0_canBeJoined_16 rfl (lv_at hl 2 rfl) ?_
      refine lv_icmp_ne (tgt := 42) hx hb dX0_canBeJoined_17 (by decide) (fun c17 => ?_) (fun c17 => ?_)
      · skip
        refine lv_iinc (v := nI (k + 1)) (lv' := [(3, .int (nI (k + 1))), (0, .ref (w.2.2.2 1)), (1, .int a), (2, .int b)]) hx hb dX0_canBeJoined_42 hl (k := 0) rfl (g_inc k 1) (by decide) rfl (fun ls hl => ?_)
        refine lv_goto (tgt := 2) hx hb dX0_canBeJoined_45 (by decide) ?_
        refine ih ls ?_ (fun t ht q => by rcases Nat.lt_succ_iff_lt_or_eq.mp ht with h | h; exact hik t h q; subst h; simp_all)
        exact lv_sub hl [0, 1, 2, 3] rfl
      · skip
        refine lv_aload_n hx hb dX0_canBeJoined_20 rfl (lv_at hl 1 rfl) ?_
        refine lv_iload_n hx hb dX0_canBeJoined_21 rfl (lv_at hl 3 rfl) ?_
        refine lv_aload_n hx hb dX0_canBeJoined_22 rfl (lv_at hl 1 rfl) ?_
        refine g_get hx hb hts hown hV 1 4 (by decide) (v := .ref (w.2.2.2 5)) rfl rfl gin0 (by decide) gm_8 (rfl) dX0_canBeJoined_23 ?_
        refine lv_iload_n hx hb dX0_canBeJoined_26 rfl (lv_at hl 0 rfl) ?_
        refine g_ialn (a := 3) (n := 24) hx hb hV 5 (by decide) (by decide) rfl rfl (i := k) (by omega) dX0_canBeJoined_27 ?_
        refine lv_aload_n hx hb dX0_canBeJoined_28 rfl (lv_at hl 1 rfl) ?_
        refine g_get hx hb hts hown hV 1 5 (by decide) (v := .ref (w.2.2.2 6)) rfl rfl gin0 (by decide) gm_9 (rfl) dX0_canBeJoined_29 ?_
        refine lv_iload_n hx hb dX0_canBeJoined_32 rfl (lv_at hl 0 rfl) ?_
        refine g_ialn (a := 4) (n := 24) hx hb hV 6 (by decide) (by decide) rfl rfl (i := k) (by omega) dX0_canBeJoined_33 ?_
        refine g_callV (As := [.int b, .int (f 3 k), .int (f 4 k)]) (rest := []) G.1 hV 1 (by decide) rfl rfl ok_X0_hasTerm gm_44 gm_45 gm_43 (c_X0_hasTerm l w f b (f 3 k) (f 4 k) hI ) ⟨rfl, rfl⟩ ⟨Nat.le_of_ble_eq_true rfl, Nat.le_of_ble_eq_true rfl⟩ rfl hl.1 rfl (by decide) ⟨Nat.zero_le _, Nat.zero_le _⟩ dX0_canBeJoined_34 ?_
        refine lv_if_eq (tgt := 42) hx hb dX0_canBeJoined_37 (by decide) (fun c37 => ?_) (fun c37 => ?_)
        · skip
          have c37 : ¬ (hasT f b (f 3 k) (f 4 k) = true) := g_if0.mp c37
          refine lv_iinc (v := nI (k + 1)) (lv' := [(3, .int (nI (k + 1))), (0, .ref (w.2.2.2 1)), (1, .int a), (2, .int b)]) hx hb dX0_canBeJoined_42 hl (k := 0) rfl (g_inc k 1) (by decide) rfl (fun ls hl => ?_)
          refine lv_goto (tgt := 2) hx hb dX0_canBeJoined_45 (by decide) ?_
          refine ih ls ?_ (fun t ht q => by rcases Nat.lt_succ_iff_lt_or_eq.mp ht with h | h; exact hik t h q; subst h; simp_all)
          exact lv_sub hl [0, 1, 2, 3] rfl
        · skip
          have c37 : hasT f b (f 3 k) (f 4 k) = true := g_if1.mp c37
          refine lv_iconst (v := nI 0) hx hb dX0_canBeJoined_40 (by decide) ?_
          exact g_zret G (gz0 (fun q => by have h1 := (aT_iff (p := fun t => decide (f 2 t = a) && hasT f b (f 3 t) (f 4 t))).mpr ⟨k, hk, by simp [c17, c37]⟩; rw [q] at h1; cases h1)) (by decide) dX0_canBeJoined_41
  · intro ls hl hik
    refine lv_iload_n hx hb dX0_canBeJoined_2 rfl (lv_at hl 0 rfl) ?_
    refine lv_aload_n hx hb dX0_canBeJoined_3 rfl (lv_at hl 1 rfl) ?_
    refine g_get hx hb hts hown hV 1 1 (by decide) (v := .int (nI (nT f))) rfl rfl gin0 (by decide) gm_4 (by rw [← hT]; rfl) dX0_canBeJoined_4 ?_
    refine lv_icmp_ge (tgt := 48) hx hb dX0_canBeJoined_7 (by decide) (fun c7 => ?_) (fun c7 => ?_)
    · skip
      have c7 : (nT f) ≤ (nT f) := (g_le (by omega) (by omega)).mp c7
      refine lv_iconst (v := nI 1) hx hb dX0_canBeJoined_48 (by decide) ?_
      exact g_zret G (gz1 (Bool.eq_false_iff.mpr (fun q => by obtain ⟨t, h1, h2⟩ := aT_iff.mp q; exact hik t h1 h2))) (by decide) dX0_canBeJoined_49
    · skip
      have c7 : ¬ ((nT f) ≤ (nT f)) := fun q => c7 ((g_le (by omega) (by omega)).mpr q)
      exact absurd c7 (by omega)
theorem ok_X0_conceptsWithTerms : gOK yX0_conceptsWithTerms cX0_conceptsWithTerms 3 (some .int) 0 := ⟨gm_331, gm_25, by decide +kernel⟩
set_option maxRecDepth 100000 in
set_option maxHeartbeats 4000000 in
theorem c_X0_conceptsWithTerms (l : Launch) (w : GP) (f : CS)  (hI : gI f)  : Met l yX0_conceptsWithTerms (gws yX0_conceptsWithTerms cX0_conceptsWithTerms 3 (some .int)) ({ frames := 1, cells := 0, slots := 0, locals := 23 }) (gPc w f [.ref (w.2.2.2 1)]) (gRd (.int (nI (ct (fun c => decide (¬ ofC f (nI c) = 0)) (nC f))))) 0 0 (fun _ => False) := by
  refine g_read (by decide) (Nat.le_of_ble_eq_true rfl) ?_
  intro P_ E_ S_ M_ B_ T_ C_ ls G hV hl
  obtain ⟨hx, hb, hml, hown, hts⟩ := id G.1
  obtain ⟨⟨hT, hT24⟩, ⟨hC, hC12⟩, ⟨hD, hD6⟩, hLn⟩ := id hI
  have hl : lv_has ls 3 [(0, .ref (w.2.2.2 1))] := hl
  refine lv_iconst (v := nI 0) hx hb dX0_conceptsWithTerms_0 (by decide) ?_
  refine lv_istore_n (lv' := [(1, .int (nI 0)), (0, .ref (w.2.2.2 1))]) hx hb dX0_conceptsWithTerms_1 rfl hl (by decide) rfl (fun ls hl => ?_)
  refine lv_iconst (v := nI 0) hx hb dX0_conceptsWithTerms_2 (by decide) ?_
  refine lv_istore_n (lv' := [(2, .int (nI 0)), (1, .int (nI 0)), (0, .ref (w.2.2.2 1))]) hx hb dX0_conceptsWithTerms_3 rfl hl (by decide) rfl (fun ls hl => ?_)
  refine g_for (P := fun k => ∀ (ls : Array Slot), lv_has ls 3 [(1, .int (nI (ct (fun c => decide (¬ ofC f (nI c) = 0)) k))), (2, .int (nI k)), (0, .ref (w.2.2.2 1))] → W P_ l E_ _ S_ M_ _ B_ T_ C_ S_.heap [] 0 0 _ (F0 M_ 4 ls [])) (nC f) ?_ ?_ 0 (Nat.zero_le _) ls (lv_sub hl [1, 0, 2] rfl)
  · intro k hk ih ls hl
    refine lv_iload_n hx hb dX0_conceptsWithTerms_4 rfl (lv_at hl 1 rfl) ?_
    refine lv_aload_n hx hb dX0_conceptsWithTerms_5 rfl (lv_at hl 2 rfl) ?_
    refine g_get hx hb hts hown hV 1 0 (by decide) (v := .int (nI (nC f))) rfl rfl gin0 (by decide) gm_3 (by rw [← hC]; rfl) dX0_conceptsWithTerms_6 ?_
    refine lv_icmp_ge (tgt := 29) hx hb dX0_conceptsWithTerms_9 (by decide) (fun c9 => ?_) (fun c9 => ?_)
    · skip
      have c9 : (nC f) ≤ k := (g_le (by omega) (by omega)).mp c9
      exact absurd c9 (by omega)
    · skip
      have c9 : ¬ ((nC f) ≤ k) := fun q => c9 ((g_le (by omega) (by omega)).mpr q)
      refine lv_aload_n hx hb dX0_conceptsWithTerms_12 rfl (lv_at hl 2 rfl) ?_
      refine lv_iload_n hx hb dX0_conceptsWithTerms_13 rfl (lv_at hl 1 rfl) ?_
      refine g_callV (As := [.int (nI k)]) (rest := []) G.1 hV 1 (by decide) rfl rfl ok_X0_termsOf gm_52 gm_53 gm_51 (c_X0_termsOf l w f (nI k) hI ) ⟨rfl, rfl⟩ ⟨Nat.le_of_ble_eq_true rfl, Nat.le_of_ble_eq_true rfl⟩ rfl hl.1 rfl (by decide) ⟨Nat.zero_le _, Nat.zero_le _⟩ dX0_conceptsWithTerms_14 ?_
      refine lv_if_eq (tgt := 23) hx hb dX0_conceptsWithTerms_17 (by decide) (fun c17 => ?_) (fun c17 => ?_)
      · skip
        refine lv_iinc (v := nI (k + 1)) (lv' := [(2, .int (nI (k + 1))), (1, .int (nI (ct (fun c => decide (¬ ofC f (nI c) = 0)) k))), (0, .ref (w.2.2.2 1))]) hx hb dX0_conceptsWithTerms_23 hl (k := 1) rfl (g_inc k 1) (by decide) rfl (fun ls hl => ?_)
        refine lv_goto (tgt := 4) hx hb dX0_conceptsWithTerms_26 (by decide) ?_
        refine ih ls ?_
        rw [(show ct (fun c => decide (¬ ofC f (nI c) = 0)) (k + 1) = ct (fun c => decide (¬ ofC f (nI c) = 0)) k from by simp [ct, c9, c17])]
        exact lv_sub hl [1, 0, 2] rfl
      · skip
        refine lv_iinc (v := nI (ct (fun c => decide (¬ ofC f (nI c) = 0)) k + 1)) (lv' := [(1, .int (nI (ct (fun c => decide (¬ ofC f (nI c) = 0)) k + 1))), (2, .int (nI k)), (0, .ref (w.2.2.2 1))]) hx hb dX0_conceptsWithTerms_20 hl (k := 0) rfl (g_inc (ct (fun c => decide (¬ ofC f (nI c) = 0)) k) 1) (by decide) rfl (fun ls hl => ?_)
        refine lv_iinc (v := nI (k + 1)) (lv' := [(2, .int (nI (k + 1))), (1, .int (nI (ct (fun c => decide (¬ ofC f (nI c) = 0)) k + 1))), (0, .ref (w.2.2.2 1))]) hx hb dX0_conceptsWithTerms_23 hl (k := 1) rfl (g_inc k 1) (by decide) rfl (fun ls hl => ?_)
        refine lv_goto (tgt := 4) hx hb dX0_conceptsWithTerms_26 (by decide) ?_
        refine ih ls ?_
        rw [(show ct (fun c => decide (¬ ofC f (nI c) = 0)) (k + 1) = ct (fun c => decide (¬ ofC f (nI c) = 0)) k + 1 from by simp [ct, c9, c17])]
        exact lv_sub hl [1, 0, 2] rfl
  · intro ls hl
    refine lv_iload_n hx hb dX0_conceptsWithTerms_4 rfl (lv_at hl 1 rfl) ?_
    refine lv_aload_n hx hb dX0_conceptsWithTerms_5 rfl (lv_at hl 2 rfl) ?_
    refine g_get hx hb hts hown hV 1 0 (by decide) (v := .int (nI (nC f))) rfl rfl gin0 (by decide) gm_3 (by rw [← hC]; rfl) dX0_conceptsWithTerms_6 ?_
    refine lv_icmp_ge (tgt := 29) hx hb dX0_conceptsWithTerms_9 (by decide) (fun c9 => ?_) (fun c9 => ?_)
    · skip
      have c9 : (nC f) ≤ (nC f) := (g_le (by omega) (by omega)).mp c9
      refine lv_iload_n hx hb dX0_conceptsWithTerms_29 rfl (lv_at hl 0 rfl) ?_
      exact g_iret G (rfl) dX0_conceptsWithTerms_30
    · skip
      have c9 : ¬ ((nC f) ≤ (nC f)) := fun q => c9 ((g_le (by omega) (by omega)).mpr q)
      exact absurd c9 (by omega)
theorem ok_X0_termsInState : gOK yX0_termsInState cX0_termsInState 4 (some .int) 1 := ⟨gm_335, gm_25, by decide +kernel⟩
set_option maxRecDepth 100000 in
set_option maxHeartbeats 4000000 in
theorem c_X0_termsInState (l : Launch) (w : GP) (f : CS) (x : Int32) (hI : gI f)  : Met l yX0_termsInState (gws yX0_termsInState cX0_termsInState 4 (some .int)) ({ frames := 0, cells := 0, slots := 0, locals := 0 }) (gPc w f [.ref (w.2.2.2 1), .int x]) (gRd (.int (nI (ct (fun t => decide (f 5 t = x)) (nT f))))) 0 0 (fun _ => False) := by
  refine g_read (by decide) (Nat.le_of_ble_eq_true rfl) ?_
  intro P_ E_ S_ M_ B_ T_ C_ ls G hV hl
  obtain ⟨hx, hb, hml, hown, hts⟩ := id G.1
  obtain ⟨⟨hT, hT24⟩, ⟨hC, hC12⟩, ⟨hD, hD6⟩, hLn⟩ := id hI
  have hl : lv_has ls 4 [(0, .ref (w.2.2.2 1)), (1, .int x)] := hl
  refine lv_iconst (v := nI 0) hx hb dX0_termsInState_0 (by decide) ?_
  refine lv_istore_n (lv' := [(2, .int (nI 0)), (0, .ref (w.2.2.2 1)), (1, .int x)]) hx hb dX0_termsInState_1 rfl hl (by decide) rfl (fun ls hl => ?_)
  refine lv_iconst (v := nI 0) hx hb dX0_termsInState_2 (by decide) ?_
  refine lv_istore_n (lv' := [(3, .int (nI 0)), (2, .int (nI 0)), (0, .ref (w.2.2.2 1)), (1, .int x)]) hx hb dX0_termsInState_3 rfl hl (by decide) rfl (fun ls hl => ?_)
  refine g_for (P := fun k => ∀ (ls : Array Slot), lv_has ls 4 [(2, .int (nI (ct (fun t => decide (f 5 t = x)) k))), (3, .int (nI k)), (0, .ref (w.2.2.2 1)), (1, .int x)] → W P_ l E_ _ S_ M_ _ B_ T_ C_ S_.heap [] 0 0 _ (F0 M_ 4 ls [])) (nT f) ?_ ?_ 0 (Nat.zero_le _) ls (lv_sub hl [1, 0, 2, 3] rfl)
  · intro k hk ih ls hl
    refine lv_iload_n hx hb dX0_termsInState_4 rfl (lv_at hl 1 rfl) ?_
    refine lv_aload_n hx hb dX0_termsInState_5 rfl (lv_at hl 2 rfl) ?_
    refine g_get hx hb hts hown hV 1 1 (by decide) (v := .int (nI (nT f))) rfl rfl gin0 (by decide) gm_4 (by rw [← hT]; rfl) dX0_termsInState_6 ?_
    refine lv_icmp_ge (tgt := 31) hx hb dX0_termsInState_9 (by decide) (fun c9 => ?_) (fun c9 => ?_)
    · skip
      have c9 : (nT f) ≤ k := (g_le (by omega) (by omega)).mp c9
      exact absurd c9 (by omega)
    · skip
      have c9 : ¬ ((nT f) ≤ k) := fun q => c9 ((g_le (by omega) (by omega)).mpr q)
      refine lv_aload_n hx hb dX0_termsInState_12 rfl (lv_at hl 2 rfl) ?_
      refine g_get hx hb hts hown hV 1 6 (by decide) (v := .ref (w.2.2.2 7)) rfl rfl gin0 (by decide) gm_10 (rfl) dX0_termsInState_13 ?_
      refine lv_iload_n hx hb dX0_termsInState_16 rfl (lv_at hl 1 rfl) ?_
      refine g_ialn (a := 5) (n := 24) hx hb hV 7 (by decide) (by decide) rfl rfl (i := k) (by omega) dX0_termsInState_17 ?_
      refine lv_iload_n hx hb dX0_termsInState_18 rfl (lv_at hl 3 rfl) ?_
      refine lv_icmp_ne (tgt := 25) hx hb dX0_termsInState_19 (by decide) (fun c19 => ?_) (fun c19 => ?_)
      · skip
        refine lv_iinc (v := nI (k + 1)) (lv' := [(3, .int (nI (k + 1))), (2, .int (nI (ct (fun t => decide (f 5 t = x)) k))), (0, .ref (w.2.2.2 1)), (1, .int x)]) hx hb dX0_termsInState_25 hl (k := 1) rfl (g_inc k 1) (by decide) rfl (fun ls hl => ?_)
        refine lv_goto (tgt := 4) hx hb dX0_termsInState_28 (by decide) ?_
        refine ih ls ?_
        rw [(show ct (fun t => decide (f 5 t = x)) (k + 1) = ct (fun t => decide (f 5 t = x)) k from by simp [ct, c9, c19])]
        exact lv_sub hl [1, 0, 2, 3] rfl
      · skip
        refine lv_iinc (v := nI (ct (fun t => decide (f 5 t = x)) k + 1)) (lv' := [(2, .int (nI (ct (fun t => decide (f 5 t = x)) k + 1))), (3, .int (nI k)), (0, .ref (w.2.2.2 1)), (1, .int x)]) hx hb dX0_termsInState_22 hl (k := 0) rfl (g_inc (ct (fun t => decide (f 5 t = x)) k) 1) (by decide) rfl (fun ls hl => ?_)
        refine lv_iinc (v := nI (k + 1)) (lv' := [(3, .int (nI (k + 1))), (2, .int (nI (ct (fun t => decide (f 5 t = x)) k + 1))), (0, .ref (w.2.2.2 1)), (1, .int x)]) hx hb dX0_termsInState_25 hl (k := 1) rfl (g_inc k 1) (by decide) rfl (fun ls hl => ?_)
        refine lv_goto (tgt := 4) hx hb dX0_termsInState_28 (by decide) ?_
        refine ih ls ?_
        rw [(show ct (fun t => decide (f 5 t = x)) (k + 1) = ct (fun t => decide (f 5 t = x)) k + 1 from by simp [ct, c9, c19])]
        exact lv_sub hl [1, 0, 2, 3] rfl
  · intro ls hl
    refine lv_iload_n hx hb dX0_termsInState_4 rfl (lv_at hl 1 rfl) ?_
    refine lv_aload_n hx hb dX0_termsInState_5 rfl (lv_at hl 2 rfl) ?_
    refine g_get hx hb hts hown hV 1 1 (by decide) (v := .int (nI (nT f))) rfl rfl gin0 (by decide) gm_4 (by rw [← hT]; rfl) dX0_termsInState_6 ?_
    refine lv_icmp_ge (tgt := 31) hx hb dX0_termsInState_9 (by decide) (fun c9 => ?_) (fun c9 => ?_)
    · skip
      have c9 : (nT f) ≤ (nT f) := (g_le (by omega) (by omega)).mp c9
      refine lv_iload_n hx hb dX0_termsInState_31 rfl (lv_at hl 0 rfl) ?_
      exact g_iret G (rfl) dX0_termsInState_32
    · skip
      have c9 : ¬ ((nT f) ≤ (nT f)) := fun q => c9 ((g_le (by omega) (by omega)).mpr q)
      exact absurd c9 (by omega)
theorem ok_X0_canBe : gOK yX0_canBe cX0_canBe 4 (some .int) 2 := ⟨gm_83, gm_25, by decide +kernel⟩
set_option maxRecDepth 100000 in
set_option maxHeartbeats 4000000 in
theorem c_X0_canBe (l : Launch) (w : GP) (f : CS) (g : Nat) (x : Int32) (hI : gI f) (hg : g < 3) : Met l yX0_canBe (gws yX0_canBe cX0_canBe 4 (some .int)) ({ frames := 1, cells := 0, slots := 0, locals := 21 }) (gPc w f [.ref (w.2.2.2 1), .int (nI g), .int x]) (gRd (.int (cb f g x))) 0 0 (fun _ => False) := by
  refine g_read (by decide) (Nat.le_of_ble_eq_true rfl) ?_
  intro P_ E_ S_ M_ B_ T_ C_ ls G hV hl
  obtain ⟨hx, hb, hml, hown, hts⟩ := id G.1
  obtain ⟨⟨hT, hT24⟩, ⟨hC, hC12⟩, ⟨hD, hD6⟩, hLn⟩ := id hI
  have hl : lv_has ls 4 [(0, .ref (w.2.2.2 1)), (1, .int (nI g)), (2, .int x)] := hl
  refine lv_iload_n hx hb dX0_canBe_0 rfl (lv_at hl 2 rfl) ?_
  refine lv_iconst (v := nI 4) hx hb dX0_canBe_1 (by decide) ?_
  refine lv_idiv hx hb dX0_canBe_2 (by decide) ?_
  refine lv_istore_n (lv' := [(3, .int (x / (nI 4))), (0, .ref (w.2.2.2 1)), (1, .int (nI g)), (2, .int x)]) hx hb dX0_canBe_3 rfl hl (by decide) rfl (fun ls hl => ?_)
  refine lv_iload_n hx hb dX0_canBe_4 rfl (lv_at hl 2 rfl) ?_
  refine lv_iload_n hx hb dX0_canBe_5 rfl (lv_at hl 0 rfl) ?_
  refine g_callS (As := [.int (nI g), .int (x / (nI 4))]) (rest := []) G.1 hV ok_X0_isStem gm_24 gm_23 (c_X0_isStem l w f (nI g) (x / (nI 4))  ) ⟨rfl, rfl⟩ ⟨Nat.le_of_ble_eq_true rfl, Nat.le_of_ble_eq_true rfl⟩ rfl hl.1 rfl (by decide) ⟨Nat.zero_le _, Nat.zero_le _⟩ dX0_canBe_6 ?_
  refine lv_if_eq (tgt := 23) hx hb dX0_canBe_9 (by decide) (fun c9 => ?_) (fun c9 => ?_)
  · skip
    have c9 : ¬ (isS (nI g) (x / (nI 4))) := g_if0.mp c9
    refine lv_iconst (v := nI 0) hx hb dX0_canBe_23 (by decide) ?_
    exact g_iret G (by unfold cb; rw [if_neg (fun q => c9 ⟨⟨nI_pos' (by omega), (g_lt (by omega) (by omega)).mpr hg⟩, q⟩)]; rfl) dX0_canBe_24
  · skip
    have c9 : isS (nI g) (x / (nI 4)) := g_if1.mp c9
    obtain ⟨u, hu, eu⟩ : ∃ u : Nat, u < 20 ∧ x / (nI 4) = nI u := nz c9.2.1 c9.2.2 (by omega)
    rw [eu] at hl
    refine lv_aload_n hx hb dX0_canBe_12 rfl (lv_at hl 1 rfl) ?_
    refine g_get hx hb hts hown hV 1 11 (by decide) (v := .ref (w.2.2.2 12)) rfl rfl gin0 (by decide) gm_16 (rfl) dX0_canBe_13 ?_
    refine lv_iload_n hx hb dX0_canBe_16 rfl (lv_at hl 2 rfl) ?_
    refine g_row (n := 3) (b := 13) hx hb hV 12 (by decide) rfl (i := g) (by omega) (by decide) dX0_canBe_17 ?_
    refine lv_iload_n hx hb dX0_canBe_18 rfl (lv_at hl 0 rfl) ?_
    refine g_ialn (a := 60 + g) (n := 20) hx hb hV (13 + g) (by omega) (by omega) (gid_13 (by omega)) (gn_13 (by omega)) (i := u) (by omega) dX0_canBe_19 ?_
    refine lv_goto (tgt := 24) hx hb dX0_canBe_20 (by decide) ?_
    exact g_iret G (by unfold cb; rw [if_pos c9.2, eu, nI_clamp (by omega)]) dX0_canBe_24
theorem ok_X0_domainIf : gOK yX0_domainIf cX0_domainIf 5 (some .int) 3 := ⟨gm_79, gm_25, by decide +kernel⟩
set_option maxRecDepth 100000 in
set_option maxHeartbeats 4000000 in
theorem c_X0_domainIf (l : Launch) (w : GP) (f : CS) (t : Nat) (a : Int32) (b : Int32) (hI : gI f) (ht : t < 24) : Met l yX0_domainIf (gws yX0_domainIf cX0_domainIf 5 (some .int)) ({ frames := 1, cells := 0, slots := 0, locals := 21 }) (gPc w f [.ref (w.2.2.2 1), .int (nI t), .int a, .int b]) (gRd (.int (domI f t a b))) 0 0 (fun _ => False) := by
  refine g_read (by decide) (Nat.le_of_ble_eq_true rfl) ?_
  intro P_ E_ S_ M_ B_ T_ C_ ls G hV hl
  obtain ⟨hx, hb, hml, hown, hts⟩ := id G.1
  obtain ⟨⟨hT, hT24⟩, ⟨hC, hC12⟩, ⟨hD, hD6⟩, hLn⟩ := id hI
  have hl : lv_has ls 5 [(0, .ref (w.2.2.2 1)), (1, .int (nI t)), (2, .int a), (3, .int b)] := hl
  refine lv_aload_n hx hb dX0_domainIf_0 rfl (lv_at hl 0 rfl) ?_
  refine g_get hx hb hts hown hV 1 3 (by decide) (v := .ref (w.2.2.2 4)) rfl rfl gin0 (by decide) gm_7 (rfl) dX0_domainIf_1 ?_
  refine lv_iload_n hx hb dX0_domainIf_4 rfl (lv_at hl 1 rfl) ?_
  refine g_ialn (a := 2) (n := 24) hx hb hV 4 (by decide) (by decide) rfl rfl (i := t) (by omega) dX0_domainIf_5 ?_
  refine lv_iload_n hx hb dX0_domainIf_6 rfl (lv_at hl 2 rfl) ?_
  refine lv_icmp_ne (tgt := 14) hx hb dX0_domainIf_7 (by decide) (fun c7 => ?_) (fun c7 => ?_)
  · skip
    refine lv_aload_n hx hb dX0_domainIf_14 rfl (lv_at hl 0 rfl) ?_
    refine g_get hx hb hts hown hV 1 3 (by decide) (v := .ref (w.2.2.2 4)) rfl rfl gin0 (by decide) gm_7 (rfl) dX0_domainIf_15 ?_
    refine lv_iload_n hx hb dX0_domainIf_18 rfl (lv_at hl 1 rfl) ?_
    refine g_ialn (a := 2) (n := 24) hx hb hV 4 (by decide) (by decide) rfl rfl (i := t) (by omega) dX0_domainIf_19 ?_
    refine lv_istore (lv' := [(4, .int (f 2 t)), (0, .ref (w.2.2.2 1)), (1, .int (nI t)), (2, .int a), (3, .int b)]) hx hb dX0_domainIf_20 hl (by decide) rfl (fun ls hl => ?_)
    refine lv_aload_n hx hb dX0_domainIf_22 rfl (lv_at hl 1 rfl) ?_
    refine lv_iload hx hb dX0_domainIf_23 (lv_at hl 0 rfl) ?_
    refine g_callV (As := [.int (f 2 t)]) (rest := []) G.1 hV 1 (by decide) rfl rfl ok_X0_isConcept gm_60 gm_61 gm_59 (c_X0_isConcept l w f (f 2 t) hI ) ⟨rfl, rfl⟩ ⟨Nat.le_of_ble_eq_true rfl, Nat.le_of_ble_eq_true rfl⟩ rfl hl.1 rfl (by decide) ⟨Nat.zero_le _, Nat.zero_le _⟩ dX0_domainIf_25 ?_
    refine lv_if_eq (tgt := 41) hx hb dX0_domainIf_28 (by decide) (fun c28 => ?_) (fun c28 => ?_)
    · skip
      have c28 : ¬ (0 ≤ (f 2 t) ∧ (f 2 t) < nI (nC f)) := g_if0.mp c28
      refine lv_iconst (v := -1) hx hb dX0_domainIf_41 (by decide) ?_
      exact g_iret G (by unfold domI own; simp only [if_neg c7]; rw [if_neg c28]) dX0_domainIf_42
    · skip
      have c28 : 0 ≤ (f 2 t) ∧ (f 2 t) < nI (nC f) := g_if1.mp c28
      obtain ⟨u, hu, eu⟩ : ∃ u : Nat, u < nC f ∧ f 2 t = nI u := nz c28.1 c28.2 (by omega)
      rw [eu] at hl
      refine lv_aload_n hx hb dX0_domainIf_31 rfl (lv_at hl 1 rfl) ?_
      refine g_get hx hb hts hown hV 1 2 (by decide) (v := .ref (w.2.2.2 3)) rfl rfl gin0 (by decide) gm_6 (rfl) dX0_domainIf_32 ?_
      refine lv_iload hx hb dX0_domainIf_35 (lv_at hl 0 rfl) ?_
      refine g_ialn (a := 1) (n := 12) hx hb hV 3 (by decide) (by decide) rfl rfl (i := u) (by omega) dX0_domainIf_37 ?_
      refine lv_goto (tgt := 42) hx hb dX0_domainIf_38 (by decide) ?_
      exact g_iret G (by unfold domI own; simp only [if_neg c7]; rw [if_pos c28, eu, nI_clamp (by omega)]) dX0_domainIf_42
  · skip
    refine lv_iload_n hx hb dX0_domainIf_10 rfl (lv_at hl 3 rfl) ?_
    refine lv_goto (tgt := 20) hx hb dX0_domainIf_11 (by decide) ?_
    refine lv_istore (lv' := [(4, .int b), (0, .ref (w.2.2.2 1)), (1, .int (nI t)), (2, .int a), (3, .int b)]) hx hb dX0_domainIf_20 hl (by decide) rfl (fun ls hl => ?_)
    refine lv_aload_n hx hb dX0_domainIf_22 rfl (lv_at hl 1 rfl) ?_
    refine lv_iload hx hb dX0_domainIf_23 (lv_at hl 0 rfl) ?_
    refine g_callV (As := [.int b]) (rest := []) G.1 hV 1 (by decide) rfl rfl ok_X0_isConcept gm_60 gm_61 gm_59 (c_X0_isConcept l w f b hI ) ⟨rfl, rfl⟩ ⟨Nat.le_of_ble_eq_true rfl, Nat.le_of_ble_eq_true rfl⟩ rfl hl.1 rfl (by decide) ⟨Nat.zero_le _, Nat.zero_le _⟩ dX0_domainIf_25 ?_
    refine lv_if_eq (tgt := 41) hx hb dX0_domainIf_28 (by decide) (fun c28 => ?_) (fun c28 => ?_)
    · skip
      have c28 : ¬ (0 ≤ b ∧ b < nI (nC f)) := g_if0.mp c28
      refine lv_iconst (v := -1) hx hb dX0_domainIf_41 (by decide) ?_
      exact g_iret G (by unfold domI own; simp only [if_pos c7]; rw [if_neg c28]) dX0_domainIf_42
    · skip
      have c28 : 0 ≤ b ∧ b < nI (nC f) := g_if1.mp c28
      obtain ⟨u, hu, eu⟩ : ∃ u : Nat, u < nC f ∧ b = nI u := nz c28.1 c28.2 (by omega)
      rw [eu] at hl
      refine lv_aload_n hx hb dX0_domainIf_31 rfl (lv_at hl 1 rfl) ?_
      refine g_get hx hb hts hown hV 1 2 (by decide) (v := .ref (w.2.2.2 3)) rfl rfl gin0 (by decide) gm_6 (rfl) dX0_domainIf_32 ?_
      refine lv_iload hx hb dX0_domainIf_35 (lv_at hl 0 rfl) ?_
      refine g_ialn (a := 1) (n := 12) hx hb hV 3 (by decide) (by decide) rfl rfl (i := u) (by omega) dX0_domainIf_37 ?_
      refine lv_goto (tgt := 42) hx hb dX0_domainIf_38 (by decide) ?_
      exact g_iret G (by unfold domI own; simp only [if_pos c7]; rw [if_pos c28, eu, nI_clamp (by omega)]) dX0_domainIf_42
end
section
/-! What the methods of the texts answer, told over f. -/
def pcn (x : Int32) : Nat := ct (fun i => x.toBitVec.getLsbD i) 32
theorem pcn_le (x : Int32) : pcn x ≤ 32 := ct_le _ 32
theorem pcn_lt {x : Int32} : pcn x < 2 ^ 31 := Nat.lt_of_le_of_lt (pcn_le x) (by decide)
def oneI (x : Int32) : Int32 := if pcn x = 1 then nI (pcn (x - nI 1)) else -1
def sm (g : Nat → Nat) : Nat → Nat
  | 0 => 0
  | n + 1 => sm g n + g n
/-- the only one that the form on a place can be, or -1 -/
def pl (f : CS) (t o : Nat) : Int32 := oneI (cb f (t % 3) (f (20 + t) o))
def supP (f : CS) (k t p : Nat) (a b : Int32) (o : Nat) : Bool := decide (p - 3 ≤ o ∧ ¬ o = p ∧ isT f (pl f t o) ∧ domI f (pl f t o).toNatClampNeg a b = domI f k a b)
/-- how many near plain forms stand for the term k -/
def sup (f : CS) (k t p : Nat) (a b : Int32) : Nat := ct (supP f k t p a b) (if p + 4 ≤ nL f t then p + 4 else nL f t)
theorem sup_lt {f : CS} {k t p : Nat} {a b : Int32} (h : nL f t ≤ 12) : sup f k t p a b < 2 ^ 31 := by
  refine Nat.lt_of_le_of_lt (ct_le _ _) ?_
  split <;> omega
/-- the best term so far, and how many stand for it -/
def bst (f : CS) (t p : Nat) (x a b : Int32) : Nat → Int32 × Int32
  | 0 => (-1, -1)
  | k + 1 => if hs x (nI k) = true ∧ (bst f t p x a b k).2 < nI (sup f k t p a b) then (nI k, nI (sup f k t p a b)) else bst f t p x a b k
/-- what a form would be on a place -/
def useF (f : CS) (t p : Nat) (x a b : Int32) : Int32 := if pcn (cb f (t % 3) x) < 2 then oneI (cb f (t % 3) x) else (bst f t p (cb f (t % 3) x) a b (nT f)).1
def chP (f : CS) (a b : Int32) (t p : Nat) : Bool := decide (¬ useF f t p (f (20 + t) p) a b = f (40 + t) p)
def chN (f : CS) (a b : Int32) : Nat := sm (fun t => ct (chP f a b t) (nL f t)) (nD f * 3)
def uA (f : CS) (t : Nat) (x : Int32) : Nat := ct (fun p => decide (¬ f (40 + t) p = -1 ∧ hs x (f (40 + t) p) = true)) (nL f t)
theorem uA_le (f : CS) (t : Nat) (x : Int32) : uA f t x ≤ nL f t := ct_le _ _
abbrev uS (f : CS) (t p : Nat) (x : Int32) : Prop := isT f (f (40 + t) p) ∧ f 5 (f (40 + t) p).toNatClampNeg = x
def uI (f : CS) (t : Nat) (x : Int32) : Nat := ct (fun p => decide (uS f t p x)) (nL f t)
theorem uI_le (f : CS) (t : Nat) (x : Int32) : uI f t x ≤ nL f t := ct_le _ _
def fbN (f : CS) (t : Nat) : Nat := fst (fun p => decide (uS f t p (nI 3))) (nL f t)
def fbI (f : CS) (t : Nat) : Int32 := if fbN f t < nL f t then nI (fbN f t) else -1
def csN (f : CS) (t : Nat) : Nat := if uA f t (-1) = 0 then 100 else 100 * uI f t (nI 2) / uA f t (-1)
theorem csN_le {f : CS} {t : Nat} (h : nL f t ≤ 12) : csN f t ≤ 1200 := by
  unfold csN
  split
  · omega
  · have h1 := uI_le f t (nI 2)
    have h2 : 100 * uI f t (nI 2) / uA f t (-1) ≤ 100 * uI f t (nI 2) := Nat.div_le_self _ _
    omega
def amN (f : CS) (t : Nat) : Nat := ct (fun p => decide (1 < pcn (cb f (t % 3) (f (20 + t) p)))) (nL f t)
def cIn (f : CS) (t : Nat) : Nat → Int32
  | 0 => 0
  | k + 1 => if isT f (f (40 + t) k) then cIn f t k ||| (nI 1 <<< (f 2 (f (40 + t) k).toNatClampNeg &&& 31)) else cIn f t k
def agS (f : CS) (d : Nat) : Nat → Int32 × Int32
  | 0 => (0, -1)
  | k + 1 => if 0 < nL f (d * 3 + k) then ((agS f d k).1 ||| cIn f (d * 3 + k) (nL f (d * 3 + k)), (agS f d k).2 &&& cIn f (d * 3 + k) (nL f (d * 3 + k))) else agS f d k
def agN (f : CS) (d : Nat) : Nat := if pcn (agS f d 3).1 = 0 then 100 else 100 * pcn ((agS f d 3).1 &&& (agS f d 3).2) / pcn (agS f d 3).1
def apN (f : CS) (d : Nat) : Nat := ct (fun l => decide (f 12 (d * 3 + l) = nI 1)) 3
def hasA (f : CS) (d : Nat) (x : Int32) : Bool := aT (fun l => decide (f 12 (d * 3 + l) = nI 1 ∧ 0 < uA f (d * 3 + l) x)) 3
def roN (f : CS) (x : Int32) : Nat := sm (fun d => if hasA f d x = true then apN f d else 0) (nD f)
def usN (f : CS) (x : Int32) : Nat := sm (fun t => uA f t x) (nD f * 3)
def dwN (f : CS) (x : Int32) : Nat := ct (fun d => decide (0 < sm (fun l => uA f (d * 3 + l) x) 3)) (nD f)
def tsN (f : CS) (x : Int32) : Nat := ct (fun t => decide (0 < nL f t ∧ f 12 t = x)) (nD f * 3)
def twN (f : CS) : Nat := ct (fun t => decide (0 < nL f t)) (nD f * 3)
def scN (f : CS) : Nat := sm (fun t => if 0 < nL f t then csN f t else 0) (nD f * 3)
theorem g_rem {a b : Nat} (ha : a < 2 ^ 31) (hb : b < 2 ^ 31) : nI a - nI a / nI b * nI b = nI (a % b) := by
  apply Int32.toInt_inj.mp
  rw [nI_toInt (Nat.lt_of_le_of_lt (Nat.mod_le _ _) ha)]
  have h1 : (nI a / nI b) = nI (a / b) := by
    apply Int32.toInt_inj.mp
    rw [Int32.toInt_div_of_ne_left _ _ (by intro h; have := congrArg Int32.toInt h; rw [nI_toInt ha] at this; have h2 : (Int32.minValue).toInt = -2147483648 := by decide
                                           omega), nI_toInt ha, nI_toInt hb, nI_toInt (Nat.lt_of_le_of_lt (Nat.div_le_self _ _) ha)]
    exact (Int.ofNat_tdiv a b).symm
  rw [h1, show nI (a / b) * nI b = nI (a / b * b) from (Int32.ofNat_mul _ _).symm]
  have hle : a / b * b ≤ a := Nat.div_mul_le_self a b
  have h2 : nI a - nI (a / b * b) = nI (a - a / b * b) := by
    have : nI a = nI (a - a / b * b) + nI (a / b * b) := by
      rw [show nI (a - a / b * b) + nI (a / b * b) = nI ((a - a / b * b) + a / b * b) from (Int32.ofNat_add _ _).symm, Nat.sub_add_cancel hle]
    rw [this, Int32.add_sub_cancel]
  rw [h2, nI_toInt (by omega)]
  have h3 := Nat.div_add_mod a b
  rw [Nat.mul_comm] at h3
  omega
theorem g_div {a b : Nat} (ha : a < 2 ^ 31) (hb : b < 2 ^ 31) : nI a / nI b = nI (a / b) := by
  apply Int32.toInt_inj.mp
  rw [Int32.toInt_div_of_ne_left _ _ (by intro h; have := congrArg Int32.toInt h; rw [nI_toInt ha] at this; have h2 : (Int32.minValue).toInt = -2147483648 := by decide
                                         omega), nI_toInt ha, nI_toInt hb, nI_toInt (Nat.lt_of_le_of_lt (Nat.div_le_self _ _) ha)]
  exact (Int.ofNat_tdiv a b).symm
theorem g_sub {a b : Nat} (h : b ≤ a) : nI a - nI b = nI (a - b) := by
  have : nI a = nI (a - b) + nI b := by
    rw [show nI (a - b) + nI b = nI ((a - b) + b) from (Int32.ofNat_add _ _).symm, Nat.sub_add_cancel h]
  rw [this, Int32.add_sub_cancel]
section GN
variable {p : Program} {l : Launch} {e : Env} {R : Room} {s : State} {m : MethodId} {args : Array Value} {below : List Frame} {meth : Method} {c : Code} {H : Heap} {locs : List Loc} {cells slots : Nat} {Q : State → Prop}
variable {cc : ByteArray} {pc : Nat} {ls : Array Slot} {rest : List Value} {a b : Nat}
theorem g_iremn (hx : p.tables.exec = Jvm.exec) (hb : c.code = cc) (ha : a < 2 ^ 31) (hb2 : b < 2 ^ 31) (h0 : 0 < b) (hdg : decode cc pc = .ok (.irem, 1)) (k : W p l e R s m args below meth c H locs cells slots Q (F0 m (pc + 1) ls (.int (nI (a % b)) :: rest))) : W p l e R s m args below meth c H locs cells slots Q (F0 m pc ls (.int (nI b) :: .int (nI a) :: rest)) :=
  lv_irem hx hb hdg (nI_ne0 h0 hb2) (by rw [g_rem ha hb2]; exact k)
theorem g_idivn (hx : p.tables.exec = Jvm.exec) (hb : c.code = cc) (ha : a < 2 ^ 31) (hb2 : b < 2 ^ 31) (h0 : 0 < b) (hdg : decode cc pc = .ok (.idiv, 1)) (k : W p l e R s m args below meth c H locs cells slots Q (F0 m (pc + 1) ls (.int (nI (a / b)) :: rest))) : W p l e R s m args below meth c H locs cells slots Q (F0 m pc ls (.int (nI b) :: .int (nI a) :: rest)) :=
  lv_idiv hx hb hdg (nI_ne0 h0 hb2) (by rw [g_div ha hb2]; exact k)
theorem g_isubn (hx : p.tables.exec = Jvm.exec) (hb : c.code = cc) (h : b ≤ a) (hdg : decode cc pc = .ok (.isub, 1)) (k : W p l e R s m args below meth c H locs cells slots Q (F0 m (pc + 1) ls (.int (nI (a - b)) :: rest))) : W p l e R s m args below meth c H locs cells slots Q (F0 m pc ls (.int (nI b) :: .int (nI a) :: rest)) :=
  lv_isub hx hb hdg (by rw [g_sub h]; exact k)
end GN
theorem g_min1 {a b : Nat} (ha : a < 1000) (hb : b < 1000) : (if nI b - nI 1 < nI a then nI b - nI 1 else nI a) = nI (if a + 1 ≤ b then a + 1 else b) - nI 1 := by
  have e : nI (a + 1) - nI 1 = nI a := by rw [g_sub (by omega)]; rfl
  rcases Nat.eq_zero_or_pos b with h | h
  · subst h
    rw [if_neg (show ¬ a + 1 ≤ 0 by omega), if_pos]
    have : nI 0 - nI 1 = -1 := by decide
    rw [this]
    exact Int32.lt_iff_toInt_lt.mpr (by rw [nI_toInt (by omega)]; have : (-1 : Int32).toInt = -1 := by decide
                                        omega)
  · rw [g_sub (show 1 ≤ b from h)]
    by_cases q : a + 1 ≤ b
    · rw [if_pos q, e, if_neg (fun z => by have := (g_lt (by omega) (by omega)).mp z; omega)]
    · rw [if_neg q, g_sub (show 1 ≤ b from h), if_pos ((g_lt (by omega) (by omega)).mpr (by omega))]
theorem g_max3 {p : Nat} (hp : p < 1000) : (if nI p - nI 3 < nI 0 then nI 0 else nI p - nI 3) = nI (p - 3) := by
  by_cases h : 3 ≤ p
  · rw [g_sub h, if_neg (fun z => absurd ((g_lt (by omega) (by omega)).mp z) (by omega))]
  · have : p = 0 ∨ p = 1 ∨ p = 2 := by omega
    rcases this with rfl | rfl | rfl <;> decide
theorem g_pred {E o : Nat} (hE : E < 1000) (ho : o < 1000) : nI E - nI 1 < nI o ↔ E ≤ o := by
  rcases Nat.eq_zero_or_pos E with h | h
  · subst h
    have : nI 0 - nI 1 = -1 := by decide
    rw [this]
    exact ⟨fun _ => Nat.zero_le _, fun _ => Int32.lt_iff_toInt_lt.mpr (by rw [nI_toInt (by omega)]; have : (-1 : Int32).toInt = -1 := by decide
                                                                          omega)⟩
  · rw [g_sub (show 1 ≤ E from h), g_lt (by omega) (by omega)]
    omega
theorem ct_0 {p : Nat → Bool} : ∀ {n : Nat}, (∀ t, t < n → ¬ p t = true) → ct p n = 0
  | 0, _ => rfl
  | n + 1, h => by rw [ct_n (h n (by omega)), ct_0 (fun t ht => h t (by omega))]
theorem sup_0 {f : CS} {k t p : Nat} {a b : Int32} {n : Nat} (h : n ≤ p - 3) : ct (supP f k t p a b) n = 0 := ct_0 (fun q hq z => by have := (of_decide_eq_true z).1; omega)
theorem sm3 {g : Nat → Nat} (h : ∀ l, l < 3 → g l ≤ 12) : sm g 3 < 2 ^ 31 := by
  have h0 := h 0 (by omega)
  have h1 := h 1 (by omega)
  have h2 := h 2 (by omega)
  show 0 + g 0 + g 1 + g 2 < 2 ^ 31
  omega
end
section
theorem ok_J6_bitCount_0f7a4 : gOK yJ6_bitCount_0f7a4 cJ6_bitCount_0f7a4 1 (some .int) 1 := ⟨gm_30, gm_29, by decide +kernel⟩
set_option maxRecDepth 100000 in
set_option maxHeartbeats 4000000 in
theorem c_J6_bitCount_0f7a4 (l : Launch) (w : GP) (f : CS) (x : Int32)   : Met l yJ6_bitCount_0f7a4 (gws yJ6_bitCount_0f7a4 cJ6_bitCount_0f7a4 1 (some .int)) ({ frames := 0, cells := 0, slots := 0, locals := 0 }) (gPc w f [.int x]) (gRd (.int (nI (pcn x)))) 0 0 (fun _ => False) := by
  refine g_read (by decide) (Nat.le_of_ble_eq_true rfl) ?_
  intro P_ E_ S_ M_ B_ T_ C_ ls G hV hl
  obtain ⟨hx, hb, hml, hown, hts⟩ := id G.1
  have hl : lv_has ls 1 [(0, .int x)] := hl
  sorry
theorem ok_X1_onlyOneOf : gOK yX1_onlyOneOf cX1_onlyOneOf 1 (some .int) 1 := ⟨gm_87, gm_86, by decide +kernel⟩
set_option maxRecDepth 100000 in
set_option maxHeartbeats 4000000 in
theorem c_X1_onlyOneOf (l : Launch) (w : GP) (f : CS) (x : Int32)   : Met l yX1_onlyOneOf (gws yX1_onlyOneOf cX1_onlyOneOf 1 (some .int)) ({ frames := 1, cells := 0, slots := 0, locals := 20 }) (gPc w f [.int x]) (gRd (.int (oneI x))) 0 0 (fun _ => False) := by
  refine g_read (by decide) (Nat.le_of_ble_eq_true rfl) ?_
  intro P_ E_ S_ M_ B_ T_ C_ ls G hV hl
  obtain ⟨hx, hb, hml, hown, hts⟩ := id G.1
  have hl : lv_has ls 1 [(0, .int x)] := hl
  refine lv_iload_n hx hb dX1_onlyOneOf_0 rfl (lv_at hl 0 rfl) ?_
  refine g_callS (As := [.int x]) (rest := []) G.1 hV ok_J6_bitCount_0f7a4 gm_28 gm_74 (c_J6_bitCount_0f7a4 l w f x  ) ⟨rfl, rfl⟩ ⟨Nat.le_of_ble_eq_true rfl, Nat.le_of_ble_eq_true rfl⟩ rfl hl.1 rfl (Nat.le_of_ble_eq_true rfl) ⟨Nat.zero_le _, Nat.zero_le _⟩ dX1_onlyOneOf_1 ?_
  refine lv_iconst (v := nI 1) hx hb dX1_onlyOneOf_4 (by decide) ?_
  refine lv_icmp_ne (tgt := 17) hx hb dX1_onlyOneOf_5 (by decide) (fun c5 => ?_) (fun c5 => ?_)
  · skip
    have c5 : ¬ ((pcn x) = 1) := fun q => c5 ((g_eq pcn_lt (by omega)).mpr q)
    refine lv_iconst (v := -1) hx hb dX1_onlyOneOf_17 (by decide) ?_
    exact g_iret G (by unfold oneI; rw [if_neg c5]) dX1_onlyOneOf_18
  · skip
    have c5 : (pcn x) = 1 := (g_eq pcn_lt (by omega)).mp c5
    refine lv_iload_n hx hb dX1_onlyOneOf_8 rfl (lv_at hl 0 rfl) ?_
    refine lv_iconst (v := nI 1) hx hb dX1_onlyOneOf_9 (by decide) ?_
    refine lv_isub hx hb dX1_onlyOneOf_10 ?_
    refine g_callS (As := [.int (x - (nI 1))]) (rest := []) G.1 hV ok_J6_bitCount_0f7a4 gm_28 gm_74 (c_J6_bitCount_0f7a4 l w f (x - (nI 1))  ) ⟨rfl, rfl⟩ ⟨Nat.le_of_ble_eq_true rfl, Nat.le_of_ble_eq_true rfl⟩ rfl hl.1 rfl (Nat.le_of_ble_eq_true rfl) ⟨Nat.zero_le _, Nat.zero_le _⟩ dX1_onlyOneOf_11 ?_
    refine lv_goto (tgt := 18) hx hb dX1_onlyOneOf_14 (by decide) ?_
    exact g_iret G (by unfold oneI; rw [if_pos c5]) dX1_onlyOneOf_18
theorem ok_X1_textCount : gOK yX1_textCount cX1_textCount 1 (some .int) 0 := ⟨gm_105, gm_86, by decide +kernel⟩
set_option maxRecDepth 100000 in
set_option maxHeartbeats 4000000 in
theorem c_X1_textCount (l : Launch) (w : GP) (f : CS)  (hI : gI f)  : Met l yX1_textCount (gws yX1_textCount cX1_textCount 1 (some .int)) ({ frames := 0, cells := 0, slots := 0, locals := 0 }) (gPc w f [.ref (w.2.2.2 2)]) (gRd (.int (nI (nD f * 3)))) 0 0 (fun _ => False) := by
  refine g_read (by decide) (Nat.le_of_ble_eq_true rfl) ?_
  intro P_ E_ S_ M_ B_ T_ C_ ls G hV hl
  obtain ⟨hx, hb, hml, hown, hts⟩ := id G.1
  obtain ⟨⟨hT, hT24⟩, ⟨hC, hC12⟩, ⟨hD, hD6⟩, hLn⟩ := id hI
  have hl : lv_has ls 1 [(0, .ref (w.2.2.2 2))] := hl
  refine lv_aload_n hx hb dX1_textCount_0 rfl (lv_at hl 0 rfl) ?_
  refine g_get hx hb hts hown hV 2 1 (by decide) (v := .int (nI (nD f))) rfl rfl gin1 (by decide) gm_64 (by rw [← hD]; rfl) dX1_textCount_1 ?_
  refine lv_iconst (v := nI 3) hx hb dX1_textCount_4 (by decide) ?_
  refine g_imuln hx hb dX1_textCount_5 ?_
  exact g_iret G (rfl) dX1_textCount_6
theorem ok_X1_placesToWrite : gOK yX1_placesToWrite cX1_placesToWrite 2 (some .int) 1 := ⟨gm_293, gm_86, by decide +kernel⟩
set_option maxRecDepth 100000 in
set_option maxHeartbeats 4000000 in
theorem c_X1_placesToWrite (l : Launch) (w : GP) (f : CS) (t : Nat) (hI : gI f) (ht : t < 18) : Met l yX1_placesToWrite (gws yX1_placesToWrite cX1_placesToWrite 2 (some .int)) ({ frames := 1, cells := 0, slots := 0, locals := 21 }) (gPc w f [.ref (w.2.2.2 2), .int (nI t)]) (gRd (.int (nI (if nL f t + 1 ≤ 12 then nL f t + 1 else 12)))) 0 0 (fun _ => False) := by
  refine g_read (by decide) (Nat.le_of_ble_eq_true rfl) ?_
  intro P_ E_ S_ M_ B_ T_ C_ ls G hV hl
  obtain ⟨hx, hb, hml, hown, hts⟩ := id G.1
  obtain ⟨⟨hT, hT24⟩, ⟨hC, hC12⟩, ⟨hD, hD6⟩, hLn⟩ := id hI
  have hl : lv_has ls 2 [(0, .ref (w.2.2.2 2)), (1, .int (nI t))] := hl
  have hLt := hLn t ht
  refine lv_aload_n hx hb dX1_placesToWrite_0 rfl (lv_at hl 0 rfl) ?_
  refine g_get hx hb hts hown hV 2 2 (by decide) (v := .ref (w.2.2.2 16)) rfl rfl gin1 (by decide) gm_65 (rfl) dX1_placesToWrite_1 ?_
  refine lv_iload_n hx hb dX1_placesToWrite_4 rfl (lv_at hl 1 rfl) ?_
  refine g_ialn (a := 11) (n := 18) hx hb hV 16 (by decide) (by decide) rfl rfl (i := t) (by omega) dX1_placesToWrite_5 ?_
  rw [(hLn t (by omega)).1]
  refine lv_iconst (v := nI 1) hx hb dX1_placesToWrite_6 (by decide) ?_
  refine g_iaddn hx hb dX1_placesToWrite_7 ?_
  refine lv_bipush (v := nI 12) hx hb dX1_placesToWrite_8 (by decide) ?_
  refine va_mmin hx hb (hml.trans hl.1.symm) hown (hts _ gm_71) (hts _ gm_72) (hts _ gm_49) (hts _ gm_73) (Nat.le_of_ble_eq_true rfl) (Nat.le_of_ble_eq_true rfl) (Nat.zero_le _) (Nat.zero_le _) dX1_placesToWrite_10 ?_
  refine W.eq (g2 := F0 M_ _ ls [.int (nI (if nL f t + 1 ≤ 12 then nL f t + 1 else 12))]) (by rw [show (if nI 12 < nI ((nL f t) + 1) then nI 12 else nI ((nL f t) + 1)) = nI (if nL f t + 1 ≤ 12 then nL f t + 1 else 12) from by by_cases h : nL f t + 1 ≤ 12; rw [if_pos h, if_neg (fun q => absurd ((g_lt (by omega) (by omega)).mp q) (by omega))]; rw [if_neg h, if_pos ((g_lt (by omega) (by omega)).mpr (by omega))]]) ?_
  exact g_iret G (rfl) dX1_placesToWrite_13
theorem ok_X1_supportFor : gOK yX1_supportFor cX1_supportFor 11 (some .int) 5 := ⟨gm_93, gm_86, by decide +kernel⟩
set_option maxRecDepth 100000 in
set_option maxHeartbeats 4000000 in
theorem c_X1_supportFor (l : Launch) (w : GP) (f : CS) (k : Nat) (t : Nat) (p : Nat) (a : Int32) (b : Int32) (hI : gI f) (hk0 : k < nT f) (ht : t < 18) (hp : p < 12) : Met l yX1_supportFor (gws yX1_supportFor cX1_supportFor 11 (some .int)) ({ frames := 2, cells := 0, slots := 0, locals := 45 }) (gPc w f [.ref (w.2.2.2 2), .int (nI k), .int (nI t), .int (nI p), .int a, .int b]) (gRd (.int (nI (sup f k t p a b)))) 0 0 (fun _ => False) := by
  refine g_read (by decide) (Nat.le_of_ble_eq_true rfl) ?_
  intro P_ E_ S_ M_ B_ T_ C_ ls G hV hl
  obtain ⟨hx, hb, hml, hown, hts⟩ := id G.1
  obtain ⟨⟨hT, hT24⟩, ⟨hC, hC12⟩, ⟨hD, hD6⟩, hLn⟩ := id hI
  have hl : lv_has ls 11 [(0, .ref (w.2.2.2 2)), (1, .int (nI k)), (2, .int (nI t)), (3, .int (nI p)), (4, .int a), (5, .int b)] := hl
  have hLt := hLn t ht
  obtain ⟨E, hEE⟩ : ∃ E, E = (if p + 4 ≤ nL f t then p + 4 else nL f t) := ⟨_, rfl⟩
  have hE12 : E ≤ 12 := by rw [hEE]; split <;> omega
  obtain ⟨E2, hE2⟩ : ∃ E2, E2 = (if p - 3 ≤ E then E else p - 3) := ⟨_, rfl⟩
  have hE3 : E ≤ E2 ∧ p - 3 ≤ E2 ∧ E2 ≤ 12 ∧ (E2 = E ∨ (E2 = p - 3 ∧ E ≤ p - 3)) := by rw [hE2]; split <;> omega
  refine lv_aload_n hx hb dX1_supportFor_0 rfl (lv_at hl 0 rfl) ?_
  refine g_get hx hb hts hown hV 2 0 (by decide) (v := .ref (w.2.2.2 1)) rfl rfl gin1 (by decide) gm_70 (rfl) dX1_supportFor_1 ?_
  refine lv_iload_n hx hb dX1_supportFor_4 rfl (lv_at hl 1 rfl) ?_
  refine lv_iload hx hb dX1_supportFor_5 (lv_at hl 4 rfl) ?_
  refine lv_iload hx hb dX1_supportFor_7 (lv_at hl 5 rfl) ?_
  refine g_callV (As := [.int (nI k), .int a, .int b]) (rest := []) G.1 hV 1 (by decide) rfl rfl ok_X0_domainIf gm_77 gm_78 gm_76 (c_X0_domainIf l w f k a b hI (by omega)) ⟨rfl, rfl⟩ ⟨Nat.le_of_ble_eq_true rfl, Nat.le_of_ble_eq_true rfl⟩ rfl hl.1 rfl (Nat.le_of_ble_eq_true rfl) ⟨Nat.zero_le _, Nat.zero_le _⟩ dX1_supportFor_9 ?_
  refine lv_istore (lv' := [(6, .int (domI f k a b)), (0, .ref (w.2.2.2 2)), (1, .int (nI k)), (2, .int (nI t)), (3, .int (nI p)), (4, .int a), (5, .int b)]) hx hb dX1_supportFor_12 hl (by decide) rfl (fun ls hl => ?_)
  refine lv_iload_n hx hb dX1_supportFor_14 rfl (lv_at hl 4 rfl) ?_
  refine lv_iconst (v := nI 3) hx hb dX1_supportFor_15 (by decide) ?_
  refine g_iaddn hx hb dX1_supportFor_16 ?_
  refine lv_aload_n hx hb dX1_supportFor_17 rfl (lv_at hl 1 rfl) ?_
  refine g_get hx hb hts hown hV 2 2 (by decide) (v := .ref (w.2.2.2 16)) rfl rfl gin1 (by decide) gm_65 (rfl) dX1_supportFor_18 ?_
  refine lv_iload_n hx hb dX1_supportFor_21 rfl (lv_at hl 3 rfl) ?_
  refine g_ialn (a := 11) (n := 18) hx hb hV 16 (by decide) (by decide) rfl rfl (i := t) (by omega) dX1_supportFor_22 ?_
  rw [(hLn t (by omega)).1]
  refine lv_iconst (v := nI 1) hx hb dX1_supportFor_23 (by decide) ?_
  refine lv_isub hx hb dX1_supportFor_24 ?_
  refine va_mmin hx hb (hml.trans hl.1.symm) hown (hts _ gm_71) (hts _ gm_72) (hts _ gm_49) (hts _ gm_73) (Nat.le_of_ble_eq_true rfl) (Nat.le_of_ble_eq_true rfl) (Nat.zero_le _) (Nat.zero_le _) dX1_supportFor_25 ?_
  refine W.eq (g2 := F0 M_ _ ls [.int (nI E - nI 1)]) (by rw [show (if (nI (nL f t)) - (nI 1) < nI (p + 3) then (nI (nL f t)) - (nI 1) else nI (p + 3)) = nI E - nI 1 from by rw [hEE]; exact g_min1 (by omega) (by omega)]) ?_
  refine lv_istore (lv' := [(7, .int (nI E - nI 1)), (6, .int (domI f k a b)), (0, .ref (w.2.2.2 2)), (1, .int (nI k)), (2, .int (nI t)), (3, .int (nI p)), (4, .int a), (5, .int b)]) hx hb dX1_supportFor_28 hl (by decide) rfl (fun ls hl => ?_)
  refine lv_iconst (v := nI 0) hx hb dX1_supportFor_30 (by decide) ?_
  refine lv_istore (lv' := [(8, .int (nI 0)), (7, .int (nI E - nI 1)), (6, .int (domI f k a b)), (0, .ref (w.2.2.2 2)), (1, .int (nI k)), (2, .int (nI t)), (3, .int (nI p)), (4, .int a), (5, .int b)]) hx hb dX1_supportFor_31 hl (by decide) rfl (fun ls hl => ?_)
  rw [show nI 0 = nI (ct (supP f k t p a b) (p - 3)) from by rw [sup_0 (Nat.le_refl _)]] at hl
  refine lv_iload_n hx hb dX1_supportFor_33 rfl (lv_at hl 6 rfl) ?_
  refine lv_iconst (v := nI 3) hx hb dX1_supportFor_34 (by decide) ?_
  refine lv_isub hx hb dX1_supportFor_35 ?_
  refine lv_iconst (v := nI 0) hx hb dX1_supportFor_36 (by decide) ?_
  refine va_mmax hx hb (hml.trans hl.1.symm) hown (hts _ gm_75) (hts _ gm_48) (hts _ gm_49) (hts _ gm_50) (Nat.le_of_ble_eq_true rfl) (Nat.le_of_ble_eq_true rfl) (Nat.zero_le _) (Nat.zero_le _) dX1_supportFor_37 ?_
  refine W.eq (g2 := F0 M_ _ ls [.int (nI (p - 3))]) (by rw [show (if (nI p) - (nI 3) < nI 0 then nI 0 else (nI p) - (nI 3)) = nI (p - 3) from g_max3 (by omega)]) ?_
  refine lv_istore (lv' := [(9, .int (nI (p - 3))), (8, .int (nI (ct (supP f k t p a b) (p - 3)))), (7, .int (nI E - nI 1)), (6, .int (domI f k a b)), (0, .ref (w.2.2.2 2)), (1, .int (nI k)), (2, .int (nI t)), (3, .int (nI p)), (4, .int a), (5, .int b)]) hx hb dX1_supportFor_40 hl (by decide) rfl (fun ls hl => ?_)
  refine g_for (P := fun o => ∀ (ls : Array Slot), lv_has ls 11 [(8, .int (nI (ct (supP f k t p a b) o))), (9, .int (nI o)), (7, .int (nI E - nI 1)), (6, .int (domI f k a b)), (0, .ref (w.2.2.2 2)), (1, .int (nI k)), (2, .int (nI t)), (3, .int (nI p)), (4, .int a), (5, .int b)] → (p - 3 ≤ o) → W P_ l E_ _ S_ M_ _ B_ T_ C_ S_.heap [] 0 0 _ (F0 M_ 42 ls [])) (E2) ?_ ?_ (p - 3) (hE3.2.1) ls (lv_sub hl [1, 0, 2, 3, 4, 5, 6, 7, 8, 9] rfl) (Nat.le_refl _)
  · intro o ho ih ls hl hio
    refine lv_iload hx hb dX1_supportFor_42 (lv_at hl 1 rfl) ?_
    refine lv_iload hx hb dX1_supportFor_44 (lv_at hl 2 rfl) ?_
    refine lv_icmp_gt (tgt := 118) hx hb dX1_supportFor_46 (by decide) (fun c46 => ?_) (fun c46 => ?_)
    · skip
      have c46 : E ≤ o := (g_pred (by omega) (by omega)).mp c46
      exact absurd c46 (by omega)
    · skip
      have c46 : ¬ (E ≤ o) := fun q => c46 ((g_pred (by omega) (by omega)).mpr q)
      refine lv_aload_n hx hb dX1_supportFor_49 rfl (lv_at hl 4 rfl) ?_
      refine g_get hx hb hts hown hV 2 0 (by decide) (v := .ref (w.2.2.2 1)) rfl rfl gin1 (by decide) gm_70 (rfl) dX1_supportFor_50 ?_
      refine lv_iload_n hx hb dX1_supportFor_53 rfl (lv_at hl 6 rfl) ?_
      refine lv_iconst (v := nI 3) hx hb dX1_supportFor_54 (by decide) ?_
      refine g_iremn hx hb (by omega) (by omega) (by omega) dX1_supportFor_55 ?_
      refine lv_aload_n hx hb dX1_supportFor_56 rfl (lv_at hl 4 rfl) ?_
      refine g_get hx hb hts hown hV 2 4 (by decide) (v := .ref (w.2.2.2 18)) rfl rfl gin1 (by decide) gm_68 (rfl) dX1_supportFor_57 ?_
      refine lv_iload_n hx hb dX1_supportFor_60 rfl (lv_at hl 6 rfl) ?_
      refine g_row (n := 18) (b := 19) hx hb hV 18 (by decide) rfl (i := t) (by omega) (by decide) dX1_supportFor_61 ?_
      refine lv_iload hx hb dX1_supportFor_62 (lv_at hl 1 rfl) ?_
      refine g_ialn (a := 20 + t) (n := 12) hx hb hV (19 + t) (by omega) (by omega) (gid_19 (by omega)) (gn_19 (by omega)) (i := o) (by omega) dX1_supportFor_64 ?_
      refine g_callV (As := [.int (nI (t % 3)), .int (f (20 + t) o)]) (rest := []) G.1 hV 1 (by decide) rfl rfl ok_X0_canBe gm_81 gm_82 gm_80 (c_X0_canBe l w f (t % 3) (f (20 + t) o) hI (by omega)) ⟨rfl, rfl⟩ ⟨Nat.le_of_ble_eq_true rfl, Nat.le_of_ble_eq_true rfl⟩ rfl hl.1 rfl (Nat.le_of_ble_eq_true rfl) ⟨Nat.zero_le _, Nat.zero_le _⟩ dX1_supportFor_65 ?_
      refine g_callS (As := [.int (cb f (t % 3) (f (20 + t) o))]) (rest := []) G.1 hV ok_X1_onlyOneOf gm_85 gm_84 (c_X1_onlyOneOf l w f (cb f (t % 3) (f (20 + t) o))  ) ⟨rfl, rfl⟩ ⟨Nat.le_of_ble_eq_true rfl, Nat.le_of_ble_eq_true rfl⟩ rfl hl.1 rfl (Nat.le_of_ble_eq_true rfl) ⟨Nat.zero_le _, Nat.zero_le _⟩ dX1_supportFor_68 ?_
      refine lv_istore (lv' := [(10, .int (oneI (cb f (t % 3) (f (20 + t) o)))), (8, .int (nI (ct (supP f k t p a b) o))), (9, .int (nI o)), (7, .int (nI E - nI 1)), (6, .int (domI f k a b)), (0, .ref (w.2.2.2 2)), (1, .int (nI k)), (2, .int (nI t)), (3, .int (nI p)), (4, .int a), (5, .int b)]) hx hb dX1_supportFor_71 hl (by decide) rfl (fun ls hl => ?_)
      have hl : lv_has ls 11 [(10, .int (pl f t o)), (8, .int (nI (ct (supP f k t p a b) o))), (9, .int (nI o)), (7, .int (nI E - nI 1)), (6, .int (domI f k a b)), (0, .ref (w.2.2.2 2)), (1, .int (nI k)), (2, .int (nI t)), (3, .int (nI p)), (4, .int a), (5, .int b)] := hl
      refine lv_iload hx hb dX1_supportFor_73 (lv_at hl 2 rfl) ?_
      refine lv_iload_n hx hb dX1_supportFor_75 rfl (lv_at hl 8 rfl) ?_
      refine lv_icmp_eq (tgt := 112) hx hb dX1_supportFor_76 (by decide) (fun c76 => ?_) (fun c76 => ?_)
      · skip
        have c76 : o = p := (g_eq (by omega) (by omega)).mp c76
        refine lv_iinc (v := nI (o + 1)) (lv' := [(9, .int (nI (o + 1))), (10, .int (pl f t o)), (8, .int (nI (ct (supP f k t p a b) o))), (7, .int (nI E - nI 1)), (6, .int (domI f k a b)), (0, .ref (w.2.2.2 2)), (1, .int (nI k)), (2, .int (nI t)), (3, .int (nI p)), (4, .int a), (5, .int b)]) hx hb dX1_supportFor_112 hl (k := 2) rfl (g_inc o 1) (by decide) rfl (fun ls hl => ?_)
        refine lv_goto (tgt := 42) hx hb dX1_supportFor_115 (by decide) ?_
        refine ih ls ?_ (by omega)
        rw [(show ct (supP f k t p a b) (o + 1) = ct (supP f k t p a b) o from by first | exact ct_n (fun q => (of_decide_eq_true q).2.1 c76) | exact ct_n (fun q => c88 (of_decide_eq_true q).2.2.1) | exact ct_n (fun q => c106 (by have := (of_decide_eq_true q).2.2.2; rwa [eu, nI_clamp (by omega)] at this)) | exact ct_y (decide_eq_true ⟨hio, c76, c88, by rw [eu, nI_clamp (by omega)]; exact c106⟩))]
        exact lv_sub hl [2, 0, 3, 4, 5, 6, 7, 8, 9, 10] rfl
      · skip
        have c76 : ¬ (o = p) := fun q => c76 ((g_eq (by omega) (by omega)).mpr q)
        refine lv_aload_n hx hb dX1_supportFor_79 rfl (lv_at hl 5 rfl) ?_
        refine g_get hx hb hts hown hV 2 0 (by decide) (v := .ref (w.2.2.2 1)) rfl rfl gin1 (by decide) gm_70 (rfl) dX1_supportFor_80 ?_
        refine lv_iload hx hb dX1_supportFor_83 (lv_at hl 0 rfl) ?_
        refine g_callV (As := [.int (pl f t o)]) (rest := []) G.1 hV 1 (by decide) rfl rfl ok_X0_isTerm gm_40 gm_41 gm_88 (c_X0_isTerm l w f (pl f t o) hI ) ⟨rfl, rfl⟩ ⟨Nat.le_of_ble_eq_true rfl, Nat.le_of_ble_eq_true rfl⟩ rfl hl.1 rfl (Nat.le_of_ble_eq_true rfl) ⟨Nat.zero_le _, Nat.zero_le _⟩ dX1_supportFor_85 ?_
        refine lv_if_eq (tgt := 112) hx hb dX1_supportFor_88 (by decide) (fun c88 => ?_) (fun c88 => ?_)
        · skip
          have c88 : ¬ (0 ≤ (pl f t o) ∧ (pl f t o) < nI (nT f)) := g_if0.mp c88
          refine lv_iinc (v := nI (o + 1)) (lv' := [(9, .int (nI (o + 1))), (10, .int (pl f t o)), (8, .int (nI (ct (supP f k t p a b) o))), (7, .int (nI E - nI 1)), (6, .int (domI f k a b)), (0, .ref (w.2.2.2 2)), (1, .int (nI k)), (2, .int (nI t)), (3, .int (nI p)), (4, .int a), (5, .int b)]) hx hb dX1_supportFor_112 hl (k := 2) rfl (g_inc o 1) (by decide) rfl (fun ls hl => ?_)
          refine lv_goto (tgt := 42) hx hb dX1_supportFor_115 (by decide) ?_
          refine ih ls ?_ (by omega)
          rw [(show ct (supP f k t p a b) (o + 1) = ct (supP f k t p a b) o from by first | exact ct_n (fun q => (of_decide_eq_true q).2.1 c76) | exact ct_n (fun q => c88 (of_decide_eq_true q).2.2.1) | exact ct_n (fun q => c106 (by have := (of_decide_eq_true q).2.2.2; rwa [eu, nI_clamp (by omega)] at this)) | exact ct_y (decide_eq_true ⟨hio, c76, c88, by rw [eu, nI_clamp (by omega)]; exact c106⟩))]
          exact lv_sub hl [2, 0, 3, 4, 5, 6, 7, 8, 9, 10] rfl
        · skip
          have c88 : 0 ≤ (pl f t o) ∧ (pl f t o) < nI (nT f) := g_if1.mp c88
          obtain ⟨u, hu, eu⟩ : ∃ u : Nat, u < nT f ∧ pl f t o = nI u := nz c88.1 c88.2 (by omega)
          rw [eu] at hl
          refine lv_aload_n hx hb dX1_supportFor_91 rfl (lv_at hl 5 rfl) ?_
          refine g_get hx hb hts hown hV 2 0 (by decide) (v := .ref (w.2.2.2 1)) rfl rfl gin1 (by decide) gm_70 (rfl) dX1_supportFor_92 ?_
          refine lv_iload hx hb dX1_supportFor_95 (lv_at hl 0 rfl) ?_
          refine lv_iload hx hb dX1_supportFor_97 (lv_at hl 9 rfl) ?_
          refine lv_iload hx hb dX1_supportFor_99 (lv_at hl 10 rfl) ?_
          refine g_callV (As := [.int (nI u), .int a, .int b]) (rest := []) G.1 hV 1 (by decide) rfl rfl ok_X0_domainIf gm_77 gm_78 gm_76 (c_X0_domainIf l w f u a b hI (by omega)) ⟨rfl, rfl⟩ ⟨Nat.le_of_ble_eq_true rfl, Nat.le_of_ble_eq_true rfl⟩ rfl hl.1 rfl (Nat.le_of_ble_eq_true rfl) ⟨Nat.zero_le _, Nat.zero_le _⟩ dX1_supportFor_101 ?_
          refine lv_iload hx hb dX1_supportFor_104 (lv_at hl 4 rfl) ?_
          refine lv_icmp_ne (tgt := 112) hx hb dX1_supportFor_106 (by decide) (fun c106 => ?_) (fun c106 => ?_)
          · skip
            refine lv_iinc (v := nI (o + 1)) (lv' := [(9, .int (nI (o + 1))), (10, .int (nI u)), (8, .int (nI (ct (supP f k t p a b) o))), (7, .int (nI E - nI 1)), (6, .int (domI f k a b)), (0, .ref (w.2.2.2 2)), (1, .int (nI k)), (2, .int (nI t)), (3, .int (nI p)), (4, .int a), (5, .int b)]) hx hb dX1_supportFor_112 hl (k := 2) rfl (g_inc o 1) (by decide) rfl (fun ls hl => ?_)
            refine lv_goto (tgt := 42) hx hb dX1_supportFor_115 (by decide) ?_
            refine ih ls ?_ (by omega)
            rw [(show ct (supP f k t p a b) (o + 1) = ct (supP f k t p a b) o from by first | exact ct_n (fun q => (of_decide_eq_true q).2.1 c76) | exact ct_n (fun q => c88 (of_decide_eq_true q).2.2.1) | exact ct_n (fun q => c106 (by have := (of_decide_eq_true q).2.2.2; rwa [eu, nI_clamp (by omega)] at this)) | exact ct_y (decide_eq_true ⟨hio, c76, c88, by rw [eu, nI_clamp (by omega)]; exact c106⟩))]
            exact lv_sub hl [2, 0, 3, 4, 5, 6, 7, 8, 9, 10] rfl
          · skip
            refine lv_iinc (v := nI (ct (supP f k t p a b) o + 1)) (lv' := [(8, .int (nI (ct (supP f k t p a b) o + 1))), (10, .int (nI u)), (9, .int (nI o)), (7, .int (nI E - nI 1)), (6, .int (domI f k a b)), (0, .ref (w.2.2.2 2)), (1, .int (nI k)), (2, .int (nI t)), (3, .int (nI p)), (4, .int a), (5, .int b)]) hx hb dX1_supportFor_109 hl (k := 1) rfl (g_inc (ct (supP f k t p a b) o) 1) (by decide) rfl (fun ls hl => ?_)
            refine lv_iinc (v := nI (o + 1)) (lv' := [(9, .int (nI (o + 1))), (8, .int (nI (ct (supP f k t p a b) o + 1))), (10, .int (nI u)), (7, .int (nI E - nI 1)), (6, .int (domI f k a b)), (0, .ref (w.2.2.2 2)), (1, .int (nI k)), (2, .int (nI t)), (3, .int (nI p)), (4, .int a), (5, .int b)]) hx hb dX1_supportFor_112 hl (k := 2) rfl (g_inc o 1) (by decide) rfl (fun ls hl => ?_)
            refine lv_goto (tgt := 42) hx hb dX1_supportFor_115 (by decide) ?_
            refine ih ls ?_ (by omega)
            rw [(show ct (supP f k t p a b) (o + 1) = ct (supP f k t p a b) o + 1 from by first | exact ct_n (fun q => (of_decide_eq_true q).2.1 c76) | exact ct_n (fun q => c88 (of_decide_eq_true q).2.2.1) | exact ct_n (fun q => c106 (by have := (of_decide_eq_true q).2.2.2; rwa [eu, nI_clamp (by omega)] at this)) | exact ct_y (decide_eq_true ⟨hio, c76, c88, by rw [eu, nI_clamp (by omega)]; exact c106⟩))]
            exact lv_sub hl [1, 0, 3, 4, 5, 6, 7, 8, 9, 10] rfl
  · intro ls hl hio
    refine lv_iload hx hb dX1_supportFor_42 (lv_at hl 1 rfl) ?_
    refine lv_iload hx hb dX1_supportFor_44 (lv_at hl 2 rfl) ?_
    refine lv_icmp_gt (tgt := 118) hx hb dX1_supportFor_46 (by decide) (fun c46 => ?_) (fun c46 => ?_)
    · skip
      have c46 : E ≤ E2 := (g_pred (by omega) (by omega)).mp c46
      refine lv_iload hx hb dX1_supportFor_118 (lv_at hl 0 rfl) ?_
      exact g_iret G (by unfold sup; rw [← hEE]; rcases hE3.2.2.2 with h | h; rw [h]; rw [sup_0 (by omega), sup_0 (by omega)]) dX1_supportFor_120
    · skip
      have c46 : ¬ (E ≤ E2) := fun q => c46 ((g_pred (by omega) (by omega)).mpr q)
      exact absurd c46 (by omega)
theorem ok_X1_useOf : gOK yX1_useOf cX1_useOf 11 (some .int) 5 := ⟨gm_97, gm_86, by decide +kernel⟩
set_option maxRecDepth 100000 in
set_option maxHeartbeats 4000000 in
theorem c_X1_useOf (l : Launch) (w : GP) (f : CS) (t : Nat) (p : Nat) (x : Int32) (a : Int32) (b : Int32) (hI : gI f) (ht : t < 18) (hp : p < 12) : Met l yX1_useOf (gws yX1_useOf cX1_useOf 11 (some .int)) ({ frames := 3, cells := 0, slots := 0, locals := 75 }) (gPc w f [.ref (w.2.2.2 2), .int (nI t), .int (nI p), .int x, .int a, .int b]) (gRd (.int (useF f t p x a b))) 0 0 (fun _ => False) := by
  refine g_read (by decide) (Nat.le_of_ble_eq_true rfl) ?_
  intro P_ E_ S_ M_ B_ T_ C_ ls G hV hl
  obtain ⟨hx, hb, hml, hown, hts⟩ := id G.1
  obtain ⟨⟨hT, hT24⟩, ⟨hC, hC12⟩, ⟨hD, hD6⟩, hLn⟩ := id hI
  have hl : lv_has ls 11 [(0, .ref (w.2.2.2 2)), (1, .int (nI t)), (2, .int (nI p)), (3, .int x), (4, .int a), (5, .int b)] := hl
  refine lv_aload_n hx hb dX1_useOf_0 rfl (lv_at hl 0 rfl) ?_
  refine g_get hx hb hts hown hV 2 0 (by decide) (v := .ref (w.2.2.2 1)) rfl rfl gin1 (by decide) gm_70 (rfl) dX1_useOf_1 ?_
  refine lv_iload_n hx hb dX1_useOf_4 rfl (lv_at hl 1 rfl) ?_
  refine lv_iconst (v := nI 3) hx hb dX1_useOf_5 (by decide) ?_
  refine g_iremn hx hb (by omega) (by omega) (by omega) dX1_useOf_6 ?_
  refine lv_iload_n hx hb dX1_useOf_7 rfl (lv_at hl 3 rfl) ?_
  refine g_callV (As := [.int (nI (t % 3)), .int x]) (rest := []) G.1 hV 1 (by decide) rfl rfl ok_X0_canBe gm_81 gm_82 gm_80 (c_X0_canBe l w f (t % 3) x hI (by omega)) ⟨rfl, rfl⟩ ⟨Nat.le_of_ble_eq_true rfl, Nat.le_of_ble_eq_true rfl⟩ rfl hl.1 rfl (Nat.le_of_ble_eq_true rfl) ⟨Nat.zero_le _, Nat.zero_le _⟩ dX1_useOf_8 ?_
  refine lv_istore (lv' := [(6, .int (cb f (t % 3) x)), (0, .ref (w.2.2.2 2)), (1, .int (nI t)), (2, .int (nI p)), (3, .int x), (4, .int a), (5, .int b)]) hx hb dX1_useOf_11 hl (by decide) rfl (fun ls hl => ?_)
  refine lv_iload hx hb dX1_useOf_13 (lv_at hl 0 rfl) ?_
  refine g_callS (As := [.int (cb f (t % 3) x)]) (rest := []) G.1 hV ok_J6_bitCount_0f7a4 gm_28 gm_74 (c_J6_bitCount_0f7a4 l w f (cb f (t % 3) x)  ) ⟨rfl, rfl⟩ ⟨Nat.le_of_ble_eq_true rfl, Nat.le_of_ble_eq_true rfl⟩ rfl hl.1 rfl (Nat.le_of_ble_eq_true rfl) ⟨Nat.zero_le _, Nat.zero_le _⟩ dX1_useOf_15 ?_
  refine lv_iconst (v := nI 2) hx hb dX1_useOf_18 (by decide) ?_
  refine lv_icmp_ge (tgt := 28) hx hb dX1_useOf_19 (by decide) (fun c19 => ?_) (fun c19 => ?_)
  · skip
    have c19 : 2 ≤ (pcn (cb f (t % 3) x)) := (g_le (by omega) pcn_lt).mp c19
    refine lv_iconst (v := -1) hx hb dX1_useOf_28 (by decide) ?_
    refine lv_istore (lv' := [(7, .int (-1)), (6, .int (cb f (t % 3) x)), (0, .ref (w.2.2.2 2)), (1, .int (nI t)), (2, .int (nI p)), (3, .int x), (4, .int a), (5, .int b)]) hx hb dX1_useOf_29 hl (by decide) rfl (fun ls hl => ?_)
    refine lv_iconst (v := -1) hx hb dX1_useOf_31 (by decide) ?_
    refine lv_istore (lv' := [(8, .int (-1)), (7, .int (-1)), (6, .int (cb f (t % 3) x)), (0, .ref (w.2.2.2 2)), (1, .int (nI t)), (2, .int (nI p)), (3, .int x), (4, .int a), (5, .int b)]) hx hb dX1_useOf_32 hl (by decide) rfl (fun ls hl => ?_)
    refine lv_iconst (v := nI 0) hx hb dX1_useOf_34 (by decide) ?_
    refine lv_istore (lv' := [(9, .int (nI 0)), (8, .int (-1)), (7, .int (-1)), (6, .int (cb f (t % 3) x)), (0, .ref (w.2.2.2 2)), (1, .int (nI t)), (2, .int (nI p)), (3, .int x), (4, .int a), (5, .int b)]) hx hb dX1_useOf_35 hl (by decide) rfl (fun ls hl => ?_)
    refine g_for (P := fun k => ∀ (ls : Array Slot), lv_has ls 11 [(7, .int ((bst f t p (cb f (t % 3) x) a b k).1)), (8, .int ((bst f t p (cb f (t % 3) x) a b k).2)), (9, .int (nI k)), (6, .int (cb f (t % 3) x)), (0, .ref (w.2.2.2 2)), (1, .int (nI t)), (2, .int (nI p)), (3, .int x), (4, .int a), (5, .int b)] → W P_ l E_ _ S_ M_ _ B_ T_ C_ S_.heap [] 0 0 _ (F0 M_ 37 ls [])) (nT f) ?_ ?_ 0 (Nat.zero_le _) ls (lv_sub hl [2, 1, 0, 3, 4, 5, 6, 7, 8, 9] rfl)
    · intro k hk ih ls hl
      refine lv_iload hx hb dX1_useOf_37 (lv_at hl 2 rfl) ?_
      refine lv_aload_n hx hb dX1_useOf_39 rfl (lv_at hl 4 rfl) ?_
      refine g_get hx hb hts hown hV 2 0 (by decide) (v := .ref (w.2.2.2 1)) rfl rfl gin1 (by decide) gm_70 (rfl) dX1_useOf_40 ?_
      refine g_get hx hb hts hown hV 1 1 (by decide) (v := .int (nI (nT f))) rfl rfl gin0 (by decide) gm_89 (by rw [← hT]; rfl) dX1_useOf_43 ?_
      refine lv_icmp_ge (tgt := 94) hx hb dX1_useOf_46 (by decide) (fun c46 => ?_) (fun c46 => ?_)
      · skip
        have c46 : (nT f) ≤ k := (g_le (by omega) (by omega)).mp c46
        exact absurd c46 (by omega)
      · skip
        have c46 : ¬ ((nT f) ≤ k) := fun q => c46 ((g_le (by omega) (by omega)).mpr q)
        refine lv_iload hx hb dX1_useOf_49 (lv_at hl 3 rfl) ?_
        refine lv_iload hx hb dX1_useOf_51 (lv_at hl 2 rfl) ?_
        refine g_callN (As := [.int (cb f (t % 3) x), .int (nI k)]) (rest := []) G.1 hV ok_X2_has gm_17 hV.1.2.2 (c_X2_has l w f (cb f (t % 3) x) (nI k)  ) ⟨rfl, rfl⟩ ⟨Nat.le_of_ble_eq_true rfl, Nat.le_of_ble_eq_true rfl⟩ rfl hl.1 rfl (Nat.le_of_ble_eq_true rfl) ⟨Nat.zero_le _, Nat.zero_le _⟩ dX1_useOf_53 ?_
        refine lv_if_eq (tgt := 88) hx hb dX1_useOf_56 (by decide) (fun c56 => ?_) (fun c56 => ?_)
        · skip
          have c56 : ¬ (hs (cb f (t % 3) x) (nI k) = true) := g_if0.mp c56
          refine lv_iinc (v := nI (k + 1)) (lv' := [(9, .int (nI (k + 1))), (7, .int ((bst f t p (cb f (t % 3) x) a b k).1)), (8, .int ((bst f t p (cb f (t % 3) x) a b k).2)), (6, .int (cb f (t % 3) x)), (0, .ref (w.2.2.2 2)), (1, .int (nI t)), (2, .int (nI p)), (3, .int x), (4, .int a), (5, .int b)]) hx hb dX1_useOf_88 hl (k := 2) rfl (g_inc k 1) (by decide) rfl (fun ls hl => ?_)
          refine lv_goto (tgt := 37) hx hb dX1_useOf_91 (by decide) ?_
          refine ih ls ?_
          rw [(show (bst f t p (cb f (t % 3) x) a b (k + 1)).1 = (bst f t p (cb f (t % 3) x) a b k).1 from by first | (show Prod.fst (if _ then _ else _ : Int32 × Int32) = _; rw [if_neg (fun q => c56 q.1)]) | (show Prod.fst (if _ then _ else _ : Int32 × Int32) = _; rw [if_neg (fun q => absurd q.2 (Int32.not_lt.mpr c77))]) | (show Prod.fst (if _ then _ else _ : Int32 × Int32) = _; rw [if_pos ⟨c56, Int32.not_le.mp c77⟩])), (show (bst f t p (cb f (t % 3) x) a b (k + 1)).2 = (bst f t p (cb f (t % 3) x) a b k).2 from by first | (show Prod.snd (if _ then _ else _ : Int32 × Int32) = _; rw [if_neg (fun q => c56 q.1)]) | (show Prod.snd (if _ then _ else _ : Int32 × Int32) = _; rw [if_neg (fun q => absurd q.2 (Int32.not_lt.mpr c77))]) | (show Prod.snd (if _ then _ else _ : Int32 × Int32) = _; rw [if_pos ⟨c56, Int32.not_le.mp c77⟩]))]
          exact lv_sub hl [1, 2, 0, 3, 4, 5, 6, 7, 8, 9] rfl
        · skip
          have c56 : hs (cb f (t % 3) x) (nI k) = true := g_if1.mp c56
          refine lv_aload_n hx hb dX1_useOf_59 rfl (lv_at hl 4 rfl) ?_
          refine lv_iload hx hb dX1_useOf_60 (lv_at hl 2 rfl) ?_
          refine lv_iload_n hx hb dX1_useOf_62 rfl (lv_at hl 5 rfl) ?_
          refine lv_iload_n hx hb dX1_useOf_63 rfl (lv_at hl 6 rfl) ?_
          refine lv_iload hx hb dX1_useOf_64 (lv_at hl 8 rfl) ?_
          refine lv_iload hx hb dX1_useOf_66 (lv_at hl 9 rfl) ?_
          refine g_callV (As := [.int (nI k), .int (nI t), .int (nI p), .int a, .int b]) (rest := []) G.1 hV 2 (by decide) rfl rfl ok_X1_supportFor gm_91 gm_92 gm_90 (c_X1_supportFor l w f k t p a b hI (by omega) (by omega) (by omega)) ⟨rfl, rfl⟩ ⟨Nat.le_of_ble_eq_true rfl, Nat.le_of_ble_eq_true rfl⟩ rfl hl.1 rfl (Nat.le_of_ble_eq_true rfl) ⟨Nat.zero_le _, Nat.zero_le _⟩ dX1_useOf_68 ?_
          refine lv_istore (lv' := [(10, .int (nI (sup f k t p a b))), (7, .int ((bst f t p (cb f (t % 3) x) a b k).1)), (8, .int ((bst f t p (cb f (t % 3) x) a b k).2)), (9, .int (nI k)), (6, .int (cb f (t % 3) x)), (0, .ref (w.2.2.2 2)), (1, .int (nI t)), (2, .int (nI p)), (3, .int x), (4, .int a), (5, .int b)]) hx hb dX1_useOf_71 hl (by decide) rfl (fun ls hl => ?_)
          refine lv_iload hx hb dX1_useOf_73 (lv_at hl 0 rfl) ?_
          refine lv_iload hx hb dX1_useOf_75 (lv_at hl 2 rfl) ?_
          refine lv_icmp_le (tgt := 88) hx hb dX1_useOf_77 (by decide) (fun c77 => ?_) (fun c77 => ?_)
          · skip
            refine lv_iinc (v := nI (k + 1)) (lv' := [(9, .int (nI (k + 1))), (10, .int (nI (sup f k t p a b))), (7, .int ((bst f t p (cb f (t % 3) x) a b k).1)), (8, .int ((bst f t p (cb f (t % 3) x) a b k).2)), (6, .int (cb f (t % 3) x)), (0, .ref (w.2.2.2 2)), (1, .int (nI t)), (2, .int (nI p)), (3, .int x), (4, .int a), (5, .int b)]) hx hb dX1_useOf_88 hl (k := 3) rfl (g_inc k 1) (by decide) rfl (fun ls hl => ?_)
            refine lv_goto (tgt := 37) hx hb dX1_useOf_91 (by decide) ?_
            refine ih ls ?_
            rw [(show (bst f t p (cb f (t % 3) x) a b (k + 1)).1 = (bst f t p (cb f (t % 3) x) a b k).1 from by first | (show Prod.fst (if _ then _ else _ : Int32 × Int32) = _; rw [if_neg (fun q => c56 q.1)]) | (show Prod.fst (if _ then _ else _ : Int32 × Int32) = _; rw [if_neg (fun q => absurd q.2 (Int32.not_lt.mpr c77))]) | (show Prod.fst (if _ then _ else _ : Int32 × Int32) = _; rw [if_pos ⟨c56, Int32.not_le.mp c77⟩])), (show (bst f t p (cb f (t % 3) x) a b (k + 1)).2 = (bst f t p (cb f (t % 3) x) a b k).2 from by first | (show Prod.snd (if _ then _ else _ : Int32 × Int32) = _; rw [if_neg (fun q => c56 q.1)]) | (show Prod.snd (if _ then _ else _ : Int32 × Int32) = _; rw [if_neg (fun q => absurd q.2 (Int32.not_lt.mpr c77))]) | (show Prod.snd (if _ then _ else _ : Int32 × Int32) = _; rw [if_pos ⟨c56, Int32.not_le.mp c77⟩]))]
            exact lv_sub hl [2, 3, 0, 4, 5, 6, 7, 8, 9, 10] rfl
          · skip
            refine lv_iload hx hb dX1_useOf_80 (lv_at hl 3 rfl) ?_
            refine lv_istore (lv' := [(7, .int (nI k)), (10, .int (nI (sup f k t p a b))), (8, .int ((bst f t p (cb f (t % 3) x) a b k).2)), (9, .int (nI k)), (6, .int (cb f (t % 3) x)), (0, .ref (w.2.2.2 2)), (1, .int (nI t)), (2, .int (nI p)), (3, .int x), (4, .int a), (5, .int b)]) hx hb dX1_useOf_82 hl (by decide) rfl (fun ls hl => ?_)
            refine lv_iload hx hb dX1_useOf_84 (lv_at hl 1 rfl) ?_
            refine lv_istore (lv' := [(8, .int (nI (sup f k t p a b))), (7, .int (nI k)), (10, .int (nI (sup f k t p a b))), (9, .int (nI k)), (6, .int (cb f (t % 3) x)), (0, .ref (w.2.2.2 2)), (1, .int (nI t)), (2, .int (nI p)), (3, .int x), (4, .int a), (5, .int b)]) hx hb dX1_useOf_86 hl (by decide) rfl (fun ls hl => ?_)
            refine lv_iinc (v := nI (k + 1)) (lv' := [(9, .int (nI (k + 1))), (8, .int (nI (sup f k t p a b))), (7, .int (nI k)), (10, .int (nI (sup f k t p a b))), (6, .int (cb f (t % 3) x)), (0, .ref (w.2.2.2 2)), (1, .int (nI t)), (2, .int (nI p)), (3, .int x), (4, .int a), (5, .int b)]) hx hb dX1_useOf_88 hl (k := 3) rfl (g_inc k 1) (by decide) rfl (fun ls hl => ?_)
            refine lv_goto (tgt := 37) hx hb dX1_useOf_91 (by decide) ?_
            refine ih ls ?_
            rw [(show (bst f t p (cb f (t % 3) x) a b (k + 1)).1 = nI k from by first | (show Prod.fst (if _ then _ else _ : Int32 × Int32) = _; rw [if_neg (fun q => c56 q.1)]) | (show Prod.fst (if _ then _ else _ : Int32 × Int32) = _; rw [if_neg (fun q => absurd q.2 (Int32.not_lt.mpr c77))]) | (show Prod.fst (if _ then _ else _ : Int32 × Int32) = _; rw [if_pos ⟨c56, Int32.not_le.mp c77⟩])), (show (bst f t p (cb f (t % 3) x) a b (k + 1)).2 = nI (sup f k t p a b) from by first | (show Prod.snd (if _ then _ else _ : Int32 × Int32) = _; rw [if_neg (fun q => c56 q.1)]) | (show Prod.snd (if _ then _ else _ : Int32 × Int32) = _; rw [if_neg (fun q => absurd q.2 (Int32.not_lt.mpr c77))]) | (show Prod.snd (if _ then _ else _ : Int32 × Int32) = _; rw [if_pos ⟨c56, Int32.not_le.mp c77⟩]))]
            exact lv_sub hl [2, 1, 0, 4, 5, 6, 7, 8, 9, 10] rfl
    · intro ls hl
      refine lv_iload hx hb dX1_useOf_37 (lv_at hl 2 rfl) ?_
      refine lv_aload_n hx hb dX1_useOf_39 rfl (lv_at hl 4 rfl) ?_
      refine g_get hx hb hts hown hV 2 0 (by decide) (v := .ref (w.2.2.2 1)) rfl rfl gin1 (by decide) gm_70 (rfl) dX1_useOf_40 ?_
      refine g_get hx hb hts hown hV 1 1 (by decide) (v := .int (nI (nT f))) rfl rfl gin0 (by decide) gm_89 (by rw [← hT]; rfl) dX1_useOf_43 ?_
      refine lv_icmp_ge (tgt := 94) hx hb dX1_useOf_46 (by decide) (fun c46 => ?_) (fun c46 => ?_)
      · skip
        have c46 : (nT f) ≤ (nT f) := (g_le (by omega) (by omega)).mp c46
        refine lv_iload hx hb dX1_useOf_94 (lv_at hl 0 rfl) ?_
        exact g_iret G (by unfold useF; rw [if_neg (by omega)]) dX1_useOf_96
      · skip
        have c46 : ¬ ((nT f) ≤ (nT f)) := fun q => c46 ((g_le (by omega) (by omega)).mpr q)
        exact absurd c46 (by omega)
  · skip
    have c19 : ¬ (2 ≤ (pcn (cb f (t % 3) x))) := fun q => c19 ((g_le (by omega) pcn_lt).mpr q)
    refine lv_iload hx hb dX1_useOf_22 (lv_at hl 0 rfl) ?_
    refine g_callS (As := [.int (cb f (t % 3) x)]) (rest := []) G.1 hV ok_X1_onlyOneOf gm_85 gm_84 (c_X1_onlyOneOf l w f (cb f (t % 3) x)  ) ⟨rfl, rfl⟩ ⟨Nat.le_of_ble_eq_true rfl, Nat.le_of_ble_eq_true rfl⟩ rfl hl.1 rfl (Nat.le_of_ble_eq_true rfl) ⟨Nat.zero_le _, Nat.zero_le _⟩ dX1_useOf_24 ?_
    exact g_iret G (by unfold useF; rw [if_pos (by omega)]) dX1_useOf_27
theorem ok_X1_usesChangedByMoving : gOK yX1_usesChangedByMoving cX1_usesChangedByMoving 6 (some .int) 2 := ⟨gm_353, gm_86, by decide +kernel⟩
set_option maxRecDepth 100000 in
set_option maxHeartbeats 4000000 in
theorem c_X1_usesChangedByMoving (l : Launch) (w : GP) (f : CS) (a : Int32) (b : Int32) (hI : gI f)  : Met l yX1_usesChangedByMoving (gws yX1_usesChangedByMoving cX1_usesChangedByMoving 6 (some .int)) ({ frames := 4, cells := 0, slots := 0, locals := 105 }) (gPc w f [.ref (w.2.2.2 2), .int a, .int b]) (gRd (.int (nI (chN f a b)))) 0 0 (fun _ => False) := by
  refine g_read (by decide) (Nat.le_of_ble_eq_true rfl) ?_
  intro P_ E_ S_ M_ B_ T_ C_ ls G hV hl
  obtain ⟨hx, hb, hml, hown, hts⟩ := id G.1
  obtain ⟨⟨hT, hT24⟩, ⟨hC, hC12⟩, ⟨hD, hD6⟩, hLn⟩ := id hI
  have hl : lv_has ls 6 [(0, .ref (w.2.2.2 2)), (1, .int a), (2, .int b)] := hl
  refine lv_iconst (v := nI 0) hx hb dX1_usesChangedByMoving_0 (by decide) ?_
  refine lv_istore_n (lv' := [(3, .int (nI 0)), (0, .ref (w.2.2.2 2)), (1, .int a), (2, .int b)]) hx hb dX1_usesChangedByMoving_1 rfl hl (by decide) rfl (fun ls hl => ?_)
  refine lv_iconst (v := nI 0) hx hb dX1_usesChangedByMoving_2 (by decide) ?_
  refine lv_istore (lv' := [(4, .int (nI 0)), (3, .int (nI 0)), (0, .ref (w.2.2.2 2)), (1, .int a), (2, .int b)]) hx hb dX1_usesChangedByMoving_3 hl (by decide) rfl (fun ls hl => ?_)
  refine g_for (P := fun t => ∀ (ls : Array Slot), lv_has ls 6 [(3, .int (nI (sm (fun t => ct (chP f a b t) (nL f t)) t))), (4, .int (nI t)), (0, .ref (w.2.2.2 2)), (1, .int a), (2, .int b)] → W P_ l E_ _ S_ M_ _ B_ T_ C_ S_.heap [] 0 0 _ (F0 M_ 5 ls [])) (nD f * 3) ?_ ?_ 0 (Nat.zero_le _) ls (lv_sub hl [1, 0, 2, 3, 4] rfl)
  · intro t ht ih ls hl
    refine lv_iload hx hb dX1_usesChangedByMoving_5 (lv_at hl 1 rfl) ?_
    refine lv_aload_n hx hb dX1_usesChangedByMoving_7 rfl (lv_at hl 2 rfl) ?_
    refine g_callV (As := []) (rest := [.int (nI t)]) G.1 hV 2 (by decide) rfl rfl ok_X1_textCount gm_103 gm_104 gm_102 (c_X1_textCount l w f  hI ) ⟨rfl, rfl⟩ ⟨Nat.le_of_ble_eq_true rfl, Nat.le_of_ble_eq_true rfl⟩ rfl hl.1 rfl (Nat.le_of_ble_eq_true rfl) ⟨Nat.zero_le _, Nat.zero_le _⟩ dX1_usesChangedByMoving_8 ?_
    refine lv_icmp_ge (tgt := 77) hx hb dX1_usesChangedByMoving_11 (by decide) (fun c11 => ?_) (fun c11 => ?_)
    · skip
      have c11 : (nD f * 3) ≤ t := (g_le (by omega) (by omega)).mp c11
      exact absurd c11 (by omega)
    · skip
      have c11 : ¬ ((nD f * 3) ≤ t) := fun q => c11 ((g_le (by omega) (by omega)).mpr q)
      have hLt := hLn t (by omega)
      refine lv_iconst (v := nI 0) hx hb dX1_usesChangedByMoving_14 (by decide) ?_
      refine lv_istore (lv' := [(5, .int (nI 0)), (3, .int (nI (sm (fun t => ct (chP f a b t) (nL f t)) t))), (4, .int (nI t)), (0, .ref (w.2.2.2 2)), (1, .int a), (2, .int b)]) hx hb dX1_usesChangedByMoving_15 hl (by decide) rfl (fun ls hl => ?_)
      refine g_for (P := fun k => ∀ (ls : Array Slot), lv_has ls 6 [(3, .int (nI (sm (fun t => ct (chP f a b t) (nL f t)) t + ct (chP f a b t) k))), (5, .int (nI k)), (4, .int (nI t)), (0, .ref (w.2.2.2 2)), (1, .int a), (2, .int b)] → W P_ l E_ _ S_ M_ _ B_ T_ C_ S_.heap [] 0 0 _ (F0 M_ 17 ls [])) (nL f t) ?_ ?_ 0 (Nat.zero_le _) ls (lv_sub hl [1, 0, 2, 3, 4, 5] rfl)
      · intro k hk ih ls hl
        refine lv_iload hx hb dX1_usesChangedByMoving_17 (lv_at hl 1 rfl) ?_
        refine lv_aload_n hx hb dX1_usesChangedByMoving_19 rfl (lv_at hl 3 rfl) ?_
        refine g_get hx hb hts hown hV 2 2 (by decide) (v := .ref (w.2.2.2 16)) rfl rfl gin1 (by decide) gm_65 (rfl) dX1_usesChangedByMoving_20 ?_
        refine lv_iload hx hb dX1_usesChangedByMoving_23 (lv_at hl 2 rfl) ?_
        refine g_ialn (a := 11) (n := 18) hx hb hV 16 (by decide) (by decide) rfl rfl (i := t) (by omega) dX1_usesChangedByMoving_25 ?_
        rw [(hLn t (by omega)).1]
        refine lv_icmp_ge (tgt := 71) hx hb dX1_usesChangedByMoving_26 (by decide) (fun c26 => ?_) (fun c26 => ?_)
        · skip
          have c26 : (nL f t) ≤ k := (g_le (by omega) (by omega)).mp c26
          exact absurd c26 (by omega)
        · skip
          have c26 : ¬ ((nL f t) ≤ k) := fun q => c26 ((g_le (by omega) (by omega)).mpr q)
          refine lv_aload_n hx hb dX1_usesChangedByMoving_29 rfl (lv_at hl 3 rfl) ?_
          refine lv_iload hx hb dX1_usesChangedByMoving_30 (lv_at hl 2 rfl) ?_
          refine lv_iload hx hb dX1_usesChangedByMoving_32 (lv_at hl 1 rfl) ?_
          refine lv_aload_n hx hb dX1_usesChangedByMoving_34 rfl (lv_at hl 3 rfl) ?_
          refine g_get hx hb hts hown hV 2 4 (by decide) (v := .ref (w.2.2.2 18)) rfl rfl gin1 (by decide) gm_68 (rfl) dX1_usesChangedByMoving_35 ?_
          refine lv_iload hx hb dX1_usesChangedByMoving_38 (lv_at hl 2 rfl) ?_
          refine g_row (n := 18) (b := 19) hx hb hV 18 (by decide) rfl (i := t) (by omega) (by decide) dX1_usesChangedByMoving_40 ?_
          refine lv_iload hx hb dX1_usesChangedByMoving_41 (lv_at hl 1 rfl) ?_
          refine g_ialn (a := 20 + t) (n := 12) hx hb hV (19 + t) (by omega) (by omega) (gid_19 (by omega)) (gn_19 (by omega)) (i := k) (by omega) dX1_usesChangedByMoving_43 ?_
          refine lv_iload_n hx hb dX1_usesChangedByMoving_44 rfl (lv_at hl 4 rfl) ?_
          refine lv_iload_n hx hb dX1_usesChangedByMoving_45 rfl (lv_at hl 5 rfl) ?_
          refine g_callV (As := [.int (nI t), .int (nI k), .int (f (20 + t) k), .int a, .int b]) (rest := []) G.1 hV 2 (by decide) rfl rfl ok_X1_useOf gm_95 gm_96 gm_94 (c_X1_useOf l w f t k (f (20 + t) k) a b hI (by omega) (by omega)) ⟨rfl, rfl⟩ ⟨Nat.le_of_ble_eq_true rfl, Nat.le_of_ble_eq_true rfl⟩ rfl hl.1 rfl (Nat.le_of_ble_eq_true rfl) ⟨Nat.zero_le _, Nat.zero_le _⟩ dX1_usesChangedByMoving_46 ?_
          refine lv_aload_n hx hb dX1_usesChangedByMoving_49 rfl (lv_at hl 3 rfl) ?_
          refine g_get hx hb hts hown hV 2 5 (by decide) (v := .ref (w.2.2.2 37)) rfl rfl gin1 (by decide) gm_69 (rfl) dX1_usesChangedByMoving_50 ?_
          refine lv_iload hx hb dX1_usesChangedByMoving_53 (lv_at hl 2 rfl) ?_
          refine g_row (n := 18) (b := 38) hx hb hV 37 (by decide) rfl (i := t) (by omega) (by decide) dX1_usesChangedByMoving_55 ?_
          refine lv_iload hx hb dX1_usesChangedByMoving_56 (lv_at hl 1 rfl) ?_
          refine g_ialn (a := 40 + t) (n := 12) hx hb hV (38 + t) (by omega) (by omega) (gid_38 (by omega)) (gn_38 (by omega)) (i := k) (by omega) dX1_usesChangedByMoving_58 ?_
          refine lv_icmp_eq (tgt := 65) hx hb dX1_usesChangedByMoving_59 (by decide) (fun c59 => ?_) (fun c59 => ?_)
          · skip
            refine lv_iinc (v := nI (k + 1)) (lv' := [(5, .int (nI (k + 1))), (3, .int (nI (sm (fun t => ct (chP f a b t) (nL f t)) t + ct (chP f a b t) k))), (4, .int (nI t)), (0, .ref (w.2.2.2 2)), (1, .int a), (2, .int b)]) hx hb dX1_usesChangedByMoving_65 hl (k := 1) rfl (g_inc k 1) (by decide) rfl (fun ls hl => ?_)
            refine lv_goto (tgt := 17) hx hb dX1_usesChangedByMoving_68 (by decide) ?_
            refine ih ls ?_
            rw [(show sm (fun t => ct (chP f a b t) (nL f t)) t + ct (chP f a b t) (k + 1) = sm (fun t => ct (chP f a b t) (nL f t)) t + ct (chP f a b t) k from by first | (rw [ct_n (by simp [chP, c59])]; done) | (rw [ct_y (by simp [chP, c59])]; rfl))]
            exact lv_sub hl [1, 0, 2, 3, 4, 5] rfl
          · skip
            refine lv_iinc (v := nI (sm (fun t => ct (chP f a b t) (nL f t)) t + ct (chP f a b t) k + 1)) (lv' := [(3, .int (nI (sm (fun t => ct (chP f a b t) (nL f t)) t + ct (chP f a b t) k + 1))), (5, .int (nI k)), (4, .int (nI t)), (0, .ref (w.2.2.2 2)), (1, .int a), (2, .int b)]) hx hb dX1_usesChangedByMoving_62 hl (k := 0) rfl (g_inc (sm (fun t => ct (chP f a b t) (nL f t)) t + ct (chP f a b t) k) 1) (by decide) rfl (fun ls hl => ?_)
            refine lv_iinc (v := nI (k + 1)) (lv' := [(5, .int (nI (k + 1))), (3, .int (nI (sm (fun t => ct (chP f a b t) (nL f t)) t + ct (chP f a b t) k + 1))), (4, .int (nI t)), (0, .ref (w.2.2.2 2)), (1, .int a), (2, .int b)]) hx hb dX1_usesChangedByMoving_65 hl (k := 1) rfl (g_inc k 1) (by decide) rfl (fun ls hl => ?_)
            refine lv_goto (tgt := 17) hx hb dX1_usesChangedByMoving_68 (by decide) ?_
            refine ih ls ?_
            rw [(show sm (fun t => ct (chP f a b t) (nL f t)) t + ct (chP f a b t) (k + 1) = sm (fun t => ct (chP f a b t) (nL f t)) t + ct (chP f a b t) k + 1 from by first | (rw [ct_n (by simp [chP, c59])]; done) | (rw [ct_y (by simp [chP, c59])]; rfl))]
            exact lv_sub hl [1, 0, 2, 3, 4, 5] rfl
      · intro ls hl
        refine lv_iload hx hb dX1_usesChangedByMoving_17 (lv_at hl 1 rfl) ?_
        refine lv_aload_n hx hb dX1_usesChangedByMoving_19 rfl (lv_at hl 3 rfl) ?_
        refine g_get hx hb hts hown hV 2 2 (by decide) (v := .ref (w.2.2.2 16)) rfl rfl gin1 (by decide) gm_65 (rfl) dX1_usesChangedByMoving_20 ?_
        refine lv_iload hx hb dX1_usesChangedByMoving_23 (lv_at hl 2 rfl) ?_
        refine g_ialn (a := 11) (n := 18) hx hb hV 16 (by decide) (by decide) rfl rfl (i := t) (by omega) dX1_usesChangedByMoving_25 ?_
        rw [(hLn t (by omega)).1]
        refine lv_icmp_ge (tgt := 71) hx hb dX1_usesChangedByMoving_26 (by decide) (fun c26 => ?_) (fun c26 => ?_)
        · skip
          have c26 : (nL f t) ≤ (nL f t) := (g_le (by omega) (by omega)).mp c26
          refine lv_iinc (v := nI (t + 1)) (lv' := [(4, .int (nI (t + 1))), (3, .int (nI (sm (fun t => ct (chP f a b t) (nL f t)) t + ct (chP f a b t) (nL f t)))), (5, .int (nI (nL f t))), (0, .ref (w.2.2.2 2)), (1, .int a), (2, .int b)]) hx hb dX1_usesChangedByMoving_71 hl (k := 2) rfl (g_inc t 1) (by decide) rfl (fun ls hl => ?_)
          refine lv_goto (tgt := 5) hx hb dX1_usesChangedByMoving_74 (by decide) ?_
          refine ih ls ?_
          rw [(show sm (fun t => ct (chP f a b t) (nL f t)) (t + 1) = sm (fun t => ct (chP f a b t) (nL f t)) t + ct (chP f a b t) (nL f t) from rfl)]
          exact lv_sub hl [1, 0, 3, 4, 5] rfl
        · skip
          have c26 : ¬ ((nL f t) ≤ (nL f t)) := fun q => c26 ((g_le (by omega) (by omega)).mpr q)
          exact absurd c26 (by omega)
  · intro ls hl
    refine lv_iload hx hb dX1_usesChangedByMoving_5 (lv_at hl 1 rfl) ?_
    refine lv_aload_n hx hb dX1_usesChangedByMoving_7 rfl (lv_at hl 2 rfl) ?_
    refine g_callV (As := []) (rest := [.int (nI (nD f * 3))]) G.1 hV 2 (by decide) rfl rfl ok_X1_textCount gm_103 gm_104 gm_102 (c_X1_textCount l w f  hI ) ⟨rfl, rfl⟩ ⟨Nat.le_of_ble_eq_true rfl, Nat.le_of_ble_eq_true rfl⟩ rfl hl.1 rfl (Nat.le_of_ble_eq_true rfl) ⟨Nat.zero_le _, Nat.zero_le _⟩ dX1_usesChangedByMoving_8 ?_
    refine lv_icmp_ge (tgt := 77) hx hb dX1_usesChangedByMoving_11 (by decide) (fun c11 => ?_) (fun c11 => ?_)
    · skip
      have c11 : (nD f * 3) ≤ (nD f * 3) := (g_le (by omega) (by omega)).mp c11
      refine lv_iload_n hx hb dX1_usesChangedByMoving_77 rfl (lv_at hl 0 rfl) ?_
      exact g_iret G (rfl) dX1_usesChangedByMoving_78
    · skip
      have c11 : ¬ ((nD f * 3) ≤ (nD f * 3)) := fun q => c11 ((g_le (by omega) (by omega)).mpr q)
      exact absurd c11 (by omega)
theorem ok_X1_usesAmongIn : gOK yX1_usesAmongIn cX1_usesAmongIn 6 (some .int) 2 := ⟨gm_114, gm_86, by decide +kernel⟩
set_option maxRecDepth 100000 in
set_option maxHeartbeats 4000000 in
theorem c_X1_usesAmongIn (l : Launch) (w : GP) (f : CS) (t : Nat) (x : Int32) (hI : gI f) (ht : t < 18) : Met l yX1_usesAmongIn (gws yX1_usesAmongIn cX1_usesAmongIn 6 (some .int)) ({ frames := 1, cells := 0, slots := 0, locals := 21 }) (gPc w f [.ref (w.2.2.2 2), .int (nI t), .int x]) (gRd (.int (nI (uA f t x)))) 0 0 (fun _ => False) := by
  refine g_read (by decide) (Nat.le_of_ble_eq_true rfl) ?_
  intro P_ E_ S_ M_ B_ T_ C_ ls G hV hl
  obtain ⟨hx, hb, hml, hown, hts⟩ := id G.1
  obtain ⟨⟨hT, hT24⟩, ⟨hC, hC12⟩, ⟨hD, hD6⟩, hLn⟩ := id hI
  have hl : lv_has ls 6 [(0, .ref (w.2.2.2 2)), (1, .int (nI t)), (2, .int x)] := hl
  have hLt := hLn t ht
  refine lv_iconst (v := nI 0) hx hb dX1_usesAmongIn_0 (by decide) ?_
  refine lv_istore_n (lv' := [(3, .int (nI 0)), (0, .ref (w.2.2.2 2)), (1, .int (nI t)), (2, .int x)]) hx hb dX1_usesAmongIn_1 rfl hl (by decide) rfl (fun ls hl => ?_)
  refine lv_iconst (v := nI 0) hx hb dX1_usesAmongIn_2 (by decide) ?_
  refine lv_istore (lv' := [(4, .int (nI 0)), (3, .int (nI 0)), (0, .ref (w.2.2.2 2)), (1, .int (nI t)), (2, .int x)]) hx hb dX1_usesAmongIn_3 hl (by decide) rfl (fun ls hl => ?_)
  refine g_for (P := fun k => ∀ (ls : Array Slot), lv_has ls 6 [(3, .int (nI (ct (fun p => decide (¬ f (40 + t) p = -1 ∧ hs x (f (40 + t) p) = true)) k))), (4, .int (nI k)), (0, .ref (w.2.2.2 2)), (1, .int (nI t)), (2, .int x)] → W P_ l E_ _ S_ M_ _ B_ T_ C_ S_.heap [] 0 0 _ (F0 M_ 5 ls [])) (nL f t) ?_ ?_ 0 (Nat.zero_le _) ls (lv_sub hl [1, 0, 2, 3, 4] rfl)
  · intro k hk ih ls hl
    refine lv_iload hx hb dX1_usesAmongIn_5 (lv_at hl 1 rfl) ?_
    refine lv_aload_n hx hb dX1_usesAmongIn_7 rfl (lv_at hl 2 rfl) ?_
    refine g_get hx hb hts hown hV 2 2 (by decide) (v := .ref (w.2.2.2 16)) rfl rfl gin1 (by decide) gm_65 (rfl) dX1_usesAmongIn_8 ?_
    refine lv_iload_n hx hb dX1_usesAmongIn_11 rfl (lv_at hl 3 rfl) ?_
    refine g_ialn (a := 11) (n := 18) hx hb hV 16 (by decide) (by decide) rfl rfl (i := t) (by omega) dX1_usesAmongIn_12 ?_
    rw [(hLn t (by omega)).1]
    refine lv_icmp_ge (tgt := 51) hx hb dX1_usesAmongIn_13 (by decide) (fun c13 => ?_) (fun c13 => ?_)
    · skip
      have c13 : (nL f t) ≤ k := (g_le (by omega) (by omega)).mp c13
      exact absurd c13 (by omega)
    · skip
      have c13 : ¬ ((nL f t) ≤ k) := fun q => c13 ((g_le (by omega) (by omega)).mpr q)
      refine lv_aload_n hx hb dX1_usesAmongIn_16 rfl (lv_at hl 2 rfl) ?_
      refine g_get hx hb hts hown hV 2 5 (by decide) (v := .ref (w.2.2.2 37)) rfl rfl gin1 (by decide) gm_69 (rfl) dX1_usesAmongIn_17 ?_
      refine lv_iload_n hx hb dX1_usesAmongIn_20 rfl (lv_at hl 3 rfl) ?_
      refine g_row (n := 18) (b := 38) hx hb hV 37 (by decide) rfl (i := t) (by omega) (by decide) dX1_usesAmongIn_21 ?_
      refine lv_iload hx hb dX1_usesAmongIn_22 (lv_at hl 1 rfl) ?_
      refine g_ialn (a := 40 + t) (n := 12) hx hb hV (38 + t) (by omega) (by omega) (gid_38 (by omega)) (gn_38 (by omega)) (i := k) (by omega) dX1_usesAmongIn_24 ?_
      refine lv_istore (lv' := [(5, .int (f (40 + t) k)), (3, .int (nI (ct (fun p => decide (¬ f (40 + t) p = -1 ∧ hs x (f (40 + t) p) = true)) k))), (4, .int (nI k)), (0, .ref (w.2.2.2 2)), (1, .int (nI t)), (2, .int x)]) hx hb dX1_usesAmongIn_25 hl (by decide) rfl (fun ls hl => ?_)
      refine lv_iload hx hb dX1_usesAmongIn_27 (lv_at hl 0 rfl) ?_
      refine lv_iconst (v := -1) hx hb dX1_usesAmongIn_29 (by decide) ?_
      refine lv_icmp_eq (tgt := 45) hx hb dX1_usesAmongIn_30 (by decide) (fun c30 => ?_) (fun c30 => ?_)
      · skip
        refine lv_iinc (v := nI (k + 1)) (lv' := [(4, .int (nI (k + 1))), (5, .int (f (40 + t) k)), (3, .int (nI (ct (fun p => decide (¬ f (40 + t) p = -1 ∧ hs x (f (40 + t) p) = true)) k))), (0, .ref (w.2.2.2 2)), (1, .int (nI t)), (2, .int x)]) hx hb dX1_usesAmongIn_45 hl (k := 2) rfl (g_inc k 1) (by decide) rfl (fun ls hl => ?_)
        refine lv_goto (tgt := 5) hx hb dX1_usesAmongIn_48 (by decide) ?_
        refine ih ls ?_
        rw [(show ct (fun p => decide (¬ f (40 + t) p = -1 ∧ hs x (f (40 + t) p) = true)) (k + 1) = ct (fun p => decide (¬ f (40 + t) p = -1 ∧ hs x (f (40 + t) p) = true)) k from by simp [ct, c13, c30])]
        exact lv_sub hl [2, 0, 3, 4, 5] rfl
      · skip
        refine lv_iload_n hx hb dX1_usesAmongIn_33 rfl (lv_at hl 5 rfl) ?_
        refine lv_iload hx hb dX1_usesAmongIn_34 (lv_at hl 0 rfl) ?_
        refine g_callN (As := [.int x, .int (f (40 + t) k)]) (rest := []) G.1 hV ok_X2_has gm_17 hV.1.2.2 (c_X2_has l w f x (f (40 + t) k)  ) ⟨rfl, rfl⟩ ⟨Nat.le_of_ble_eq_true rfl, Nat.le_of_ble_eq_true rfl⟩ rfl hl.1 rfl (Nat.le_of_ble_eq_true rfl) ⟨Nat.zero_le _, Nat.zero_le _⟩ dX1_usesAmongIn_36 ?_
        refine lv_if_eq (tgt := 45) hx hb dX1_usesAmongIn_39 (by decide) (fun c39 => ?_) (fun c39 => ?_)
        · skip
          have c39 : ¬ (hs x (f (40 + t) k) = true) := g_if0.mp c39
          refine lv_iinc (v := nI (k + 1)) (lv' := [(4, .int (nI (k + 1))), (5, .int (f (40 + t) k)), (3, .int (nI (ct (fun p => decide (¬ f (40 + t) p = -1 ∧ hs x (f (40 + t) p) = true)) k))), (0, .ref (w.2.2.2 2)), (1, .int (nI t)), (2, .int x)]) hx hb dX1_usesAmongIn_45 hl (k := 2) rfl (g_inc k 1) (by decide) rfl (fun ls hl => ?_)
          refine lv_goto (tgt := 5) hx hb dX1_usesAmongIn_48 (by decide) ?_
          refine ih ls ?_
          rw [(show ct (fun p => decide (¬ f (40 + t) p = -1 ∧ hs x (f (40 + t) p) = true)) (k + 1) = ct (fun p => decide (¬ f (40 + t) p = -1 ∧ hs x (f (40 + t) p) = true)) k from by simp [ct, c13, c30, c39])]
          exact lv_sub hl [2, 0, 3, 4, 5] rfl
        · skip
          have c39 : hs x (f (40 + t) k) = true := g_if1.mp c39
          refine lv_iinc (v := nI (ct (fun p => decide (¬ f (40 + t) p = -1 ∧ hs x (f (40 + t) p) = true)) k + 1)) (lv' := [(3, .int (nI (ct (fun p => decide (¬ f (40 + t) p = -1 ∧ hs x (f (40 + t) p) = true)) k + 1))), (5, .int (f (40 + t) k)), (4, .int (nI k)), (0, .ref (w.2.2.2 2)), (1, .int (nI t)), (2, .int x)]) hx hb dX1_usesAmongIn_42 hl (k := 1) rfl (g_inc (ct (fun p => decide (¬ f (40 + t) p = -1 ∧ hs x (f (40 + t) p) = true)) k) 1) (by decide) rfl (fun ls hl => ?_)
          refine lv_iinc (v := nI (k + 1)) (lv' := [(4, .int (nI (k + 1))), (3, .int (nI (ct (fun p => decide (¬ f (40 + t) p = -1 ∧ hs x (f (40 + t) p) = true)) k + 1))), (5, .int (f (40 + t) k)), (0, .ref (w.2.2.2 2)), (1, .int (nI t)), (2, .int x)]) hx hb dX1_usesAmongIn_45 hl (k := 2) rfl (g_inc k 1) (by decide) rfl (fun ls hl => ?_)
          refine lv_goto (tgt := 5) hx hb dX1_usesAmongIn_48 (by decide) ?_
          refine ih ls ?_
          rw [(show ct (fun p => decide (¬ f (40 + t) p = -1 ∧ hs x (f (40 + t) p) = true)) (k + 1) = ct (fun p => decide (¬ f (40 + t) p = -1 ∧ hs x (f (40 + t) p) = true)) k + 1 from by simp [ct, c13, c30, c39])]
          exact lv_sub hl [1, 0, 3, 4, 5] rfl
  · intro ls hl
    refine lv_iload hx hb dX1_usesAmongIn_5 (lv_at hl 1 rfl) ?_
    refine lv_aload_n hx hb dX1_usesAmongIn_7 rfl (lv_at hl 2 rfl) ?_
    refine g_get hx hb hts hown hV 2 2 (by decide) (v := .ref (w.2.2.2 16)) rfl rfl gin1 (by decide) gm_65 (rfl) dX1_usesAmongIn_8 ?_
    refine lv_iload_n hx hb dX1_usesAmongIn_11 rfl (lv_at hl 3 rfl) ?_
    refine g_ialn (a := 11) (n := 18) hx hb hV 16 (by decide) (by decide) rfl rfl (i := t) (by omega) dX1_usesAmongIn_12 ?_
    rw [(hLn t (by omega)).1]
    refine lv_icmp_ge (tgt := 51) hx hb dX1_usesAmongIn_13 (by decide) (fun c13 => ?_) (fun c13 => ?_)
    · skip
      have c13 : (nL f t) ≤ (nL f t) := (g_le (by omega) (by omega)).mp c13
      refine lv_iload_n hx hb dX1_usesAmongIn_51 rfl (lv_at hl 0 rfl) ?_
      exact g_iret G (rfl) dX1_usesAmongIn_52
    · skip
      have c13 : ¬ ((nL f t) ≤ (nL f t)) := fun q => c13 ((g_le (by omega) (by omega)).mpr q)
      exact absurd c13 (by omega)
theorem ok_X1_isUseInState : gOK yX1_isUseInState cX1_isUseInState 5 (some .boolean) 3 := ⟨gm_110, gm_86, by decide +kernel⟩
set_option maxRecDepth 100000 in
set_option maxHeartbeats 4000000 in
theorem c_X1_isUseInState (l : Launch) (w : GP) (f : CS) (t : Nat) (p : Nat) (x : Int32) (hI : gI f) (ht : t < 18) (hp : p < 12) : Met l yX1_isUseInState (gws yX1_isUseInState cX1_isUseInState 5 (some .boolean)) ({ frames := 1, cells := 0, slots := 0, locals := 21 }) (gPc w f [.ref (w.2.2.2 2), .int (nI t), .int (nI p), .int x]) (gRd (.int (if uS f t p x then 1 else 0))) 0 0 (fun _ => False) := by
  refine g_read (by decide) (Nat.le_of_ble_eq_true rfl) ?_
  intro P_ E_ S_ M_ B_ T_ C_ ls G hV hl
  obtain ⟨hx, hb, hml, hown, hts⟩ := id G.1
  obtain ⟨⟨hT, hT24⟩, ⟨hC, hC12⟩, ⟨hD, hD6⟩, hLn⟩ := id hI
  have hl : lv_has ls 5 [(0, .ref (w.2.2.2 2)), (1, .int (nI t)), (2, .int (nI p)), (3, .int x)] := hl
  refine lv_aload_n hx hb dX1_isUseInState_0 rfl (lv_at hl 0 rfl) ?_
  refine g_get hx hb hts hown hV 2 5 (by decide) (v := .ref (w.2.2.2 37)) rfl rfl gin1 (by decide) gm_69 (rfl) dX1_isUseInState_1 ?_
  refine lv_iload_n hx hb dX1_isUseInState_4 rfl (lv_at hl 1 rfl) ?_
  refine g_row (n := 18) (b := 38) hx hb hV 37 (by decide) rfl (i := t) (by omega) (by decide) dX1_isUseInState_5 ?_
  refine lv_iload_n hx hb dX1_isUseInState_6 rfl (lv_at hl 2 rfl) ?_
  refine g_ialn (a := 40 + t) (n := 12) hx hb hV (38 + t) (by omega) (by omega) (gid_38 (by omega)) (gn_38 (by omega)) (i := p) (by omega) dX1_isUseInState_7 ?_
  refine lv_istore (lv' := [(4, .int (f (40 + t) p)), (0, .ref (w.2.2.2 2)), (1, .int (nI t)), (2, .int (nI p)), (3, .int x)]) hx hb dX1_isUseInState_8 hl (by decide) rfl (fun ls hl => ?_)
  refine lv_aload_n hx hb dX1_isUseInState_10 rfl (lv_at hl 1 rfl) ?_
  refine g_get hx hb hts hown hV 2 0 (by decide) (v := .ref (w.2.2.2 1)) rfl rfl gin1 (by decide) gm_70 (rfl) dX1_isUseInState_11 ?_
  refine lv_iload hx hb dX1_isUseInState_14 (lv_at hl 0 rfl) ?_
  refine g_callV (As := [.int (f (40 + t) p)]) (rest := []) G.1 hV 1 (by decide) rfl rfl ok_X0_isTerm gm_40 gm_41 gm_88 (c_X0_isTerm l w f (f (40 + t) p) hI ) ⟨rfl, rfl⟩ ⟨Nat.le_of_ble_eq_true rfl, Nat.le_of_ble_eq_true rfl⟩ rfl hl.1 rfl (Nat.le_of_ble_eq_true rfl) ⟨Nat.zero_le _, Nat.zero_le _⟩ dX1_isUseInState_16 ?_
  refine lv_if_eq (tgt := 40) hx hb dX1_isUseInState_19 (by decide) (fun c19 => ?_) (fun c19 => ?_)
  · skip
    have c19 : ¬ (0 ≤ (f (40 + t) p) ∧ (f (40 + t) p) < nI (nT f)) := g_if0.mp c19
    refine lv_iconst (v := nI 0) hx hb dX1_isUseInState_40 (by decide) ?_
    exact g_zret G (gz0 (fun q => c19 q.1)) (by decide) dX1_isUseInState_41
  · skip
    have c19 : 0 ≤ (f (40 + t) p) ∧ (f (40 + t) p) < nI (nT f) := g_if1.mp c19
    obtain ⟨u, hu, eu⟩ : ∃ u : Nat, u < nT f ∧ f (40 + t) p = nI u := nz c19.1 c19.2 (by omega)
    rw [eu] at hl
    refine lv_aload_n hx hb dX1_isUseInState_22 rfl (lv_at hl 1 rfl) ?_
    refine g_get hx hb hts hown hV 2 0 (by decide) (v := .ref (w.2.2.2 1)) rfl rfl gin1 (by decide) gm_70 (rfl) dX1_isUseInState_23 ?_
    refine g_get hx hb hts hown hV 1 6 (by decide) (v := .ref (w.2.2.2 7)) rfl rfl gin0 (by decide) gm_106 (rfl) dX1_isUseInState_26 ?_
    refine lv_iload hx hb dX1_isUseInState_29 (lv_at hl 0 rfl) ?_
    refine g_ialn (a := 5) (n := 24) hx hb hV 7 (by decide) (by decide) rfl rfl (i := u) (by omega) dX1_isUseInState_31 ?_
    refine lv_iload_n hx hb dX1_isUseInState_32 rfl (lv_at hl 4 rfl) ?_
    refine lv_icmp_ne (tgt := 40) hx hb dX1_isUseInState_33 (by decide) (fun c33 => ?_) (fun c33 => ?_)
    · skip
      refine lv_iconst (v := nI 0) hx hb dX1_isUseInState_40 (by decide) ?_
      exact g_zret G (gz0 (fun q => c33 (by have := q.2; rwa [eu, nI_clamp (by omega)] at this))) (by decide) dX1_isUseInState_41
    · skip
      refine lv_iconst (v := nI 1) hx hb dX1_isUseInState_36 (by decide) ?_
      refine lv_goto (tgt := 41) hx hb dX1_isUseInState_37 (by decide) ?_
      exact g_zret G (gz1 ⟨c19, by rw [eu, nI_clamp (by omega)]; exact c33⟩) (by decide) dX1_isUseInState_41
theorem ok_X1_usesInState : gOK yX1_usesInState cX1_usesInState 5 (some .int) 2 := ⟨gm_118, gm_86, by decide +kernel⟩
set_option maxRecDepth 100000 in
set_option maxHeartbeats 4000000 in
theorem c_X1_usesInState (l : Launch) (w : GP) (f : CS) (t : Nat) (x : Int32) (hI : gI f) (ht : t < 18) : Met l yX1_usesInState (gws yX1_usesInState cX1_usesInState 5 (some .int)) ({ frames := 2, cells := 0, slots := 0, locals := 45 }) (gPc w f [.ref (w.2.2.2 2), .int (nI t), .int x]) (gRd (.int (nI (uI f t x)))) 0 0 (fun _ => False) := by
  refine g_read (by decide) (Nat.le_of_ble_eq_true rfl) ?_
  intro P_ E_ S_ M_ B_ T_ C_ ls G hV hl
  obtain ⟨hx, hb, hml, hown, hts⟩ := id G.1
  obtain ⟨⟨hT, hT24⟩, ⟨hC, hC12⟩, ⟨hD, hD6⟩, hLn⟩ := id hI
  have hl : lv_has ls 5 [(0, .ref (w.2.2.2 2)), (1, .int (nI t)), (2, .int x)] := hl
  have hLt := hLn t ht
  refine lv_iconst (v := nI 0) hx hb dX1_usesInState_0 (by decide) ?_
  refine lv_istore_n (lv' := [(3, .int (nI 0)), (0, .ref (w.2.2.2 2)), (1, .int (nI t)), (2, .int x)]) hx hb dX1_usesInState_1 rfl hl (by decide) rfl (fun ls hl => ?_)
  refine lv_iconst (v := nI 0) hx hb dX1_usesInState_2 (by decide) ?_
  refine lv_istore (lv' := [(4, .int (nI 0)), (3, .int (nI 0)), (0, .ref (w.2.2.2 2)), (1, .int (nI t)), (2, .int x)]) hx hb dX1_usesInState_3 hl (by decide) rfl (fun ls hl => ?_)
  refine g_for (P := fun k => ∀ (ls : Array Slot), lv_has ls 5 [(3, .int (nI (ct (fun p => decide (uS f t p x)) k))), (4, .int (nI k)), (0, .ref (w.2.2.2 2)), (1, .int (nI t)), (2, .int x)] → W P_ l E_ _ S_ M_ _ B_ T_ C_ S_.heap [] 0 0 _ (F0 M_ 5 ls [])) (nL f t) ?_ ?_ 0 (Nat.zero_le _) ls (lv_sub hl [1, 0, 2, 3, 4] rfl)
  · intro k hk ih ls hl
    refine lv_iload hx hb dX1_usesInState_5 (lv_at hl 1 rfl) ?_
    refine lv_aload_n hx hb dX1_usesInState_7 rfl (lv_at hl 2 rfl) ?_
    refine g_get hx hb hts hown hV 2 2 (by decide) (v := .ref (w.2.2.2 16)) rfl rfl gin1 (by decide) gm_65 (rfl) dX1_usesInState_8 ?_
    refine lv_iload_n hx hb dX1_usesInState_11 rfl (lv_at hl 3 rfl) ?_
    refine g_ialn (a := 11) (n := 18) hx hb hV 16 (by decide) (by decide) rfl rfl (i := t) (by omega) dX1_usesInState_12 ?_
    rw [(hLn t (by omega)).1]
    refine lv_icmp_ge (tgt := 36) hx hb dX1_usesInState_13 (by decide) (fun c13 => ?_) (fun c13 => ?_)
    · skip
      have c13 : (nL f t) ≤ k := (g_le (by omega) (by omega)).mp c13
      exact absurd c13 (by omega)
    · skip
      have c13 : ¬ ((nL f t) ≤ k) := fun q => c13 ((g_le (by omega) (by omega)).mpr q)
      refine lv_aload_n hx hb dX1_usesInState_16 rfl (lv_at hl 2 rfl) ?_
      refine lv_iload_n hx hb dX1_usesInState_17 rfl (lv_at hl 3 rfl) ?_
      refine lv_iload hx hb dX1_usesInState_18 (lv_at hl 1 rfl) ?_
      refine lv_iload_n hx hb dX1_usesInState_20 rfl (lv_at hl 4 rfl) ?_
      refine g_callV (As := [.int (nI t), .int (nI k), .int x]) (rest := []) G.1 hV 2 (by decide) rfl rfl ok_X1_isUseInState gm_108 gm_109 gm_107 (c_X1_isUseInState l w f t k x hI (by omega) (by omega)) ⟨rfl, rfl⟩ ⟨Nat.le_of_ble_eq_true rfl, Nat.le_of_ble_eq_true rfl⟩ rfl hl.1 rfl (Nat.le_of_ble_eq_true rfl) ⟨Nat.zero_le _, Nat.zero_le _⟩ dX1_usesInState_21 ?_
      refine lv_if_eq (tgt := 30) hx hb dX1_usesInState_24 (by decide) (fun c24 => ?_) (fun c24 => ?_)
      · skip
        have c24 : ¬ (uS f t k x) := g_if0.mp c24
        refine lv_iinc (v := nI (k + 1)) (lv' := [(4, .int (nI (k + 1))), (3, .int (nI (ct (fun p => decide (uS f t p x)) k))), (0, .ref (w.2.2.2 2)), (1, .int (nI t)), (2, .int x)]) hx hb dX1_usesInState_30 hl (k := 1) rfl (g_inc k 1) (by decide) rfl (fun ls hl => ?_)
        refine lv_goto (tgt := 5) hx hb dX1_usesInState_33 (by decide) ?_
        refine ih ls ?_
        rw [(show ct (fun p => decide (uS f t p x)) (k + 1) = ct (fun p => decide (uS f t p x)) k from by first | exact ct_n (fun q => c24 (of_decide_eq_true q)) | exact ct_y (decide_eq_true c24))]
        exact lv_sub hl [1, 0, 2, 3, 4] rfl
      · skip
        have c24 : uS f t k x := g_if1.mp c24
        refine lv_iinc (v := nI (ct (fun p => decide (uS f t p x)) k + 1)) (lv' := [(3, .int (nI (ct (fun p => decide (uS f t p x)) k + 1))), (4, .int (nI k)), (0, .ref (w.2.2.2 2)), (1, .int (nI t)), (2, .int x)]) hx hb dX1_usesInState_27 hl (k := 0) rfl (g_inc (ct (fun p => decide (uS f t p x)) k) 1) (by decide) rfl (fun ls hl => ?_)
        refine lv_iinc (v := nI (k + 1)) (lv' := [(4, .int (nI (k + 1))), (3, .int (nI (ct (fun p => decide (uS f t p x)) k + 1))), (0, .ref (w.2.2.2 2)), (1, .int (nI t)), (2, .int x)]) hx hb dX1_usesInState_30 hl (k := 1) rfl (g_inc k 1) (by decide) rfl (fun ls hl => ?_)
        refine lv_goto (tgt := 5) hx hb dX1_usesInState_33 (by decide) ?_
        refine ih ls ?_
        rw [(show ct (fun p => decide (uS f t p x)) (k + 1) = ct (fun p => decide (uS f t p x)) k + 1 from by first | exact ct_n (fun q => c24 (of_decide_eq_true q)) | exact ct_y (decide_eq_true c24))]
        exact lv_sub hl [1, 0, 2, 3, 4] rfl
  · intro ls hl
    refine lv_iload hx hb dX1_usesInState_5 (lv_at hl 1 rfl) ?_
    refine lv_aload_n hx hb dX1_usesInState_7 rfl (lv_at hl 2 rfl) ?_
    refine g_get hx hb hts hown hV 2 2 (by decide) (v := .ref (w.2.2.2 16)) rfl rfl gin1 (by decide) gm_65 (rfl) dX1_usesInState_8 ?_
    refine lv_iload_n hx hb dX1_usesInState_11 rfl (lv_at hl 3 rfl) ?_
    refine g_ialn (a := 11) (n := 18) hx hb hV 16 (by decide) (by decide) rfl rfl (i := t) (by omega) dX1_usesInState_12 ?_
    rw [(hLn t (by omega)).1]
    refine lv_icmp_ge (tgt := 36) hx hb dX1_usesInState_13 (by decide) (fun c13 => ?_) (fun c13 => ?_)
    · skip
      have c13 : (nL f t) ≤ (nL f t) := (g_le (by omega) (by omega)).mp c13
      refine lv_iload_n hx hb dX1_usesInState_36 rfl (lv_at hl 0 rfl) ?_
      exact g_iret G (rfl) dX1_usesInState_37
    · skip
      have c13 : ¬ ((nL f t) ≤ (nL f t)) := fun q => c13 ((g_le (by omega) (by omega)).mpr q)
      exact absurd c13 (by omega)
theorem ok_X1_firstBanned : gOK yX1_firstBanned cX1_firstBanned 3 (some .int) 1 := ⟨gm_122, gm_86, by decide +kernel⟩
set_option maxRecDepth 100000 in
set_option maxHeartbeats 4000000 in
theorem c_X1_firstBanned (l : Launch) (w : GP) (f : CS) (t : Nat) (hI : gI f) (ht : t < 18) : Met l yX1_firstBanned (gws yX1_firstBanned cX1_firstBanned 3 (some .int)) ({ frames := 2, cells := 0, slots := 0, locals := 45 }) (gPc w f [.ref (w.2.2.2 2), .int (nI t)]) (gRd (.int (fbI f t))) 0 0 (fun _ => False) := by
  refine g_read (by decide) (Nat.le_of_ble_eq_true rfl) ?_
  intro P_ E_ S_ M_ B_ T_ C_ ls G hV hl
  obtain ⟨hx, hb, hml, hown, hts⟩ := id G.1
  obtain ⟨⟨hT, hT24⟩, ⟨hC, hC12⟩, ⟨hD, hD6⟩, hLn⟩ := id hI
  have hl : lv_has ls 3 [(0, .ref (w.2.2.2 2)), (1, .int (nI t))] := hl
  have hLt := hLn t ht
  refine lv_iconst (v := nI 0) hx hb dX1_firstBanned_0 (by decide) ?_
  refine lv_istore_n (lv' := [(2, .int (nI 0)), (0, .ref (w.2.2.2 2)), (1, .int (nI t))]) hx hb dX1_firstBanned_1 rfl hl (by decide) rfl (fun ls hl => ?_)
  refine g_for (P := fun k => ∀ (ls : Array Slot), lv_has ls 3 [(2, .int (nI k)), (0, .ref (w.2.2.2 2)), (1, .int (nI t))] → (∀ q, q < k → ¬ (fun p => decide (uS f t p (nI 3))) q = true) → W P_ l E_ _ S_ M_ _ B_ T_ C_ S_.heap [] 0 0 _ (F0 M_ 2 ls [])) (nL f t) ?_ ?_ 0 (Nat.zero_le _) ls (lv_sub hl [0, 1, 2] rfl) (fun t ht => absurd ht (Nat.not_lt_zero t))
  · intro k hk ih ls hl hik
    refine lv_iload_n hx hb dX1_firstBanned_2 rfl (lv_at hl 0 rfl) ?_
    refine lv_aload_n hx hb dX1_firstBanned_3 rfl (lv_at hl 1 rfl) ?_
    refine g_get hx hb hts hown hV 2 2 (by decide) (v := .ref (w.2.2.2 16)) rfl rfl gin1 (by decide) gm_65 (rfl) dX1_firstBanned_4 ?_
    refine lv_iload_n hx hb dX1_firstBanned_7 rfl (lv_at hl 2 rfl) ?_
    refine g_ialn (a := 11) (n := 18) hx hb hV 16 (by decide) (by decide) rfl rfl (i := t) (by omega) dX1_firstBanned_8 ?_
    rw [(hLn t (by omega)).1]
    refine lv_icmp_ge (tgt := 30) hx hb dX1_firstBanned_9 (by decide) (fun c9 => ?_) (fun c9 => ?_)
    · skip
      have c9 : (nL f t) ≤ k := (g_le (by omega) (by omega)).mp c9
      exact absurd c9 (by omega)
    · skip
      have c9 : ¬ ((nL f t) ≤ k) := fun q => c9 ((g_le (by omega) (by omega)).mpr q)
      refine lv_aload_n hx hb dX1_firstBanned_12 rfl (lv_at hl 1 rfl) ?_
      refine lv_iload_n hx hb dX1_firstBanned_13 rfl (lv_at hl 2 rfl) ?_
      refine lv_iload_n hx hb dX1_firstBanned_14 rfl (lv_at hl 0 rfl) ?_
      refine lv_iconst (v := nI 3) hx hb dX1_firstBanned_15 (by decide) ?_
      refine g_callV (As := [.int (nI t), .int (nI k), .int (nI 3)]) (rest := []) G.1 hV 2 (by decide) rfl rfl ok_X1_isUseInState gm_108 gm_109 gm_107 (c_X1_isUseInState l w f t k (nI 3) hI (by omega) (by omega)) ⟨rfl, rfl⟩ ⟨Nat.le_of_ble_eq_true rfl, Nat.le_of_ble_eq_true rfl⟩ rfl hl.1 rfl (Nat.le_of_ble_eq_true rfl) ⟨Nat.zero_le _, Nat.zero_le _⟩ dX1_firstBanned_16 ?_
      refine lv_if_eq (tgt := 24) hx hb dX1_firstBanned_19 (by decide) (fun c19 => ?_) (fun c19 => ?_)
      · skip
        have c19 : ¬ (uS f t k (nI 3)) := g_if0.mp c19
        refine lv_iinc (v := nI (k + 1)) (lv' := [(2, .int (nI (k + 1))), (0, .ref (w.2.2.2 2)), (1, .int (nI t))]) hx hb dX1_firstBanned_24 hl (k := 0) rfl (g_inc k 1) (by decide) rfl (fun ls hl => ?_)
        refine lv_goto (tgt := 2) hx hb dX1_firstBanned_27 (by decide) ?_
        refine ih ls ?_ (fun q hq z => by rcases Nat.lt_succ_iff_lt_or_eq.mp hq with h | h; exact hik q h z; subst h; exact c19 (of_decide_eq_true z))
        exact lv_sub hl [0, 1, 2] rfl
      · skip
        have c19 : uS f t k (nI 3) := g_if1.mp c19
        refine lv_iload_n hx hb dX1_firstBanned_22 rfl (lv_at hl 0 rfl) ?_
        exact g_iret G (by unfold fbI fbN; rw [fst_ex hk (decide_eq_true c19) hik, if_pos hk]) dX1_firstBanned_23
  · intro ls hl hik
    refine lv_iload_n hx hb dX1_firstBanned_2 rfl (lv_at hl 0 rfl) ?_
    refine lv_aload_n hx hb dX1_firstBanned_3 rfl (lv_at hl 1 rfl) ?_
    refine g_get hx hb hts hown hV 2 2 (by decide) (v := .ref (w.2.2.2 16)) rfl rfl gin1 (by decide) gm_65 (rfl) dX1_firstBanned_4 ?_
    refine lv_iload_n hx hb dX1_firstBanned_7 rfl (lv_at hl 2 rfl) ?_
    refine g_ialn (a := 11) (n := 18) hx hb hV 16 (by decide) (by decide) rfl rfl (i := t) (by omega) dX1_firstBanned_8 ?_
    rw [(hLn t (by omega)).1]
    refine lv_icmp_ge (tgt := 30) hx hb dX1_firstBanned_9 (by decide) (fun c9 => ?_) (fun c9 => ?_)
    · skip
      have c9 : (nL f t) ≤ (nL f t) := (g_le (by omega) (by omega)).mp c9
      refine lv_iconst (v := -1) hx hb dX1_firstBanned_30 (by decide) ?_
      exact g_iret G (by unfold fbI fbN; rw [fst_no hik, if_neg (Nat.lt_irrefl _)]) dX1_firstBanned_31
    · skip
      have c9 : ¬ ((nL f t) ≤ (nL f t)) := fun q => c9 ((g_le (by omega) (by omega)).mpr q)
      exact absurd c9 (by omega)
theorem ok_X1_consistency : gOK yX1_consistency cX1_consistency 3 (some .int) 1 := ⟨gm_151, gm_86, by decide +kernel⟩
set_option maxRecDepth 100000 in
set_option maxHeartbeats 4000000 in
theorem c_X1_consistency (l : Launch) (w : GP) (f : CS) (t : Nat) (hI : gI f) (ht : t < 18) : Met l yX1_consistency (gws yX1_consistency cX1_consistency 3 (some .int)) ({ frames := 3, cells := 0, slots := 0, locals := 69 }) (gPc w f [.ref (w.2.2.2 2), .int (nI t)]) (gRd (.int (nI (csN f t)))) 0 0 (fun _ => False) := by
  refine g_read (by decide) (Nat.le_of_ble_eq_true rfl) ?_
  intro P_ E_ S_ M_ B_ T_ C_ ls G hV hl
  obtain ⟨hx, hb, hml, hown, hts⟩ := id G.1
  obtain ⟨⟨hT, hT24⟩, ⟨hC, hC12⟩, ⟨hD, hD6⟩, hLn⟩ := id hI
  have hl : lv_has ls 3 [(0, .ref (w.2.2.2 2)), (1, .int (nI t))] := hl
  have hLt := hLn t ht
  have hu1 := uA_le f t (-1)
  have hu2 := uI_le f t (nI 2)
  refine lv_aload_n hx hb dX1_consistency_0 rfl (lv_at hl 0 rfl) ?_
  refine lv_iload_n hx hb dX1_consistency_1 rfl (lv_at hl 1 rfl) ?_
  refine lv_iconst (v := -1) hx hb dX1_consistency_2 (by decide) ?_
  refine g_callV (As := [.int (nI t), .int (-1)]) (rest := []) G.1 hV 2 (by decide) rfl rfl ok_X1_usesAmongIn gm_112 gm_113 gm_111 (c_X1_usesAmongIn l w f t (-1) hI (by omega)) ⟨rfl, rfl⟩ ⟨Nat.le_of_ble_eq_true rfl, Nat.le_of_ble_eq_true rfl⟩ rfl hl.1 rfl (Nat.le_of_ble_eq_true rfl) ⟨Nat.zero_le _, Nat.zero_le _⟩ dX1_consistency_3 ?_
  refine lv_istore_n (lv' := [(2, .int (nI (uA f t (-1)))), (0, .ref (w.2.2.2 2)), (1, .int (nI t))]) hx hb dX1_consistency_6 rfl hl (by decide) rfl (fun ls hl => ?_)
  refine lv_iload_n hx hb dX1_consistency_7 rfl (lv_at hl 0 rfl) ?_
  refine lv_if_ne (tgt := 16) hx hb dX1_consistency_8 (by decide) (fun c8 => ?_) (fun c8 => ?_)
  · skip
    rw [show (0 : Int32) = nI 0 from rfl] at c8
    have c8 : ¬ ((uA f t (-1)) = 0) := fun q => c8 ((g_eq (Nat.lt_of_le_of_lt (uA_le _ _ _) (by omega)) (by omega)).mpr q)
    refine lv_bipush (v := nI 100) hx hb dX1_consistency_16 (by decide) ?_
    refine lv_aload_n hx hb dX1_consistency_18 rfl (lv_at hl 1 rfl) ?_
    refine lv_iload_n hx hb dX1_consistency_19 rfl (lv_at hl 2 rfl) ?_
    refine lv_iconst (v := nI 2) hx hb dX1_consistency_20 (by decide) ?_
    refine g_callV (As := [.int (nI t), .int (nI 2)]) (rest := [.int (nI 100)]) G.1 hV 2 (by decide) rfl rfl ok_X1_usesInState gm_116 gm_117 gm_115 (c_X1_usesInState l w f t (nI 2) hI (by omega)) ⟨rfl, rfl⟩ ⟨Nat.le_of_ble_eq_true rfl, Nat.le_of_ble_eq_true rfl⟩ rfl hl.1 rfl (Nat.le_of_ble_eq_true rfl) ⟨Nat.zero_le _, Nat.zero_le _⟩ dX1_consistency_21 ?_
    refine g_imuln hx hb dX1_consistency_24 ?_
    refine lv_iload_n hx hb dX1_consistency_25 rfl (lv_at hl 0 rfl) ?_
    refine g_idivn hx hb (by omega) (by omega) (by omega) dX1_consistency_26 ?_
    exact g_iret G (by unfold csN; rw [if_neg c8]) dX1_consistency_27
  · skip
    rw [show (0 : Int32) = nI 0 from rfl] at c8
    have c8 : (uA f t (-1)) = 0 := (g_eq (Nat.lt_of_le_of_lt (uA_le _ _ _) (by omega)) (by omega)).mp c8
    refine lv_bipush (v := nI 100) hx hb dX1_consistency_11 (by decide) ?_
    refine lv_goto (tgt := 27) hx hb dX1_consistency_13 (by decide) ?_
    exact g_iret G (by unfold csN; rw [if_pos c8]) dX1_consistency_27
theorem ok_X1_ambiguousForms : gOK yX1_ambiguousForms cX1_ambiguousForms 4 (some .int) 1 := ⟨gm_319, gm_86, by decide +kernel⟩
set_option maxRecDepth 100000 in
set_option maxHeartbeats 4000000 in
theorem c_X1_ambiguousForms (l : Launch) (w : GP) (f : CS) (t : Nat) (hI : gI f) (ht : t < 18) : Met l yX1_ambiguousForms (gws yX1_ambiguousForms cX1_ambiguousForms 4 (some .int)) ({ frames := 2, cells := 0, slots := 0, locals := 44 }) (gPc w f [.ref (w.2.2.2 2), .int (nI t)]) (gRd (.int (nI (amN f t)))) 0 0 (fun _ => False) := by
  refine g_read (by decide) (Nat.le_of_ble_eq_true rfl) ?_
  intro P_ E_ S_ M_ B_ T_ C_ ls G hV hl
  obtain ⟨hx, hb, hml, hown, hts⟩ := id G.1
  obtain ⟨⟨hT, hT24⟩, ⟨hC, hC12⟩, ⟨hD, hD6⟩, hLn⟩ := id hI
  have hl : lv_has ls 4 [(0, .ref (w.2.2.2 2)), (1, .int (nI t))] := hl
  have hLt := hLn t ht
  refine lv_iconst (v := nI 0) hx hb dX1_ambiguousForms_0 (by decide) ?_
  refine lv_istore_n (lv' := [(2, .int (nI 0)), (0, .ref (w.2.2.2 2)), (1, .int (nI t))]) hx hb dX1_ambiguousForms_1 rfl hl (by decide) rfl (fun ls hl => ?_)
  refine lv_iconst (v := nI 0) hx hb dX1_ambiguousForms_2 (by decide) ?_
  refine lv_istore_n (lv' := [(3, .int (nI 0)), (2, .int (nI 0)), (0, .ref (w.2.2.2 2)), (1, .int (nI t))]) hx hb dX1_ambiguousForms_3 rfl hl (by decide) rfl (fun ls hl => ?_)
  refine g_for (P := fun k => ∀ (ls : Array Slot), lv_has ls 4 [(2, .int (nI (ct (fun p => decide (1 < pcn (cb f (t % 3) (f (20 + t) p)))) k))), (3, .int (nI k)), (0, .ref (w.2.2.2 2)), (1, .int (nI t))] → W P_ l E_ _ S_ M_ _ B_ T_ C_ S_.heap [] 0 0 _ (F0 M_ 4 ls [])) (nL f t) ?_ ?_ 0 (Nat.zero_le _) ls (lv_sub hl [1, 0, 2, 3] rfl)
  · intro k hk ih ls hl
    refine lv_iload_n hx hb dX1_ambiguousForms_4 rfl (lv_at hl 1 rfl) ?_
    refine lv_aload_n hx hb dX1_ambiguousForms_5 rfl (lv_at hl 2 rfl) ?_
    refine g_get hx hb hts hown hV 2 2 (by decide) (v := .ref (w.2.2.2 16)) rfl rfl gin1 (by decide) gm_65 (rfl) dX1_ambiguousForms_6 ?_
    refine lv_iload_n hx hb dX1_ambiguousForms_9 rfl (lv_at hl 3 rfl) ?_
    refine g_ialn (a := 11) (n := 18) hx hb hV 16 (by decide) (by decide) rfl rfl (i := t) (by omega) dX1_ambiguousForms_10 ?_
    rw [(hLn t (by omega)).1]
    refine lv_icmp_ge (tgt := 48) hx hb dX1_ambiguousForms_11 (by decide) (fun c11 => ?_) (fun c11 => ?_)
    · skip
      have c11 : (nL f t) ≤ k := (g_le (by omega) (by omega)).mp c11
      exact absurd c11 (by omega)
    · skip
      have c11 : ¬ ((nL f t) ≤ k) := fun q => c11 ((g_le (by omega) (by omega)).mpr q)
      refine lv_aload_n hx hb dX1_ambiguousForms_14 rfl (lv_at hl 2 rfl) ?_
      refine g_get hx hb hts hown hV 2 0 (by decide) (v := .ref (w.2.2.2 1)) rfl rfl gin1 (by decide) gm_70 (rfl) dX1_ambiguousForms_15 ?_
      refine lv_iload_n hx hb dX1_ambiguousForms_18 rfl (lv_at hl 3 rfl) ?_
      refine lv_iconst (v := nI 3) hx hb dX1_ambiguousForms_19 (by decide) ?_
      refine g_iremn hx hb (by omega) (by omega) (by omega) dX1_ambiguousForms_20 ?_
      refine lv_aload_n hx hb dX1_ambiguousForms_21 rfl (lv_at hl 2 rfl) ?_
      refine g_get hx hb hts hown hV 2 4 (by decide) (v := .ref (w.2.2.2 18)) rfl rfl gin1 (by decide) gm_68 (rfl) dX1_ambiguousForms_22 ?_
      refine lv_iload_n hx hb dX1_ambiguousForms_25 rfl (lv_at hl 3 rfl) ?_
      refine g_row (n := 18) (b := 19) hx hb hV 18 (by decide) rfl (i := t) (by omega) (by decide) dX1_ambiguousForms_26 ?_
      refine lv_iload_n hx hb dX1_ambiguousForms_27 rfl (lv_at hl 1 rfl) ?_
      refine g_ialn (a := 20 + t) (n := 12) hx hb hV (19 + t) (by omega) (by omega) (gid_19 (by omega)) (gn_19 (by omega)) (i := k) (by omega) dX1_ambiguousForms_28 ?_
      refine g_callV (As := [.int (nI (t % 3)), .int (f (20 + t) k)]) (rest := []) G.1 hV 1 (by decide) rfl rfl ok_X0_canBe gm_81 gm_82 gm_80 (c_X0_canBe l w f (t % 3) (f (20 + t) k) hI (by omega)) ⟨rfl, rfl⟩ ⟨Nat.le_of_ble_eq_true rfl, Nat.le_of_ble_eq_true rfl⟩ rfl hl.1 rfl (Nat.le_of_ble_eq_true rfl) ⟨Nat.zero_le _, Nat.zero_le _⟩ dX1_ambiguousForms_29 ?_
      refine g_callS (As := [.int (cb f (t % 3) (f (20 + t) k))]) (rest := []) G.1 hV ok_J6_bitCount_0f7a4 gm_28 gm_74 (c_J6_bitCount_0f7a4 l w f (cb f (t % 3) (f (20 + t) k))  ) ⟨rfl, rfl⟩ ⟨Nat.le_of_ble_eq_true rfl, Nat.le_of_ble_eq_true rfl⟩ rfl hl.1 rfl (Nat.le_of_ble_eq_true rfl) ⟨Nat.zero_le _, Nat.zero_le _⟩ dX1_ambiguousForms_32 ?_
      refine lv_iconst (v := nI 1) hx hb dX1_ambiguousForms_35 (by decide) ?_
      refine lv_icmp_le (tgt := 42) hx hb dX1_ambiguousForms_36 (by decide) (fun c36 => ?_) (fun c36 => ?_)
      · skip
        have c36 : (pcn (cb f (t % 3) (f (20 + t) k))) ≤ 1 := (g_le pcn_lt (by omega)).mp c36
        refine lv_iinc (v := nI (k + 1)) (lv' := [(3, .int (nI (k + 1))), (2, .int (nI (ct (fun p => decide (1 < pcn (cb f (t % 3) (f (20 + t) p)))) k))), (0, .ref (w.2.2.2 2)), (1, .int (nI t))]) hx hb dX1_ambiguousForms_42 hl (k := 1) rfl (g_inc k 1) (by decide) rfl (fun ls hl => ?_)
        refine lv_goto (tgt := 4) hx hb dX1_ambiguousForms_45 (by decide) ?_
        refine ih ls ?_
        rw [(show ct (fun p => decide (1 < pcn (cb f (t % 3) (f (20 + t) p)))) (k + 1) = ct (fun p => decide (1 < pcn (cb f (t % 3) (f (20 + t) p)))) k from by first | (rw [ct_n (by simpa using c36)]; done) | (rw [ct_y (by simpa using c36)]; done))]
        exact lv_sub hl [1, 0, 2, 3] rfl
      · skip
        have c36 : ¬ ((pcn (cb f (t % 3) (f (20 + t) k))) ≤ 1) := fun q => c36 ((g_le pcn_lt (by omega)).mpr q)
        refine lv_iinc (v := nI (ct (fun p => decide (1 < pcn (cb f (t % 3) (f (20 + t) p)))) k + 1)) (lv' := [(2, .int (nI (ct (fun p => decide (1 < pcn (cb f (t % 3) (f (20 + t) p)))) k + 1))), (3, .int (nI k)), (0, .ref (w.2.2.2 2)), (1, .int (nI t))]) hx hb dX1_ambiguousForms_39 hl (k := 0) rfl (g_inc (ct (fun p => decide (1 < pcn (cb f (t % 3) (f (20 + t) p)))) k) 1) (by decide) rfl (fun ls hl => ?_)
        refine lv_iinc (v := nI (k + 1)) (lv' := [(3, .int (nI (k + 1))), (2, .int (nI (ct (fun p => decide (1 < pcn (cb f (t % 3) (f (20 + t) p)))) k + 1))), (0, .ref (w.2.2.2 2)), (1, .int (nI t))]) hx hb dX1_ambiguousForms_42 hl (k := 1) rfl (g_inc k 1) (by decide) rfl (fun ls hl => ?_)
        refine lv_goto (tgt := 4) hx hb dX1_ambiguousForms_45 (by decide) ?_
        refine ih ls ?_
        rw [(show ct (fun p => decide (1 < pcn (cb f (t % 3) (f (20 + t) p)))) (k + 1) = ct (fun p => decide (1 < pcn (cb f (t % 3) (f (20 + t) p)))) k + 1 from by first | (rw [ct_n (by simpa using c36)]; done) | (rw [ct_y (by simpa using c36)]; done))]
        exact lv_sub hl [1, 0, 2, 3] rfl
  · intro ls hl
    refine lv_iload_n hx hb dX1_ambiguousForms_4 rfl (lv_at hl 1 rfl) ?_
    refine lv_aload_n hx hb dX1_ambiguousForms_5 rfl (lv_at hl 2 rfl) ?_
    refine g_get hx hb hts hown hV 2 2 (by decide) (v := .ref (w.2.2.2 16)) rfl rfl gin1 (by decide) gm_65 (rfl) dX1_ambiguousForms_6 ?_
    refine lv_iload_n hx hb dX1_ambiguousForms_9 rfl (lv_at hl 3 rfl) ?_
    refine g_ialn (a := 11) (n := 18) hx hb hV 16 (by decide) (by decide) rfl rfl (i := t) (by omega) dX1_ambiguousForms_10 ?_
    rw [(hLn t (by omega)).1]
    refine lv_icmp_ge (tgt := 48) hx hb dX1_ambiguousForms_11 (by decide) (fun c11 => ?_) (fun c11 => ?_)
    · skip
      have c11 : (nL f t) ≤ (nL f t) := (g_le (by omega) (by omega)).mp c11
      refine lv_iload_n hx hb dX1_ambiguousForms_48 rfl (lv_at hl 0 rfl) ?_
      exact g_iret G (rfl) dX1_ambiguousForms_49
    · skip
      have c11 : ¬ ((nL f t) ≤ (nL f t)) := fun q => c11 ((g_le (by omega) (by omega)).mpr q)
      exact absurd c11 (by omega)
theorem ok_X1_canBeApproved : gOK yX1_canBeApproved cX1_canBeApproved 2 (some .boolean) 1 := ⟨gm_310, gm_86, by decide +kernel⟩
set_option maxRecDepth 100000 in
set_option maxHeartbeats 4000000 in
theorem c_X1_canBeApproved (l : Launch) (w : GP) (f : CS) (t : Nat) (hI : gI f) (ht : t < 18) : Met l yX1_canBeApproved (gws yX1_canBeApproved cX1_canBeApproved 2 (some .boolean)) ({ frames := 3, cells := 0, slots := 0, locals := 67 }) (gPc w f [.ref (w.2.2.2 2), .int (nI t)]) (gRd (.int (if 0 < nL f t ∧ ¬ f 12 t = nI 1 ∧ fbI f t = -1 then 1 else 0))) 0 0 (fun _ => False) := by
  refine g_read (by decide) (Nat.le_of_ble_eq_true rfl) ?_
  intro P_ E_ S_ M_ B_ T_ C_ ls G hV hl
  obtain ⟨hx, hb, hml, hown, hts⟩ := id G.1
  obtain ⟨⟨hT, hT24⟩, ⟨hC, hC12⟩, ⟨hD, hD6⟩, hLn⟩ := id hI
  have hl : lv_has ls 2 [(0, .ref (w.2.2.2 2)), (1, .int (nI t))] := hl
  have hLt := hLn t ht
  refine lv_aload_n hx hb dX1_canBeApproved_0 rfl (lv_at hl 0 rfl) ?_
  refine g_get hx hb hts hown hV 2 2 (by decide) (v := .ref (w.2.2.2 16)) rfl rfl gin1 (by decide) gm_65 (rfl) dX1_canBeApproved_1 ?_
  refine lv_iload_n hx hb dX1_canBeApproved_4 rfl (lv_at hl 1 rfl) ?_
  refine g_ialn (a := 11) (n := 18) hx hb hV 16 (by decide) (by decide) rfl rfl (i := t) (by omega) dX1_canBeApproved_5 ?_
  rw [(hLn t (by omega)).1]
  refine lv_if_le (tgt := 32) hx hb dX1_canBeApproved_6 (by decide) (fun c6 => ?_) (fun c6 => ?_)
  · skip
    rw [show (0 : Int32) = nI 0 from rfl] at c6
    have c6 : (nL f t) ≤ 0 := (g_le (by omega) (by omega)).mp c6
    refine lv_iconst (v := nI 0) hx hb dX1_canBeApproved_32 (by decide) ?_
    exact g_zret G (gz0 (fun q => by omega)) (by decide) dX1_canBeApproved_33
  · skip
    rw [show (0 : Int32) = nI 0 from rfl] at c6
    have c6 : ¬ ((nL f t) ≤ 0) := fun q => c6 ((g_le (by omega) (by omega)).mpr q)
    refine lv_aload_n hx hb dX1_canBeApproved_9 rfl (lv_at hl 0 rfl) ?_
    refine g_get hx hb hts hown hV 2 3 (by decide) (v := .ref (w.2.2.2 17)) rfl rfl gin1 (by decide) gm_66 (rfl) dX1_canBeApproved_10 ?_
    refine lv_iload_n hx hb dX1_canBeApproved_13 rfl (lv_at hl 1 rfl) ?_
    refine g_ialn (a := 12) (n := 18) hx hb hV 17 (by decide) (by decide) rfl rfl (i := t) (by omega) dX1_canBeApproved_14 ?_
    refine lv_iconst (v := nI 1) hx hb dX1_canBeApproved_15 (by decide) ?_
    refine lv_icmp_eq (tgt := 32) hx hb dX1_canBeApproved_16 (by decide) (fun c16 => ?_) (fun c16 => ?_)
    · skip
      refine lv_iconst (v := nI 0) hx hb dX1_canBeApproved_32 (by decide) ?_
      exact g_zret G (gz0 (fun q => q.2.1 c16)) (by decide) dX1_canBeApproved_33
    · skip
      refine lv_aload_n hx hb dX1_canBeApproved_19 rfl (lv_at hl 0 rfl) ?_
      refine lv_iload_n hx hb dX1_canBeApproved_20 rfl (lv_at hl 1 rfl) ?_
      refine g_callV (As := [.int (nI t)]) (rest := []) G.1 hV 2 (by decide) rfl rfl ok_X1_firstBanned gm_120 gm_121 gm_119 (c_X1_firstBanned l w f t hI (by omega)) ⟨rfl, rfl⟩ ⟨Nat.le_of_ble_eq_true rfl, Nat.le_of_ble_eq_true rfl⟩ rfl hl.1 rfl (Nat.le_of_ble_eq_true rfl) ⟨Nat.zero_le _, Nat.zero_le _⟩ dX1_canBeApproved_21 ?_
      refine lv_iconst (v := -1) hx hb dX1_canBeApproved_24 (by decide) ?_
      refine lv_icmp_ne (tgt := 32) hx hb dX1_canBeApproved_25 (by decide) (fun c25 => ?_) (fun c25 => ?_)
      · skip
        refine lv_iconst (v := nI 0) hx hb dX1_canBeApproved_32 (by decide) ?_
        exact g_zret G (gz0 (fun q => c25 q.2.2)) (by decide) dX1_canBeApproved_33
      · skip
        refine lv_iconst (v := nI 1) hx hb dX1_canBeApproved_28 (by decide) ?_
        refine lv_goto (tgt := 33) hx hb dX1_canBeApproved_29 (by decide) ?_
        exact g_zret G (gz1 ⟨by omega, c16, c25⟩) (by decide) dX1_canBeApproved_33
theorem ok_X1_conceptsIn : gOK yX1_conceptsIn cX1_conceptsIn 5 (some .int) 1 := ⟨gm_127, gm_86, by decide +kernel⟩
set_option maxRecDepth 100000 in
set_option maxHeartbeats 4000000 in
theorem c_X1_conceptsIn (l : Launch) (w : GP) (f : CS) (t : Nat) (hI : gI f) (ht : t < 18) : Met l yX1_conceptsIn (gws yX1_conceptsIn cX1_conceptsIn 5 (some .int)) ({ frames := 1, cells := 0, slots := 0, locals := 21 }) (gPc w f [.ref (w.2.2.2 2), .int (nI t)]) (gRd (.int (cIn f t (nL f t)))) 0 0 (fun _ => False) := by
  refine g_read (by decide) (Nat.le_of_ble_eq_true rfl) ?_
  intro P_ E_ S_ M_ B_ T_ C_ ls G hV hl
  obtain ⟨hx, hb, hml, hown, hts⟩ := id G.1
  obtain ⟨⟨hT, hT24⟩, ⟨hC, hC12⟩, ⟨hD, hD6⟩, hLn⟩ := id hI
  have hl : lv_has ls 5 [(0, .ref (w.2.2.2 2)), (1, .int (nI t))] := hl
  have hLt := hLn t ht
  refine lv_iconst (v := nI 0) hx hb dX1_conceptsIn_0 (by decide) ?_
  refine lv_istore_n (lv' := [(2, .int (nI 0)), (0, .ref (w.2.2.2 2)), (1, .int (nI t))]) hx hb dX1_conceptsIn_1 rfl hl (by decide) rfl (fun ls hl => ?_)
  refine lv_iconst (v := nI 0) hx hb dX1_conceptsIn_2 (by decide) ?_
  refine lv_istore_n (lv' := [(3, .int (nI 0)), (2, .int (nI 0)), (0, .ref (w.2.2.2 2)), (1, .int (nI t))]) hx hb dX1_conceptsIn_3 rfl hl (by decide) rfl (fun ls hl => ?_)
  refine g_for (P := fun k => ∀ (ls : Array Slot), lv_has ls 5 [(2, .int (cIn f t k)), (3, .int (nI k)), (0, .ref (w.2.2.2 2)), (1, .int (nI t))] → W P_ l E_ _ S_ M_ _ B_ T_ C_ S_.heap [] 0 0 _ (F0 M_ 4 ls [])) (nL f t) ?_ ?_ 0 (Nat.zero_le _) ls (lv_sub hl [1, 0, 2, 3] rfl)
  · intro k hk ih ls hl
    refine lv_iload_n hx hb dX1_conceptsIn_4 rfl (lv_at hl 1 rfl) ?_
    refine lv_aload_n hx hb dX1_conceptsIn_5 rfl (lv_at hl 2 rfl) ?_
    refine g_get hx hb hts hown hV 2 2 (by decide) (v := .ref (w.2.2.2 16)) rfl rfl gin1 (by decide) gm_65 (rfl) dX1_conceptsIn_6 ?_
    refine lv_iload_n hx hb dX1_conceptsIn_9 rfl (lv_at hl 3 rfl) ?_
    refine g_ialn (a := 11) (n := 18) hx hb hV 16 (by decide) (by decide) rfl rfl (i := t) (by omega) dX1_conceptsIn_10 ?_
    rw [(hLn t (by omega)).1]
    refine lv_icmp_ge (tgt := 57) hx hb dX1_conceptsIn_11 (by decide) (fun c11 => ?_) (fun c11 => ?_)
    · skip
      have c11 : (nL f t) ≤ k := (g_le (by omega) (by omega)).mp c11
      exact absurd c11 (by omega)
    · skip
      have c11 : ¬ ((nL f t) ≤ k) := fun q => c11 ((g_le (by omega) (by omega)).mpr q)
      refine lv_aload_n hx hb dX1_conceptsIn_14 rfl (lv_at hl 2 rfl) ?_
      refine g_get hx hb hts hown hV 2 5 (by decide) (v := .ref (w.2.2.2 37)) rfl rfl gin1 (by decide) gm_69 (rfl) dX1_conceptsIn_15 ?_
      refine lv_iload_n hx hb dX1_conceptsIn_18 rfl (lv_at hl 3 rfl) ?_
      refine g_row (n := 18) (b := 38) hx hb hV 37 (by decide) rfl (i := t) (by omega) (by decide) dX1_conceptsIn_19 ?_
      refine lv_iload_n hx hb dX1_conceptsIn_20 rfl (lv_at hl 1 rfl) ?_
      refine g_ialn (a := 40 + t) (n := 12) hx hb hV (38 + t) (by omega) (by omega) (gid_38 (by omega)) (gn_38 (by omega)) (i := k) (by omega) dX1_conceptsIn_21 ?_
      refine lv_istore (lv' := [(4, .int (f (40 + t) k)), (2, .int (cIn f t k)), (3, .int (nI k)), (0, .ref (w.2.2.2 2)), (1, .int (nI t))]) hx hb dX1_conceptsIn_22 hl (by decide) rfl (fun ls hl => ?_)
      refine lv_aload_n hx hb dX1_conceptsIn_24 rfl (lv_at hl 3 rfl) ?_
      refine g_get hx hb hts hown hV 2 0 (by decide) (v := .ref (w.2.2.2 1)) rfl rfl gin1 (by decide) gm_70 (rfl) dX1_conceptsIn_25 ?_
      refine lv_iload hx hb dX1_conceptsIn_28 (lv_at hl 0 rfl) ?_
      refine g_callV (As := [.int (f (40 + t) k)]) (rest := []) G.1 hV 1 (by decide) rfl rfl ok_X0_isTerm gm_40 gm_41 gm_88 (c_X0_isTerm l w f (f (40 + t) k) hI ) ⟨rfl, rfl⟩ ⟨Nat.le_of_ble_eq_true rfl, Nat.le_of_ble_eq_true rfl⟩ rfl hl.1 rfl (Nat.le_of_ble_eq_true rfl) ⟨Nat.zero_le _, Nat.zero_le _⟩ dX1_conceptsIn_30 ?_
      refine lv_if_eq (tgt := 51) hx hb dX1_conceptsIn_33 (by decide) (fun c33 => ?_) (fun c33 => ?_)
      · skip
        have c33 : ¬ (0 ≤ (f (40 + t) k) ∧ (f (40 + t) k) < nI (nT f)) := g_if0.mp c33
        refine lv_iinc (v := nI (k + 1)) (lv' := [(3, .int (nI (k + 1))), (4, .int (f (40 + t) k)), (2, .int (cIn f t k)), (0, .ref (w.2.2.2 2)), (1, .int (nI t))]) hx hb dX1_conceptsIn_51 hl (k := 2) rfl (g_inc k 1) (by decide) rfl (fun ls hl => ?_)
        refine lv_goto (tgt := 4) hx hb dX1_conceptsIn_54 (by decide) ?_
        refine ih ls ?_
        rw [(show cIn f t (k + 1) = cIn f t k from by first | (rw [cIn, if_neg c33]; done) | (rw [cIn, if_pos c33, eu, nI_clamp (by omega)]; done))]
        exact lv_sub hl [2, 0, 3, 4] rfl
      · skip
        have c33 : 0 ≤ (f (40 + t) k) ∧ (f (40 + t) k) < nI (nT f) := g_if1.mp c33
        obtain ⟨u, hu, eu⟩ : ∃ u : Nat, u < nT f ∧ f (40 + t) k = nI u := nz c33.1 c33.2 (by omega)
        rw [eu] at hl
        refine lv_iload_n hx hb dX1_conceptsIn_36 rfl (lv_at hl 1 rfl) ?_
        refine lv_iconst (v := nI 1) hx hb dX1_conceptsIn_37 (by decide) ?_
        refine lv_aload_n hx hb dX1_conceptsIn_38 rfl (lv_at hl 3 rfl) ?_
        refine g_get hx hb hts hown hV 2 0 (by decide) (v := .ref (w.2.2.2 1)) rfl rfl gin1 (by decide) gm_70 (rfl) dX1_conceptsIn_39 ?_
        refine g_get hx hb hts hown hV 1 3 (by decide) (v := .ref (w.2.2.2 4)) rfl rfl gin0 (by decide) gm_123 (rfl) dX1_conceptsIn_42 ?_
        refine lv_iload hx hb dX1_conceptsIn_45 (lv_at hl 0 rfl) ?_
        refine g_ialn (a := 2) (n := 24) hx hb hV 4 (by decide) (by decide) rfl rfl (i := u) (by omega) dX1_conceptsIn_47 ?_
        refine lv_ishl hx hb dX1_conceptsIn_48 ?_
        refine lv_ior hx hb dX1_conceptsIn_49 ?_
        refine lv_istore_n (lv' := [(2, .int ((cIn f t k) ||| ((nI 1) <<< ((f 2 u) &&& 31)))), (4, .int (nI u)), (3, .int (nI k)), (0, .ref (w.2.2.2 2)), (1, .int (nI t))]) hx hb dX1_conceptsIn_50 rfl hl (by decide) rfl (fun ls hl => ?_)
        refine lv_iinc (v := nI (k + 1)) (lv' := [(3, .int (nI (k + 1))), (2, .int ((cIn f t k) ||| ((nI 1) <<< ((f 2 u) &&& 31)))), (4, .int (nI u)), (0, .ref (w.2.2.2 2)), (1, .int (nI t))]) hx hb dX1_conceptsIn_51 hl (k := 2) rfl (g_inc k 1) (by decide) rfl (fun ls hl => ?_)
        refine lv_goto (tgt := 4) hx hb dX1_conceptsIn_54 (by decide) ?_
        refine ih ls ?_
        rw [(show cIn f t (k + 1) = (cIn f t k) ||| ((nI 1) <<< ((f 2 u) &&& 31)) from by first | (rw [cIn, if_neg c33]; done) | (rw [cIn, if_pos c33, eu, nI_clamp (by omega)]; done))]
        exact lv_sub hl [1, 0, 3, 4] rfl
  · intro ls hl
    refine lv_iload_n hx hb dX1_conceptsIn_4 rfl (lv_at hl 1 rfl) ?_
    refine lv_aload_n hx hb dX1_conceptsIn_5 rfl (lv_at hl 2 rfl) ?_
    refine g_get hx hb hts hown hV 2 2 (by decide) (v := .ref (w.2.2.2 16)) rfl rfl gin1 (by decide) gm_65 (rfl) dX1_conceptsIn_6 ?_
    refine lv_iload_n hx hb dX1_conceptsIn_9 rfl (lv_at hl 3 rfl) ?_
    refine g_ialn (a := 11) (n := 18) hx hb hV 16 (by decide) (by decide) rfl rfl (i := t) (by omega) dX1_conceptsIn_10 ?_
    rw [(hLn t (by omega)).1]
    refine lv_icmp_ge (tgt := 57) hx hb dX1_conceptsIn_11 (by decide) (fun c11 => ?_) (fun c11 => ?_)
    · skip
      have c11 : (nL f t) ≤ (nL f t) := (g_le (by omega) (by omega)).mp c11
      refine lv_iload_n hx hb dX1_conceptsIn_57 rfl (lv_at hl 0 rfl) ?_
      exact g_iret G (rfl) dX1_conceptsIn_58
    · skip
      have c11 : ¬ ((nL f t) ≤ (nL f t)) := fun q => c11 ((g_le (by omega) (by omega)).mpr q)
      exact absurd c11 (by omega)
theorem ok_X1_agreementOf : gOK yX1_agreementOf cX1_agreementOf 7 (some .int) 1 := ⟨gm_323, gm_86, by decide +kernel⟩
set_option maxRecDepth 100000 in
set_option maxHeartbeats 4000000 in
theorem c_X1_agreementOf (l : Launch) (w : GP) (f : CS) (d : Nat) (hI : gI f) (hd : d < 6) : Met l yX1_agreementOf (gws yX1_agreementOf cX1_agreementOf 7 (some .int)) ({ frames := 2, cells := 0, slots := 0, locals := 45 }) (gPc w f [.ref (w.2.2.2 2), .int (nI d)]) (gRd (.int (nI (agN f d)))) 0 0 (fun _ => False) := by
  refine g_read (by decide) (Nat.le_of_ble_eq_true rfl) ?_
  intro P_ E_ S_ M_ B_ T_ C_ ls G hV hl
  obtain ⟨hx, hb, hml, hown, hts⟩ := id G.1
  obtain ⟨⟨hT, hT24⟩, ⟨hC, hC12⟩, ⟨hD, hD6⟩, hLn⟩ := id hI
  have hl : lv_has ls 7 [(0, .ref (w.2.2.2 2)), (1, .int (nI d))] := hl
  refine lv_iconst (v := nI 0) hx hb dX1_agreementOf_0 (by decide) ?_
  refine lv_istore_n (lv' := [(2, .int (nI 0)), (0, .ref (w.2.2.2 2)), (1, .int (nI d))]) hx hb dX1_agreementOf_1 rfl hl (by decide) rfl (fun ls hl => ?_)
  refine lv_iconst (v := -1) hx hb dX1_agreementOf_2 (by decide) ?_
  refine lv_istore_n (lv' := [(3, .int (-1)), (2, .int (nI 0)), (0, .ref (w.2.2.2 2)), (1, .int (nI d))]) hx hb dX1_agreementOf_3 rfl hl (by decide) rfl (fun ls hl => ?_)
  refine lv_iconst (v := nI 0) hx hb dX1_agreementOf_4 (by decide) ?_
  refine lv_istore (lv' := [(4, .int (nI 0)), (3, .int (-1)), (2, .int (nI 0)), (0, .ref (w.2.2.2 2)), (1, .int (nI d))]) hx hb dX1_agreementOf_5 hl (by decide) rfl (fun ls hl => ?_)
  refine g_for (P := fun k => ∀ (ls : Array Slot), lv_has ls 7 [(2, .int ((agS f d k).1)), (3, .int ((agS f d k).2)), (4, .int (nI k)), (0, .ref (w.2.2.2 2)), (1, .int (nI d))] → W P_ l E_ _ S_ M_ _ B_ T_ C_ S_.heap [] 0 0 _ (F0 M_ 7 ls [])) (3) ?_ ?_ 0 (Nat.zero_le _) ls (lv_sub hl [2, 1, 0, 3, 4] rfl)
  · intro k hk ih ls hl
    refine lv_iload hx hb dX1_agreementOf_7 (lv_at hl 2 rfl) ?_
    refine lv_iconst (v := nI 3) hx hb dX1_agreementOf_9 (by decide) ?_
    refine lv_icmp_ge (tgt := 55) hx hb dX1_agreementOf_10 (by decide) (fun c10 => ?_) (fun c10 => ?_)
    · skip
      have c10 : 3 ≤ k := (g_le (by omega) (by omega)).mp c10
      exact absurd c10 (by omega)
    · skip
      have c10 : ¬ (3 ≤ k) := fun q => c10 ((g_le (by omega) (by omega)).mpr q)
      refine lv_iload_n hx hb dX1_agreementOf_13 rfl (lv_at hl 4 rfl) ?_
      refine lv_iconst (v := nI 3) hx hb dX1_agreementOf_14 (by decide) ?_
      refine g_imuln hx hb dX1_agreementOf_15 ?_
      refine lv_iload hx hb dX1_agreementOf_16 (lv_at hl 2 rfl) ?_
      refine g_iaddn hx hb dX1_agreementOf_18 ?_
      refine lv_istore (lv' := [(5, .int (nI ((d * 3) + k))), (2, .int ((agS f d k).1)), (3, .int ((agS f d k).2)), (4, .int (nI k)), (0, .ref (w.2.2.2 2)), (1, .int (nI d))]) hx hb dX1_agreementOf_19 hl (by decide) rfl (fun ls hl => ?_)
      have hLt := hLn (d * 3 + k) (by omega)
      refine lv_aload_n hx hb dX1_agreementOf_21 rfl (lv_at hl 4 rfl) ?_
      refine g_get hx hb hts hown hV 2 2 (by decide) (v := .ref (w.2.2.2 16)) rfl rfl gin1 (by decide) gm_65 (rfl) dX1_agreementOf_22 ?_
      refine lv_iload hx hb dX1_agreementOf_25 (lv_at hl 0 rfl) ?_
      refine g_ialn (a := 11) (n := 18) hx hb hV 16 (by decide) (by decide) rfl rfl (i := (d * 3) + k) (by omega) dX1_agreementOf_27 ?_
      rw [(hLn ((d * 3) + k) (by omega)).1]
      refine lv_if_le (tgt := 49) hx hb dX1_agreementOf_28 (by decide) (fun c28 => ?_) (fun c28 => ?_)
      · skip
        rw [show (0 : Int32) = nI 0 from rfl] at c28
        have c28 : (nL f ((d * 3) + k)) ≤ 0 := (g_le (by omega) (by omega)).mp c28
        refine lv_iinc (v := nI (k + 1)) (lv' := [(4, .int (nI (k + 1))), (5, .int (nI ((d * 3) + k))), (2, .int ((agS f d k).1)), (3, .int ((agS f d k).2)), (0, .ref (w.2.2.2 2)), (1, .int (nI d))]) hx hb dX1_agreementOf_49 hl (k := 3) rfl (g_inc k 1) (by decide) rfl (fun ls hl => ?_)
        refine lv_goto (tgt := 7) hx hb dX1_agreementOf_52 (by decide) ?_
        refine ih ls ?_
        rw [(show (agS f d (k + 1)).1 = (agS f d k).1 from by first | (show Prod.fst (if _ then _ else _ : Int32 × Int32) = _; rw [if_neg (by omega)]; done) | (show Prod.fst (if _ then _ else _ : Int32 × Int32) = _; rw [if_pos (by omega)]; done)), (show (agS f d (k + 1)).2 = (agS f d k).2 from by first | (show Prod.snd (if _ then _ else _ : Int32 × Int32) = _; rw [if_neg (by omega)]; done) | (show Prod.snd (if _ then _ else _ : Int32 × Int32) = _; rw [if_pos (by omega)]; done))]
        exact lv_sub hl [2, 3, 0, 4, 5] rfl
      · skip
        rw [show (0 : Int32) = nI 0 from rfl] at c28
        have c28 : ¬ ((nL f ((d * 3) + k)) ≤ 0) := fun q => c28 ((g_le (by omega) (by omega)).mpr q)
        refine lv_aload_n hx hb dX1_agreementOf_31 rfl (lv_at hl 4 rfl) ?_
        refine lv_iload hx hb dX1_agreementOf_32 (lv_at hl 0 rfl) ?_
        refine g_callV (As := [.int (nI ((d * 3) + k))]) (rest := []) G.1 hV 2 (by decide) rfl rfl ok_X1_conceptsIn gm_125 gm_126 gm_124 (c_X1_conceptsIn l w f ((d * 3) + k) hI (by omega)) ⟨rfl, rfl⟩ ⟨Nat.le_of_ble_eq_true rfl, Nat.le_of_ble_eq_true rfl⟩ rfl hl.1 rfl (Nat.le_of_ble_eq_true rfl) ⟨Nat.zero_le _, Nat.zero_le _⟩ dX1_agreementOf_34 ?_
        refine lv_istore (lv' := [(6, .int (cIn f ((d * 3) + k) (nL f ((d * 3) + k)))), (5, .int (nI ((d * 3) + k))), (2, .int ((agS f d k).1)), (3, .int ((agS f d k).2)), (4, .int (nI k)), (0, .ref (w.2.2.2 2)), (1, .int (nI d))]) hx hb dX1_agreementOf_37 hl (by decide) rfl (fun ls hl => ?_)
        refine lv_iload_n hx hb dX1_agreementOf_39 rfl (lv_at hl 2 rfl) ?_
        refine lv_iload hx hb dX1_agreementOf_40 (lv_at hl 0 rfl) ?_
        refine lv_ior hx hb dX1_agreementOf_42 ?_
        refine lv_istore_n (lv' := [(2, .int (((agS f d k).1) ||| (cIn f ((d * 3) + k) (nL f ((d * 3) + k))))), (6, .int (cIn f ((d * 3) + k) (nL f ((d * 3) + k)))), (5, .int (nI ((d * 3) + k))), (3, .int ((agS f d k).2)), (4, .int (nI k)), (0, .ref (w.2.2.2 2)), (1, .int (nI d))]) hx hb dX1_agreementOf_43 rfl hl (by decide) rfl (fun ls hl => ?_)
        refine lv_iload_n hx hb dX1_agreementOf_44 rfl (lv_at hl 3 rfl) ?_
        refine lv_iload hx hb dX1_agreementOf_45 (lv_at hl 1 rfl) ?_
        refine lv_iand hx hb dX1_agreementOf_47 ?_
        refine lv_istore_n (lv' := [(3, .int (((agS f d k).2) &&& (cIn f ((d * 3) + k) (nL f ((d * 3) + k))))), (2, .int (((agS f d k).1) ||| (cIn f ((d * 3) + k) (nL f ((d * 3) + k))))), (6, .int (cIn f ((d * 3) + k) (nL f ((d * 3) + k)))), (5, .int (nI ((d * 3) + k))), (4, .int (nI k)), (0, .ref (w.2.2.2 2)), (1, .int (nI d))]) hx hb dX1_agreementOf_48 rfl hl (by decide) rfl (fun ls hl => ?_)
        refine lv_iinc (v := nI (k + 1)) (lv' := [(4, .int (nI (k + 1))), (3, .int (((agS f d k).2) &&& (cIn f ((d * 3) + k) (nL f ((d * 3) + k))))), (2, .int (((agS f d k).1) ||| (cIn f ((d * 3) + k) (nL f ((d * 3) + k))))), (6, .int (cIn f ((d * 3) + k) (nL f ((d * 3) + k)))), (5, .int (nI ((d * 3) + k))), (0, .ref (w.2.2.2 2)), (1, .int (nI d))]) hx hb dX1_agreementOf_49 hl (k := 4) rfl (g_inc k 1) (by decide) rfl (fun ls hl => ?_)
        refine lv_goto (tgt := 7) hx hb dX1_agreementOf_52 (by decide) ?_
        refine ih ls ?_
        rw [(show (agS f d (k + 1)).1 = ((agS f d k).1) ||| (cIn f ((d * 3) + k) (nL f ((d * 3) + k))) from by first | (show Prod.fst (if _ then _ else _ : Int32 × Int32) = _; rw [if_neg (by omega)]; done) | (show Prod.fst (if _ then _ else _ : Int32 × Int32) = _; rw [if_pos (by omega)]; done)), (show (agS f d (k + 1)).2 = ((agS f d k).2) &&& (cIn f ((d * 3) + k) (nL f ((d * 3) + k))) from by first | (show Prod.snd (if _ then _ else _ : Int32 × Int32) = _; rw [if_neg (by omega)]; done) | (show Prod.snd (if _ then _ else _ : Int32 × Int32) = _; rw [if_pos (by omega)]; done))]
        exact lv_sub hl [2, 1, 0, 5, 6] rfl
  · intro ls hl
    refine lv_iload hx hb dX1_agreementOf_7 (lv_at hl 2 rfl) ?_
    refine lv_iconst (v := nI 3) hx hb dX1_agreementOf_9 (by decide) ?_
    refine lv_icmp_ge (tgt := 55) hx hb dX1_agreementOf_10 (by decide) (fun c10 => ?_) (fun c10 => ?_)
    · skip
      have c10 : 3 ≤ 3 := (g_le (by omega) (by omega)).mp c10
      refine lv_iload_n hx hb dX1_agreementOf_55 rfl (lv_at hl 0 rfl) ?_
      refine g_callS (As := [.int ((agS f d 3).1)]) (rest := []) G.1 hV ok_J6_bitCount_0f7a4 gm_28 gm_74 (c_J6_bitCount_0f7a4 l w f ((agS f d 3).1)  ) ⟨rfl, rfl⟩ ⟨Nat.le_of_ble_eq_true rfl, Nat.le_of_ble_eq_true rfl⟩ rfl hl.1 rfl (Nat.le_of_ble_eq_true rfl) ⟨Nat.zero_le _, Nat.zero_le _⟩ dX1_agreementOf_56 ?_
      refine lv_istore (lv' := [(4, .int (nI (pcn ((agS f d 3).1)))), (2, .int ((agS f d 3).1)), (3, .int ((agS f d 3).2)), (0, .ref (w.2.2.2 2)), (1, .int (nI d))]) hx hb dX1_agreementOf_59 hl (by decide) rfl (fun ls hl => ?_)
      refine lv_iload hx hb dX1_agreementOf_61 (lv_at hl 0 rfl) ?_
      refine lv_if_ne (tgt := 71) hx hb dX1_agreementOf_63 (by decide) (fun c63 => ?_) (fun c63 => ?_)
      · skip
        rw [show (0 : Int32) = nI 0 from rfl] at c63
        have c63 : ¬ ((pcn ((agS f d 3).1)) = 0) := fun q => c63 ((g_eq pcn_lt (by omega)).mpr q)
        refine lv_bipush (v := nI 100) hx hb dX1_agreementOf_71 (by decide) ?_
        refine lv_iload_n hx hb dX1_agreementOf_73 rfl (lv_at hl 1 rfl) ?_
        refine lv_iload_n hx hb dX1_agreementOf_74 rfl (lv_at hl 2 rfl) ?_
        refine lv_iand hx hb dX1_agreementOf_75 ?_
        refine g_callS (As := [.int (((agS f d 3).1) &&& ((agS f d 3).2))]) (rest := [.int (nI 100)]) G.1 hV ok_J6_bitCount_0f7a4 gm_28 gm_74 (c_J6_bitCount_0f7a4 l w f (((agS f d 3).1) &&& ((agS f d 3).2))  ) ⟨rfl, rfl⟩ ⟨Nat.le_of_ble_eq_true rfl, Nat.le_of_ble_eq_true rfl⟩ rfl hl.1 rfl (Nat.le_of_ble_eq_true rfl) ⟨Nat.zero_le _, Nat.zero_le _⟩ dX1_agreementOf_76 ?_
        refine g_imuln hx hb dX1_agreementOf_79 ?_
        refine lv_iload hx hb dX1_agreementOf_80 (lv_at hl 0 rfl) ?_
        refine g_idivn hx hb (Nat.lt_of_le_of_lt (Nat.mul_le_mul_left 100 (pcn_le _)) (by decide)) pcn_lt (Nat.pos_of_ne_zero c63) dX1_agreementOf_82 ?_
        exact g_iret G (by unfold agN; rw [if_neg c63]) dX1_agreementOf_83
      · skip
        rw [show (0 : Int32) = nI 0 from rfl] at c63
        have c63 : (pcn ((agS f d 3).1)) = 0 := (g_eq pcn_lt (by omega)).mp c63
        refine lv_bipush (v := nI 100) hx hb dX1_agreementOf_66 (by decide) ?_
        refine lv_goto (tgt := 83) hx hb dX1_agreementOf_68 (by decide) ?_
        exact g_iret G (by unfold agN; rw [if_pos c63]) dX1_agreementOf_83
    · skip
      have c10 : ¬ (3 ≤ 3) := fun q => c10 ((g_le (by omega) (by omega)).mpr q)
      exact absurd c10 (by omega)
theorem ok_X1_approvedIn : gOK yX1_approvedIn cX1_approvedIn 4 (some .int) 1 := ⟨gm_135, gm_86, by decide +kernel⟩
set_option maxRecDepth 100000 in
set_option maxHeartbeats 4000000 in
theorem c_X1_approvedIn (l : Launch) (w : GP) (f : CS) (d : Nat) (hI : gI f) (hd : d < 6) : Met l yX1_approvedIn (gws yX1_approvedIn cX1_approvedIn 4 (some .int)) ({ frames := 0, cells := 0, slots := 0, locals := 0 }) (gPc w f [.ref (w.2.2.2 2), .int (nI d)]) (gRd (.int (nI (apN f d)))) 0 0 (fun _ => False) := by
  refine g_read (by decide) (Nat.le_of_ble_eq_true rfl) ?_
  intro P_ E_ S_ M_ B_ T_ C_ ls G hV hl
  obtain ⟨hx, hb, hml, hown, hts⟩ := id G.1
  obtain ⟨⟨hT, hT24⟩, ⟨hC, hC12⟩, ⟨hD, hD6⟩, hLn⟩ := id hI
  have hl : lv_has ls 4 [(0, .ref (w.2.2.2 2)), (1, .int (nI d))] := hl
  refine lv_iconst (v := nI 0) hx hb dX1_approvedIn_0 (by decide) ?_
  refine lv_istore_n (lv' := [(2, .int (nI 0)), (0, .ref (w.2.2.2 2)), (1, .int (nI d))]) hx hb dX1_approvedIn_1 rfl hl (by decide) rfl (fun ls hl => ?_)
  refine lv_iconst (v := nI 0) hx hb dX1_approvedIn_2 (by decide) ?_
  refine lv_istore_n (lv' := [(3, .int (nI 0)), (2, .int (nI 0)), (0, .ref (w.2.2.2 2)), (1, .int (nI d))]) hx hb dX1_approvedIn_3 rfl hl (by decide) rfl (fun ls hl => ?_)
  refine g_for (P := fun k => ∀ (ls : Array Slot), lv_has ls 4 [(2, .int (nI (ct (fun l => decide (f 12 (d * 3 + l) = nI 1)) k))), (3, .int (nI k)), (0, .ref (w.2.2.2 2)), (1, .int (nI d))] → W P_ l E_ _ S_ M_ _ B_ T_ C_ S_.heap [] 0 0 _ (F0 M_ 4 ls [])) (3) ?_ ?_ 0 (Nat.zero_le _) ls (lv_sub hl [1, 0, 2, 3] rfl)
  · intro k hk ih ls hl
    refine lv_iload_n hx hb dX1_approvedIn_4 rfl (lv_at hl 1 rfl) ?_
    refine lv_iconst (v := nI 3) hx hb dX1_approvedIn_5 (by decide) ?_
    refine lv_icmp_ge (tgt := 32) hx hb dX1_approvedIn_6 (by decide) (fun c6 => ?_) (fun c6 => ?_)
    · skip
      have c6 : 3 ≤ k := (g_le (by omega) (by omega)).mp c6
      exact absurd c6 (by omega)
    · skip
      have c6 : ¬ (3 ≤ k) := fun q => c6 ((g_le (by omega) (by omega)).mpr q)
      refine lv_aload_n hx hb dX1_approvedIn_9 rfl (lv_at hl 2 rfl) ?_
      refine g_get hx hb hts hown hV 2 3 (by decide) (v := .ref (w.2.2.2 17)) rfl rfl gin1 (by decide) gm_66 (rfl) dX1_approvedIn_10 ?_
      refine lv_iload_n hx hb dX1_approvedIn_13 rfl (lv_at hl 3 rfl) ?_
      refine lv_iconst (v := nI 3) hx hb dX1_approvedIn_14 (by decide) ?_
      refine g_imuln hx hb dX1_approvedIn_15 ?_
      refine lv_iload_n hx hb dX1_approvedIn_16 rfl (lv_at hl 1 rfl) ?_
      refine g_iaddn hx hb dX1_approvedIn_17 ?_
      refine g_ialn (a := 12) (n := 18) hx hb hV 17 (by decide) (by decide) rfl rfl (i := (d * 3) + k) (by omega) dX1_approvedIn_18 ?_
      refine lv_iconst (v := nI 1) hx hb dX1_approvedIn_19 (by decide) ?_
      refine lv_icmp_ne (tgt := 26) hx hb dX1_approvedIn_20 (by decide) (fun c20 => ?_) (fun c20 => ?_)
      · skip
        refine lv_iinc (v := nI (k + 1)) (lv' := [(3, .int (nI (k + 1))), (2, .int (nI (ct (fun l => decide (f 12 (d * 3 + l) = nI 1)) k))), (0, .ref (w.2.2.2 2)), (1, .int (nI d))]) hx hb dX1_approvedIn_26 hl (k := 1) rfl (g_inc k 1) (by decide) rfl (fun ls hl => ?_)
        refine lv_goto (tgt := 4) hx hb dX1_approvedIn_29 (by decide) ?_
        refine ih ls ?_
        rw [(show ct (fun l => decide (f 12 (d * 3 + l) = nI 1)) (k + 1) = ct (fun l => decide (f 12 (d * 3 + l) = nI 1)) k from by simp [ct, c6, c20])]
        exact lv_sub hl [1, 0, 2, 3] rfl
      · skip
        refine lv_iinc (v := nI (ct (fun l => decide (f 12 (d * 3 + l) = nI 1)) k + 1)) (lv' := [(2, .int (nI (ct (fun l => decide (f 12 (d * 3 + l) = nI 1)) k + 1))), (3, .int (nI k)), (0, .ref (w.2.2.2 2)), (1, .int (nI d))]) hx hb dX1_approvedIn_23 hl (k := 0) rfl (g_inc (ct (fun l => decide (f 12 (d * 3 + l) = nI 1)) k) 1) (by decide) rfl (fun ls hl => ?_)
        refine lv_iinc (v := nI (k + 1)) (lv' := [(3, .int (nI (k + 1))), (2, .int (nI (ct (fun l => decide (f 12 (d * 3 + l) = nI 1)) k + 1))), (0, .ref (w.2.2.2 2)), (1, .int (nI d))]) hx hb dX1_approvedIn_26 hl (k := 1) rfl (g_inc k 1) (by decide) rfl (fun ls hl => ?_)
        refine lv_goto (tgt := 4) hx hb dX1_approvedIn_29 (by decide) ?_
        refine ih ls ?_
        rw [(show ct (fun l => decide (f 12 (d * 3 + l) = nI 1)) (k + 1) = ct (fun l => decide (f 12 (d * 3 + l) = nI 1)) k + 1 from by simp [ct, c6, c20])]
        exact lv_sub hl [1, 0, 2, 3] rfl
  · intro ls hl
    refine lv_iload_n hx hb dX1_approvedIn_4 rfl (lv_at hl 1 rfl) ?_
    refine lv_iconst (v := nI 3) hx hb dX1_approvedIn_5 (by decide) ?_
    refine lv_icmp_ge (tgt := 32) hx hb dX1_approvedIn_6 (by decide) (fun c6 => ?_) (fun c6 => ?_)
    · skip
      have c6 : 3 ≤ 3 := (g_le (by omega) (by omega)).mp c6
      refine lv_iload_n hx hb dX1_approvedIn_32 rfl (lv_at hl 0 rfl) ?_
      exact g_iret G (rfl) dX1_approvedIn_33
    · skip
      have c6 : ¬ (3 ≤ 3) := fun q => c6 ((g_le (by omega) (by omega)).mpr q)
      exact absurd c6 (by omega)
theorem ok_X1_hasApprovedUseOf : gOK yX1_hasApprovedUseOf cX1_hasApprovedUseOf 5 (some .boolean) 2 := ⟨gm_131, gm_86, by decide +kernel⟩
set_option maxRecDepth 100000 in
set_option maxHeartbeats 4000000 in
theorem c_X1_hasApprovedUseOf (l : Launch) (w : GP) (f : CS) (d : Nat) (x : Int32) (hI : gI f) (hd : d < 6) : Met l yX1_hasApprovedUseOf (gws yX1_hasApprovedUseOf cX1_hasApprovedUseOf 5 (some .boolean)) ({ frames := 2, cells := 0, slots := 0, locals := 46 }) (gPc w f [.ref (w.2.2.2 2), .int (nI d), .int x]) (gRd (.int (if hasA f d x = true then 1 else 0))) 0 0 (fun _ => False) := by
  refine g_read (by decide) (Nat.le_of_ble_eq_true rfl) ?_
  intro P_ E_ S_ M_ B_ T_ C_ ls G hV hl
  obtain ⟨hx, hb, hml, hown, hts⟩ := id G.1
  obtain ⟨⟨hT, hT24⟩, ⟨hC, hC12⟩, ⟨hD, hD6⟩, hLn⟩ := id hI
  have hl : lv_has ls 5 [(0, .ref (w.2.2.2 2)), (1, .int (nI d)), (2, .int x)] := hl
  have hLall := hLn
  refine lv_iconst (v := nI 0) hx hb dX1_hasApprovedUseOf_0 (by decide) ?_
  refine lv_istore_n (lv' := [(3, .int (nI 0)), (0, .ref (w.2.2.2 2)), (1, .int (nI d)), (2, .int x)]) hx hb dX1_hasApprovedUseOf_1 rfl hl (by decide) rfl (fun ls hl => ?_)
  refine g_for (P := fun k => ∀ (ls : Array Slot), lv_has ls 5 [(3, .int (nI k)), (0, .ref (w.2.2.2 2)), (1, .int (nI d)), (2, .int x)] → (∀ q, q < k → ¬ (fun l => decide (f 12 (d * 3 + l) = nI 1 ∧ 0 < uA f (d * 3 + l) x)) q = true) → W P_ l E_ _ S_ M_ _ B_ T_ C_ S_.heap [] 0 0 _ (F0 M_ 2 ls [])) (3) ?_ ?_ 0 (Nat.zero_le _) ls (lv_sub hl [0, 1, 2, 3] rfl) (fun t ht => absurd ht (Nat.not_lt_zero t))
  · intro k hk ih ls hl hik
    refine lv_iload_n hx hb dX1_hasApprovedUseOf_2 rfl (lv_at hl 0 rfl) ?_
    refine lv_iconst (v := nI 3) hx hb dX1_hasApprovedUseOf_3 (by decide) ?_
    refine lv_icmp_ge (tgt := 43) hx hb dX1_hasApprovedUseOf_4 (by decide) (fun c4 => ?_) (fun c4 => ?_)
    · skip
      have c4 : 3 ≤ k := (g_le (by omega) (by omega)).mp c4
      exact absurd c4 (by omega)
    · skip
      have c4 : ¬ (3 ≤ k) := fun q => c4 ((g_le (by omega) (by omega)).mpr q)
      refine lv_iload_n hx hb dX1_hasApprovedUseOf_7 rfl (lv_at hl 2 rfl) ?_
      refine lv_iconst (v := nI 3) hx hb dX1_hasApprovedUseOf_8 (by decide) ?_
      refine g_imuln hx hb dX1_hasApprovedUseOf_9 ?_
      refine lv_iload_n hx hb dX1_hasApprovedUseOf_10 rfl (lv_at hl 0 rfl) ?_
      refine g_iaddn hx hb dX1_hasApprovedUseOf_11 ?_
      refine lv_istore (lv' := [(4, .int (nI ((d * 3) + k))), (3, .int (nI k)), (0, .ref (w.2.2.2 2)), (1, .int (nI d)), (2, .int x)]) hx hb dX1_hasApprovedUseOf_12 hl (by decide) rfl (fun ls hl => ?_)
      have hLt := hLn (d * 3 + k) (by omega)
      refine lv_aload_n hx hb dX1_hasApprovedUseOf_14 rfl (lv_at hl 2 rfl) ?_
      refine g_get hx hb hts hown hV 2 3 (by decide) (v := .ref (w.2.2.2 17)) rfl rfl gin1 (by decide) gm_66 (rfl) dX1_hasApprovedUseOf_15 ?_
      refine lv_iload hx hb dX1_hasApprovedUseOf_18 (lv_at hl 0 rfl) ?_
      refine g_ialn (a := 12) (n := 18) hx hb hV 17 (by decide) (by decide) rfl rfl (i := (d * 3) + k) (by omega) dX1_hasApprovedUseOf_20 ?_
      refine lv_iconst (v := nI 1) hx hb dX1_hasApprovedUseOf_21 (by decide) ?_
      refine lv_icmp_ne (tgt := 37) hx hb dX1_hasApprovedUseOf_22 (by decide) (fun c22 => ?_) (fun c22 => ?_)
      · skip
        refine lv_iinc (v := nI (k + 1)) (lv' := [(3, .int (nI (k + 1))), (4, .int (nI ((d * 3) + k))), (0, .ref (w.2.2.2 2)), (1, .int (nI d)), (2, .int x)]) hx hb dX1_hasApprovedUseOf_37 hl (k := 1) rfl (g_inc k 1) (by decide) rfl (fun ls hl => ?_)
        refine lv_goto (tgt := 2) hx hb dX1_hasApprovedUseOf_40 (by decide) ?_
        refine ih ls ?_ (fun q hq z => by rcases Nat.lt_succ_iff_lt_or_eq.mp hq with h | h; exact hik q h z; subst h; have := of_decide_eq_true z; first | exact c22 this.1 | omega)
        exact lv_sub hl [0, 2, 3, 4] rfl
      · skip
        refine lv_aload_n hx hb dX1_hasApprovedUseOf_25 rfl (lv_at hl 2 rfl) ?_
        refine lv_iload hx hb dX1_hasApprovedUseOf_26 (lv_at hl 0 rfl) ?_
        refine lv_iload_n hx hb dX1_hasApprovedUseOf_28 rfl (lv_at hl 4 rfl) ?_
        refine g_callV (As := [.int (nI ((d * 3) + k)), .int x]) (rest := []) G.1 hV 2 (by decide) rfl rfl ok_X1_usesAmongIn gm_112 gm_113 gm_111 (c_X1_usesAmongIn l w f ((d * 3) + k) x hI (by omega)) ⟨rfl, rfl⟩ ⟨Nat.le_of_ble_eq_true rfl, Nat.le_of_ble_eq_true rfl⟩ rfl hl.1 rfl (Nat.le_of_ble_eq_true rfl) ⟨Nat.zero_le _, Nat.zero_le _⟩ dX1_hasApprovedUseOf_29 ?_
        refine lv_if_le (tgt := 37) hx hb dX1_hasApprovedUseOf_32 (by decide) (fun c32 => ?_) (fun c32 => ?_)
        · skip
          rw [show (0 : Int32) = nI 0 from rfl] at c32
          have c32 : (uA f ((d * 3) + k) x) ≤ 0 := (g_le (Nat.lt_of_le_of_lt (uA_le _ _ _) (by omega)) (by omega)).mp c32
          refine lv_iinc (v := nI (k + 1)) (lv' := [(3, .int (nI (k + 1))), (4, .int (nI ((d * 3) + k))), (0, .ref (w.2.2.2 2)), (1, .int (nI d)), (2, .int x)]) hx hb dX1_hasApprovedUseOf_37 hl (k := 1) rfl (g_inc k 1) (by decide) rfl (fun ls hl => ?_)
          refine lv_goto (tgt := 2) hx hb dX1_hasApprovedUseOf_40 (by decide) ?_
          refine ih ls ?_ (fun q hq z => by rcases Nat.lt_succ_iff_lt_or_eq.mp hq with h | h; exact hik q h z; subst h; have := of_decide_eq_true z; first | exact c22 this.1 | omega)
          exact lv_sub hl [0, 2, 3, 4] rfl
        · skip
          rw [show (0 : Int32) = nI 0 from rfl] at c32
          have c32 : ¬ ((uA f ((d * 3) + k) x) ≤ 0) := fun q => c32 ((g_le (Nat.lt_of_le_of_lt (uA_le _ _ _) (by omega)) (by omega)).mpr q)
          refine lv_iconst (v := nI 1) hx hb dX1_hasApprovedUseOf_35 (by decide) ?_
          exact g_zret G (gz1 (aT_iff.mpr ⟨k, hk, decide_eq_true ⟨c22, by omega⟩⟩)) (by decide) dX1_hasApprovedUseOf_36
  · intro ls hl hik
    refine lv_iload_n hx hb dX1_hasApprovedUseOf_2 rfl (lv_at hl 0 rfl) ?_
    refine lv_iconst (v := nI 3) hx hb dX1_hasApprovedUseOf_3 (by decide) ?_
    refine lv_icmp_ge (tgt := 43) hx hb dX1_hasApprovedUseOf_4 (by decide) (fun c4 => ?_) (fun c4 => ?_)
    · skip
      have c4 : 3 ≤ 3 := (g_le (by omega) (by omega)).mp c4
      refine lv_iconst (v := nI 0) hx hb dX1_hasApprovedUseOf_43 (by decide) ?_
      exact g_zret G (gz0 (fun q => by obtain ⟨t, h1, h2⟩ := aT_iff.mp q; exact hik t h1 h2)) (by decide) dX1_hasApprovedUseOf_44
    · skip
      have c4 : ¬ (3 ≤ 3) := fun q => c4 ((g_le (by omega) (by omega)).mpr q)
      exact absurd c4 (by omega)
theorem ok_X1_reopenedByOverdue : gOK yX1_reopenedByOverdue cX1_reopenedByOverdue 4 (some .int) 1 := ⟨gm_143, gm_86, by decide +kernel⟩
set_option maxRecDepth 100000 in
set_option maxHeartbeats 4000000 in
theorem c_X1_reopenedByOverdue (l : Launch) (w : GP) (f : CS) (x : Int32) (hI : gI f)  : Met l yX1_reopenedByOverdue (gws yX1_reopenedByOverdue cX1_reopenedByOverdue 4 (some .int)) ({ frames := 3, cells := 0, slots := 0, locals := 70 }) (gPc w f [.ref (w.2.2.2 2), .int x]) (gRd (.int (nI (roN f x)))) 0 0 (fun _ => False) := by
  refine g_read (by decide) (Nat.le_of_ble_eq_true rfl) ?_
  intro P_ E_ S_ M_ B_ T_ C_ ls G hV hl
  obtain ⟨hx, hb, hml, hown, hts⟩ := id G.1
  obtain ⟨⟨hT, hT24⟩, ⟨hC, hC12⟩, ⟨hD, hD6⟩, hLn⟩ := id hI
  have hl : lv_has ls 4 [(0, .ref (w.2.2.2 2)), (1, .int x)] := hl
  refine lv_iconst (v := nI 0) hx hb dX1_reopenedByOverdue_0 (by decide) ?_
  refine lv_istore_n (lv' := [(2, .int (nI 0)), (0, .ref (w.2.2.2 2)), (1, .int x)]) hx hb dX1_reopenedByOverdue_1 rfl hl (by decide) rfl (fun ls hl => ?_)
  refine lv_iconst (v := nI 0) hx hb dX1_reopenedByOverdue_2 (by decide) ?_
  refine lv_istore_n (lv' := [(3, .int (nI 0)), (2, .int (nI 0)), (0, .ref (w.2.2.2 2)), (1, .int x)]) hx hb dX1_reopenedByOverdue_3 rfl hl (by decide) rfl (fun ls hl => ?_)
  refine g_for (P := fun k => ∀ (ls : Array Slot), lv_has ls 4 [(2, .int (nI (sm (fun d => if hasA f d x = true then apN f d else 0) k))), (3, .int (nI k)), (0, .ref (w.2.2.2 2)), (1, .int x)] → W P_ l E_ _ S_ M_ _ B_ T_ C_ S_.heap [] 0 0 _ (F0 M_ 4 ls [])) (nD f) ?_ ?_ 0 (Nat.zero_le _) ls (lv_sub hl [1, 0, 2, 3] rfl)
  · intro k hk ih ls hl
    refine lv_iload_n hx hb dX1_reopenedByOverdue_4 rfl (lv_at hl 1 rfl) ?_
    refine lv_aload_n hx hb dX1_reopenedByOverdue_5 rfl (lv_at hl 2 rfl) ?_
    refine g_get hx hb hts hown hV 2 1 (by decide) (v := .int (nI (nD f))) rfl rfl gin1 (by decide) gm_64 (by rw [← hD]; rfl) dX1_reopenedByOverdue_6 ?_
    refine lv_icmp_ge (tgt := 35) hx hb dX1_reopenedByOverdue_9 (by decide) (fun c9 => ?_) (fun c9 => ?_)
    · skip
      have c9 : (nD f) ≤ k := (g_le (by omega) (by omega)).mp c9
      exact absurd c9 (by omega)
    · skip
      have c9 : ¬ ((nD f) ≤ k) := fun q => c9 ((g_le (by omega) (by omega)).mpr q)
      refine lv_aload_n hx hb dX1_reopenedByOverdue_12 rfl (lv_at hl 2 rfl) ?_
      refine lv_iload_n hx hb dX1_reopenedByOverdue_13 rfl (lv_at hl 1 rfl) ?_
      refine lv_iload_n hx hb dX1_reopenedByOverdue_14 rfl (lv_at hl 3 rfl) ?_
      refine g_callV (As := [.int (nI k), .int x]) (rest := []) G.1 hV 2 (by decide) rfl rfl ok_X1_hasApprovedUseOf gm_129 gm_130 gm_128 (c_X1_hasApprovedUseOf l w f k x hI (by omega)) ⟨rfl, rfl⟩ ⟨Nat.le_of_ble_eq_true rfl, Nat.le_of_ble_eq_true rfl⟩ rfl hl.1 rfl (Nat.le_of_ble_eq_true rfl) ⟨Nat.zero_le _, Nat.zero_le _⟩ dX1_reopenedByOverdue_15 ?_
      refine lv_if_eq (tgt := 29) hx hb dX1_reopenedByOverdue_18 (by decide) (fun c18 => ?_) (fun c18 => ?_)
      · skip
        have c18 : ¬ (hasA f k x = true) := g_if0.mp c18
        refine lv_iinc (v := nI (k + 1)) (lv' := [(3, .int (nI (k + 1))), (2, .int (nI (sm (fun d => if hasA f d x = true then apN f d else 0) k))), (0, .ref (w.2.2.2 2)), (1, .int x)]) hx hb dX1_reopenedByOverdue_29 hl (k := 1) rfl (g_inc k 1) (by decide) rfl (fun ls hl => ?_)
        refine lv_goto (tgt := 4) hx hb dX1_reopenedByOverdue_32 (by decide) ?_
        refine ih ls ?_
        rw [(show sm (fun d => if hasA f d x = true then apN f d else 0) (k + 1) = sm (fun d => if hasA f d x = true then apN f d else 0) k from by simp [sm, c9, c18])]
        exact lv_sub hl [1, 0, 2, 3] rfl
      · skip
        have c18 : hasA f k x = true := g_if1.mp c18
        refine lv_iload_n hx hb dX1_reopenedByOverdue_21 rfl (lv_at hl 0 rfl) ?_
        refine lv_aload_n hx hb dX1_reopenedByOverdue_22 rfl (lv_at hl 2 rfl) ?_
        refine lv_iload_n hx hb dX1_reopenedByOverdue_23 rfl (lv_at hl 1 rfl) ?_
        refine g_callV (As := [.int (nI k)]) (rest := [.int (nI (sm (fun d => if hasA f d x = true then apN f d else 0) k))]) G.1 hV 2 (by decide) rfl rfl ok_X1_approvedIn gm_133 gm_134 gm_132 (c_X1_approvedIn l w f k hI (by omega)) ⟨rfl, rfl⟩ ⟨Nat.le_of_ble_eq_true rfl, Nat.le_of_ble_eq_true rfl⟩ rfl hl.1 rfl (Nat.le_of_ble_eq_true rfl) ⟨Nat.zero_le _, Nat.zero_le _⟩ dX1_reopenedByOverdue_24 ?_
        refine g_iaddn hx hb dX1_reopenedByOverdue_27 ?_
        refine lv_istore_n (lv' := [(2, .int (nI ((sm (fun d => if hasA f d x = true then apN f d else 0) k) + (apN f k)))), (3, .int (nI k)), (0, .ref (w.2.2.2 2)), (1, .int x)]) hx hb dX1_reopenedByOverdue_28 rfl hl (by decide) rfl (fun ls hl => ?_)
        refine lv_iinc (v := nI (k + 1)) (lv' := [(3, .int (nI (k + 1))), (2, .int (nI ((sm (fun d => if hasA f d x = true then apN f d else 0) k) + (apN f k)))), (0, .ref (w.2.2.2 2)), (1, .int x)]) hx hb dX1_reopenedByOverdue_29 hl (k := 1) rfl (g_inc k 1) (by decide) rfl (fun ls hl => ?_)
        refine lv_goto (tgt := 4) hx hb dX1_reopenedByOverdue_32 (by decide) ?_
        refine ih ls ?_
        rw [(show sm (fun d => if hasA f d x = true then apN f d else 0) (k + 1) = (sm (fun d => if hasA f d x = true then apN f d else 0) k) + (apN f k) from by simp [sm, c9, c18])]
        exact lv_sub hl [1, 0, 2, 3] rfl
  · intro ls hl
    refine lv_iload_n hx hb dX1_reopenedByOverdue_4 rfl (lv_at hl 1 rfl) ?_
    refine lv_aload_n hx hb dX1_reopenedByOverdue_5 rfl (lv_at hl 2 rfl) ?_
    refine g_get hx hb hts hown hV 2 1 (by decide) (v := .int (nI (nD f))) rfl rfl gin1 (by decide) gm_64 (by rw [← hD]; rfl) dX1_reopenedByOverdue_6 ?_
    refine lv_icmp_ge (tgt := 35) hx hb dX1_reopenedByOverdue_9 (by decide) (fun c9 => ?_) (fun c9 => ?_)
    · skip
      have c9 : (nD f) ≤ (nD f) := (g_le (by omega) (by omega)).mp c9
      refine lv_iload_n hx hb dX1_reopenedByOverdue_35 rfl (lv_at hl 0 rfl) ?_
      exact g_iret G (rfl) dX1_reopenedByOverdue_36
    · skip
      have c9 : ¬ ((nD f) ≤ (nD f)) := fun q => c9 ((g_le (by omega) (by omega)).mpr q)
      exact absurd c9 (by omega)
theorem ok_X1_usesAmong : gOK yX1_usesAmong cX1_usesAmong 4 (some .int) 1 := ⟨gm_253, gm_86, by decide +kernel⟩
set_option maxRecDepth 100000 in
set_option maxHeartbeats 4000000 in
theorem c_X1_usesAmong (l : Launch) (w : GP) (f : CS) (x : Int32) (hI : gI f)  : Met l yX1_usesAmong (gws yX1_usesAmong cX1_usesAmong 4 (some .int)) ({ frames := 2, cells := 0, slots := 0, locals := 46 }) (gPc w f [.ref (w.2.2.2 2), .int x]) (gRd (.int (nI (usN f x)))) 0 0 (fun _ => False) := by
  refine g_read (by decide) (Nat.le_of_ble_eq_true rfl) ?_
  intro P_ E_ S_ M_ B_ T_ C_ ls G hV hl
  obtain ⟨hx, hb, hml, hown, hts⟩ := id G.1
  obtain ⟨⟨hT, hT24⟩, ⟨hC, hC12⟩, ⟨hD, hD6⟩, hLn⟩ := id hI
  have hl : lv_has ls 4 [(0, .ref (w.2.2.2 2)), (1, .int x)] := hl
  refine lv_iconst (v := nI 0) hx hb dX1_usesAmong_0 (by decide) ?_
  refine lv_istore_n (lv' := [(2, .int (nI 0)), (0, .ref (w.2.2.2 2)), (1, .int x)]) hx hb dX1_usesAmong_1 rfl hl (by decide) rfl (fun ls hl => ?_)
  refine lv_iconst (v := nI 0) hx hb dX1_usesAmong_2 (by decide) ?_
  refine lv_istore_n (lv' := [(3, .int (nI 0)), (2, .int (nI 0)), (0, .ref (w.2.2.2 2)), (1, .int x)]) hx hb dX1_usesAmong_3 rfl hl (by decide) rfl (fun ls hl => ?_)
  refine g_for (P := fun k => ∀ (ls : Array Slot), lv_has ls 4 [(2, .int (nI (sm (fun t => uA f t x) k))), (3, .int (nI k)), (0, .ref (w.2.2.2 2)), (1, .int x)] → W P_ l E_ _ S_ M_ _ B_ T_ C_ S_.heap [] 0 0 _ (F0 M_ 4 ls [])) (nD f * 3) ?_ ?_ 0 (Nat.zero_le _) ls (lv_sub hl [1, 0, 2, 3] rfl)
  · intro k hk ih ls hl
    refine lv_iload_n hx hb dX1_usesAmong_4 rfl (lv_at hl 1 rfl) ?_
    refine lv_aload_n hx hb dX1_usesAmong_5 rfl (lv_at hl 2 rfl) ?_
    refine g_callV (As := []) (rest := [.int (nI k)]) G.1 hV 2 (by decide) rfl rfl ok_X1_textCount gm_103 gm_104 gm_102 (c_X1_textCount l w f  hI ) ⟨rfl, rfl⟩ ⟨Nat.le_of_ble_eq_true rfl, Nat.le_of_ble_eq_true rfl⟩ rfl hl.1 rfl (Nat.le_of_ble_eq_true rfl) ⟨Nat.zero_le _, Nat.zero_le _⟩ dX1_usesAmong_6 ?_
    refine lv_icmp_ge (tgt := 27) hx hb dX1_usesAmong_9 (by decide) (fun c9 => ?_) (fun c9 => ?_)
    · skip
      have c9 : (nD f * 3) ≤ k := (g_le (by omega) (by omega)).mp c9
      exact absurd c9 (by omega)
    · skip
      have c9 : ¬ ((nD f * 3) ≤ k) := fun q => c9 ((g_le (by omega) (by omega)).mpr q)
      refine lv_iload_n hx hb dX1_usesAmong_12 rfl (lv_at hl 0 rfl) ?_
      refine lv_aload_n hx hb dX1_usesAmong_13 rfl (lv_at hl 2 rfl) ?_
      refine lv_iload_n hx hb dX1_usesAmong_14 rfl (lv_at hl 1 rfl) ?_
      refine lv_iload_n hx hb dX1_usesAmong_15 rfl (lv_at hl 3 rfl) ?_
      refine g_callV (As := [.int (nI k), .int x]) (rest := [.int (nI (sm (fun t => uA f t x) k))]) G.1 hV 2 (by decide) rfl rfl ok_X1_usesAmongIn gm_112 gm_113 gm_111 (c_X1_usesAmongIn l w f k x hI (by omega)) ⟨rfl, rfl⟩ ⟨Nat.le_of_ble_eq_true rfl, Nat.le_of_ble_eq_true rfl⟩ rfl hl.1 rfl (Nat.le_of_ble_eq_true rfl) ⟨Nat.zero_le _, Nat.zero_le _⟩ dX1_usesAmong_16 ?_
      refine g_iaddn hx hb dX1_usesAmong_19 ?_
      refine lv_istore_n (lv' := [(2, .int (nI ((sm (fun t => uA f t x) k) + (uA f k x)))), (3, .int (nI k)), (0, .ref (w.2.2.2 2)), (1, .int x)]) hx hb dX1_usesAmong_20 rfl hl (by decide) rfl (fun ls hl => ?_)
      refine lv_iinc (v := nI (k + 1)) (lv' := [(3, .int (nI (k + 1))), (2, .int (nI ((sm (fun t => uA f t x) k) + (uA f k x)))), (0, .ref (w.2.2.2 2)), (1, .int x)]) hx hb dX1_usesAmong_21 hl (k := 1) rfl (g_inc k 1) (by decide) rfl (fun ls hl => ?_)
      refine lv_goto (tgt := 4) hx hb dX1_usesAmong_24 (by decide) ?_
      refine ih ls ?_
      rw [(show sm (fun t => uA f t x) (k + 1) = (sm (fun t => uA f t x) k) + (uA f k x) from rfl)]
      exact lv_sub hl [1, 0, 2, 3] rfl
  · intro ls hl
    refine lv_iload_n hx hb dX1_usesAmong_4 rfl (lv_at hl 1 rfl) ?_
    refine lv_aload_n hx hb dX1_usesAmong_5 rfl (lv_at hl 2 rfl) ?_
    refine g_callV (As := []) (rest := [.int (nI (nD f * 3))]) G.1 hV 2 (by decide) rfl rfl ok_X1_textCount gm_103 gm_104 gm_102 (c_X1_textCount l w f  hI ) ⟨rfl, rfl⟩ ⟨Nat.le_of_ble_eq_true rfl, Nat.le_of_ble_eq_true rfl⟩ rfl hl.1 rfl (Nat.le_of_ble_eq_true rfl) ⟨Nat.zero_le _, Nat.zero_le _⟩ dX1_usesAmong_6 ?_
    refine lv_icmp_ge (tgt := 27) hx hb dX1_usesAmong_9 (by decide) (fun c9 => ?_) (fun c9 => ?_)
    · skip
      have c9 : (nD f * 3) ≤ (nD f * 3) := (g_le (by omega) (by omega)).mp c9
      refine lv_iload_n hx hb dX1_usesAmong_27 rfl (lv_at hl 0 rfl) ?_
      exact g_iret G (rfl) dX1_usesAmong_28
    · skip
      have c9 : ¬ ((nD f * 3) ≤ (nD f * 3)) := fun q => c9 ((g_le (by omega) (by omega)).mpr q)
      exact absurd c9 (by omega)
theorem ok_X1_documentsWith : gOK yX1_documentsWith cX1_documentsWith 6 (some .int) 1 := ⟨gm_259, gm_86, by decide +kernel⟩
set_option maxRecDepth 100000 in
set_option maxHeartbeats 4000000 in
theorem c_X1_documentsWith (l : Launch) (w : GP) (f : CS) (x : Int32) (hI : gI f)  : Met l yX1_documentsWith (gws yX1_documentsWith cX1_documentsWith 6 (some .int)) ({ frames := 2, cells := 0, slots := 0, locals := 46 }) (gPc w f [.ref (w.2.2.2 2), .int x]) (gRd (.int (nI (dwN f x)))) 0 0 (fun _ => False) := by
  refine g_read (by decide) (Nat.le_of_ble_eq_true rfl) ?_
  intro P_ E_ S_ M_ B_ T_ C_ ls G hV hl
  obtain ⟨hx, hb, hml, hown, hts⟩ := id G.1
  obtain ⟨⟨hT, hT24⟩, ⟨hC, hC12⟩, ⟨hD, hD6⟩, hLn⟩ := id hI
  have hl : lv_has ls 6 [(0, .ref (w.2.2.2 2)), (1, .int x)] := hl
  refine lv_iconst (v := nI 0) hx hb dX1_documentsWith_0 (by decide) ?_
  refine lv_istore_n (lv' := [(2, .int (nI 0)), (0, .ref (w.2.2.2 2)), (1, .int x)]) hx hb dX1_documentsWith_1 rfl hl (by decide) rfl (fun ls hl => ?_)
  refine lv_iconst (v := nI 0) hx hb dX1_documentsWith_2 (by decide) ?_
  refine lv_istore_n (lv' := [(3, .int (nI 0)), (2, .int (nI 0)), (0, .ref (w.2.2.2 2)), (1, .int x)]) hx hb dX1_documentsWith_3 rfl hl (by decide) rfl (fun ls hl => ?_)
  refine g_for (P := fun d => ∀ (ls : Array Slot), lv_has ls 6 [(2, .int (nI (ct (fun d => decide (0 < sm (fun l => uA f (d * 3 + l) x) 3)) d))), (3, .int (nI d)), (0, .ref (w.2.2.2 2)), (1, .int x)] → W P_ l E_ _ S_ M_ _ B_ T_ C_ S_.heap [] 0 0 _ (F0 M_ 4 ls [])) (nD f) ?_ ?_ 0 (Nat.zero_le _) ls (lv_sub hl [1, 0, 2, 3] rfl)
  · intro d hd ih ls hl
    refine lv_iload_n hx hb dX1_documentsWith_4 rfl (lv_at hl 1 rfl) ?_
    refine lv_aload_n hx hb dX1_documentsWith_5 rfl (lv_at hl 2 rfl) ?_
    refine g_get hx hb hts hown hV 2 1 (by decide) (v := .int (nI (nD f))) rfl rfl gin1 (by decide) gm_64 (by rw [← hD]; rfl) dX1_documentsWith_6 ?_
    refine lv_icmp_ge (tgt := 60) hx hb dX1_documentsWith_9 (by decide) (fun c9 => ?_) (fun c9 => ?_)
    · skip
      have c9 : (nD f) ≤ d := (g_le (by omega) (by omega)).mp c9
      exact absurd c9 (by omega)
    · skip
      have c9 : ¬ ((nD f) ≤ d) := fun q => c9 ((g_le (by omega) (by omega)).mpr q)
      refine lv_iconst (v := nI 0) hx hb dX1_documentsWith_12 (by decide) ?_
      refine lv_istore (lv' := [(4, .int (nI 0)), (2, .int (nI (ct (fun d => decide (0 < sm (fun l => uA f (d * 3 + l) x) 3)) d))), (3, .int (nI d)), (0, .ref (w.2.2.2 2)), (1, .int x)]) hx hb dX1_documentsWith_13 hl (by decide) rfl (fun ls hl => ?_)
      refine lv_iconst (v := nI 0) hx hb dX1_documentsWith_15 (by decide) ?_
      refine lv_istore (lv' := [(5, .int (nI 0)), (4, .int (nI 0)), (2, .int (nI (ct (fun d => decide (0 < sm (fun l => uA f (d * 3 + l) x) 3)) d))), (3, .int (nI d)), (0, .ref (w.2.2.2 2)), (1, .int x)]) hx hb dX1_documentsWith_16 hl (by decide) rfl (fun ls hl => ?_)
      refine g_for (P := fun k => ∀ (ls : Array Slot), lv_has ls 6 [(4, .int (nI (sm (fun l => uA f (d * 3 + l) x) k))), (5, .int (nI k)), (2, .int (nI (ct (fun d => decide (0 < sm (fun l => uA f (d * 3 + l) x) 3)) d))), (3, .int (nI d)), (0, .ref (w.2.2.2 2)), (1, .int x)] → W P_ l E_ _ S_ M_ _ B_ T_ C_ S_.heap [] 0 0 _ (F0 M_ 18 ls [])) (3) ?_ ?_ 0 (Nat.zero_le _) ls (lv_sub hl [1, 0, 2, 3, 4, 5] rfl)
      · intro k hk ih ls hl
        refine lv_iload hx hb dX1_documentsWith_18 (lv_at hl 1 rfl) ?_
        refine lv_iconst (v := nI 3) hx hb dX1_documentsWith_20 (by decide) ?_
        refine lv_icmp_ge (tgt := 46) hx hb dX1_documentsWith_21 (by decide) (fun c21 => ?_) (fun c21 => ?_)
        · skip
          have c21 : 3 ≤ k := (g_le (by omega) (by omega)).mp c21
          exact absurd c21 (by omega)
        · skip
          have c21 : ¬ (3 ≤ k) := fun q => c21 ((g_le (by omega) (by omega)).mpr q)
          refine lv_iload hx hb dX1_documentsWith_24 (lv_at hl 0 rfl) ?_
          refine lv_aload_n hx hb dX1_documentsWith_26 rfl (lv_at hl 4 rfl) ?_
          refine lv_iload_n hx hb dX1_documentsWith_27 rfl (lv_at hl 3 rfl) ?_
          refine lv_iconst (v := nI 3) hx hb dX1_documentsWith_28 (by decide) ?_
          refine g_imuln hx hb dX1_documentsWith_29 ?_
          refine lv_iload hx hb dX1_documentsWith_30 (lv_at hl 1 rfl) ?_
          refine g_iaddn hx hb dX1_documentsWith_32 ?_
          refine lv_iload_n hx hb dX1_documentsWith_33 rfl (lv_at hl 5 rfl) ?_
          refine g_callV (As := [.int (nI ((d * 3) + k)), .int x]) (rest := [.int (nI (sm (fun l => uA f (d * 3 + l) x) k))]) G.1 hV 2 (by decide) rfl rfl ok_X1_usesAmongIn gm_112 gm_113 gm_111 (c_X1_usesAmongIn l w f ((d * 3) + k) x hI (by omega)) ⟨rfl, rfl⟩ ⟨Nat.le_of_ble_eq_true rfl, Nat.le_of_ble_eq_true rfl⟩ rfl hl.1 rfl (Nat.le_of_ble_eq_true rfl) ⟨Nat.zero_le _, Nat.zero_le _⟩ dX1_documentsWith_34 ?_
          refine g_iaddn hx hb dX1_documentsWith_37 ?_
          refine lv_istore (lv' := [(4, .int (nI ((sm (fun l => uA f (d * 3 + l) x) k) + (uA f ((d * 3) + k) x)))), (5, .int (nI k)), (2, .int (nI (ct (fun d => decide (0 < sm (fun l => uA f (d * 3 + l) x) 3)) d))), (3, .int (nI d)), (0, .ref (w.2.2.2 2)), (1, .int x)]) hx hb dX1_documentsWith_38 hl (by decide) rfl (fun ls hl => ?_)
          refine lv_iinc (v := nI (k + 1)) (lv' := [(5, .int (nI (k + 1))), (4, .int (nI ((sm (fun l => uA f (d * 3 + l) x) k) + (uA f ((d * 3) + k) x)))), (2, .int (nI (ct (fun d => decide (0 < sm (fun l => uA f (d * 3 + l) x) 3)) d))), (3, .int (nI d)), (0, .ref (w.2.2.2 2)), (1, .int x)]) hx hb dX1_documentsWith_40 hl (k := 1) rfl (g_inc k 1) (by decide) rfl (fun ls hl => ?_)
          refine lv_goto (tgt := 18) hx hb dX1_documentsWith_43 (by decide) ?_
          refine ih ls ?_
          rw [(show sm (fun l => uA f (d * 3 + l) x) (k + 1) = (sm (fun l => uA f (d * 3 + l) x) k) + (uA f ((d * 3) + k) x) from rfl)]
          exact lv_sub hl [1, 0, 2, 3, 4, 5] rfl
      · intro ls hl
        refine lv_iload hx hb dX1_documentsWith_18 (lv_at hl 1 rfl) ?_
        refine lv_iconst (v := nI 3) hx hb dX1_documentsWith_20 (by decide) ?_
        refine lv_icmp_ge (tgt := 46) hx hb dX1_documentsWith_21 (by decide) (fun c21 => ?_) (fun c21 => ?_)
        · skip
          have c21 : 3 ≤ 3 := (g_le (by omega) (by omega)).mp c21
          refine lv_iload hx hb dX1_documentsWith_46 (lv_at hl 0 rfl) ?_
          refine lv_if_le (tgt := 54) hx hb dX1_documentsWith_48 (by decide) (fun c48 => ?_) (fun c48 => ?_)
          · skip
            rw [show (0 : Int32) = nI 0 from rfl] at c48
            have c48 : (sm (fun l => uA f (d * 3 + l) x) 3) ≤ 0 := (g_le (sm3 (fun l hl3 => Nat.le_trans (uA_le _ _ _) (hLn _ (by omega)).2)) (by omega)).mp c48
            refine lv_iinc (v := nI (d + 1)) (lv' := [(3, .int (nI (d + 1))), (4, .int (nI (sm (fun l => uA f (d * 3 + l) x) 3))), (5, .int (nI 3)), (2, .int (nI (ct (fun d => decide (0 < sm (fun l => uA f (d * 3 + l) x) 3)) d))), (0, .ref (w.2.2.2 2)), (1, .int x)]) hx hb dX1_documentsWith_54 hl (k := 3) rfl (g_inc d 1) (by decide) rfl (fun ls hl => ?_)
            refine lv_goto (tgt := 4) hx hb dX1_documentsWith_57 (by decide) ?_
            refine ih ls ?_
            rw [(show ct (fun d => decide (0 < sm (fun l => uA f (d * 3 + l) x) 3)) (d + 1) = ct (fun d => decide (0 < sm (fun l => uA f (d * 3 + l) x) 3)) d from by first | exact ct_n (by simp; omega) | exact ct_y (by simp; omega))]
            exact lv_sub hl [3, 0, 4, 5] rfl
          · skip
            rw [show (0 : Int32) = nI 0 from rfl] at c48
            have c48 : ¬ ((sm (fun l => uA f (d * 3 + l) x) 3) ≤ 0) := fun q => c48 ((g_le (sm3 (fun l hl3 => Nat.le_trans (uA_le _ _ _) (hLn _ (by omega)).2)) (by omega)).mpr q)
            refine lv_iinc (v := nI (ct (fun d => decide (0 < sm (fun l => uA f (d * 3 + l) x) 3)) d + 1)) (lv' := [(2, .int (nI (ct (fun d => decide (0 < sm (fun l => uA f (d * 3 + l) x) 3)) d + 1))), (4, .int (nI (sm (fun l => uA f (d * 3 + l) x) 3))), (5, .int (nI 3)), (3, .int (nI d)), (0, .ref (w.2.2.2 2)), (1, .int x)]) hx hb dX1_documentsWith_51 hl (k := 2) rfl (g_inc (ct (fun d => decide (0 < sm (fun l => uA f (d * 3 + l) x) 3)) d) 1) (by decide) rfl (fun ls hl => ?_)
            refine lv_iinc (v := nI (d + 1)) (lv' := [(3, .int (nI (d + 1))), (2, .int (nI (ct (fun d => decide (0 < sm (fun l => uA f (d * 3 + l) x) 3)) d + 1))), (4, .int (nI (sm (fun l => uA f (d * 3 + l) x) 3))), (5, .int (nI 3)), (0, .ref (w.2.2.2 2)), (1, .int x)]) hx hb dX1_documentsWith_54 hl (k := 3) rfl (g_inc d 1) (by decide) rfl (fun ls hl => ?_)
            refine lv_goto (tgt := 4) hx hb dX1_documentsWith_57 (by decide) ?_
            refine ih ls ?_
            rw [(show ct (fun d => decide (0 < sm (fun l => uA f (d * 3 + l) x) 3)) (d + 1) = ct (fun d => decide (0 < sm (fun l => uA f (d * 3 + l) x) 3)) d + 1 from by first | exact ct_n (by simp; omega) | exact ct_y (by simp; omega))]
            exact lv_sub hl [1, 0, 4, 5] rfl
        · skip
          have c21 : ¬ (3 ≤ 3) := fun q => c21 ((g_le (by omega) (by omega)).mpr q)
          exact absurd c21 (by omega)
  · intro ls hl
    refine lv_iload_n hx hb dX1_documentsWith_4 rfl (lv_at hl 1 rfl) ?_
    refine lv_aload_n hx hb dX1_documentsWith_5 rfl (lv_at hl 2 rfl) ?_
    refine g_get hx hb hts hown hV 2 1 (by decide) (v := .int (nI (nD f))) rfl rfl gin1 (by decide) gm_64 (by rw [← hD]; rfl) dX1_documentsWith_6 ?_
    refine lv_icmp_ge (tgt := 60) hx hb dX1_documentsWith_9 (by decide) (fun c9 => ?_) (fun c9 => ?_)
    · skip
      have c9 : (nD f) ≤ (nD f) := (g_le (by omega) (by omega)).mp c9
      refine lv_iload_n hx hb dX1_documentsWith_60 rfl (lv_at hl 0 rfl) ?_
      exact g_iret G (rfl) dX1_documentsWith_61
    · skip
      have c9 : ¬ ((nD f) ≤ (nD f)) := fun q => c9 ((g_le (by omega) (by omega)).mpr q)
      exact absurd c9 (by omega)
theorem ok_X1_textsInState : gOK yX1_textsInState cX1_textsInState 4 (some .int) 1 := ⟨gm_339, gm_86, by decide +kernel⟩
set_option maxRecDepth 100000 in
set_option maxHeartbeats 4000000 in
theorem c_X1_textsInState (l : Launch) (w : GP) (f : CS) (x : Int32) (hI : gI f)  : Met l yX1_textsInState (gws yX1_textsInState cX1_textsInState 4 (some .int)) ({ frames := 1, cells := 0, slots := 0, locals := 20 }) (gPc w f [.ref (w.2.2.2 2), .int x]) (gRd (.int (nI (tsN f x)))) 0 0 (fun _ => False) := by
  refine g_read (by decide) (Nat.le_of_ble_eq_true rfl) ?_
  intro P_ E_ S_ M_ B_ T_ C_ ls G hV hl
  obtain ⟨hx, hb, hml, hown, hts⟩ := id G.1
  obtain ⟨⟨hT, hT24⟩, ⟨hC, hC12⟩, ⟨hD, hD6⟩, hLn⟩ := id hI
  have hl : lv_has ls 4 [(0, .ref (w.2.2.2 2)), (1, .int x)] := hl
  refine lv_iconst (v := nI 0) hx hb dX1_textsInState_0 (by decide) ?_
  refine lv_istore_n (lv' := [(2, .int (nI 0)), (0, .ref (w.2.2.2 2)), (1, .int x)]) hx hb dX1_textsInState_1 rfl hl (by decide) rfl (fun ls hl => ?_)
  refine lv_iconst (v := nI 0) hx hb dX1_textsInState_2 (by decide) ?_
  refine lv_istore_n (lv' := [(3, .int (nI 0)), (2, .int (nI 0)), (0, .ref (w.2.2.2 2)), (1, .int x)]) hx hb dX1_textsInState_3 rfl hl (by decide) rfl (fun ls hl => ?_)
  refine g_for (P := fun k => ∀ (ls : Array Slot), lv_has ls 4 [(2, .int (nI (ct (fun t => decide (0 < nL f t ∧ f 12 t = x)) k))), (3, .int (nI k)), (0, .ref (w.2.2.2 2)), (1, .int x)] → W P_ l E_ _ S_ M_ _ B_ T_ C_ S_.heap [] 0 0 _ (F0 M_ 4 ls [])) (nD f * 3) ?_ ?_ 0 (Nat.zero_le _) ls (lv_sub hl [1, 0, 2, 3] rfl)
  · intro k hk ih ls hl
    refine lv_iload_n hx hb dX1_textsInState_4 rfl (lv_at hl 1 rfl) ?_
    refine lv_aload_n hx hb dX1_textsInState_5 rfl (lv_at hl 2 rfl) ?_
    refine g_callV (As := []) (rest := [.int (nI k)]) G.1 hV 2 (by decide) rfl rfl ok_X1_textCount gm_103 gm_104 gm_102 (c_X1_textCount l w f  hI ) ⟨rfl, rfl⟩ ⟨Nat.le_of_ble_eq_true rfl, Nat.le_of_ble_eq_true rfl⟩ rfl hl.1 rfl (Nat.le_of_ble_eq_true rfl) ⟨Nat.zero_le _, Nat.zero_le _⟩ dX1_textsInState_6 ?_
    refine lv_icmp_ge (tgt := 40) hx hb dX1_textsInState_9 (by decide) (fun c9 => ?_) (fun c9 => ?_)
    · skip
      have c9 : (nD f * 3) ≤ k := (g_le (by omega) (by omega)).mp c9
      exact absurd c9 (by omega)
    · skip
      have c9 : ¬ ((nD f * 3) ≤ k) := fun q => c9 ((g_le (by omega) (by omega)).mpr q)
      have hLt := hLn k (by omega)
      refine lv_aload_n hx hb dX1_textsInState_12 rfl (lv_at hl 2 rfl) ?_
      refine g_get hx hb hts hown hV 2 2 (by decide) (v := .ref (w.2.2.2 16)) rfl rfl gin1 (by decide) gm_65 (rfl) dX1_textsInState_13 ?_
      refine lv_iload_n hx hb dX1_textsInState_16 rfl (lv_at hl 1 rfl) ?_
      refine g_ialn (a := 11) (n := 18) hx hb hV 16 (by decide) (by decide) rfl rfl (i := k) (by omega) dX1_textsInState_17 ?_
      rw [(hLn k (by omega)).1]
      refine lv_if_le (tgt := 34) hx hb dX1_textsInState_18 (by decide) (fun c18 => ?_) (fun c18 => ?_)
      · skip
        rw [show (0 : Int32) = nI 0 from rfl] at c18
        have c18 : (nL f k) ≤ 0 := (g_le (by omega) (by omega)).mp c18
        refine lv_iinc (v := nI (k + 1)) (lv' := [(3, .int (nI (k + 1))), (2, .int (nI (ct (fun t => decide (0 < nL f t ∧ f 12 t = x)) k))), (0, .ref (w.2.2.2 2)), (1, .int x)]) hx hb dX1_textsInState_34 hl (k := 1) rfl (g_inc k 1) (by decide) rfl (fun ls hl => ?_)
        refine lv_goto (tgt := 4) hx hb dX1_textsInState_37 (by decide) ?_
        refine ih ls ?_
        rw [(show ct (fun t => decide (0 < nL f t ∧ f 12 t = x)) (k + 1) = ct (fun t => decide (0 < nL f t ∧ f 12 t = x)) k from by first | exact ct_n (fun q => by have := of_decide_eq_true q; omega) | exact ct_n (fun q => c28 (of_decide_eq_true q).2) | exact ct_y (decide_eq_true ⟨by omega, c28⟩))]
        exact lv_sub hl [1, 0, 2, 3] rfl
      · skip
        rw [show (0 : Int32) = nI 0 from rfl] at c18
        have c18 : ¬ ((nL f k) ≤ 0) := fun q => c18 ((g_le (by omega) (by omega)).mpr q)
        refine lv_aload_n hx hb dX1_textsInState_21 rfl (lv_at hl 2 rfl) ?_
        refine g_get hx hb hts hown hV 2 3 (by decide) (v := .ref (w.2.2.2 17)) rfl rfl gin1 (by decide) gm_66 (rfl) dX1_textsInState_22 ?_
        refine lv_iload_n hx hb dX1_textsInState_25 rfl (lv_at hl 1 rfl) ?_
        refine g_ialn (a := 12) (n := 18) hx hb hV 17 (by decide) (by decide) rfl rfl (i := k) (by omega) dX1_textsInState_26 ?_
        refine lv_iload_n hx hb dX1_textsInState_27 rfl (lv_at hl 3 rfl) ?_
        refine lv_icmp_ne (tgt := 34) hx hb dX1_textsInState_28 (by decide) (fun c28 => ?_) (fun c28 => ?_)
        · skip
          refine lv_iinc (v := nI (k + 1)) (lv' := [(3, .int (nI (k + 1))), (2, .int (nI (ct (fun t => decide (0 < nL f t ∧ f 12 t = x)) k))), (0, .ref (w.2.2.2 2)), (1, .int x)]) hx hb dX1_textsInState_34 hl (k := 1) rfl (g_inc k 1) (by decide) rfl (fun ls hl => ?_)
          refine lv_goto (tgt := 4) hx hb dX1_textsInState_37 (by decide) ?_
          refine ih ls ?_
          rw [(show ct (fun t => decide (0 < nL f t ∧ f 12 t = x)) (k + 1) = ct (fun t => decide (0 < nL f t ∧ f 12 t = x)) k from by first | exact ct_n (fun q => by have := of_decide_eq_true q; omega) | exact ct_n (fun q => c28 (of_decide_eq_true q).2) | exact ct_y (decide_eq_true ⟨by omega, c28⟩))]
          exact lv_sub hl [1, 0, 2, 3] rfl
        · skip
          refine lv_iinc (v := nI (ct (fun t => decide (0 < nL f t ∧ f 12 t = x)) k + 1)) (lv' := [(2, .int (nI (ct (fun t => decide (0 < nL f t ∧ f 12 t = x)) k + 1))), (3, .int (nI k)), (0, .ref (w.2.2.2 2)), (1, .int x)]) hx hb dX1_textsInState_31 hl (k := 0) rfl (g_inc (ct (fun t => decide (0 < nL f t ∧ f 12 t = x)) k) 1) (by decide) rfl (fun ls hl => ?_)
          refine lv_iinc (v := nI (k + 1)) (lv' := [(3, .int (nI (k + 1))), (2, .int (nI (ct (fun t => decide (0 < nL f t ∧ f 12 t = x)) k + 1))), (0, .ref (w.2.2.2 2)), (1, .int x)]) hx hb dX1_textsInState_34 hl (k := 1) rfl (g_inc k 1) (by decide) rfl (fun ls hl => ?_)
          refine lv_goto (tgt := 4) hx hb dX1_textsInState_37 (by decide) ?_
          refine ih ls ?_
          rw [(show ct (fun t => decide (0 < nL f t ∧ f 12 t = x)) (k + 1) = ct (fun t => decide (0 < nL f t ∧ f 12 t = x)) k + 1 from by first | exact ct_n (fun q => by have := of_decide_eq_true q; omega) | exact ct_n (fun q => c28 (of_decide_eq_true q).2) | exact ct_y (decide_eq_true ⟨by omega, c28⟩))]
          exact lv_sub hl [1, 0, 2, 3] rfl
  · intro ls hl
    refine lv_iload_n hx hb dX1_textsInState_4 rfl (lv_at hl 1 rfl) ?_
    refine lv_aload_n hx hb dX1_textsInState_5 rfl (lv_at hl 2 rfl) ?_
    refine g_callV (As := []) (rest := [.int (nI (nD f * 3))]) G.1 hV 2 (by decide) rfl rfl ok_X1_textCount gm_103 gm_104 gm_102 (c_X1_textCount l w f  hI ) ⟨rfl, rfl⟩ ⟨Nat.le_of_ble_eq_true rfl, Nat.le_of_ble_eq_true rfl⟩ rfl hl.1 rfl (Nat.le_of_ble_eq_true rfl) ⟨Nat.zero_le _, Nat.zero_le _⟩ dX1_textsInState_6 ?_
    refine lv_icmp_ge (tgt := 40) hx hb dX1_textsInState_9 (by decide) (fun c9 => ?_) (fun c9 => ?_)
    · skip
      have c9 : (nD f * 3) ≤ (nD f * 3) := (g_le (by omega) (by omega)).mp c9
      refine lv_iload_n hx hb dX1_textsInState_40 rfl (lv_at hl 0 rfl) ?_
      exact g_iret G (rfl) dX1_textsInState_41
    · skip
      have c9 : ¬ ((nD f * 3) ≤ (nD f * 3)) := fun q => c9 ((g_le (by omega) (by omega)).mpr q)
      exact absurd c9 (by omega)
theorem ok_X1_textsWithForms : gOK yX1_textsWithForms cX1_textsWithForms 3 (some .int) 0 := ⟨gm_343, gm_86, by decide +kernel⟩
set_option maxRecDepth 100000 in
set_option maxHeartbeats 4000000 in
theorem c_X1_textsWithForms (l : Launch) (w : GP) (f : CS)  (hI : gI f)  : Met l yX1_textsWithForms (gws yX1_textsWithForms cX1_textsWithForms 3 (some .int)) ({ frames := 1, cells := 0, slots := 0, locals := 20 }) (gPc w f [.ref (w.2.2.2 2)]) (gRd (.int (nI (twN f)))) 0 0 (fun _ => False) := by
  refine g_read (by decide) (Nat.le_of_ble_eq_true rfl) ?_
  intro P_ E_ S_ M_ B_ T_ C_ ls G hV hl
  obtain ⟨hx, hb, hml, hown, hts⟩ := id G.1
  obtain ⟨⟨hT, hT24⟩, ⟨hC, hC12⟩, ⟨hD, hD6⟩, hLn⟩ := id hI
  have hl : lv_has ls 3 [(0, .ref (w.2.2.2 2))] := hl
  refine lv_iconst (v := nI 0) hx hb dX1_textsWithForms_0 (by decide) ?_
  refine lv_istore_n (lv' := [(1, .int (nI 0)), (0, .ref (w.2.2.2 2))]) hx hb dX1_textsWithForms_1 rfl hl (by decide) rfl (fun ls hl => ?_)
  refine lv_iconst (v := nI 0) hx hb dX1_textsWithForms_2 (by decide) ?_
  refine lv_istore_n (lv' := [(2, .int (nI 0)), (1, .int (nI 0)), (0, .ref (w.2.2.2 2))]) hx hb dX1_textsWithForms_3 rfl hl (by decide) rfl (fun ls hl => ?_)
  refine g_for (P := fun k => ∀ (ls : Array Slot), lv_has ls 3 [(1, .int (nI (ct (fun t => decide (0 < nL f t)) k))), (2, .int (nI k)), (0, .ref (w.2.2.2 2))] → W P_ l E_ _ S_ M_ _ B_ T_ C_ S_.heap [] 0 0 _ (F0 M_ 4 ls [])) (nD f * 3) ?_ ?_ 0 (Nat.zero_le _) ls (lv_sub hl [1, 0, 2] rfl)
  · intro k hk ih ls hl
    refine lv_iload_n hx hb dX1_textsWithForms_4 rfl (lv_at hl 1 rfl) ?_
    refine lv_aload_n hx hb dX1_textsWithForms_5 rfl (lv_at hl 2 rfl) ?_
    refine g_callV (As := []) (rest := [.int (nI k)]) G.1 hV 2 (by decide) rfl rfl ok_X1_textCount gm_103 gm_104 gm_102 (c_X1_textCount l w f  hI ) ⟨rfl, rfl⟩ ⟨Nat.le_of_ble_eq_true rfl, Nat.le_of_ble_eq_true rfl⟩ rfl hl.1 rfl (Nat.le_of_ble_eq_true rfl) ⟨Nat.zero_le _, Nat.zero_le _⟩ dX1_textsWithForms_6 ?_
    refine lv_icmp_ge (tgt := 30) hx hb dX1_textsWithForms_9 (by decide) (fun c9 => ?_) (fun c9 => ?_)
    · skip
      have c9 : (nD f * 3) ≤ k := (g_le (by omega) (by omega)).mp c9
      exact absurd c9 (by omega)
    · skip
      have c9 : ¬ ((nD f * 3) ≤ k) := fun q => c9 ((g_le (by omega) (by omega)).mpr q)
      have hLt := hLn k (by omega)
      refine lv_aload_n hx hb dX1_textsWithForms_12 rfl (lv_at hl 2 rfl) ?_
      refine g_get hx hb hts hown hV 2 2 (by decide) (v := .ref (w.2.2.2 16)) rfl rfl gin1 (by decide) gm_65 (rfl) dX1_textsWithForms_13 ?_
      refine lv_iload_n hx hb dX1_textsWithForms_16 rfl (lv_at hl 1 rfl) ?_
      refine g_ialn (a := 11) (n := 18) hx hb hV 16 (by decide) (by decide) rfl rfl (i := k) (by omega) dX1_textsWithForms_17 ?_
      rw [(hLn k (by omega)).1]
      refine lv_if_le (tgt := 24) hx hb dX1_textsWithForms_18 (by decide) (fun c18 => ?_) (fun c18 => ?_)
      · skip
        rw [show (0 : Int32) = nI 0 from rfl] at c18
        have c18 : (nL f k) ≤ 0 := (g_le (by omega) (by omega)).mp c18
        refine lv_iinc (v := nI (k + 1)) (lv' := [(2, .int (nI (k + 1))), (1, .int (nI (ct (fun t => decide (0 < nL f t)) k))), (0, .ref (w.2.2.2 2))]) hx hb dX1_textsWithForms_24 hl (k := 1) rfl (g_inc k 1) (by decide) rfl (fun ls hl => ?_)
        refine lv_goto (tgt := 4) hx hb dX1_textsWithForms_27 (by decide) ?_
        refine ih ls ?_
        rw [(show ct (fun t => decide (0 < nL f t)) (k + 1) = ct (fun t => decide (0 < nL f t)) k from by first | (rw [ct_n (by simp; omega)]; done) | (rw [ct_y (by simp; omega)]; done))]
        exact lv_sub hl [1, 0, 2] rfl
      · skip
        rw [show (0 : Int32) = nI 0 from rfl] at c18
        have c18 : ¬ ((nL f k) ≤ 0) := fun q => c18 ((g_le (by omega) (by omega)).mpr q)
        refine lv_iinc (v := nI (ct (fun t => decide (0 < nL f t)) k + 1)) (lv' := [(1, .int (nI (ct (fun t => decide (0 < nL f t)) k + 1))), (2, .int (nI k)), (0, .ref (w.2.2.2 2))]) hx hb dX1_textsWithForms_21 hl (k := 0) rfl (g_inc (ct (fun t => decide (0 < nL f t)) k) 1) (by decide) rfl (fun ls hl => ?_)
        refine lv_iinc (v := nI (k + 1)) (lv' := [(2, .int (nI (k + 1))), (1, .int (nI (ct (fun t => decide (0 < nL f t)) k + 1))), (0, .ref (w.2.2.2 2))]) hx hb dX1_textsWithForms_24 hl (k := 1) rfl (g_inc k 1) (by decide) rfl (fun ls hl => ?_)
        refine lv_goto (tgt := 4) hx hb dX1_textsWithForms_27 (by decide) ?_
        refine ih ls ?_
        rw [(show ct (fun t => decide (0 < nL f t)) (k + 1) = ct (fun t => decide (0 < nL f t)) k + 1 from by first | (rw [ct_n (by simp; omega)]; done) | (rw [ct_y (by simp; omega)]; done))]
        exact lv_sub hl [1, 0, 2] rfl
  · intro ls hl
    refine lv_iload_n hx hb dX1_textsWithForms_4 rfl (lv_at hl 1 rfl) ?_
    refine lv_aload_n hx hb dX1_textsWithForms_5 rfl (lv_at hl 2 rfl) ?_
    refine g_callV (As := []) (rest := [.int (nI (nD f * 3))]) G.1 hV 2 (by decide) rfl rfl ok_X1_textCount gm_103 gm_104 gm_102 (c_X1_textCount l w f  hI ) ⟨rfl, rfl⟩ ⟨Nat.le_of_ble_eq_true rfl, Nat.le_of_ble_eq_true rfl⟩ rfl hl.1 rfl (Nat.le_of_ble_eq_true rfl) ⟨Nat.zero_le _, Nat.zero_le _⟩ dX1_textsWithForms_6 ?_
    refine lv_icmp_ge (tgt := 30) hx hb dX1_textsWithForms_9 (by decide) (fun c9 => ?_) (fun c9 => ?_)
    · skip
      have c9 : (nD f * 3) ≤ (nD f * 3) := (g_le (by omega) (by omega)).mp c9
      refine lv_iload_n hx hb dX1_textsWithForms_30 rfl (lv_at hl 0 rfl) ?_
      exact g_iret G (rfl) dX1_textsWithForms_31
    · skip
      have c9 : ¬ ((nD f * 3) ≤ (nD f * 3)) := fun q => c9 ((g_le (by omega) (by omega)).mpr q)
      exact absurd c9 (by omega)
theorem ok_X1_sumOfConsistencies : gOK yX1_sumOfConsistencies cX1_sumOfConsistencies 3 (some .int) 0 := ⟨gm_347, gm_86, by decide +kernel⟩
set_option maxRecDepth 100000 in
set_option maxHeartbeats 4000000 in
theorem c_X1_sumOfConsistencies (l : Launch) (w : GP) (f : CS)  (hI : gI f)  : Met l yX1_sumOfConsistencies (gws yX1_sumOfConsistencies cX1_sumOfConsistencies 3 (some .int)) ({ frames := 4, cells := 0, slots := 0, locals := 91 }) (gPc w f [.ref (w.2.2.2 2)]) (gRd (.int (nI (scN f)))) 0 0 (fun _ => False) := by
  refine g_read (by decide) (Nat.le_of_ble_eq_true rfl) ?_
  intro P_ E_ S_ M_ B_ T_ C_ ls G hV hl
  obtain ⟨hx, hb, hml, hown, hts⟩ := id G.1
  obtain ⟨⟨hT, hT24⟩, ⟨hC, hC12⟩, ⟨hD, hD6⟩, hLn⟩ := id hI
  have hl : lv_has ls 3 [(0, .ref (w.2.2.2 2))] := hl
  refine lv_iconst (v := nI 0) hx hb dX1_sumOfConsistencies_0 (by decide) ?_
  refine lv_istore_n (lv' := [(1, .int (nI 0)), (0, .ref (w.2.2.2 2))]) hx hb dX1_sumOfConsistencies_1 rfl hl (by decide) rfl (fun ls hl => ?_)
  refine lv_iconst (v := nI 0) hx hb dX1_sumOfConsistencies_2 (by decide) ?_
  refine lv_istore_n (lv' := [(2, .int (nI 0)), (1, .int (nI 0)), (0, .ref (w.2.2.2 2))]) hx hb dX1_sumOfConsistencies_3 rfl hl (by decide) rfl (fun ls hl => ?_)
  refine g_for (P := fun k => ∀ (ls : Array Slot), lv_has ls 3 [(1, .int (nI (sm (fun t => if 0 < nL f t then csN f t else 0) k))), (2, .int (nI k)), (0, .ref (w.2.2.2 2))] → W P_ l E_ _ S_ M_ _ B_ T_ C_ S_.heap [] 0 0 _ (F0 M_ 4 ls [])) (nD f * 3) ?_ ?_ 0 (Nat.zero_le _) ls (lv_sub hl [1, 0, 2] rfl)
  · intro k hk ih ls hl
    refine lv_iload_n hx hb dX1_sumOfConsistencies_4 rfl (lv_at hl 1 rfl) ?_
    refine lv_aload_n hx hb dX1_sumOfConsistencies_5 rfl (lv_at hl 2 rfl) ?_
    refine g_callV (As := []) (rest := [.int (nI k)]) G.1 hV 2 (by decide) rfl rfl ok_X1_textCount gm_103 gm_104 gm_102 (c_X1_textCount l w f  hI ) ⟨rfl, rfl⟩ ⟨Nat.le_of_ble_eq_true rfl, Nat.le_of_ble_eq_true rfl⟩ rfl hl.1 rfl (Nat.le_of_ble_eq_true rfl) ⟨Nat.zero_le _, Nat.zero_le _⟩ dX1_sumOfConsistencies_6 ?_
    refine lv_icmp_ge (tgt := 35) hx hb dX1_sumOfConsistencies_9 (by decide) (fun c9 => ?_) (fun c9 => ?_)
    · skip
      have c9 : (nD f * 3) ≤ k := (g_le (by omega) (by omega)).mp c9
      exact absurd c9 (by omega)
    · skip
      have c9 : ¬ ((nD f * 3) ≤ k) := fun q => c9 ((g_le (by omega) (by omega)).mpr q)
      have hLt := hLn k (by omega)
      refine lv_aload_n hx hb dX1_sumOfConsistencies_12 rfl (lv_at hl 2 rfl) ?_
      refine g_get hx hb hts hown hV 2 2 (by decide) (v := .ref (w.2.2.2 16)) rfl rfl gin1 (by decide) gm_65 (rfl) dX1_sumOfConsistencies_13 ?_
      refine lv_iload_n hx hb dX1_sumOfConsistencies_16 rfl (lv_at hl 1 rfl) ?_
      refine g_ialn (a := 11) (n := 18) hx hb hV 16 (by decide) (by decide) rfl rfl (i := k) (by omega) dX1_sumOfConsistencies_17 ?_
      rw [(hLn k (by omega)).1]
      refine lv_if_le (tgt := 29) hx hb dX1_sumOfConsistencies_18 (by decide) (fun c18 => ?_) (fun c18 => ?_)
      · skip
        rw [show (0 : Int32) = nI 0 from rfl] at c18
        have c18 : (nL f k) ≤ 0 := (g_le (by omega) (by omega)).mp c18
        refine lv_iinc (v := nI (k + 1)) (lv' := [(2, .int (nI (k + 1))), (1, .int (nI (sm (fun t => if 0 < nL f t then csN f t else 0) k))), (0, .ref (w.2.2.2 2))]) hx hb dX1_sumOfConsistencies_29 hl (k := 1) rfl (g_inc k 1) (by decide) rfl (fun ls hl => ?_)
        refine lv_goto (tgt := 4) hx hb dX1_sumOfConsistencies_32 (by decide) ?_
        refine ih ls ?_
        rw [(show sm (fun t => if 0 < nL f t then csN f t else 0) (k + 1) = sm (fun t => if 0 < nL f t then csN f t else 0) k from by first | exact congrArg (sm _ k + ·) (if_neg (by omega)) | exact congrArg (sm _ k + ·) (if_pos (by omega)))]
        exact lv_sub hl [1, 0, 2] rfl
      · skip
        rw [show (0 : Int32) = nI 0 from rfl] at c18
        have c18 : ¬ ((nL f k) ≤ 0) := fun q => c18 ((g_le (by omega) (by omega)).mpr q)
        refine lv_iload_n hx hb dX1_sumOfConsistencies_21 rfl (lv_at hl 0 rfl) ?_
        refine lv_aload_n hx hb dX1_sumOfConsistencies_22 rfl (lv_at hl 2 rfl) ?_
        refine lv_iload_n hx hb dX1_sumOfConsistencies_23 rfl (lv_at hl 1 rfl) ?_
        refine g_callV (As := [.int (nI k)]) (rest := [.int (nI (sm (fun t => if 0 < nL f t then csN f t else 0) k))]) G.1 hV 2 (by decide) rfl rfl ok_X1_consistency gm_149 gm_150 gm_148 (c_X1_consistency l w f k hI (by omega)) ⟨rfl, rfl⟩ ⟨Nat.le_of_ble_eq_true rfl, Nat.le_of_ble_eq_true rfl⟩ rfl hl.1 rfl (Nat.le_of_ble_eq_true rfl) ⟨Nat.zero_le _, Nat.zero_le _⟩ dX1_sumOfConsistencies_24 ?_
        refine g_iaddn hx hb dX1_sumOfConsistencies_27 ?_
        refine lv_istore_n (lv' := [(1, .int (nI ((sm (fun t => if 0 < nL f t then csN f t else 0) k) + (csN f k)))), (2, .int (nI k)), (0, .ref (w.2.2.2 2))]) hx hb dX1_sumOfConsistencies_28 rfl hl (by decide) rfl (fun ls hl => ?_)
        refine lv_iinc (v := nI (k + 1)) (lv' := [(2, .int (nI (k + 1))), (1, .int (nI ((sm (fun t => if 0 < nL f t then csN f t else 0) k) + (csN f k)))), (0, .ref (w.2.2.2 2))]) hx hb dX1_sumOfConsistencies_29 hl (k := 1) rfl (g_inc k 1) (by decide) rfl (fun ls hl => ?_)
        refine lv_goto (tgt := 4) hx hb dX1_sumOfConsistencies_32 (by decide) ?_
        refine ih ls ?_
        rw [(show sm (fun t => if 0 < nL f t then csN f t else 0) (k + 1) = (sm (fun t => if 0 < nL f t then csN f t else 0) k) + (csN f k) from by first | exact congrArg (sm _ k + ·) (if_neg (by omega)) | exact congrArg (sm _ k + ·) (if_pos (by omega)))]
        exact lv_sub hl [1, 0, 2] rfl
  · intro ls hl
    refine lv_iload_n hx hb dX1_sumOfConsistencies_4 rfl (lv_at hl 1 rfl) ?_
    refine lv_aload_n hx hb dX1_sumOfConsistencies_5 rfl (lv_at hl 2 rfl) ?_
    refine g_callV (As := []) (rest := [.int (nI (nD f * 3))]) G.1 hV 2 (by decide) rfl rfl ok_X1_textCount gm_103 gm_104 gm_102 (c_X1_textCount l w f  hI ) ⟨rfl, rfl⟩ ⟨Nat.le_of_ble_eq_true rfl, Nat.le_of_ble_eq_true rfl⟩ rfl hl.1 rfl (Nat.le_of_ble_eq_true rfl) ⟨Nat.zero_le _, Nat.zero_le _⟩ dX1_sumOfConsistencies_6 ?_
    refine lv_icmp_ge (tgt := 35) hx hb dX1_sumOfConsistencies_9 (by decide) (fun c9 => ?_) (fun c9 => ?_)
    · skip
      have c9 : (nD f * 3) ≤ (nD f * 3) := (g_le (by omega) (by omega)).mp c9
      refine lv_iload_n hx hb dX1_sumOfConsistencies_35 rfl (lv_at hl 0 rfl) ?_
      exact g_iret G (rfl) dX1_sumOfConsistencies_36
    · skip
      have c9 : ¬ ((nD f * 3) ≤ (nD f * 3)) := fun q => c9 ((g_le (by omega) (by omega)).mpr q)
      exact absurd c9 (by omega)
end
