/-! The class's world: 56 cells, their addresses 'ad', what they hold a function f of a row's number and a place.
Rows: 0 the numbers (0 conceptCount, 1 termCount, 2 documentCount, 3 day), 1 domains, 2 concepts, 3 languages, 4 stems, 5 states, 6 votersFor, 7 votersAgainst, 8 bannedFrom, 9 graces, 60 + l known[l], 11 lengths, 12 states of texts, 20 + t forms[t], 40 + t uses[t]. -/
abbrev gcl : List vw_C := [(RX0, TX0, 12), (RX1, TX1, 6), (RX2, TX2, 3), (RX5, TX5, 6), (RJx4a65c, TJx4a65c, 3), (RJx35411, TJx35411, 4), (RX4, TX4, 2), (RJ6, TJ6, 1)]
abbrev CS : Type := Nat → Nat → Int32
def gset (f : CS) (i j : Nat) (v : Int32) : CS := fun a b => if a = i ∧ b = j then v else f a b
theorem gset_eq (f : CS) (i j : Nat) (v : Int32) : gset f i j v i j = v := if_pos ⟨rfl, rfl⟩
theorem gset_ne {f : CS} {i j a b : Nat} {v : Int32} (h : ¬ (a = i ∧ b = j)) : gset f i j v a b = f a b := if_neg h
abbrev GP : Type := va_G × ClassId × ClassId × (Nat → Nat)
def gid (j : Nat) : Nat := if j < 12 then j - 2 else if j < 16 then j + 47 else if j < 18 then j - 5 else if j < 37 then j + 1 else j + 2
def gn (j : Nat) : Nat := if j = 3 then 12 else if j < 12 then 24 else if j < 16 then 20 else if j < 18 then 18 else 12
def gE (w : GP) (f : CS) (j : Nat) : va_E :=
  if j = 0 then .inr (2, [.ref (w.2.2.2 1), .ref (w.2.2.2 2), .int (f 0 3)])
  else if j = 1 then .inr (0, [.int (f 0 0), .int (f 0 1), .ref (w.2.2.2 3), .ref (w.2.2.2 4), .ref (w.2.2.2 5), .ref (w.2.2.2 6), .ref (w.2.2.2 7), .ref (w.2.2.2 8), .ref (w.2.2.2 9), .ref (w.2.2.2 10), .ref (w.2.2.2 11), .ref (w.2.2.2 12)])
  else if j = 2 then .inr (1, [.ref (w.2.2.2 1), .int (f 0 2), .ref (w.2.2.2 16), .ref (w.2.2.2 17), .ref (w.2.2.2 18), .ref (w.2.2.2 37)])
  else if j = 12 then .inl (w.2.2.1, 3, .inr (.inr (.inr (.inr (fun i => if i < 3 then some (w.2.2.2 (13 + i)) else none)))))
  else if j = 18 then .inl (w.2.2.1, 18, .inr (.inr (.inr (.inr (fun i => if i < 18 then some (w.2.2.2 (19 + i)) else none)))))
  else if j = 37 then .inl (w.2.2.1, 18, .inr (.inr (.inr (.inr (fun i => if i < 18 then some (w.2.2.2 (38 + i)) else none)))))
  else .inl (w.2.1, gn j, .inl (f (gid j)))
def gW (w : GP) (f : CS) : va_W := (List.range 56).map (fun j => (w.2.2.2 j, gE w f j))
theorem gW_get {w : GP} {f : CS} {j : Nat} (h : j < 56) : (gW w f)[j]? = some (w.2.2.2 j, gE w f j) := by
  unfold gW
  rw [List.getElem?_map, List.getElem?_range h]
  rfl
theorem gW_of {w : GP} {f : CS} {k : Nat} {q : Nat × va_E} (h : (gW w f)[k]? = some q) : k < 56 ∧ q = (w.2.2.2 k, gE w f k) := by
  have hk : k < 56 := by
    have := (List.getElem?_eq_some_iff.mp h).1
    simpa [gW] using this
  rw [gW_get hk] at h
  exact ⟨hk, (Option.some.inj h).symm⟩
theorem gW_set {w : GP} {f f' : CS} {j : Nat} {e : va_E} (hj : j < 56) (he : gE w f' j = e) (ho : ∀ i, i < 56 → i ≠ j → gE w f' i = gE w f i) : (gW w f).set j (w.2.2.2 j, e) = gW w f' := by
  apply List.ext_getElem?
  intro i
  rw [List.getElem?_set]
  by_cases hi : i < 56
  · by_cases h : j = i
    · subst h
      rw [if_pos rfl, if_pos (by simpa [gW] using hi), gW_get hi, he]
    · rw [if_neg h, gW_get hi, gW_get hi, ho i hi (fun q => h q.symm)]
  · rw [if_neg (fun h : j = i => hi (h ▸ hj)), List.getElem?_eq_none (by simpa [gW] using hi), List.getElem?_eq_none (by simpa [gW] using hi)]
def gA (w : GP) : Nat → Prop := fun q => ∃ j, j < 56 ∧ q = w.2.2.2 j
/-- the world: in the tables of U, in the heap H -/
def GK (w : GP) (U : State) : Prop := va_K w.1 gcl [(w.2.1, .int), (w.2.2.1, .array .int)] U ∧ va_Nw (.methodLinkNest RX0 51 yX2_has "GlossaryCrown") U ∧ va_Nw (.methodLinkNest RX1 65 yX2_has "GlossaryCrown") U
def GV (w : GP) (U : State) (f : CS) (H : Heap) : Prop := GK w U ∧ va_P w.1 gcl (gW w f) H ∧ va_D (fun _ => True) (gW w f)
theorem GK.moved {w : GP} {u U : State} (hW : u.WarmedH U.vm) (h : GK w u) : GK w U := ⟨va_K.moved hW.alike h.1, va_Nw.warmM hW h.2.1, va_Nw.warmM hW h.2.2⟩
theorem GK.same {w : GP} {u U : State} (hW : u.vm = U.vm) (h : GK w u) : GK w U := ⟨va_K.moved (by rw [hW]; exact Vm.Alike.refl U.vm) h.1, va_Nw.same rfl hW h.2.1, va_Nw.same rfl hW h.2.2⟩
theorem GV.moved {w : GP} {u U : State} {f : CS} {H : Heap} (hW : u.WarmedH U.vm) (h : GV w u f H) : GV w U f H := ⟨h.1.moved hW, h.2.1, h.2.2⟩
theorem gW_D {w : GP} {f f' : CS} {A : Nat → Prop} (h : va_D A (gW w f)) : va_D A (gW w f') := by
  refine ⟨fun i j p q hp hq hpq => ?_, fun k q hq => ?_⟩
  · obtain ⟨hi, rfl⟩ := gW_of hp
    obtain ⟨hj, rfl⟩ := gW_of hq
    exact h.1 i j _ _ (gW_get hi) (gW_get hj) hpq
  · obtain ⟨hk, rfl⟩ := gW_of hq
    exact h.2 k (w.2.2.2 k, gE w f k) (gW_get hk)
theorem GV.apart {w : GP} {U : State} {f : CS} {H : Heap} (h : GV w U f H) : va_D (gA w) (gW w f) := ⟨h.2.2.1, fun k q hq => by
  obtain ⟨hk, rfl⟩ := gW_of hq
  exact ⟨k, hk, rfl⟩⟩
/-- the same, and what has changed since the start of the method: the world's cells alone, or those that A names -/
def GS (w : GP) (A : Nat → Prop) (s : State) (H : Heap) (locs : List Loc) (f : CS) : Prop := GV w s f H ∧ va_S A s.heap H locs ∧ ∀ q, gA w q → A q
theorem GV.start {w : GP} {s : State} {f : CS} (h : GV w s f s.heap) : GS w (gA w) s s.heap [] f := ⟨h, va_S.rf, fun _ h => h⟩
theorem gE_arr {w : GP} {f : CS} {j : Nat} (h : 3 ≤ j ∧ j ≠ 12 ∧ j ≠ 18 ∧ j ≠ 37) : gE w f j = .inl (w.2.1, gn j, .inl (f (gid j))) := by
  unfold gE
  rw [if_neg (by omega), if_neg (by omega), if_neg (by omega), if_neg h.2.1, if_neg h.2.2.1, if_neg h.2.2.2]
theorem gid_inj {i j : Nat} (hi : 3 ≤ i ∧ i ≠ 12 ∧ i ≠ 18 ∧ i ≠ 37) (hj : 3 ≤ j ∧ j ≠ 12 ∧ j ≠ 18 ∧ j ≠ 37) (h : gid i = gid j) (h1 : i < 56) (h2 : j < 56) : i = j := by
  unfold gid at h
  repeat' split at h
  all_goals omega
theorem gid_pos {i : Nat} (hi : 3 ≤ i ∧ i ≠ 12 ∧ i ≠ 18 ∧ i ≠ 37) : gid i ≠ 0 := by
  unfold gid
  repeat' split
  all_goals omega
theorem gE_put {w : GP} {f : CS} {i j k : Nat} {v : Int32} (hj : 3 ≤ j ∧ j ≠ 12 ∧ j ≠ 18 ∧ j ≠ 37) (hj2 : j < 56) (hi : i < 56) (h : i ≠ j) : gE w (gset f (gid j) k v) i = gE w f i := by
  have h0 : ∀ b, gset f (gid j) k v 0 b = f 0 b := fun b => gset_ne (fun q => gid_pos hj q.1.symm)
  by_cases ha : 3 ≤ i ∧ i ≠ 12 ∧ i ≠ 18 ∧ i ≠ 37
  · rw [gE_arr ha, gE_arr ha]
    have : gset f (gid j) k v (gid i) = f (gid i) := funext fun b => gset_ne (fun q => h (gid_inj ha hj q.1 hi hj2))
    rw [this]
  · have : i = 0 ∨ i = 1 ∨ i = 2 ∨ i = 12 ∨ i = 18 ∨ i = 37 := by omega
    rcases this with rfl | rfl | rfl | rfl | rfl | rfl <;> simp [gE, h0]
theorem gset_row (f : CS) (a k : Nat) (v : Int32) : gset f a k v a = upd (f a) k v := by
  funext b
  simp [gset, upd]
section GR
variable {p : Program} {l : Launch} {e : Env} {R : Room} {s : State} {m : MethodId} {args : Array Value} {below : List Frame} {meth : Method} {c : Code} {H : Heap} {locs : List Loc} {cells slots : Nat} {Q : State → Prop}
variable {cc : ByteArray} {pc : Nat} {ls : Array Slot} {rest : List Value} {w : GP} {f : CS} {A : Nat → Prop} {own : String}
/-- a field is read -/
theorem g_get (hx : p.tables.exec = Jvm.exec) (hb : c.code = cc) (hts : ∀ w ∈ gw, w.before args s = true) (hown : s.vm.findClass own = some m.cls) (hV : GV w s f H) (j k : Nat) (hj : j < 56) {ci N index : Nat} {C : String} {T : u_T} {fs : List Value} {v : Value} (he : gE w f j = .inr (ci, fs)) (hc : gcl[ci]? = some (C, T, N)) (hin : ∀ w ∈ u_ws C T N, w ∈ gw) (hk : k < N) (hlink : Cond.fieldLink own index (T k).1 (T k).2.1 (T k).2.2.1 ∈ gw) (hv : fs[k]? = some v) (hdg : decode cc pc = .ok (.getfield index, 3))
    (kk : W p l e R s m args below meth c H locs cells slots Q (F0 m (pc + 3) ls (v :: rest))) : W p l e R s m args below meth c H locs cells slots Q (F0 m pc ls (.ref (w.2.2.2 j) :: rest)) :=
  va_get hx hb hts hin hown hV.1.1 hV.2.1 j (by rw [gW_get hj, he]) hc k hk (hts _ hlink) (fun _ h => h) hv hdg kk
/-- a place of an array of ints is read -/
theorem g_iald (hx : p.tables.exec = Jvm.exec) (hb : c.code = cc) (hV : GV w s f H) (j : Nat) (hj : j < 56) (ha : 3 ≤ j ∧ j ≠ 12 ∧ j ≠ 18 ∧ j ≠ 37) {a n : Nat} (hid : gid j = a) (hn : gn j = n) {i : Int32} (hin : vp_in i n) (hdg : decode cc pc = .ok (.iaload, 1))
    (kk : W p l e R s m args below meth c H locs cells slots Q (F0 m (pc + 1) ls (.int (f a i.toNatClampNeg) :: rest))) : W p l e R s m args below meth c H locs cells slots Q (F0 m pc ls (.int i :: .ref (w.2.2.2 j) :: rest)) := by
  subst hid
  subst hn
  exact va_iald hx hb hV.1.1 hV.2.1 j 0 (by rw [gW_get hj, gE_arr ha]) rfl hin hdg kk
/-- the same, at a place that is a number -/
theorem g_ialn (hx : p.tables.exec = Jvm.exec) (hb : c.code = cc) (hV : GV w s f H) (j : Nat) (hj : j < 56) (ha : 3 ≤ j ∧ j ≠ 12 ∧ j ≠ 18 ∧ j ≠ 37) {a n : Nat} (hid : gid j = a) (hn : gn j = n) {i : Nat} (hi : i < n) (hdg : decode cc pc = .ok (.iaload, 1))
    (kk : W p l e R s m args below meth c H locs cells slots Q (F0 m (pc + 1) ls (.int (f a i) :: rest))) : W p l e R s m args below meth c H locs cells slots Q (F0 m pc ls (.int (nI i) :: .ref (w.2.2.2 j) :: rest)) := by
  have hle : n ≤ 24 := by
    rw [← hn]
    unfold gn
    repeat' split
    all_goals omega
  refine g_iald hx hb hV j hj ha hid hn (nI_in hi (by omega)) hdg ?_
  rw [nI_clamp (by omega)]
  exact kk
/-- a row of a grid is read -/
theorem g_row (hx : p.tables.exec = Jvm.exec) (hb : c.code = cc) (hV : GV w s f H) (j : Nat) {n b : Nat} (hj : j < 56) (he : gE w f j = .inl (w.2.2.1, n, .inr (.inr (.inr (.inr (fun i => if i < n then some (w.2.2.2 (b + i)) else none)))))) {i : Nat} (hi : i < n) (hn : n < 2 ^ 31) (hdg : decode cc pc = .ok (.aaload, 1))
    (kk : W p l e R s m args below meth c H locs cells slots Q (F0 m (pc + 1) ls (.ref (w.2.2.2 (b + i)) :: rest))) : W p l e R s m args below meth c H locs cells slots Q (F0 m pc ls (.int (nI i) :: .ref (w.2.2.2 j) :: rest)) := by
  have hP := hV.2.1 j _ (gW_get hj)
  rw [he] at hP
  have hcl : (nI i).toNatClampNeg = i := nI_clamp (by omega)
  refine W.aald (v := .ref (w.2.2.2 (b + i))) (ty := .array .int) hx hb hP ((hV.1.1.2 1 _ rfl).1 n (fun j => va_rf (if j < n then some (w.2.2.2 (b + j)) else none))) rfl (fun q => by cases q) ?_ ?_ rfl rfl hdg kk
  · show ¬ (_ ∨ (arrV _ _ _).slots.size ≤ _)
    rw [arrV_size]
    exact nI_in hi hn
  · show (arrV _ _ _).slots[_]? = _
    rw [hcl, arrV_read _ _ hi]
    show some (va_rf (if i < n then some (w.2.2.2 (b + i)) else none)) = _
    rw [if_pos hi]
    rfl
/-- a place of an array of ints is written -/
theorem g_iast (hx : p.tables.exec = Jvm.exec) (hb : c.code = cc) (hG : GS w A s H locs f) (j : Nat) (hj : j < 56) (ha : 3 ≤ j ∧ j ≠ 12 ∧ j ≠ 18 ∧ j ≠ 37) {a n : Nat} (hid : gid j = a) (hn : gn j = n) {i : Nat} (hi : i < n) {x : Int32} (hdg : decode cc pc = .ok (.iastore, 1))
    (kk : ∀ (H1 : Heap) (locs1 : List Loc), GS w A s H1 locs1 (gset f a i x) → W p l e R s m args below meth c H1 locs1 cells slots Q (F0 m (pc + 1) ls rest)) : W p l e R s m args below meth c H locs cells slots Q (F0 m pc ls (.int x :: .int (nI i) :: .ref (w.2.2.2 j) :: rest)) := by
  obtain ⟨hV, hS, hA⟩ := hG
  have hle : n ≤ 24 := by
    rw [← hn]
    unfold gn
    repeat' split
    all_goals omega
  subst hid
  subst hn
  have hc : (nI i).toNatClampNeg = i := nI_clamp (by omega)
  have hD : va_D A (gW w f) := hV.apart.weaken (fun _ _ _ h => hA _ h)
  refine va_iast hx hb hV.1.1 hV.2.1 hD hS j 0 (by rw [gW_get hj, gE_arr ha]) rfl (nI_in hi (by omega)) hdg (fun H1 locs1 hP hD1 hS1 => ?_)
  rw [hc] at hP
  rw [gW_set (f' := gset f (gid j) i x) hj (by rw [gE_arr ha, gset_row]) (fun i' h1 h2 => gE_put ha hj h1 h2)] at hP
  exact kk H1 locs1 ⟨⟨hV.1, hP, gW_D hV.2.2⟩, hS1, hA⟩
/-- a field is written: one of the numbers -/
theorem g_put (hx : p.tables.exec = Jvm.exec) (hb : c.code = cc) (hts : ∀ w ∈ gw, w.before args s = true) (hown : s.vm.findClass own = some m.cls) (hG : GS w A s H locs f) (j k : Nat) (hj : j < 56) {ci N index a : Nat} {C : String} {T : u_T} {ty0 : Nat → FieldType} {fs : List Value} {x : Int32} (he : gE w f j = .inr (ci, fs)) (hc : gcl[ci]? = some (C, T, N)) (hin : ∀ w ∈ u_ws C T N, w ∈ gw) (hty : ∀ k, k < N → parseFieldDescriptor (T k).2.2.1 = some (ty0 k)) (hnm : ∀ a, a < N → ∀ b, b < N → a ≠ b → (T a).2.1 ≠ (T b).2.1) (hk : k < N) (hlink : Cond.fieldLink own index (T k).1 (T k).2.1 (T k).2.2.1 ∈ gw) (hfin : (T k).2.2.2 = false) (hd : parseFieldDescriptor (T k).2.2.1 = some .int) (hl : k < fs.length) (hdg : decode cc pc = .ok (.putfield index, 3))
    (he2 : gE w (gset f 0 a x) j = .inr (ci, fs.set k (.int x))) (ho : ∀ i, i < 56 → i ≠ j → gE w (gset f 0 a x) i = gE w f i)
    (kk : ∀ (H1 : Heap) (locs1 : List Loc), GS w A s H1 locs1 (gset f 0 a x) → W p l e R s m args below meth c H1 locs1 cells slots Q (F0 m (pc + 3) ls rest)) : W p l e R s m args below meth c H locs cells slots Q (F0 m pc ls (.int x :: .ref (w.2.2.2 j) :: rest)) := by
  obtain ⟨hV, hS, hA⟩ := hG
  have hD : va_D A (gW w f) := hV.apart.weaken (fun _ _ _ h => hA _ h)
  refine va_put hx hb hts hin ty0 hty hnm hown hV.1.1 hV.2.1 hD hS j (by rw [gW_get hj, he]) hc k hk (hts _ hlink) (fun _ h => h) hfin hd rfl rfl hl hdg (fun H1 locs1 hP hD1 hS1 => ?_)
  rw [gW_set (f' := gset f 0 a x) hj he2 ho] at hP
  exact kk H1 locs1 ⟨⟨hV.1, hP, gW_D hV.2.2⟩, hS1, hA⟩
end GR
theorem gE_num {w : GP} {f : CS} {a i j : Nat} {x : Int32} (ho : (a < 2 ∧ j = 1) ∨ (a = 2 ∧ j = 2) ∨ (a = 3 ∧ j = 0)) (h : i ≠ j) : gE w (gset f 0 a x) i = gE w f i := by
  by_cases ha : 3 ≤ i ∧ i ≠ 12 ∧ i ≠ 18 ∧ i ≠ 37
  · rw [gE_arr ha, gE_arr ha]
    have : gset f 0 a x (gid i) = f (gid i) := funext fun b => gset_ne (fun q => gid_pos ha q.1)
    rw [this]
  · have : i = 0 ∨ i = 1 ∨ i = 2 ∨ i = 12 ∨ i = 18 ∨ i = 37 := by omega
    rcases this with rfl | rfl | rfl | rfl | rfl | rfl
    · simp [gE, gset_ne (show ¬ ((0 : Nat) = 0 ∧ 3 = a) by omega)]
    · simp [gE, gset_ne (show ¬ ((0 : Nat) = 0 ∧ 0 = a) by omega), gset_ne (show ¬ ((0 : Nat) = 0 ∧ 1 = a) by omega)]
    · simp [gE, gset_ne (show ¬ ((0 : Nat) = 0 ∧ 2 = a) by omega)]
    · simp [gE]
    · simp [gE]
    · simp [gE]
