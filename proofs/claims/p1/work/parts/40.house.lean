/-! The law: the two houses are built. -/
theorem mE_D {u : MP} {A : Nat → Prop} {th dy : Int32} {sm : Int64} (h : va_D A (mE u th dy sm)) : va_D (mA u) (mE u th dy sm) := ⟨h.1, fun k x hx => by
  have hk : k < 4 := (List.getElem?_eq_some_iff.mp hx).1
  have h4 : k = 0 ∨ k = 1 ∨ k = 2 ∨ k = 3 := by omega
  rcases h4 with rfl | rfl | rfl | rfl <;> cases hx
  · exact ⟨0, by decide, rfl⟩
  · exact ⟨1, by decide, rfl⟩
  · exact ⟨2, by decide, rfl⟩
  · exact ⟨3, by decide, rfl⟩⟩
theorem mE_get {u : MP} {th dy : Int32} {sm : Int64} {j : Nat} (hj : j < 4) : ∃ x : va_E, (mE u th dy sm)[j]? = some (u.2.1 j, x) := by
  have h4 : j = 0 ∨ j = 1 ∨ j = 2 ∨ j = 3 := by omega
  rcases h4 with rfl | rfl | rfl | rfl <;> exact ⟨_, rfl⟩
theorem l_last {α : Type} {l : List α} {x : α} : (l ++ [x])[l.length]? = some x := by simp
theorem l_left {α : Type} {l l2 : List α} {k : Nat} {x : α} (h : l[k]? = some x) : (l ++ l2)[k]? = some x := by
  rw [List.getElem?_append_left (List.getElem?_eq_some_iff.mp h).1]
  exact h
theorem l_right {α : Type} {l l2 : List α} {k : Nat} {x : α} (h : l2[k]? = some x) : (l ++ l2)[l.length + k]? = some x := by
  rw [List.getElem?_append_right (Nat.le_add_right _ _), Nat.add_sub_cancel_left]
  exact h
section LK4
variable {p : Program} {l : Launch} {e : Env} {R : Room} {s : State} {m : MethodId} {args : Array Value} {below : List Frame} {meth : Method} {c : Code} {H : Heap} {locs : List Loc} {cells slots : Nat} {Q : State → Prop}
variable {cc : ByteArray} {pc : Nat} {ls : Array Slot} {rest st : List Value} {mc ms : Nat} {a : Array Value}
theorem mM_back {D : va_G} {h em sz : Nat} (hr : va_Run p l e R s m args below meth c H locs cells slots mc ms (F0 m pc ls st) rest (mMx D h em sz a) (mFr h sz)) (kk : ∀ (u : MP) (H1 : Heap) (L : List Loc), u.1 = D → u.2.1 0 = h → u.2.2 = em → va_P D gcl (mE u 0 0 0) H1 → va_D (mFr h sz) (mE u 0 0 0) → H.size ≤ H1.size → (∀ z : Nat, z < H.size → ¬ z = h → H1[z]? = H[z]?) → (∀ z ∈ L, mFr h sz z.base) → W p l e R s m args below meth c H1 (locs ++ L) (cells + mc) (slots + ms) Q (F0 m (pc + 3) ls rest)) : W p l e R s m args below meth c H locs cells slots Q (F0 m pc ls st) := by
  intro T hT X
  obtain ⟨v', st₀, t, T', L, h0, X', hL, e1, e2, ⟨hv, ⟨u, ⟨hu0, hu1, hu2⟩, hP, hD⟩, hz, hk⟩, stp⟩ := hr T hT X
  cases hv
  rw [h0] at hz hk
  obtain ⟨t2, a1, b1⟩ := kk u T'.heap L hu0 hu1 hu2 (by rw [e1]; exact hP) hD (by rw [e1]; exact hz) (fun z h1 h2 => by rw [e1]; exact hk z h1 h2) hL T' rfl X'
  exact ⟨t2, stp t2 a1, b1⟩
end LK4
set_option maxRecDepth 100000 in
set_option maxHeartbeats 4000000 in
theorem law_house {p : Program} {e : Env} {S_ : State} {M_ : MethodId} {below : List Frame} {meth : Method} {c : Code} {l : Launch} {q : Nat} (G : CallFix p M_ c cL_law 9 S_ #[Value.ref q] gw RL ∧ True) (hFw : mFw S_) {em ca : Nat} {ad : Nat → Nat} (hZ : mZ em (nA S_) S_ S_.heap) (hEx : ∀ (u : MP) (H : Heap), u.2.2 = em → S_.heap.size ≤ H.size → (∀ j, j < 4 → S_.heap.size ≤ u.2.1 j) → (∀ a : Nat, a < S_.heap.size → H[a]? = S_.heap[a]?) → mEx S_.heap.size u ca ad S_ H) {w : GP} {Q : State → Prop} {H : Heap} {locs : List Loc} {ls : Array Slot} (hG : GS w (nA S_) S_ H locs f0) (hl : lv_has ls 9 [(0, .ref q)]) (kk : ∀ (u : MP) (o : Nat) (cL : ClassId) (H1 : Heap) (locs1 : List Loc) (ls1 : Array Slot), LW w u ca ad o cL S_ H1 locs1 → lv_has ls1 9 [(4, .int (nI 0)), (3, .ref o), (2, .ref (u.2.1 0)), (1, .ref (w.2.2.2 0)), (0, .ref q)] → W p l e room_1 S_ M_ #[Value.ref q] below meth c H1 locs1 61 808 Q (F0 M_ 23 ls1 [])) : W p l e room_1 S_ M_ #[Value.ref q] below meth c H locs 56 792 Q (F0 M_ 7 ls [.ref (w.2.2.2 0)]) := by
  obtain ⟨hx, hb, hml, hown, hts⟩ := id G.1
  have hK : va_K w.1 gcl [] S_ := hG.1.1.1.sub (tys' := []) [] rfl
  have hDw : va_D (nA S_) (gW w f0) := ⟨hG.1.2.2.1, fun k x hx9 => by
    obtain ⟨hk, rfl⟩ := gW_of hx9
    exact hG.2.2 _ ⟨k, hk, rfl⟩⟩
  have hA : ∀ z : Nat, S_.heap.size ≤ z → nA S_ z := fun _ h => h
  refine lv_astore_n (lv' := [(1, .ref (w.2.2.2 0)), (0, .ref q)]) hx hb dL_law_7 rfl hl (by decide) rfl (fun ls hl => ?_)
  refine va_new (ci := 3) (fs := [.int 0, .null, .null, .null, .int 0, .long 0]) (C := RX5) (T := TX5) (N := 6) hx hb hts gin3 tyX5 tyX5_ok hown (hts _ gm_639) (hts _ gm_640) (hts _ gm_434) hK hG.1.2.1 hDw hG.2.1 hA rfl (fun j hj => by rcases (show j = 0 ∨ j = 1 ∨ j = 2 ∨ j = 3 ∨ j = 4 ∨ j = 5 by omega) with rfl | rfl | rfl | rfl | rfl | rfl <;> rfl) (Nat.le_of_ble_eq_true rfl) (Nat.le_of_ble_eq_true rfl) dL_law_8 (fun q5 H hP hD hS => ?_)
  refine lv_dup hx hb dL_law_11 rfl ?_
  have hq5 : nA S_ q5 := hD.2 _ _ l_last
  have hPq : va_P w.1 gcl [(q5, .inr (3, [.int 0, .null, .null, .null, .int 0, .long 0]))] H := va_P1 hP l_last
  have hPw : va_P w.1 gcl (gW w f0) H := fun k x hx9 => hP k x (l_left hx9)
  have hne : ∀ (k : Nat) (x : Nat × va_E), (gW w f0)[k]? = some x → ¬ x.1 = q5 := fun k x hx9 e9 => by
    have h1 := hD.1 k _ _ _ (l_left hx9) l_last e9
    have h2 := (List.getElem?_eq_some_iff.mp hx9).1
    omega
  have hZq : mZ em (mFr q5 H.size) S_ H := (hZ.kept (fun z h1 h2 => hS.2.1 z h1 h2)).narrow (fun z hz => hz.elim (fun e9 => by rw [e9]; exact hq5) (fun h9 => Nat.le_trans hS.1 h9))
  refine mM_back (va_runI (As := []) (rest := [.ref q5]) G.1 (c_X5_init l w.1 q5 em H.size) ⟨g_cb hts ok_X5_init gm_645 rfl rfl ⟨Nat.le_of_ble_eq_true rfl, Nat.le_of_ble_eq_true rfl⟩, rfl, hts _ gm_646⟩ ⟨fun a U g mk z => ⟨z.1, z.2.1, va_K.moved (u := U) (U := U.calling g mk a) (Vm.Alike.refl U.vm) z.2.2.1, z.2.2.2.1, va_Z.moved (u := U) (U := U.calling g mk a) (Vm.Alike.refl U.vm) z.2.2.2.2⟩, fun U hU hW9 => ⟨rfl, by rw [hU], va_K.moved hW9.alike hK, by rw [hU]; exact hPq, by rw [hU]; exact va_Z.moved hW9.alike hZq⟩⟩ rfl rfl hl.1 rfl (lv_room (Nat.le_of_ble_eq_true rfl)) dL_law_12 ⟨Nat.le_of_ble_eq_true rfl, Nat.le_of_ble_eq_true rfl⟩) (fun u H1 L hu0 hu1 hu2 hPu hDu hz hk hL => ?_)
  subst hu1
  have hPw1 : va_P w.1 gcl (gW w f0) H1 := hPw.kept (fun k x hx9 => hk x.1 (hPw k x hx9).lt (hne k x hx9))
  have hS1 : va_S (nA S_) S_.heap H1 (locs ++ L) := ⟨Nat.le_trans hS.1 hz, fun z h1 h2 => by rw [hk z (Nat.lt_of_lt_of_le h1 hS.1) (fun e9 => h2 (by rw [e9]; exact hq5))]; exact hS.2.1 z h1 h2, fun z hz9 => by
    rcases List.mem_append.mp hz9 with h9 | h9
    · exact hS.2.2 z h9
    · rcases hL z h9 with h8 | h8
      · rw [h8]; exact hq5
      · exact Nat.le_trans hS.1 h8⟩
  have hDu1 : va_D (nA S_) (mE u 0 0 0) := hDu.weaken (fun k x hx9 h => h.elim (fun e9 => by rw [e9]; exact hq5) (fun h9 => Nat.le_trans hS.1 h9))
  have hx0 : ∀ (i j : Nat) (a b : Nat × va_E), (gW w f0)[i]? = some a → (mE u 0 0 0)[j]? = some b → a.1 ≠ b.1 := fun i j a b ha hb9 e9 => by
    rcases hDu.2 j b hb9 with h9 | h9
    · exact hne i a ha (e9.trans h9)
    · exact absurd (hPw i a ha).lt (Nat.not_lt.mpr (by rw [e9]; exact h9))
  refine lv_astore_n (lv' := [(2, .ref (u.2.1 0)), (1, .ref (w.2.2.2 0)), (0, .ref q)]) hx hb dL_law_15 rfl hl (by decide) rfl (fun ls hl => ?_)
  refine lv_iconst (v := nI 1) hx hb dL_law_16 (by decide) ?_
  refine va_newa (atype := .long) (a0 := (1, .inr (.inl (fun _ => 0)))) hx hb (hts _ gm_641) rfl hK (hPw1.app hPu) (hDw.app hDu1 hx0) hS1 hA (fun _ => rfl) (by decide) (by decide) (by decide) (Nat.le_of_ble_eq_true rfl) (Nat.le_of_ble_eq_true rfl) dL_law_17 (fun o cL H2 hK2 hP2 hD2 hS2 => ?_)
  refine lv_astore_n (lv' := [(3, .ref o), (2, .ref (u.2.1 0)), (1, .ref (w.2.2.2 0)), (0, .ref q)]) hx hb dL_law_19 rfl hl (by decide) rfl (fun ls hl => ?_)
  refine lv_iconst (v := nI 0) hx hb dL_law_20 (by decide) ?_
  refine lv_istore (lv' := [(4, .int (nI 0)), (3, .ref o), (2, .ref (u.2.1 0)), (1, .ref (w.2.2.2 0)), (0, .ref q)]) hx hb dL_law_21 hl (by decide) rfl (fun ls hl => ?_)
  have hno : ∀ (k : Nat) (x : Nat × va_E), (gW w f0 ++ mE u 0 0 0)[k]? = some x → ¬ x.1 = o := fun k x hx9 e9 => by
    have h1 := hD2.1 k _ _ _ (l_left hx9) l_last e9
    have h2 := (List.getElem?_eq_some_iff.mp hx9).1
    omega
  have hno1 : ¬ gA w o := fun ⟨j, hj, e9⟩ => hno j _ (l_left (gW_get hj)) e9.symm
  have hno2 : ¬ mA u o := fun ⟨j, hj, e9⟩ => by
    obtain ⟨x, h9⟩ := mE_get (u := u) (th := 0) (dy := 0) (sm := 0) hj
    exact hno _ _ (l_right h9) e9.symm
  have hmn : ∀ z, mA u z → nA S_ z := fun z ⟨j, hj, e9⟩ => by
    obtain ⟨x, h9⟩ := mE_get (u := u) (th := 0) (dy := 0) (sm := 0) hj
    rw [e9]
    exact hDu1.2 _ _ h9
  refine kk u o cL H2 _ ls ⟨⟨⟨hG.1.1, fun k x hx9 => hP2 k x (l_left (l_left hx9)), hG.1.2.2⟩, hS2, hG.2.2⟩, ⟨⟨by rw [hu0]; exact hK, ?_, mE_D hDu1, hFw⟩, hEx u H2 hu2 hS2.1 (fun j hj => hmn _ ⟨j, hj, rfl⟩) (fun a h => hS2.2.1 a h (Nat.not_le.mpr h)), ⟨by rw [hu0]; exact hK2, by rw [hu0]; exact va_P1 hP2 l_last⟩, ⟨hno2, hD2.2 _ _ l_last, hmn⟩, hS2⟩, hno1, ?_⟩ hl
  · rw [hu0]
    exact fun k x hx9 => hP2 _ x (l_left (l_right hx9))
  · intro z ⟨i, hi, e9⟩ ⟨j, hj, e8⟩
    obtain ⟨x, h9⟩ := mE_get (u := u) (th := 0) (dy := 0) (sm := 0) hj
    exact hx0 i j _ _ (gW_get hi) h9 (e9.symm.trans e8)
