/-! The law from its entry. -/
set_option maxRecDepth 100000 in
set_option maxHeartbeats 4000000 in
theorem whole_start {p : Program} {e : Env} {s : State} {m : MethodId} {below : List Frame} {meth : Method} {c : Code} (l : Launch) (hflags : l.flags = flags0) {b L : Nat} {xs : Nat → Int32} (hL : L ≤ 5) (C0 : lw_At p s m meth c b L xs) : W p l e room_1 s m #[Value.ref b] below meth c s.heap [] 0 0 (lw_Z below #[Value.ref b] s) (entryFrame m ([Value.ref b] : List Value).toArray 9) := by
  obtain ⟨hx, hb, hr, hml, hown, hts, hX, hbl, hlocks, hgv⟩ := id C0
  have hfl := st_tr hflags
  have htg : ∀ v ∈ gw, v.before #[Value.ref b] s = true := fun v hv => hts v (gw_in v hv)
  have hall : ∀ v ∈ gwx, v.before #[Value.ref b] s = true := fun v hv => hts v (gwx_in v hv)
  have hLB := st_LB hts hgv
  have hFw := st_Fw hts
  obtain ⟨em, ca, ad, hZ, hEx⟩ := st_Ex hts hgv
  obtain ⟨_, _, _, _, _, _, t7, t8, t9, t10⟩ := st_tb
  have n0 : va_Nw (.methodLinkNest RX2 11 yX0_init "GlossaryCrown") s := va_Nw.of rfl (hts _ t7)
  have n1 : va_Nw (.methodLinkNest RX0 51 yX2_has "GlossaryCrown") s := va_Nw.of rfl (hts _ t8)
  have n2 : va_Nw (.methodLinkNest RX1 65 yX2_has "GlossaryCrown") s := va_Nw.of rfl (hts _ t9)
  have hover : va_AOA .int s := hts _ t10
  have G : CallFix p m c cL_law 9 s #[Value.ref b] gw RL ∧ True := ⟨⟨hx, hb, hml, hown, htg⟩, trivial⟩
  obtain ⟨c0, i0, k0⟩ := u_known (C := RX0) (T := TX0) (N := 12) (n := 12) htg gin0 (htg _ gm_154)
  obtain ⟨c1, i1, k1⟩ := u_known (C := RX1) (T := TX1) (N := 6) (n := 6) htg gin1 (htg _ gm_157)
  obtain ⟨c2, i2, k2⟩ := u_known (C := RX2) (T := TX2) (N := 3) (n := 3) htg gin2 (htg _ gm_638)
  obtain ⟨c3, i3, k3⟩ := u_known (C := RX5) (T := TX5) (N := 6) (n := 6) htg gin3 (htg _ gm_640)
  obtain ⟨c4, i4, k4⟩ := u_known (C := RJx4a65c) (T := TJx4a65c) (N := 3) (n := 3) htg gin4 (htg _ gm_415)
  obtain ⟨c5, i5, k5⟩ := u_known (C := RJx35411) (T := TJx35411) (N := 4) (n := 4) htg gin5 (htg _ gm_503)
  obtain ⟨c6, i6, k6⟩ := u_known (C := RX4) (T := TX4) (N := 2) (n := 2) htg gin6 (htg _ gm_534)
  obtain ⟨c7, i7, k7⟩ := u_known (C := RJ6) (T := TJ6) (N := 1) (n := 1) htg gin7 (htg _ gm_462)
  obtain ⟨D, hKc⟩ : ∃ D : va_G, ∀ (k : Nat) (q : vw_C), gcl[k]? = some q → u_Kn s q.1 q.2.1 q.2.2 (D.1 k) (D.2 k) := by
    refine ⟨(fun k => if k = 0 then c0 else if k = 1 then c1 else if k = 2 then c2 else if k = 3 then c3 else if k = 4 then c4 else if k = 5 then c5 else if k = 6 then c6 else c7, fun k => if k = 0 then i0 else if k = 1 then i1 else if k = 2 then i2 else if k = 3 then i3 else if k = 4 then i4 else if k = 5 then i5 else if k = 6 then i6 else i7), ?_⟩
    intro k q hq
    match k, hq with
    | 0, hq => cases hq; exact k0
    | 1, hq => cases hq; exact k1
    | 2, hq => cases hq; exact k2
    | 3, hq => cases hq; exact k3
    | 4, hq => cases hq; exact k4
    | 5, hq => cases hq; exact k5
    | 6, hq => cases hq; exact k6
    | 7, hq => cases hq; exact k7
    | k + 8, hq => simp [gcl] at hq
  have hA : ∀ q : Nat, s.heap.size ≤ q → nA s q := fun _ h => h
  have hS : va_S (nA s) s.heap s.heap [] := va_S.rf
  have hK : va_K D gcl [] s := ⟨hKc, fun k q h => by simp at h⟩
  have hP : va_P D gcl [] s.heap := fun k q h => by simp at h
  have hD : va_D (nA s) [] := ⟨fun i j p q h => by simp at h, fun k q h => by simp at h⟩
  have hl := lv_entry ([.ref b]) (n := 9) (Nat.le_of_ble_eq_true rfl)
  rw [lg_entry_eq]
  generalize (lg_sl ([.ref b]) ++ List.replicate (9 - (lg_sl ([.ref b])).length) Slot.unset).toArray = ls at hl ⊢
  have hl : lv_has ls 9 [(0, .ref b)] := hl
  refine va_new (ci := 2) (fs := [.null, .null, .int 0]) (C := RX2) (T := TX2) (N := 3) hx hb htg gin2 tyX2 tyX2_ok hown (htg _ gm_637) (htg _ gm_638) (htg _ gm_18) hK hP hD hS hA rfl (fun j hj => by rcases (show j = 0 ∨ j = 1 ∨ j = 2 by omega) with rfl | rfl | rfl <;> rfl) (Nat.le_of_ble_eq_true rfl) (Nat.le_of_ble_eq_true rfl) dL_law_0 (fun q0 H hP hD hS => ?_)
  have hP : va_P D gcl [(q0, .inr (2, [.null, .null, .int 0]))] H := hP
  have hD : va_D (nA s) [(q0, .inr (2, [.null, .null, .int 0]))] := hD
  refine lv_dup hx hb dL_law_3 rfl ?_
  have hPc := hP.sub (ws' := [(q0, .inr (2, [.null, .null, .int 0]))]) [0] rfl
  have hDc := hD.sub (ws' := [(q0, .inr (2, [.null, .null, .int 0]))]) [0] (by decide) rfl
  have hKc := hK.sub (tys' := []) [] rfl
  have hFc := va_free (wc := [(q0, .inr (2, [.null, .null, .int 0]))]) hD hS hA [0] rfl
  have hq0 : nA s q0 := hD.2 0 (q0, .inr (2, [.null, .null, .int 0])) rfl
  have hHs : s.heap.size ≤ H.size := hS.1
  refine va_callv (va_runI (As := []) (rest := [.ref q0]) G.1 (c_X2_init l D q0 H.size) ⟨g_cb htg ok_X2_init gm_642 rfl rfl ⟨Nat.le_of_ble_eq_true rfl, Nat.le_of_ble_eq_true rfl⟩, rfl, htg _ gm_643⟩ ⟨fun a U g mk z => by obtain ⟨z0, z1, z2, z3, z4, z5, z6, z7, z8⟩ := z; exact ⟨z0, z1, z2, va_K.moved (u := U) (U := U.calling g mk a) (Vm.Alike.refl U.vm) z3, z4, z5.same rfl, va_Nw.same (u := U) rfl rfl z6, va_Nw.same (u := U) rfl rfl z7, va_Nw.same (u := U) rfl rfl z8⟩, fun U hU hW => ⟨rfl, by rw [hU], by rw [hU]; exact hPc, va_K.moved hW.alike hKc, hDc.weaken (fun _ _ _ _ => trivial), hover.warm hW, va_Nw.warmM hW n0, va_Nw.warmM hW n1, va_Nw.warmM hW n2⟩⟩ rfl rfl hl.1 rfl (lv_room (Nat.le_of_ble_eq_true rfl)) dL_law_4 ⟨Nat.le_of_ble_eq_true rfl, Nat.le_of_ble_eq_true rfl⟩) hS (fun q _ h => hFc q h) hFc (fun w t H1 locs ht hvm hw hB hz1 hk1 hS => ?_)
  obtain ⟨hV, hDw⟩ := hB
  have hPw := hV.2.1
  rw [ht] at hPw
  have hG : GS w (nA s) s H1 locs f0 := ⟨⟨⟨va_K.moved hvm.symm hV.1.1, n1, n2⟩, hPw, hV.2.2⟩, hS, fun z hz => by
    obtain ⟨j, hj, rfl⟩ := hz
    have := hDw.2 j _ (gW_get hj)
    rcases this with ⟨k, e9, hk9⟩ | h9
    · have hk0 : k < 1 := (List.getElem?_eq_some_iff.mp hk9).1
      rw [show k = 0 by omega] at hk9
      have e0 : q0 = w.2.2.2 j := congrArg Prod.fst (Option.some.inj hk9)
      rw [← e0]
      exact hq0
    · exact Nat.le_trans hHs h9⟩
  refine W.eq (g2 := F0 m 7 ls [.ref (w.2.2.2 0)]) (by rw [hw.2]) ?_
  refine law_house G hFw hZ hEx hG hl (fun u o cL H2 locs2 ls2 hW9 hl2 => ?_)
  have hS2 := hW9.2.1.2.2.2.2
  refine lv_iload hx hb dL_law_23 (lv_at hl2 0 rfl) ?_
  refine lv_aload_n hx hb dL_law_25 rfl (lv_at hl2 4 rfl) ?_
  refine va_slen hx hb hX hbl (Nat.not_le.mpr hbl) hS2 dL_law_26 ?_
  refine lv_iconst (v := nI 5) hx hb dL_law_27 (by decide) ?_
  refine lv_isub hx hb dL_law_28 ?_
  refine lv_icmp_gt (tgt := 1781) hx hb dL_law_29 (by decide) (fun _ => ?_) (fun c29 => ?_)
  · exact law_ret1 G hr hlocks (by decide) (by decide) hS2
  · have h5 : L = 0 ∨ L = 1 ∨ L = 2 ∨ L = 3 ∨ L = 4 ∨ L = 5 := by omega
    rcases h5 with rfl | rfl | rfl | rfl | rfl | rfl
    · exact absurd (by decide) c29
    · exact absurd (by decide) c29
    · exact absurd (by decide) c29
    · exact absurd (by decide) c29
    · exact absurd (by decide) c29
    · exact law_turn hfl G hall hLB hX hbl hr hlocks hW9 hl2
