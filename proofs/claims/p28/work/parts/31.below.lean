theorem ok_L_below : gOK yL_below cL_below 2 (some .int) 2 := ⟨gm_469, gm_468, by decide +kernel⟩
set_option maxRecDepth 100000 in
set_option maxHeartbeats 4000000 in
theorem c_L_below (l : Launch) (w : GP) (f : CS) (v : Int32) (n : Nat)  (h0 : 0 < n) (h1 : n < 2 ^ 31) : Met l yL_below (gws yL_below cL_below 2 (some .int)) ({ frames := 0, cells := 0, slots := 0, locals := 0 }) (gPc w f [.int v, .int (nI n)]) (gRd (.int (nI (blN v n)))) 0 0 (fun _ => False) := by
  refine g_read (by decide) (Nat.le_of_ble_eq_true rfl) ?_
  intro P_ E_ S_ M_ B_ T_ C_ ls G hV hl
  obtain ⟨hx, hb, hml, hown, hts⟩ := id G.1
  have hl : lv_has ls 2 [(0, .int v), (1, .int (nI n))] := hl
  obtain ⟨X, hX, eX⟩ := bl_nat v
  refine lv_iload_n hx hb dL_below_0 rfl (lv_at hl 0 rfl) ?_
  refine lv_ldc hx hb hown (hts _ gm_463) dL_below_1 ?_
  refine lv_iand hx hb dL_below_3 ?_
  rw [show v &&& 2147483647 = nI X from eX]
  refine lv_iload_n hx hb dL_below_4 rfl (lv_at hl 1 rfl) ?_
  refine g_iremn hx hb (by omega) (by omega) (by omega) dL_below_5 ?_
  exact g_iret G (by unfold blN; rw [eX, nI_clamp hX]) dL_below_6
