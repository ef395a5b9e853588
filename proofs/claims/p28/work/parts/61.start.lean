/-! What the claim gives at the start. -/
abbrev gvF : Cond := Jvm.Cond.and given_1 narrow_1
set_option maxRecDepth 100000 in
theorem st_tb : (∀ q ∈ gStr, Cond.stringRef RX2 q.1 q.2 ∈ lw_tbl) ∧ (∀ v ∈ deL, v ∈ lw_tbl) ∧ (∀ E ∈ [eA, eS, eI], Cond.castable E E ∈ lw_tbl) ∧ Cond.laysStatic Bundle.tN "UNASSIGNED_STACK" Bundle.steD ∈ lw_tbl ∧ Cond.laysStatic Bundle.tN "SUPPRESSED_SENTINEL" Bundle.listD ∈ lw_tbl ∧ Cond.initialized Bundle.tN ∈ lw_tbl ∧ Cond.methodLinkNest RX2 11 yX0_init "GlossaryCrown" ∈ lw_tbl ∧ Cond.methodLinkNest RX0 51 yX2_has "GlossaryCrown" ∈ lw_tbl ∧ Cond.methodLinkNest RX1 65 yX2_has "GlossaryCrown" ∈ lw_tbl ∧ Cond.arrayOver (.array .int) ∈ lw_tbl := by decide +kernel
set_option maxRecDepth 100000 in
theorem st_fl : (∀ q ∈ gStr, Cond.exactly (.string RX2 q.1) "java/lang/String" ∈ flatC gvF) ∧ (∀ q ∈ [(eA, eI), (eS, eI), (eS, eA)], Cond.not (.castable q.1 q.2) ∈ flatC gvF) ∧ Cond.isRef (.static Bundle.tN "UNASSIGNED_STACK" Bundle.steD) ∈ flatC gvF ∧ Cond.isRef (.static Bundle.tN "SUPPRESSED_SENTINEL" Bundle.listD) ∈ flatC gvF := by decide +kernel
theorem st_LB {s : State} {q : Nat} (hts : ∀ w ∈ lw_tbl, w.before #[Value.ref q] s = true) (hgv : gvF.before #[Value.ref q] s = true) : LB s ∧ GNc s := by
  obtain ⟨t1, t2, t3, t4, t5, t6, _⟩ := st_tb
  obtain ⟨f1, f2, f3, f4⟩ := st_fl
  have hF := flat_of_before _ hgv
  have hA : ∀ a : Nat, a < s.heap.size → ¬ nA s a := fun a h => Nat.not_le.mpr h
  refine ⟨⟨vx_Zqof (hts _ t4) (hts _ t6) (hF _ f3) hA, vx_Zqof (hts _ t5) (hts _ t6) (hF _ f4) hA, ⟨va_Nw.of rfl (hts _ (t3 eA (by decide))), va_Nw.of rfl (hts _ (t3 eS (by decide))), va_Nw.of rfl (hts _ (t3 eI (by decide))), ?_⟩, fun z hz => ?_⟩, va_Nc.of (hF _ (f2 (eA, eI) (by decide))), va_Nc.of (hF _ (f2 (eS, eI) (by decide))), va_Nc.of (hF _ (f2 (eS, eA) (by decide)))⟩
  · exact ⟨va_Nw.of rfl (hts _ (t2 _ (by simp [deL]))), va_Nw.of rfl (hts _ (t2 _ (by simp [deL]))), va_Nw.of rfl (hts _ (t2 _ (by simp [deL])))⟩
  · obtain ⟨a, _, _, _, q1, _⟩ := Cond.exactly_spec (hF _ (f1 z hz))
    exact ⟨a, vk_R.of (A := #[Value.ref q]) (hts _ (t1 z hz)) q1⟩
theorem st_tr {l : Launch} (h : l.flags = flags0) : l.stackTraces = false := by
  unfold Launch.stackTraces
  rw [h]
  decide +kernel
