/-! What the claim gives at the start. -/
abbrev gvF : Cond := Jvm.Cond.and given_1 narrow_1
set_option maxRecDepth 100000 in
theorem st_tb : (∀ q ∈ gStr, Cond.stringRef RX2 q.1 q.2 ∈ lw_tbl) ∧ (∀ v ∈ deL, v ∈ lw_tbl) ∧ (∀ E ∈ [eA, eS, eI], Cond.castable E E ∈ lw_tbl) ∧ Cond.laysStatic Bundle.tN "UNASSIGNED_STACK" Bundle.steD ∈ lw_tbl ∧ Cond.laysStatic Bundle.tN "SUPPRESSED_SENTINEL" Bundle.listD ∈ lw_tbl ∧ Cond.initialized Bundle.tN ∈ lw_tbl ∧ Cond.methodLinkNest RX2 11 yX0_init "GlossaryCrown" ∈ lw_tbl ∧ Cond.methodLinkNest RX0 51 yX2_has "GlossaryCrown" ∈ lw_tbl ∧ Cond.methodLinkNest RX1 65 yX2_has "GlossaryCrown" ∈ lw_tbl ∧ Cond.arrayOver (.array .int) ∈ lw_tbl := by decide +kernel
set_option maxRecDepth 100000 in
theorem st_tm : ((Cond.declares yHN ∈ lw_tbl ∧ Cond.interfaceMethod yHN.cls yHN.cls yHN.name yHN.desc ∈ lw_tbl) ∧ Cond.publicMethod yJx35411_hasNext_aae02 ∈ lw_tbl ∧ Cond.unhidden RJx35411 yHN.name yHN.desc ∈ lw_tbl ∧ Cond.castable RJx35411 yHN.cls ∈ lw_tbl) ∧ (nSz ∈ lw_tbl ∧ nTx ∈ lw_tbl) ∧ (Cond.laysStatic "java/util/ArrayList" "DEFAULTCAPACITY_EMPTY_ELEMENTDATA" "[Ljava/lang/Object;" ∈ lw_tbl ∧ Cond.initialized "java/util/ArrayList" ∈ lw_tbl) ∧ (Cond.laysStatic "java/lang/Integer$IntegerCache" "high" "I" ∈ lw_tbl ∧ Cond.laysStatic "java/lang/Integer$IntegerCache" "cache" "[Ljava/lang/Integer;" ∈ lw_tbl ∧ Cond.initialized "java/lang/Integer$IntegerCache" ∈ lw_tbl) ∧ (Cond.arrayOver (.object "java/lang/Object") ∈ lw_tbl ∧ Cond.arrayOver (.object RX4) ∈ lw_tbl ∧ Cond.castable "java/lang/Integer" "java/lang/Object" ∈ lw_tbl ∧ Cond.castable "[LGlossaryCrownModel$Text;" "java/lang/Object" ∈ lw_tbl) := by decide +kernel
set_option maxRecDepth 100000 in
theorem st_fl : (∀ q ∈ gStr, Cond.exactly (.string RX2 q.1) "java/lang/String" ∈ flatC gvF) ∧ Cond.isRef (.static Bundle.tN "UNASSIGNED_STACK" Bundle.steD) ∈ flatC gvF ∧ Cond.isRef (.static Bundle.tN "SUPPRESSED_SENTINEL" Bundle.listD) ∈ flatC gvF := by decide +kernel
abbrev tEm : Term := .static "java/util/ArrayList" "DEFAULTCAPACITY_EMPTY_ELEMENTDATA" "[Ljava/lang/Object;"
abbrev tHi : Term := .static "java/lang/Integer$IntegerCache" "high" "I"
abbrev tCa : Term := .static "java/lang/Integer$IntegerCache" "cache" "[Ljava/lang/Integer;"
abbrev cCa : Cond := .all tCa (.and (.exactly (.elem tCa (.index 0)) "java/lang/Integer") (.eq (.field (.elem tCa (.index 0)) "java/lang/Integer" "value" "I") (.sub (.index 0) (.int 128))))
set_option maxRecDepth 100000 in
theorem st_fm : Cond.arrayOf tEm (.object "java/lang/Object") ∈ flatC gvF ∧ Cond.eq (.length tEm) (.int (Int32.ofNat 0)) ∈ flatC gvF ∧ Cond.eq tHi (.int 127) ∈ flatC gvF ∧ Cond.arrayOf tCa (.object "java/lang/Integer") ∈ flatC gvF ∧ Cond.eq (.length tCa) (.int (Int32.ofNat 256)) ∈ flatC gvF ∧ cCa ∈ flatC gvF := by decide +kernel
theorem st_LB {s : State} {q : Nat} (hts : ∀ w ∈ lw_tbl, w.before #[Value.ref q] s = true) (hgv : gvF.before #[Value.ref q] s = true) : LB s := by
  obtain ⟨t1, t2, t3, t4, t5, t6, _⟩ := st_tb
  obtain ⟨f1, f3, f4⟩ := st_fl
  have hF := flat_of_before _ hgv
  have hA : ∀ a : Nat, a < s.heap.size → ¬ nA s a := fun a h => Nat.not_le.mpr h
  refine ⟨vx_Zqof (hts _ t4) (hts _ t6) (hF _ f3) hA, vx_Zqof (hts _ t5) (hts _ t6) (hF _ f4) hA, ⟨va_Nw.of rfl (hts _ (t3 eA (by decide))), va_Nw.of rfl (hts _ (t3 eS (by decide))), va_Nw.of rfl (hts _ (t3 eI (by decide))), ?_⟩, fun z hz => ?_⟩
  · exact ⟨va_Nw.of rfl (hts _ (t2 _ (by simp [deL]))), va_Nw.of rfl (hts _ (t2 _ (by simp [deL]))), va_Nw.of rfl (hts _ (t2 _ (by simp [deL])))⟩
  · obtain ⟨a, _, _, _, q1, _⟩ := Cond.exactly_spec (hF _ (f1 z hz))
    exact ⟨a, vk_R.of (A := #[Value.ref q]) (hts _ (t1 z hz)) q1⟩
theorem st_Fw {s : State} {q : Nat} (hts : ∀ w ∈ lw_tbl, w.before #[Value.ref q] s = true) : mFw s := by
  obtain ⟨⟨⟨t1, t2⟩, t3, t4, t5⟩, ⟨t6, t7⟩, _⟩ := st_tm
  exact ⟨va_Fw.of (hts _ t1) (hts _ t2) (hts _ t3) (hts _ t4) (hts _ t5), va_Nw.of rfl (hts _ t6), va_Nw.of rfl (hts _ t7)⟩
theorem st_Ex {s : State} {q : Nat} (hts : ∀ w ∈ lw_tbl, w.before #[Value.ref q] s = true) (hgv : gvF.before #[Value.ref q] s = true) : ∃ (em ca : Nat) (ad : Nat → Nat), mZ em (nA s) s s.heap ∧ ∀ (u : MP) (H : Heap), u.2.2 = em → s.heap.size ≤ H.size → (∀ j, j < 4 → s.heap.size ≤ u.2.1 j) → (∀ a : Nat, a < s.heap.size → H[a]? = s.heap[a]?) → mEx s.heap.size u ca ad s H := by
  obtain ⟨_, _, ⟨t1, t2⟩, ⟨t3, t4, t5⟩, t6, t7, t8, t9⟩ := st_tm
  obtain ⟨f1, f2, f3, f4, f5, f6⟩ := st_fm
  have hF := flat_of_before _ hgv
  have hA : ∀ a : Nat, a < s.heap.size → ¬ nA s a := fun a h => Nat.not_le.mpr h
  obtain ⟨em, hem, hT⟩ := va_Tof (A := nA s) (N := 0) (f := fun _ => .null) (by decide) (hF _ f1) (va_eqt (hF _ f2)) (fun j hj => absurd hj (Nat.not_lt_zero _)) hA
  have hZ : mZ em (nA s) s s.heap := va_Zof (hts _ t1) (hts _ t2) hem hA
  have hH : va_Z "java/lang/Integer$IntegerCache" "high" "I" (.int 127) (nA s) s s.heap := va_Zof (hts _ t3) (hts _ t5) (va_eqt (hF _ f3)) hA
  obtain ⟨ad, hC, hel⟩ := vb_Cof (A := nA s) (st := tCa) rfl (va_eqt (hF _ f5)) (hF _ f6) hA
  obtain ⟨ca, hca, hTc⟩ := va_Tof (A := nA s) (N := 256) (f := fun j => .ref (ad j)) (by decide) (hF _ f4) (va_eqt (hF _ f5)) hel hA
  have hZc : va_Z "java/lang/Integer$IntegerCache" "cache" "[Ljava/lang/Integer;" (.ref ca) (nA s) s s.heap := va_Zof (hts _ t4) (hts _ t5) hca hA
  refine ⟨em, ca, ad, hZ, fun u H hu hz hu4 hk => ?_⟩
  subst hu
  have hk' : ∀ a : Nat, a < s.heap.size → ¬ nA s a → H[a]? = s.heap[a]? := fun a h _ => hk a h
  exact ⟨⟨hz, hu4⟩, ⟨hZ.kept hk', hT.kept hk'⟩, ⟨hH.kept hk', hZc.kept hk', hTc.kept hk', fun k hk9 => (hC.1 k hk9).kept hk'⟩, va_AO.of (hts _ t6), va_AO.of (hts _ t7), va_Nw.of rfl (hts _ t8), va_Nw.of rfl (hts _ t9)⟩
theorem st_tr {l : Launch} (h : l.flags = flags0) : l.stackTraces = false := by
  unfold Launch.stackTraces
  rw [h]
  decide +kernel
theorem and31 (x : Int32) : ∃ n : Nat, n < 32 ∧ x &&& 31 = nI n := by
  refine ⟨x.toBitVec.toNat % 32, Nat.mod_lt _ (by decide), ?_⟩
  apply Int32.toBitVec_inj.mp
  apply BitVec.eq_of_toNat_eq
  have h : (x &&& 31).toBitVec.toNat = x.toBitVec.toNat % 32 := by
    show (x.toBitVec &&& (31 : Int32).toBitVec).toNat = _
    rw [BitVec.toNat_and]
    exact Nat.and_two_pow_sub_one_eq_mod _ 5
  rw [h]
  show _ = (BitVec.ofNat 32 (x.toBitVec.toNat % 32)).toNat
  rw [BitVec.toNat_ofNat, Nat.mod_eq_of_lt (Nat.lt_trans (Nat.mod_lt _ (by decide)) (by decide))]
