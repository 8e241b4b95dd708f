/-! ===== what holds at the law's entry ===== -/
theorem at_int {s : State} {args : Array Value} (h : (Cond.arrayClass .int).before args s = true) : ∃ cA, ArrOfT s cA .int ∧ va_RA s cA .int := by
  obtain ⟨c, k, comp, h1, h2, h3⟩ := Cond.arrayClass_spec h
  exact ⟨c, fun n z => ⟨(fun k h => by cases h), k, h2, comp, h3⟩, h1⟩
theorem at_long {s : State} {args : Array Value} (h : (Cond.arrayClass .long).before args s = true) : ∃ cA, ArrOfT s cA .long ∧ va_RA s cA .long := by
  obtain ⟨c, k, comp, h1, h2, h3⟩ := Cond.arrayClass_spec h
  exact ⟨c, fun n z => ⟨(fun k h => by cases h), k, h2, comp, h3⟩, h1⟩
theorem st_u0 : ∀ w ∈ u_ws RJ0 TJ0 4, w ∈ lw_tbl := by decide +kernel
theorem st_u1 : ∀ w ∈ u_ws RJ4 TJ4 4, w ∈ lw_tbl := by decide +kernel
theorem st_u2 : ∀ w ∈ u_ws RJx4a65c TJx4a65c 3, w ∈ lw_tbl := by decide +kernel
theorem st_u3 : ∀ w ∈ u_ws RX0 TX0 5, w ∈ lw_tbl := by decide +kernel
theorem st_u4 : ∀ w ∈ u_ws RX1 TX1 9, w ∈ lw_tbl := by decide +kernel
theorem st_u5 : ∀ w ∈ u_ws RX2 TX2 2, w ∈ lw_tbl := by decide +kernel
theorem st_u6 : ∀ w ∈ u_ws RX3 TX3 5, w ∈ lw_tbl := by decide +kernel
theorem st_i0 : Cond.instantiable RJ0 4 ∈ lw_tbl := by decide +kernel
theorem st_i1 : Cond.instantiable RJ4 4 ∈ lw_tbl := by decide +kernel
theorem st_i2 : Cond.instantiable RJx4a65c 3 ∈ lw_tbl := by decide +kernel
theorem st_i3 : Cond.instantiable RX0 5 ∈ lw_tbl := by decide +kernel
theorem st_i4 : Cond.instantiable RX1 9 ∈ lw_tbl := by decide +kernel
theorem st_i5 : Cond.instantiable RX2 2 ∈ lw_tbl := by decide +kernel
theorem st_i6 : Cond.instantiable RX3 5 ∈ lw_tbl := by decide +kernel
theorem st_a0 : Cond.arrayClass .int ∈ lw_tbl := by decide +kernel
theorem st_a1 : Cond.arrayClass .long ∈ lw_tbl := by decide +kernel
theorem st_a3 : Cond.arrayOver (.object "java/lang/Object") ∈ lw_tbl := by decide +kernel
theorem st_N : ∀ w ∈ kN, w ∈ lw_tbl := by decide +kernel
theorem st_R : ∀ q ∈ kR, Cond.stringRef q.1 q.2.1 q.2.2 ∈ lw_tbl := by decide +kernel
theorem st_D : Cond.declares ⟨"java/lang/Object", "getClass", "()Ljava/lang/Class;"⟩ ∈ lw_tbl := by decide +kernel
theorem st_s0 : Cond.laysStatic "java/util/ArrayList" "DEFAULTCAPACITY_EMPTY_ELEMENTDATA" "[Ljava/lang/Object;" ∈ lw_tbl ∧ Cond.initialized "java/util/ArrayList" ∈ lw_tbl := by decide +kernel
theorem st_s1 : Cond.laysStatic Bundle.tN "UNASSIGNED_STACK" Bundle.steD ∈ lw_tbl ∧ Cond.initialized Bundle.tN ∈ lw_tbl ∧ Cond.laysStatic Bundle.tN "SUPPRESSED_SENTINEL" Bundle.listD ∈ lw_tbl := by decide +kernel
theorem st_str {s : State} {args : Array Value} {own tx : String} {k : Nat} (h : (Cond.stringRef own k tx).before args s = true) : ∃ a, (Term.string own k).eval args s none [] s = some (.ref a) := by
  simp only [Cond.before, Cond.holds, Cond.value] at h
  unfold State.resolvedAt? at h
  cases hc : s.vm.findClass own with
  | none => simp [hc] at h
  | some c =>
    cases hk : s.vm.classes[c]? with
    | none => simp [hc, hk] at h
    | some kk =>
      cases hr : (kk.resolved[k]?).join with
      | none => simp [hc, hk, hr] at h
      | some r =>
        cases r with
        | string a => exact ⟨a, by simp [Term.eval, hc, hk, hr]⟩
        | _ => simp [hc, hk, hr] at h
theorem kk_start {s : State} {args : Array Value} (hts : ∀ w ∈ lw_tbl, w.before args s = true) (hgv : (Jvm.Cond.and given_1 narrow_1).before args s = true) : ∃ G : cG, kk G (lA s) s := by
  have hs := flat_of_before _ hgv
  have hA : ∀ a : Nat, a < s.heap.size → ¬ lA s a := fun a h => Nat.not_le.mpr h
  obtain ⟨c0, i0, h0⟩ := u_known hts st_u0 (hts _ st_i0)
  obtain ⟨c1, i1, h1⟩ := u_known hts st_u1 (hts _ st_i1)
  obtain ⟨c2, i2, h2⟩ := u_known hts st_u2 (hts _ st_i2)
  obtain ⟨c3, i3, h3⟩ := u_known hts st_u3 (hts _ st_i3)
  obtain ⟨c4, i4, h4⟩ := u_known hts st_u4 (hts _ st_i4)
  obtain ⟨c5, i5, h5⟩ := u_known hts st_u5 (hts _ st_i5)
  obtain ⟨c6, i6, h6⟩ := u_known hts st_u6 (hts _ st_i6)
  obtain ⟨aI', hI1, hI2⟩ := at_int (hts _ st_a0)
  obtain ⟨aL', hL1, hL2⟩ := at_long (hts _ st_a1)
  obtain ⟨comp, aO', k9, f1, f2, f3, f4, f5⟩ := Cond.arrayOver_spec (hts _ st_a3)
  obtain ⟨t, ht, hTQ⟩ := va_Tof (tm := .static "java/util/ArrayList" "DEFAULTCAPACITY_EMPTY_ELEMENTDATA" "[Ljava/lang/Object;") (ty := .object "java/lang/Object") (N := 0) (f := fun _ => .null) (A := lA s) (by decide) (hs _ (by decide +kernel)) (va_eqt (hs _ (by decide +kernel))) (fun j hj => absurd hj (Nat.not_lt_zero _)) hA
  obtain ⟨mi, hmi⟩ := va_Mi.of (C := "[Ljava/lang/Object;") (args := args) (s := s) (hs _ (by decide +kernel))
  refine ⟨((fun k => if k = 0 then c0 else if k = 1 then c1 else if k = 2 then c2 else if k = 3 then c3 else if k = 4 then c4 else if k = 5 then c5 else c6, fun k => if k = 0 then i0 else if k = 1 then i1 else if k = 2 then i2 else if k = 3 then i3 else if k = 4 then i4 else if k = 5 then i5 else i6), (aI', aL', aI', aO'), t, mi), ⟨fun k q hq => ?_, fun k q hq => ?_⟩, va_Zof (hts _ st_s0.1) (hts _ st_s0.2) ht hA, hTQ, vx_Zqof (hts _ st_s1.1) (hts _ st_s1.2.1) (hs _ (by decide +kernel)) hA, vx_Zqof (hts _ st_s1.2.2) (hts _ st_s1.2.1) (hs _ (by decide +kernel)) hA, fun w hw => va_Nw.of (kN_on w hw) (hts _ (st_N w hw)), fun q hq => ?_, fun q hq => va_Nc.of (hs _ ?_), va_AO.of (hts _ st_a3), hmi, va_Dc.of (hts _ st_D)⟩
  · match k, hq with
    | 0, hq => cases hq; exact h0
    | 1, hq => cases hq; exact h1
    | 2, hq => cases hq; exact h2
    | 3, hq => cases hq; exact h3
    | 4, hq => cases hq; exact h4
    | 5, hq => cases hq; exact h5
    | 6, hq => cases hq; exact h6
    | k + 7, hq => simp at hq
  · match k, hq with
    | 0, hq => cases hq; exact ⟨hI1, hI2⟩
    | 1, hq => cases hq; exact ⟨hL1, hL2⟩
    | 2, hq => cases hq; exact ⟨hI1, hI2⟩
    | 3, hq => cases hq; exact ⟨fun n z => ⟨(fun k h => by cases h), k9, f3, comp, f4⟩, k9, comp, f3, f4, f1, f5⟩
    | k + 4, hq => simp [gT] at hq
  · obtain ⟨a, haQ⟩ := st_str (hts _ (st_R q hq))
    exact ⟨a, vk_R.of (hts _ (st_R q hq)) haQ⟩
  · simp only [kX, List.mem_cons, List.not_mem_nil, or_false] at hq
    rcases hq with rfl | rfl
    · decide +kernel
    · decide +kernel
