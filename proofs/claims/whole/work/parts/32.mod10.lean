/-! ===== the model: a new one ===== -/
def RW (w : wd) (h : Nat) (L : List (Nat × va_E)) : Prop := (L.map (·.1)).Nodup ∧ ∀ p ∈ L, w p.1 = some p.2 ∧ p.1 ≠ h
theorem RW.nil {w : wd} {h : Nat} : RW w h [] := ⟨List.nodup_nil, fun p hp => (nomatch hp)⟩
theorem RW.new {w : wd} {h q : Nat} {L : List (Nat × va_E)} {e e0 : va_E} (hR : RW w h L) (hh : w h = some e0) (hq : w q = none) : RW (wup w q e) h ((q, e) :: L) := by
  refine ⟨?_, fun p hp => ?_⟩
  · rw [List.map_cons, List.nodup_cons]
    refine ⟨fun hm => ?_, hR.1⟩
    obtain ⟨p, hp, hpq⟩ := List.mem_map.mp hm
    have h1 := (hR.2 p hp).1
    rw [show p.1 = q from hpq, hq] at h1
    cases h1
  · rcases List.mem_cons.mp hp with rfl | hp
    · exact ⟨wup_s _ _ _, fun z => by
        have z : q = h := z
        rw [z, hh] at hq; cases hq⟩
    · obtain ⟨h1, h2⟩ := hR.2 p hp
      refine ⟨?_, h2⟩
      rw [wup_n _ _ (fun z => by rw [z, hq] at h1; cases h1)]
      exact h1
theorem RW.put {w : wd} {h : Nat} {L : List (Nat × va_E)} {e : va_E} (hR : RW w h L) : RW (wup w h e) h L := ⟨hR.1, fun p hp => by
  obtain ⟨h1, h2⟩ := hR.2 p hp
  exact ⟨by rw [wup_n _ _ h2]; exact h1, h2⟩⟩
theorem ne_new {w : wd} {h q : Nat} {e : va_E} (hh : w h = some e) (hq : w q = none) : h ≠ q := fun z => by rw [z, hq] at hh; cases hh
def mpos (k : Nat) : Nat := if k ≤ 11 then 17 - k else if k ≤ 15 then 18 - k else if k ≤ 19 then 20 - k else 0
theorem mpos_inj : ∀ i, i < 23 → ∀ j, j < 23 → isA i = true → isA j = true → mpos i = mpos j → i = j := by decide +kernel
theorem mpos_lt : ∀ i, i < 23 → isA i = true → mpos i < 17 := by decide +kernel
theorem isA_lt {i : Nat} (h : isA i = true) : i < 23 := by
  simp only [isA, isI, isZ, Bool.or_eq_true, beq_iff_eq] at h
  omega
section MD10
variable {l : Launch} {G : cG} {A : Nat → Prop} {w : wd} {h : Nat}
theorem v_hide {p : Program} {e : Env} {R : Room} {s : State} {m : MethodId} {args : Array Value} {below : List Frame} {meth : Method} {c : Code} {nL : Nat} {Q : State → Prop} {w1 : wd} {k n pc : Nat} {L : vLT} {st : List Value} (P : wd → Prop) (hp : P w1) (kk : ∀ w', P w' → V p l e R s m args below meth c nL G A Q w' k n pc L st) : V p l e R s m args below meth c nL G A Q w1 k n pc L st := kk w1 hp
set_option maxRecDepth 100000 in
set_option maxHeartbeats 4000000 in
theorem c_X4_init (ha : w h = some (.inr (7, [.int 0, .null, .null, .null, .null, .null, .null, .null, .null, .null, .null, .null, .int 0, .null, .null, .null, .int 0, .int 0, .null, .null, .int 0, .int 0, .null, .int 0, .int 0]))) : Met l yX4_init wsX4_init ({ frames := 8, cells := 17, slots := 632, locals := 120 } : Room) (Pw G A w [.ref h]) (va_Qv (fun w' => ∃ ad, MP G w' h ad (fun _ => 0) (fun _ _ => 0) (fun _ => 0)) (Bw G A) A) 17 632 A := by
  refine m_of (cc := cX4_init) (maxL := 1) (ret := none) (by decide) rfl (Nat.le_of_ble_eq_true rfl) ?_
  intro p e s m args below meth c hc hr hmn
  refine v_loc [(0, some (.ref h))] rfl ?_
  first | refine v_aload_n hc (i := 0) rfl dX4_init_0 rfl ?_ | refine v_aload_nN hc (i := 0) rfl dX4_init_0 rfl ?_
  refine v_objInit hc (by decide +kernel) (by decide +kernel) (by decide +kernel) (Nat.le_of_ble_eq_true rfl) (Nat.le_of_ble_eq_true rfl) dX4_init_1 ?_
  refine v_hide (fun w' => w' h = some (.inr (7, [.int 0, .null, .null, .null, .null, .null, .null, .null, .null, .null, .null, .null, .int 0, .null, .null, .null, .int 0, .int 0, .null, .null, .int 0, .int 0, .null, .int 0, .int 0])) ∧ RW w' h []) ⟨ha, RW.nil⟩ (fun w hw => ?_)
  obtain ⟨hw, hR⟩ := hw
  first | refine v_aload_n hc (i := 0) rfl dX4_init_4 rfl ?_ | refine v_aload_nN hc (i := 0) rfl dX4_init_4 rfl ?_
  refine v_bipush hc (v := nI 40) dX4_init_5 (by decide) ?_
  refine v_newa hc 40 (t0 := 0) (a0 := (40, .inl (fun _ => 0))) rfl rfl (by decide +kernel) (fun _ => rfl) rfl (by decide) (by decide) (by first | exact Nat.le_of_ble_eq_true rfl | omega | (dsimp only; omega)) (by first | exact Nat.le_of_ble_eq_true rfl | omega | (dsimp only; omega)) dX4_init_7 (fun q1 hq hqA => ?_)
  refine v_w (show _ = wup w q1 (aI G 40 (fun _ => 0)) from rfl) ?_
  have hR2 := hR.new (e := aI G 40 (fun _ => 0)) hw hq
  refine v_putF hc hmn 1 (ci := 7) rfl tyX4 tyX4_ok nmX4 (by decide +kernel) (by decide) (by decide +kernel) (fun _ h => h) rfl rfl (tyX4_ok 1 (by decide)) rfl rfl (Nat.le_of_ble_eq_true rfl) dX4_init_9 ((wup_n _ _ (ne_new hw hq)).trans hw) ?_
  refine v_hide (fun w' => w' h = some (.inr (7, [.int 0, .ref q1, .null, .null, .null, .null, .null, .null, .null, .null, .null, .null, .int 0, .null, .null, .null, .int 0, .int 0, .null, .null, .int 0, .int 0, .null, .int 0, .int 0])) ∧ RW w' h [(q1, aI G 40 (fun _ => 0))]) ⟨wup_s _ _ _, hR2.put⟩ (fun w1 hw' => ?_)
  clear hw hR2 hR hq
  obtain ⟨hw, hR⟩ := hw'
  first | refine v_aload_n hc (i := 0) rfl dX4_init_12 rfl ?_ | refine v_aload_nN hc (i := 0) rfl dX4_init_12 rfl ?_
  refine v_bipush hc (v := nI 40) dX4_init_13 (by decide) ?_
  refine v_newa hc 40 (t0 := 1) (a0 := (40, .inr (.inl (fun _ => 0)))) rfl rfl (by decide +kernel) (fun _ => rfl) rfl (by decide) (by decide) (by first | exact Nat.le_of_ble_eq_true rfl | omega | (dsimp only; omega)) (by first | exact Nat.le_of_ble_eq_true rfl | omega | (dsimp only; omega)) dX4_init_15 (fun q2 hq hqA => ?_)
  refine v_w (show _ = wup w1 q2 (aL G 40 (fun _ => 0)) from rfl) ?_
  have hR2 := hR.new (e := aL G 40 (fun _ => 0)) hw hq
  refine v_putF hc hmn 2 (ci := 7) rfl tyX4 tyX4_ok nmX4 (by decide +kernel) (by decide) (by decide +kernel) (fun _ h => h) rfl rfl (tyX4_ok 2 (by decide)) rfl rfl (Nat.le_of_ble_eq_true rfl) dX4_init_17 ((wup_n _ _ (ne_new hw hq)).trans hw) ?_
  refine v_hide (fun w' => w' h = some (.inr (7, [.int 0, .ref q1, .ref q2, .null, .null, .null, .null, .null, .null, .null, .null, .null, .int 0, .null, .null, .null, .int 0, .int 0, .null, .null, .int 0, .int 0, .null, .int 0, .int 0])) ∧ RW w' h [(q2, aL G 40 (fun _ => 0)), (q1, aI G 40 (fun _ => 0))]) ⟨wup_s _ _ _, hR2.put⟩ (fun w2 hw' => ?_)
  clear hw hR2 hR hq
  obtain ⟨hw, hR⟩ := hw'
  first | refine v_aload_n hc (i := 0) rfl dX4_init_20 rfl ?_ | refine v_aload_nN hc (i := 0) rfl dX4_init_20 rfl ?_
  refine v_bipush hc (v := nI 40) dX4_init_21 (by decide) ?_
  refine v_newa hc 40 (t0 := 2) (a0 := (40, .inl (fun _ => 0))) rfl rfl (by decide +kernel) (fun _ => rfl) rfl (by decide) (by decide) (by first | exact Nat.le_of_ble_eq_true rfl | omega | (dsimp only; omega)) (by first | exact Nat.le_of_ble_eq_true rfl | omega | (dsimp only; omega)) dX4_init_23 (fun q3 hq hqA => ?_)
  refine v_w (show _ = wup w2 q3 (aZ G 40 (fun _ => 0)) from rfl) ?_
  have hR2 := hR.new (e := aZ G 40 (fun _ => 0)) hw hq
  refine v_putF hc hmn 3 (ci := 7) rfl tyX4 tyX4_ok nmX4 (by decide +kernel) (by decide) (by decide +kernel) (fun _ h => h) rfl rfl (tyX4_ok 3 (by decide)) rfl rfl (Nat.le_of_ble_eq_true rfl) dX4_init_25 ((wup_n _ _ (ne_new hw hq)).trans hw) ?_
  refine v_hide (fun w' => w' h = some (.inr (7, [.int 0, .ref q1, .ref q2, .ref q3, .null, .null, .null, .null, .null, .null, .null, .null, .int 0, .null, .null, .null, .int 0, .int 0, .null, .null, .int 0, .int 0, .null, .int 0, .int 0])) ∧ RW w' h [(q3, aZ G 40 (fun _ => 0)), (q2, aL G 40 (fun _ => 0)), (q1, aI G 40 (fun _ => 0))]) ⟨wup_s _ _ _, hR2.put⟩ (fun w3 hw' => ?_)
  clear hw hR2 hR hq
  obtain ⟨hw, hR⟩ := hw'
  first | refine v_aload_n hc (i := 0) rfl dX4_init_28 rfl ?_ | refine v_aload_nN hc (i := 0) rfl dX4_init_28 rfl ?_
  refine v_bipush hc (v := nI 40) dX4_init_29 (by decide) ?_
  refine v_newa hc 40 (t0 := 2) (a0 := (40, .inl (fun _ => 0))) rfl rfl (by decide +kernel) (fun _ => rfl) rfl (by decide) (by decide) (by first | exact Nat.le_of_ble_eq_true rfl | omega | (dsimp only; omega)) (by first | exact Nat.le_of_ble_eq_true rfl | omega | (dsimp only; omega)) dX4_init_31 (fun q4 hq hqA => ?_)
  refine v_w (show _ = wup w3 q4 (aZ G 40 (fun _ => 0)) from rfl) ?_
  have hR2 := hR.new (e := aZ G 40 (fun _ => 0)) hw hq
  refine v_putF hc hmn 4 (ci := 7) rfl tyX4 tyX4_ok nmX4 (by decide +kernel) (by decide) (by decide +kernel) (fun _ h => h) rfl rfl (tyX4_ok 4 (by decide)) rfl rfl (Nat.le_of_ble_eq_true rfl) dX4_init_33 ((wup_n _ _ (ne_new hw hq)).trans hw) ?_
  refine v_hide (fun w' => w' h = some (.inr (7, [.int 0, .ref q1, .ref q2, .ref q3, .ref q4, .null, .null, .null, .null, .null, .null, .null, .int 0, .null, .null, .null, .int 0, .int 0, .null, .null, .int 0, .int 0, .null, .int 0, .int 0])) ∧ RW w' h [(q4, aZ G 40 (fun _ => 0)), (q3, aZ G 40 (fun _ => 0)), (q2, aL G 40 (fun _ => 0)), (q1, aI G 40 (fun _ => 0))]) ⟨wup_s _ _ _, hR2.put⟩ (fun w4 hw' => ?_)
  clear hw hR2 hR hq
  obtain ⟨hw, hR⟩ := hw'
  first | refine v_aload_n hc (i := 0) rfl dX4_init_36 rfl ?_ | refine v_aload_nN hc (i := 0) rfl dX4_init_36 rfl ?_
  refine v_bipush hc (v := nI 40) dX4_init_37 (by decide) ?_
  refine v_newa hc 40 (t0 := 2) (a0 := (40, .inl (fun _ => 0))) rfl rfl (by decide +kernel) (fun _ => rfl) rfl (by decide) (by decide) (by first | exact Nat.le_of_ble_eq_true rfl | omega | (dsimp only; omega)) (by first | exact Nat.le_of_ble_eq_true rfl | omega | (dsimp only; omega)) dX4_init_39 (fun q5 hq hqA => ?_)
  refine v_w (show _ = wup w4 q5 (aZ G 40 (fun _ => 0)) from rfl) ?_
  have hR2 := hR.new (e := aZ G 40 (fun _ => 0)) hw hq
  refine v_putF hc hmn 5 (ci := 7) rfl tyX4 tyX4_ok nmX4 (by decide +kernel) (by decide) (by decide +kernel) (fun _ h => h) rfl rfl (tyX4_ok 5 (by decide)) rfl rfl (Nat.le_of_ble_eq_true rfl) dX4_init_41 ((wup_n _ _ (ne_new hw hq)).trans hw) ?_
  refine v_hide (fun w' => w' h = some (.inr (7, [.int 0, .ref q1, .ref q2, .ref q3, .ref q4, .ref q5, .null, .null, .null, .null, .null, .null, .int 0, .null, .null, .null, .int 0, .int 0, .null, .null, .int 0, .int 0, .null, .int 0, .int 0])) ∧ RW w' h [(q5, aZ G 40 (fun _ => 0)), (q4, aZ G 40 (fun _ => 0)), (q3, aZ G 40 (fun _ => 0)), (q2, aL G 40 (fun _ => 0)), (q1, aI G 40 (fun _ => 0))]) ⟨wup_s _ _ _, hR2.put⟩ (fun w5 hw' => ?_)
  clear hw hR2 hR hq
  obtain ⟨hw, hR⟩ := hw'
  first | refine v_aload_n hc (i := 0) rfl dX4_init_44 rfl ?_ | refine v_aload_nN hc (i := 0) rfl dX4_init_44 rfl ?_
  refine v_bipush hc (v := nI 40) dX4_init_45 (by decide) ?_
  refine v_newa hc 40 (t0 := 2) (a0 := (40, .inl (fun _ => 0))) rfl rfl (by decide +kernel) (fun _ => rfl) rfl (by decide) (by decide) (by first | exact Nat.le_of_ble_eq_true rfl | omega | (dsimp only; omega)) (by first | exact Nat.le_of_ble_eq_true rfl | omega | (dsimp only; omega)) dX4_init_47 (fun q6 hq hqA => ?_)
  refine v_w (show _ = wup w5 q6 (aZ G 40 (fun _ => 0)) from rfl) ?_
  have hR2 := hR.new (e := aZ G 40 (fun _ => 0)) hw hq
  refine v_putF hc hmn 6 (ci := 7) rfl tyX4 tyX4_ok nmX4 (by decide +kernel) (by decide) (by decide +kernel) (fun _ h => h) rfl rfl (tyX4_ok 6 (by decide)) rfl rfl (Nat.le_of_ble_eq_true rfl) dX4_init_49 ((wup_n _ _ (ne_new hw hq)).trans hw) ?_
  refine v_hide (fun w' => w' h = some (.inr (7, [.int 0, .ref q1, .ref q2, .ref q3, .ref q4, .ref q5, .ref q6, .null, .null, .null, .null, .null, .int 0, .null, .null, .null, .int 0, .int 0, .null, .null, .int 0, .int 0, .null, .int 0, .int 0])) ∧ RW w' h [(q6, aZ G 40 (fun _ => 0)), (q5, aZ G 40 (fun _ => 0)), (q4, aZ G 40 (fun _ => 0)), (q3, aZ G 40 (fun _ => 0)), (q2, aL G 40 (fun _ => 0)), (q1, aI G 40 (fun _ => 0))]) ⟨wup_s _ _ _, hR2.put⟩ (fun w6 hw' => ?_)
  clear hw hR2 hR hq
  obtain ⟨hw, hR⟩ := hw'
  first | refine v_aload_n hc (i := 0) rfl dX4_init_52 rfl ?_ | refine v_aload_nN hc (i := 0) rfl dX4_init_52 rfl ?_
  refine v_bipush hc (v := nI 40) dX4_init_53 (by decide) ?_
  refine v_newa hc 40 (t0 := 0) (a0 := (40, .inl (fun _ => 0))) rfl rfl (by decide +kernel) (fun _ => rfl) rfl (by decide) (by decide) (by first | exact Nat.le_of_ble_eq_true rfl | omega | (dsimp only; omega)) (by first | exact Nat.le_of_ble_eq_true rfl | omega | (dsimp only; omega)) dX4_init_55 (fun q7 hq hqA => ?_)
  refine v_w (show _ = wup w6 q7 (aI G 40 (fun _ => 0)) from rfl) ?_
  have hR2 := hR.new (e := aI G 40 (fun _ => 0)) hw hq
  refine v_putF hc hmn 7 (ci := 7) rfl tyX4 tyX4_ok nmX4 (by decide +kernel) (by decide) (by decide +kernel) (fun _ h => h) rfl rfl (tyX4_ok 7 (by decide)) rfl rfl (Nat.le_of_ble_eq_true rfl) dX4_init_57 ((wup_n _ _ (ne_new hw hq)).trans hw) ?_
  refine v_hide (fun w' => w' h = some (.inr (7, [.int 0, .ref q1, .ref q2, .ref q3, .ref q4, .ref q5, .ref q6, .ref q7, .null, .null, .null, .null, .int 0, .null, .null, .null, .int 0, .int 0, .null, .null, .int 0, .int 0, .null, .int 0, .int 0])) ∧ RW w' h [(q7, aI G 40 (fun _ => 0)), (q6, aZ G 40 (fun _ => 0)), (q5, aZ G 40 (fun _ => 0)), (q4, aZ G 40 (fun _ => 0)), (q3, aZ G 40 (fun _ => 0)), (q2, aL G 40 (fun _ => 0)), (q1, aI G 40 (fun _ => 0))]) ⟨wup_s _ _ _, hR2.put⟩ (fun w7 hw' => ?_)
  clear hw hR2 hR hq
  obtain ⟨hw, hR⟩ := hw'
  first | refine v_aload_n hc (i := 0) rfl dX4_init_60 rfl ?_ | refine v_aload_nN hc (i := 0) rfl dX4_init_60 rfl ?_
  refine v_bipush hc (v := nI 40) dX4_init_61 (by decide) ?_
  refine v_newa hc 40 (t0 := 0) (a0 := (40, .inl (fun _ => 0))) rfl rfl (by decide +kernel) (fun _ => rfl) rfl (by decide) (by decide) (by first | exact Nat.le_of_ble_eq_true rfl | omega | (dsimp only; omega)) (by first | exact Nat.le_of_ble_eq_true rfl | omega | (dsimp only; omega)) dX4_init_63 (fun q8 hq hqA => ?_)
  refine v_w (show _ = wup w7 q8 (aI G 40 (fun _ => 0)) from rfl) ?_
  have hR2 := hR.new (e := aI G 40 (fun _ => 0)) hw hq
  refine v_putF hc hmn 8 (ci := 7) rfl tyX4 tyX4_ok nmX4 (by decide +kernel) (by decide) (by decide +kernel) (fun _ h => h) rfl rfl (tyX4_ok 8 (by decide)) rfl rfl (Nat.le_of_ble_eq_true rfl) dX4_init_65 ((wup_n _ _ (ne_new hw hq)).trans hw) ?_
  refine v_hide (fun w' => w' h = some (.inr (7, [.int 0, .ref q1, .ref q2, .ref q3, .ref q4, .ref q5, .ref q6, .ref q7, .ref q8, .null, .null, .null, .int 0, .null, .null, .null, .int 0, .int 0, .null, .null, .int 0, .int 0, .null, .int 0, .int 0])) ∧ RW w' h [(q8, aI G 40 (fun _ => 0)), (q7, aI G 40 (fun _ => 0)), (q6, aZ G 40 (fun _ => 0)), (q5, aZ G 40 (fun _ => 0)), (q4, aZ G 40 (fun _ => 0)), (q3, aZ G 40 (fun _ => 0)), (q2, aL G 40 (fun _ => 0)), (q1, aI G 40 (fun _ => 0))]) ⟨wup_s _ _ _, hR2.put⟩ (fun w8 hw' => ?_)
  clear hw hR2 hR hq
  obtain ⟨hw, hR⟩ := hw'
  first | refine v_aload_n hc (i := 0) rfl dX4_init_68 rfl ?_ | refine v_aload_nN hc (i := 0) rfl dX4_init_68 rfl ?_
  refine v_bipush hc (v := nI 40) dX4_init_69 (by decide) ?_
  refine v_newa hc 40 (t0 := 0) (a0 := (40, .inl (fun _ => 0))) rfl rfl (by decide +kernel) (fun _ => rfl) rfl (by decide) (by decide) (by first | exact Nat.le_of_ble_eq_true rfl | omega | (dsimp only; omega)) (by first | exact Nat.le_of_ble_eq_true rfl | omega | (dsimp only; omega)) dX4_init_71 (fun q9 hq hqA => ?_)
  refine v_w (show _ = wup w8 q9 (aI G 40 (fun _ => 0)) from rfl) ?_
  have hR2 := hR.new (e := aI G 40 (fun _ => 0)) hw hq
  refine v_putF hc hmn 9 (ci := 7) rfl tyX4 tyX4_ok nmX4 (by decide +kernel) (by decide) (by decide +kernel) (fun _ h => h) rfl rfl (tyX4_ok 9 (by decide)) rfl rfl (Nat.le_of_ble_eq_true rfl) dX4_init_73 ((wup_n _ _ (ne_new hw hq)).trans hw) ?_
  refine v_hide (fun w' => w' h = some (.inr (7, [.int 0, .ref q1, .ref q2, .ref q3, .ref q4, .ref q5, .ref q6, .ref q7, .ref q8, .ref q9, .null, .null, .int 0, .null, .null, .null, .int 0, .int 0, .null, .null, .int 0, .int 0, .null, .int 0, .int 0])) ∧ RW w' h [(q9, aI G 40 (fun _ => 0)), (q8, aI G 40 (fun _ => 0)), (q7, aI G 40 (fun _ => 0)), (q6, aZ G 40 (fun _ => 0)), (q5, aZ G 40 (fun _ => 0)), (q4, aZ G 40 (fun _ => 0)), (q3, aZ G 40 (fun _ => 0)), (q2, aL G 40 (fun _ => 0)), (q1, aI G 40 (fun _ => 0))]) ⟨wup_s _ _ _, hR2.put⟩ (fun w9 hw' => ?_)
  clear hw hR2 hR hq
  obtain ⟨hw, hR⟩ := hw'
  first | refine v_aload_n hc (i := 0) rfl dX4_init_76 rfl ?_ | refine v_aload_nN hc (i := 0) rfl dX4_init_76 rfl ?_
  refine v_bipush hc (v := nI 40) dX4_init_77 (by decide) ?_
  refine v_newa hc 40 (t0 := 0) (a0 := (40, .inl (fun _ => 0))) rfl rfl (by decide +kernel) (fun _ => rfl) rfl (by decide) (by decide) (by first | exact Nat.le_of_ble_eq_true rfl | omega | (dsimp only; omega)) (by first | exact Nat.le_of_ble_eq_true rfl | omega | (dsimp only; omega)) dX4_init_79 (fun q10 hq hqA => ?_)
  refine v_w (show _ = wup w9 q10 (aI G 40 (fun _ => 0)) from rfl) ?_
  have hR2 := hR.new (e := aI G 40 (fun _ => 0)) hw hq
  refine v_putF hc hmn 10 (ci := 7) rfl tyX4 tyX4_ok nmX4 (by decide +kernel) (by decide) (by decide +kernel) (fun _ h => h) rfl rfl (tyX4_ok 10 (by decide)) rfl rfl (Nat.le_of_ble_eq_true rfl) dX4_init_81 ((wup_n _ _ (ne_new hw hq)).trans hw) ?_
  refine v_hide (fun w' => w' h = some (.inr (7, [.int 0, .ref q1, .ref q2, .ref q3, .ref q4, .ref q5, .ref q6, .ref q7, .ref q8, .ref q9, .ref q10, .null, .int 0, .null, .null, .null, .int 0, .int 0, .null, .null, .int 0, .int 0, .null, .int 0, .int 0])) ∧ RW w' h [(q10, aI G 40 (fun _ => 0)), (q9, aI G 40 (fun _ => 0)), (q8, aI G 40 (fun _ => 0)), (q7, aI G 40 (fun _ => 0)), (q6, aZ G 40 (fun _ => 0)), (q5, aZ G 40 (fun _ => 0)), (q4, aZ G 40 (fun _ => 0)), (q3, aZ G 40 (fun _ => 0)), (q2, aL G 40 (fun _ => 0)), (q1, aI G 40 (fun _ => 0))]) ⟨wup_s _ _ _, hR2.put⟩ (fun w10 hw' => ?_)
  clear hw hR2 hR hq
  obtain ⟨hw, hR⟩ := hw'
  first | refine v_aload_n hc (i := 0) rfl dX4_init_84 rfl ?_ | refine v_aload_nN hc (i := 0) rfl dX4_init_84 rfl ?_
  refine v_bipush hc (v := nI 40) dX4_init_85 (by decide) ?_
  refine v_newa hc 40 (t0 := 0) (a0 := (40, .inl (fun _ => 0))) rfl rfl (by decide +kernel) (fun _ => rfl) rfl (by decide) (by decide) (by first | exact Nat.le_of_ble_eq_true rfl | omega | (dsimp only; omega)) (by first | exact Nat.le_of_ble_eq_true rfl | omega | (dsimp only; omega)) dX4_init_87 (fun q11 hq hqA => ?_)
  refine v_w (show _ = wup w10 q11 (aI G 40 (fun _ => 0)) from rfl) ?_
  have hR2 := hR.new (e := aI G 40 (fun _ => 0)) hw hq
  refine v_putF hc hmn 11 (ci := 7) rfl tyX4 tyX4_ok nmX4 (by decide +kernel) (by decide) (by decide +kernel) (fun _ h => h) rfl rfl (tyX4_ok 11 (by decide)) rfl rfl (Nat.le_of_ble_eq_true rfl) dX4_init_89 ((wup_n _ _ (ne_new hw hq)).trans hw) ?_
  refine v_hide (fun w' => w' h = some (.inr (7, [.int 0, .ref q1, .ref q2, .ref q3, .ref q4, .ref q5, .ref q6, .ref q7, .ref q8, .ref q9, .ref q10, .ref q11, .int 0, .null, .null, .null, .int 0, .int 0, .null, .null, .int 0, .int 0, .null, .int 0, .int 0])) ∧ RW w' h [(q11, aI G 40 (fun _ => 0)), (q10, aI G 40 (fun _ => 0)), (q9, aI G 40 (fun _ => 0)), (q8, aI G 40 (fun _ => 0)), (q7, aI G 40 (fun _ => 0)), (q6, aZ G 40 (fun _ => 0)), (q5, aZ G 40 (fun _ => 0)), (q4, aZ G 40 (fun _ => 0)), (q3, aZ G 40 (fun _ => 0)), (q2, aL G 40 (fun _ => 0)), (q1, aI G 40 (fun _ => 0))]) ⟨wup_s _ _ _, hR2.put⟩ (fun w11 hw' => ?_)
  clear hw hR2 hR hq
  obtain ⟨hw, hR⟩ := hw'
  first | refine v_aload_n hc (i := 0) rfl dX4_init_92 rfl ?_ | refine v_aload_nN hc (i := 0) rfl dX4_init_92 rfl ?_
  refine v_bipush hc (v := nI 40) dX4_init_93 (by decide) ?_
  refine v_newa hc 40 (t0 := 0) (a0 := (40, .inl (fun _ => 0))) rfl rfl (by decide +kernel) (fun _ => rfl) rfl (by decide) (by decide) (by first | exact Nat.le_of_ble_eq_true rfl | omega | (dsimp only; omega)) (by first | exact Nat.le_of_ble_eq_true rfl | omega | (dsimp only; omega)) dX4_init_95 (fun q13 hq hqA => ?_)
  refine v_w (show _ = wup w11 q13 (aI G 40 (fun _ => 0)) from rfl) ?_
  have hR2 := hR.new (e := aI G 40 (fun _ => 0)) hw hq
  refine v_putF hc hmn 13 (ci := 7) rfl tyX4 tyX4_ok nmX4 (by decide +kernel) (by decide) (by decide +kernel) (fun _ h => h) rfl rfl (tyX4_ok 13 (by decide)) rfl rfl (Nat.le_of_ble_eq_true rfl) dX4_init_97 ((wup_n _ _ (ne_new hw hq)).trans hw) ?_
  refine v_hide (fun w' => w' h = some (.inr (7, [.int 0, .ref q1, .ref q2, .ref q3, .ref q4, .ref q5, .ref q6, .ref q7, .ref q8, .ref q9, .ref q10, .ref q11, .int 0, .ref q13, .null, .null, .int 0, .int 0, .null, .null, .int 0, .int 0, .null, .int 0, .int 0])) ∧ RW w' h [(q13, aI G 40 (fun _ => 0)), (q11, aI G 40 (fun _ => 0)), (q10, aI G 40 (fun _ => 0)), (q9, aI G 40 (fun _ => 0)), (q8, aI G 40 (fun _ => 0)), (q7, aI G 40 (fun _ => 0)), (q6, aZ G 40 (fun _ => 0)), (q5, aZ G 40 (fun _ => 0)), (q4, aZ G 40 (fun _ => 0)), (q3, aZ G 40 (fun _ => 0)), (q2, aL G 40 (fun _ => 0)), (q1, aI G 40 (fun _ => 0))]) ⟨wup_s _ _ _, hR2.put⟩ (fun w12 hw' => ?_)
  clear hw hR2 hR hq
  obtain ⟨hw, hR⟩ := hw'
  first | refine v_aload_n hc (i := 0) rfl dX4_init_100 rfl ?_ | refine v_aload_nN hc (i := 0) rfl dX4_init_100 rfl ?_
  refine v_bipush hc (v := nI 40) dX4_init_101 (by decide) ?_
  refine v_newa hc 40 (t0 := 0) (a0 := (40, .inl (fun _ => 0))) rfl rfl (by decide +kernel) (fun _ => rfl) rfl (by decide) (by decide) (by first | exact Nat.le_of_ble_eq_true rfl | omega | (dsimp only; omega)) (by first | exact Nat.le_of_ble_eq_true rfl | omega | (dsimp only; omega)) dX4_init_103 (fun q14 hq hqA => ?_)
  refine v_w (show _ = wup w12 q14 (aI G 40 (fun _ => 0)) from rfl) ?_
  have hR2 := hR.new (e := aI G 40 (fun _ => 0)) hw hq
  refine v_putF hc hmn 14 (ci := 7) rfl tyX4 tyX4_ok nmX4 (by decide +kernel) (by decide) (by decide +kernel) (fun _ h => h) rfl rfl (tyX4_ok 14 (by decide)) rfl rfl (Nat.le_of_ble_eq_true rfl) dX4_init_105 ((wup_n _ _ (ne_new hw hq)).trans hw) ?_
  refine v_hide (fun w' => w' h = some (.inr (7, [.int 0, .ref q1, .ref q2, .ref q3, .ref q4, .ref q5, .ref q6, .ref q7, .ref q8, .ref q9, .ref q10, .ref q11, .int 0, .ref q13, .ref q14, .null, .int 0, .int 0, .null, .null, .int 0, .int 0, .null, .int 0, .int 0])) ∧ RW w' h [(q14, aI G 40 (fun _ => 0)), (q13, aI G 40 (fun _ => 0)), (q11, aI G 40 (fun _ => 0)), (q10, aI G 40 (fun _ => 0)), (q9, aI G 40 (fun _ => 0)), (q8, aI G 40 (fun _ => 0)), (q7, aI G 40 (fun _ => 0)), (q6, aZ G 40 (fun _ => 0)), (q5, aZ G 40 (fun _ => 0)), (q4, aZ G 40 (fun _ => 0)), (q3, aZ G 40 (fun _ => 0)), (q2, aL G 40 (fun _ => 0)), (q1, aI G 40 (fun _ => 0))]) ⟨wup_s _ _ _, hR2.put⟩ (fun w13 hw' => ?_)
  clear hw hR2 hR hq
  obtain ⟨hw, hR⟩ := hw'
  first | refine v_aload_n hc (i := 0) rfl dX4_init_108 rfl ?_ | refine v_aload_nN hc (i := 0) rfl dX4_init_108 rfl ?_
  refine v_bipush hc (v := nI 40) dX4_init_109 (by decide) ?_
  refine v_newa hc 40 (t0 := 0) (a0 := (40, .inl (fun _ => 0))) rfl rfl (by decide +kernel) (fun _ => rfl) rfl (by decide) (by decide) (by first | exact Nat.le_of_ble_eq_true rfl | omega | (dsimp only; omega)) (by first | exact Nat.le_of_ble_eq_true rfl | omega | (dsimp only; omega)) dX4_init_111 (fun q15 hq hqA => ?_)
  refine v_w (show _ = wup w13 q15 (aI G 40 (fun _ => 0)) from rfl) ?_
  have hR2 := hR.new (e := aI G 40 (fun _ => 0)) hw hq
  refine v_putF hc hmn 15 (ci := 7) rfl tyX4 tyX4_ok nmX4 (by decide +kernel) (by decide) (by decide +kernel) (fun _ h => h) rfl rfl (tyX4_ok 15 (by decide)) rfl rfl (Nat.le_of_ble_eq_true rfl) dX4_init_113 ((wup_n _ _ (ne_new hw hq)).trans hw) ?_
  refine v_hide (fun w' => w' h = some (.inr (7, [.int 0, .ref q1, .ref q2, .ref q3, .ref q4, .ref q5, .ref q6, .ref q7, .ref q8, .ref q9, .ref q10, .ref q11, .int 0, .ref q13, .ref q14, .ref q15, .int 0, .int 0, .null, .null, .int 0, .int 0, .null, .int 0, .int 0])) ∧ RW w' h [(q15, aI G 40 (fun _ => 0)), (q14, aI G 40 (fun _ => 0)), (q13, aI G 40 (fun _ => 0)), (q11, aI G 40 (fun _ => 0)), (q10, aI G 40 (fun _ => 0)), (q9, aI G 40 (fun _ => 0)), (q8, aI G 40 (fun _ => 0)), (q7, aI G 40 (fun _ => 0)), (q6, aZ G 40 (fun _ => 0)), (q5, aZ G 40 (fun _ => 0)), (q4, aZ G 40 (fun _ => 0)), (q3, aZ G 40 (fun _ => 0)), (q2, aL G 40 (fun _ => 0)), (q1, aI G 40 (fun _ => 0))]) ⟨wup_s _ _ _, hR2.put⟩ (fun w14 hw' => ?_)
  clear hw hR2 hR hq
  obtain ⟨hw, hR⟩ := hw'
  first | refine v_aload_n hc (i := 0) rfl dX4_init_116 rfl ?_ | refine v_aload_nN hc (i := 0) rfl dX4_init_116 rfl ?_
  refine v_bipush hc (v := nI 16) dX4_init_117 (by decide) ?_
  refine v_newa hc 16 (t0 := 0) (a0 := (16, .inl (fun _ => 0))) rfl rfl (by decide +kernel) (fun _ => rfl) rfl (by decide) (by decide) (by first | exact Nat.le_of_ble_eq_true rfl | omega | (dsimp only; omega)) (by first | exact Nat.le_of_ble_eq_true rfl | omega | (dsimp only; omega)) dX4_init_119 (fun q18 hq hqA => ?_)
  refine v_w (show _ = wup w14 q18 (aI G 16 (fun _ => 0)) from rfl) ?_
  have hR2 := hR.new (e := aI G 16 (fun _ => 0)) hw hq
  refine v_putF hc hmn 18 (ci := 7) rfl tyX4 tyX4_ok nmX4 (by decide +kernel) (by decide) (by decide +kernel) (fun _ h => h) rfl rfl (tyX4_ok 18 (by decide)) rfl rfl (Nat.le_of_ble_eq_true rfl) dX4_init_121 ((wup_n _ _ (ne_new hw hq)).trans hw) ?_
  refine v_hide (fun w' => w' h = some (.inr (7, [.int 0, .ref q1, .ref q2, .ref q3, .ref q4, .ref q5, .ref q6, .ref q7, .ref q8, .ref q9, .ref q10, .ref q11, .int 0, .ref q13, .ref q14, .ref q15, .int 0, .int 0, .ref q18, .null, .int 0, .int 0, .null, .int 0, .int 0])) ∧ RW w' h [(q18, aI G 16 (fun _ => 0)), (q15, aI G 40 (fun _ => 0)), (q14, aI G 40 (fun _ => 0)), (q13, aI G 40 (fun _ => 0)), (q11, aI G 40 (fun _ => 0)), (q10, aI G 40 (fun _ => 0)), (q9, aI G 40 (fun _ => 0)), (q8, aI G 40 (fun _ => 0)), (q7, aI G 40 (fun _ => 0)), (q6, aZ G 40 (fun _ => 0)), (q5, aZ G 40 (fun _ => 0)), (q4, aZ G 40 (fun _ => 0)), (q3, aZ G 40 (fun _ => 0)), (q2, aL G 40 (fun _ => 0)), (q1, aI G 40 (fun _ => 0))]) ⟨wup_s _ _ _, hR2.put⟩ (fun w15 hw' => ?_)
  clear hw hR2 hR hq
  obtain ⟨hw, hR⟩ := hw'
  first | refine v_aload_n hc (i := 0) rfl dX4_init_124 rfl ?_ | refine v_aload_nN hc (i := 0) rfl dX4_init_124 rfl ?_
  refine v_bipush hc (v := nI 16) dX4_init_125 (by decide) ?_
  refine v_newa hc 16 (t0 := 0) (a0 := (16, .inl (fun _ => 0))) rfl rfl (by decide +kernel) (fun _ => rfl) rfl (by decide) (by decide) (by first | exact Nat.le_of_ble_eq_true rfl | omega | (dsimp only; omega)) (by first | exact Nat.le_of_ble_eq_true rfl | omega | (dsimp only; omega)) dX4_init_127 (fun q19 hq hqA => ?_)
  refine v_w (show _ = wup w15 q19 (aI G 16 (fun _ => 0)) from rfl) ?_
  have hR2 := hR.new (e := aI G 16 (fun _ => 0)) hw hq
  refine v_putF hc hmn 19 (ci := 7) rfl tyX4 tyX4_ok nmX4 (by decide +kernel) (by decide) (by decide +kernel) (fun _ h => h) rfl rfl (tyX4_ok 19 (by decide)) rfl rfl (Nat.le_of_ble_eq_true rfl) dX4_init_129 ((wup_n _ _ (ne_new hw hq)).trans hw) ?_
  refine v_hide (fun w' => w' h = some (.inr (7, [.int 0, .ref q1, .ref q2, .ref q3, .ref q4, .ref q5, .ref q6, .ref q7, .ref q8, .ref q9, .ref q10, .ref q11, .int 0, .ref q13, .ref q14, .ref q15, .int 0, .int 0, .ref q18, .ref q19, .int 0, .int 0, .null, .int 0, .int 0])) ∧ RW w' h [(q19, aI G 16 (fun _ => 0)), (q18, aI G 16 (fun _ => 0)), (q15, aI G 40 (fun _ => 0)), (q14, aI G 40 (fun _ => 0)), (q13, aI G 40 (fun _ => 0)), (q11, aI G 40 (fun _ => 0)), (q10, aI G 40 (fun _ => 0)), (q9, aI G 40 (fun _ => 0)), (q8, aI G 40 (fun _ => 0)), (q7, aI G 40 (fun _ => 0)), (q6, aZ G 40 (fun _ => 0)), (q5, aZ G 40 (fun _ => 0)), (q4, aZ G 40 (fun _ => 0)), (q3, aZ G 40 (fun _ => 0)), (q2, aL G 40 (fun _ => 0)), (q1, aI G 40 (fun _ => 0))]) ⟨wup_s _ _ _, hR2.put⟩ (fun w16 hw' => ?_)
  clear hw hR2 hR hq
  obtain ⟨hw, hR⟩ := hw'
  first | refine v_aload_n hc (i := 0) rfl dX4_init_132 rfl ?_ | refine v_aload_nN hc (i := 0) rfl dX4_init_132 rfl ?_
  refine v_bipush hc (v := nI 40) dX4_init_133 (by decide) ?_
  refine v_newa hc 40 (t0 := 0) (a0 := (40, .inl (fun _ => 0))) rfl rfl (by decide +kernel) (fun _ => rfl) rfl (by decide) (by decide) (by first | exact Nat.le_of_ble_eq_true rfl | omega | (dsimp only; omega)) (by first | exact Nat.le_of_ble_eq_true rfl | omega | (dsimp only; omega)) dX4_init_135 (fun q22 hq hqA => ?_)
  refine v_w (show _ = wup w16 q22 (aI G 40 (fun _ => 0)) from rfl) ?_
  have hR2 := hR.new (e := aI G 40 (fun _ => 0)) hw hq
  refine v_putF hc hmn 22 (ci := 7) rfl tyX4 tyX4_ok nmX4 (by decide +kernel) (by decide) (by decide +kernel) (fun _ h => h) rfl rfl (tyX4_ok 22 (by decide)) rfl rfl (Nat.le_of_ble_eq_true rfl) dX4_init_137 ((wup_n _ _ (ne_new hw hq)).trans hw) ?_
  refine v_hide (fun w' => w' h = some (.inr (7, [.int 0, .ref q1, .ref q2, .ref q3, .ref q4, .ref q5, .ref q6, .ref q7, .ref q8, .ref q9, .ref q10, .ref q11, .int 0, .ref q13, .ref q14, .ref q15, .int 0, .int 0, .ref q18, .ref q19, .int 0, .int 0, .ref q22, .int 0, .int 0])) ∧ RW w' h [(q22, aI G 40 (fun _ => 0)), (q19, aI G 16 (fun _ => 0)), (q18, aI G 16 (fun _ => 0)), (q15, aI G 40 (fun _ => 0)), (q14, aI G 40 (fun _ => 0)), (q13, aI G 40 (fun _ => 0)), (q11, aI G 40 (fun _ => 0)), (q10, aI G 40 (fun _ => 0)), (q9, aI G 40 (fun _ => 0)), (q8, aI G 40 (fun _ => 0)), (q7, aI G 40 (fun _ => 0)), (q6, aZ G 40 (fun _ => 0)), (q5, aZ G 40 (fun _ => 0)), (q4, aZ G 40 (fun _ => 0)), (q3, aZ G 40 (fun _ => 0)), (q2, aL G 40 (fun _ => 0)), (q1, aI G 40 (fun _ => 0))]) ⟨wup_s _ _ _, hR2.put⟩ (fun w17 hw' => ?_)
  clear hw hR2 hR hq
  obtain ⟨hw, hR⟩ := hw'
  have hnd : [q22, q19, q18, q15, q14, q13, q11, q10, q9, q8, q7, q6, q5, q4, q3, q2, q1].Nodup := hR.1
  have hrow := hR.2
  refine v_vret hc hr dX4_init_140 (Nat.le_of_ble_eq_true rfl) (Nat.le_of_ble_eq_true rfl) ⟨fun k => [q22, q19, q18, q15, q14, q13, q11, q10, q9, q8, q7, q6, q5, q4, q3, q2, q1].getD (mpos k) 0, hw, fun k hk => ?_, fun k hk => ?_, ?_, fun i j hi hj e => mpos_inj i (isA_lt hi) j (isA_lt hj) hi hj (nd_getD hnd (mpos_lt i (isA_lt hi) hi) (mpos_lt j (isA_lt hj) hj) e)⟩
  · simp only [isI, Bool.or_eq_true, beq_iff_eq] at hk
    rcases hk with rfl | rfl | rfl | rfl | rfl | rfl | rfl | rfl | rfl | rfl | rfl | rfl
    · exact (hrow (q1, aI G 40 (fun _ => 0)) (by simp)).1
    · exact (hrow (q7, aI G 40 (fun _ => 0)) (by simp)).1
    · exact (hrow (q8, aI G 40 (fun _ => 0)) (by simp)).1
    · exact (hrow (q9, aI G 40 (fun _ => 0)) (by simp)).1
    · exact (hrow (q10, aI G 40 (fun _ => 0)) (by simp)).1
    · exact (hrow (q11, aI G 40 (fun _ => 0)) (by simp)).1
    · exact (hrow (q13, aI G 40 (fun _ => 0)) (by simp)).1
    · exact (hrow (q14, aI G 40 (fun _ => 0)) (by simp)).1
    · exact (hrow (q15, aI G 40 (fun _ => 0)) (by simp)).1
    · exact (hrow (q18, aI G 16 (fun _ => 0)) (by simp)).1
    · exact (hrow (q19, aI G 16 (fun _ => 0)) (by simp)).1
    · exact (hrow (q22, aI G 40 (fun _ => 0)) (by simp)).1
  · simp only [isZ, Bool.or_eq_true, beq_iff_eq] at hk
    rcases hk with rfl | rfl | rfl | rfl
    · exact (hrow (q3, _) (by simp)).1
    · exact (hrow (q4, _) (by simp)).1
    · exact (hrow (q5, _) (by simp)).1
    · exact (hrow (q6, _) (by simp)).1
  · exact (hrow (q2, _) (by simp)).1
end MD10

