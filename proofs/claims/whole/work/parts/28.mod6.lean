/-! ===== the model: the index and what looks it up ===== -/
theorem lt40 {a : Nat} (h : a < 40) : a < 40 := h
section MD6
variable {l : Launch} {G : cG} {A : Nat → Prop} {w : wd} {h : Nat} {ad : Nat → Nat} {sc : Nat → Int32} {ai : Nat → Nat → Int32} {al : Nat → Int64} {n : Nat} {nm : Nat → Int32} {ct : Nat → Int64} {lv lo : Nat → Bool} {fm : Nat → Option Frm}
set_option maxRecDepth 100000 in
set_option maxHeartbeats 4000000 in
theorem c_X4_laysIndex (hM : MP G w h ad sc ai al) (hD : RD n nm ct lv lo fm sc ai al) (hct : ∀ i, i < n → isC (ct i) = true) : Met l yX4_laysIndex wsX4_laysIndex ({ frames := 10, cells := 0, slots := 0, locals := 167 } : Room) (Pw G A w [.ref h]) (va_Qi (fun r w' => ∃ f X, MP G w' h ad sc (va_up ai 22 f) al ∧ srtd (ihd ct) (fun i => i < n ∧ (fm i).isSome = true) X ∧ isL f X ∧ r = nI X.length) (Bw G A) A) 0 0 A := by
  refine m_of (cc := cX4_laysIndex) (maxL := 4) (ret := (some .int)) (by decide) rfl (Nat.le_of_ble_eq_true rfl) ?_
  intro p e s m args below meth c hc hr hmn
  refine v_loc [(0, some (.ref h))] rfl ?_
  have hn := hD.2.1
  have hsT := so_ihd ct
  refine v_iconst hc (v := nI 0) dX4_laysIndex_0 (by decide) ?_
  refine v_istore_n hc (i := 1) rfl dX4_laysIndex_1 (by decide) rfl ?_
  refine v_iconst hc (v := nI 0) dX4_laysIndex_2 (by decide) ?_
  refine v_istore_n hc (i := 2) rfl dX4_laysIndex_3 (by decide) rfl ?_
  refine v_loop (σ := Nat × wd × List Nat × (Nat → Int32)) (fun a => a.1 ≤ n ∧ MP G a.2.1 h ad sc (va_up ai 22 a.2.2.2) al ∧ srtd (ihd ct) (fun i => i < a.1 ∧ (fm i).isSome = true) a.2.2.1 ∧ isL a.2.2.2 a.2.2.1) (fun a => n - a.1) (fun a => a.2.1) (fun _ => 0) (fun _ => 0) (fun a => [(0, some (.ref h)), (1, some (.int (nI a.2.2.1.length))), (2, some (.int (nI a.1)))]) (0, w, [], ai 22) rfl ⟨Nat.zero_le _, by dsimp only; rw [up_id (f := ai) rfl]; exact hM, srtd.nil (fun i z => absurd z.1 (Nat.not_lt_zero _)), fun p hp => absurd hp (Nat.not_lt_zero _)⟩ ?_
  rintro ⟨k, w, X, f⟩ ⟨hk, hM, hS, hL⟩ ih
  dsimp only at hk hM hS hL ih ⊢
  have hXn : ∀ i ∈ X, i < k := fun i hi => ((hS.2 i).mp hi).1
  have hXl : X.length ≤ k := nd_len (hS.nodup hsT) hXn
  refine v_iload_n hc (i := 2) rfl dX4_laysIndex_4 rfl ?_
  first | refine v_aload_n hc (i := 0) rfl dX4_laysIndex_5 rfl ?_ | refine v_aload_nN hc (i := 0) rfl dX4_laysIndex_5 rfl ?_
  refine v_get hc 0 (ci := 7) rfl (by decide +kernel) (by decide) (by decide +kernel) (fun _ h => h) dX4_laysIndex_6 hM.1 rfl ?_
  refine v_ti (show _ = nI n from hD.1) ?_
  refine v_icmp_geN hc (tgt := 91) dX4_laysIndex_9 (by decide) (by omega) (by omega) (fun h1 => ?_) (fun h1 => ?_)
  · have e : k = n := by omega
    subst e
    refine v_iload_n hc (i := 1) rfl dX4_laysIndex_91 rfl ?_
    exact v_iret hc hr dX4_laysIndex_92 (by first | exact Nat.le_of_ble_eq_true rfl | omega | (dsimp only; omega)) (by first | exact Nat.le_of_ble_eq_true rfl | omega | (dsimp only; omega)) (⟨f, X, hM, hS, hL, rfl⟩)
  · have hkX : k ∉ X := fun z => absurd (hXn k z) (Nat.lt_irrefl _)
    first | refine v_aload_n hc (i := 0) rfl dX4_laysIndex_12 rfl ?_ | refine v_aload_nN hc (i := 0) rfl dX4_laysIndex_12 rfl ?_
    refine v_get hc 5 (ci := 7) rfl (by decide +kernel) (by decide) (by decide +kernel) (fun _ h => h) dX4_laysIndex_13 hM.1 rfl ?_
    refine v_iload_n hc (i := 2) rfl dX4_laysIndex_16 rfl ?_
    refine v_zald hc (k) dX4_laysIndex_17 (hM.2.2.1 5 rfl) (rfl) (by omega) (by decide) ?_
    refine v_ti (show _ = bI (fm k).isSome from hD.r5 h1) ?_
    refine v_ifB_eq hc (tgt := 85) dX4_laysIndex_18 (by decide) (fun h2 => ?_) (fun h2 => ?_)
    · first | refine v_iinc1 hc dX4_laysIndex_85 rfl (by decide) rfl ?_ | refine v_iinc hc dX4_laysIndex_85 rfl rfl (by decide) rfl ?_
      refine v_goto hc (tgt := 4) dX4_laysIndex_88 (by decide) ?_
      refine ih (k + 1, w, X, f) _ rfl ⟨h1, hM, hS.congr (fun j => ?_), hL⟩ (by dsimp only; omega)
      dsimp only
      constructor
      · rintro ⟨a, b⟩; exact ⟨by omega, b⟩
      · rintro ⟨a, b⟩
        refine ⟨?_, b⟩
        by_cases hj : j = k
        · subst hj; rw [h2] at b; cases b
        · omega
    · refine v_iload_n hc (i := 1) rfl dX4_laysIndex_21 rfl ?_
      refine v_istore_n hc (i := 3) rfl dX4_laysIndex_22 (by decide) rfl ?_
      refine v_loop (σ := Nat × wd × (Nat → Int32)) (fun a => a.1 ≤ X.length ∧ MP G a.2.1 h ad sc (va_up ai 22 a.2.2) al ∧ hole a.2.2 X a.1 ∧ ∀ y ∈ X.drop a.1, ihd ct k y = true) (fun a => a.1) (fun a => a.2.1) (fun _ => 0) (fun _ => 0) (fun a => [(0, some (.ref h)), (1, some (.int (nI X.length))), (2, some (.int (nI k))), (3, some (.int (nI a.1)))]) (X.length, w, f) rfl ⟨Nat.le_refl _, hM, hL.hole, fun y hy => by rw [List.drop_length] at hy; cases hy⟩ ?_
      rintro ⟨t0, w, f2⟩ ⟨hat, hM, hh, hgt⟩ ih2
      dsimp only at hat hM hh hgt ih2 ⊢
      cases t0 with
      | zero =>
        have hlt : ∀ y ∈ X.take 0, ihd ct y k = true := fun y hy => by rw [List.take_zero] at hy; cases hy
        refine v_iload_n hc (i := 3) rfl dX4_laysIndex_23 rfl ?_
        refine v_if_le hc (tgt := 75) dX4_laysIndex_24 (by decide) (fun h3 => ?_) (fun h3 => ?_)
        · have hat2 := hh.fill (x := k) hat
          first | refine v_aload_n hc (i := 0) rfl dX4_laysIndex_75 rfl ?_ | refine v_aload_nN hc (i := 0) rfl dX4_laysIndex_75 rfl ?_
          refine v_get hc 22 (ci := 7) rfl (by decide +kernel) (by decide) (by decide +kernel) (fun _ h => h) dX4_laysIndex_76 hM.1 rfl ?_
          refine v_iload_n hc (i := 3) rfl dX4_laysIndex_79 rfl ?_
          refine v_iload_n hc (i := 2) rfl dX4_laysIndex_80 rfl ?_
          refine m_iast hc hM 22 rfl (0) dX4_laysIndex_81 (rfl) (lt40 (by omega)) (fun w hM => ?_)
          rw [up_up, va_up_self] at hM
          have hS2 := hS.ins (x := k) (p := 0) hlt hgt
          first | refine v_iinc1 hc dX4_laysIndex_82 rfl (by decide) rfl ?_ | refine v_iinc hc dX4_laysIndex_82 rfl rfl (by decide) rfl ?_
          first | refine v_iinc1 hc dX4_laysIndex_85 rfl (by decide) rfl ?_ | refine v_iinc hc dX4_laysIndex_85 rfl rfl (by decide) rfl ?_
          refine v_goto hc (tgt := 4) dX4_laysIndex_88 (by decide) ?_
          refine ih (k + 1, w, X.take (0) ++ k :: X.drop (0), va_up f2 (0) (nI k)) _ (by dsimp only [List.map]; rw [len_ins hat]; rfl) ⟨h1, hM, hS2.congr (fun j => ?_), hat2⟩ (by dsimp only; omega)
          dsimp only
          constructor
          · rintro (⟨a, b⟩ | rfl)
            · exact ⟨by omega, b⟩
            · exact ⟨by omega, h2⟩
          · rintro ⟨a, b⟩
            by_cases hj : j = k
            · exact Or.inr hj
            · exact Or.inl ⟨by omega, b⟩
        · exact absurd (by decide) h3
      | succ t =>
        have ht : t < X.length := hat
        have hm := getD_mem ht
        have hmn := hXn _ hm
        have hhs1 : hsh (xN (ct (X.getD t 0))) < 4096 := hsh_lt _
        have hhs2 : hsh (xN (ct k)) < 4096 := hsh_lt _
        have ef2 : f2 t = nI (X.getD t 0) := hh.1 t (Nat.lt_succ_self t)
        refine v_iload_n hc (i := 3) rfl dX4_laysIndex_23 rfl ?_
        refine v_if_le hc (tgt := 75) dX4_laysIndex_24 (by decide) (fun h3 => ?_) (fun h3 => ?_)
        · exact absurd h3 (nI_nle (Nat.succ_pos t) (by omega))
        · first | refine v_aload_n hc (i := 0) rfl dX4_laysIndex_27 rfl ?_ | refine v_aload_nN hc (i := 0) rfl dX4_laysIndex_27 rfl ?_
          refine v_get hc 2 (ci := 7) rfl (by decide +kernel) (by decide) (by decide +kernel) (fun _ h => h) dX4_laysIndex_28 hM.1 rfl ?_
          first | refine v_aload_n hc (i := 0) rfl dX4_laysIndex_31 rfl ?_ | refine v_aload_nN hc (i := 0) rfl dX4_laysIndex_31 rfl ?_
          refine v_get hc 22 (ci := 7) rfl (by decide +kernel) (by decide) (by decide +kernel) (fun _ h => h) dX4_laysIndex_32 hM.1 rfl ?_
          refine v_iload_n hc (i := 3) rfl dX4_laysIndex_35 rfl ?_
          refine v_iconst hc (v := nI 1) dX4_laysIndex_36 (by decide) ?_
          refine v_isub hc dX4_laysIndex_37 ?_
          refine v_ti (show _ = nI t from pk_sub (by omega)) ?_
          refine v_iald hc (t) dX4_laysIndex_38 (hM.2.1 22 rfl) (rfl) (lt40 (by omega)) (by decide) ?_
          refine v_ti (show _ = nI (X.getD t 0) from ef2) ?_
          refine v_lald hc ((X.getD t 0)) dX4_laysIndex_39 hM.2.2.2.1 (rfl) (by omega) (by decide) ?_
          rw [hD.r2 (by omega)]
          refine v_callSi hc (c_X4_hashOf (ct (X.getD t 0)) (hct _ (by omega))) (va_cwS 1 hc.1.2.2.2.2 gX4_laysIndex_X4_hashOf rfl rfl rfl (by decide +kernel) ⟨Nat.le_of_ble_eq_true rfl, Nat.le_of_ble_eq_true rfl⟩) rfl rfl (Nat.le_of_ble_eq_true rfl) ⟨(by first | exact Nat.le_of_ble_eq_true rfl | omega | (dsimp only; omega)), (by first | exact Nat.le_of_ble_eq_true rfl | omega | (dsimp only; omega))⟩ dX4_laysIndex_40 (fun r w' hp => ?_)
          obtain ⟨rfl, rfl⟩ := hp
          first | refine v_aload_n hc (i := 0) rfl dX4_laysIndex_43 rfl ?_ | refine v_aload_nN hc (i := 0) rfl dX4_laysIndex_43 rfl ?_
          refine v_get hc 2 (ci := 7) rfl (by decide +kernel) (by decide) (by decide +kernel) (fun _ h => h) dX4_laysIndex_44 hM.1 rfl ?_
          refine v_iload_n hc (i := 2) rfl dX4_laysIndex_47 rfl ?_
          refine v_lald hc (k) dX4_laysIndex_48 hM.2.2.2.1 (rfl) (by omega) (by decide) ?_
          rw [hD.r2 h1]
          refine v_callSi hc (c_X4_hashOf (ct k) (hct _ h1)) (va_cwS 1 hc.1.2.2.2.2 gX4_laysIndex_X4_hashOf rfl rfl rfl (by decide +kernel) ⟨Nat.le_of_ble_eq_true rfl, Nat.le_of_ble_eq_true rfl⟩) rfl rfl (Nat.le_of_ble_eq_true rfl) ⟨(by first | exact Nat.le_of_ble_eq_true rfl | omega | (dsimp only; omega)), (by first | exact Nat.le_of_ble_eq_true rfl | omega | (dsimp only; omega))⟩ dX4_laysIndex_49 (fun r w' hp => ?_)
          obtain ⟨rfl, rfl⟩ := hp
          refine v_icmp_leN hc (tgt := 75) dX4_laysIndex_52 (by decide) (by omega) (by omega) (fun h5 => ?_) (fun h5 => ?_)
          · have hlt : ∀ y ∈ X.take (t + 1), ihd ct y k = true := take_lt hsT hS.1 ht (ihd_iff.mpr (by unfold hso; omega))
            have hat2 := hh.fill (x := k) hat
            first | refine v_aload_n hc (i := 0) rfl dX4_laysIndex_75 rfl ?_ | refine v_aload_nN hc (i := 0) rfl dX4_laysIndex_75 rfl ?_
            refine v_get hc 22 (ci := 7) rfl (by decide +kernel) (by decide) (by decide +kernel) (fun _ h => h) dX4_laysIndex_76 hM.1 rfl ?_
            refine v_iload_n hc (i := 3) rfl dX4_laysIndex_79 rfl ?_
            refine v_iload_n hc (i := 2) rfl dX4_laysIndex_80 rfl ?_
            refine m_iast hc hM 22 rfl (t + 1) dX4_laysIndex_81 (rfl) (lt40 (by omega)) (fun w hM => ?_)
            rw [up_up, va_up_self] at hM
            have hS2 := hS.ins (x := k) (p := t + 1) hlt hgt
            first | refine v_iinc1 hc dX4_laysIndex_82 rfl (by decide) rfl ?_ | refine v_iinc hc dX4_laysIndex_82 rfl rfl (by decide) rfl ?_
            first | refine v_iinc1 hc dX4_laysIndex_85 rfl (by decide) rfl ?_ | refine v_iinc hc dX4_laysIndex_85 rfl rfl (by decide) rfl ?_
            refine v_goto hc (tgt := 4) dX4_laysIndex_88 (by decide) ?_
            refine ih (k + 1, w, X.take (t + 1) ++ k :: X.drop (t + 1), va_up f2 (t + 1) (nI k)) _ (by dsimp only [List.map]; rw [len_ins hat]; rfl) ⟨h1, hM, hS2.congr (fun j => ?_), hat2⟩ (by dsimp only; omega)
            dsimp only
            constructor
            · rintro (⟨a, b⟩ | rfl)
              · exact ⟨by omega, b⟩
              · exact ⟨by omega, h2⟩
            · rintro ⟨a, b⟩
              by_cases hj : j = k
              · exact Or.inr hj
              · exact Or.inl ⟨by omega, b⟩
          · have hgt2 := drop_gt hsT hS.1 ht (x := k) (ihd_iff.mpr (by unfold hso; omega))
            first | refine v_aload_n hc (i := 0) rfl dX4_laysIndex_55 rfl ?_ | refine v_aload_nN hc (i := 0) rfl dX4_laysIndex_55 rfl ?_
            refine v_get hc 22 (ci := 7) rfl (by decide +kernel) (by decide) (by decide +kernel) (fun _ h => h) dX4_laysIndex_56 hM.1 rfl ?_
            refine v_iload_n hc (i := 3) rfl dX4_laysIndex_59 rfl ?_
            first | refine v_aload_n hc (i := 0) rfl dX4_laysIndex_60 rfl ?_ | refine v_aload_nN hc (i := 0) rfl dX4_laysIndex_60 rfl ?_
            refine v_get hc 22 (ci := 7) rfl (by decide +kernel) (by decide) (by decide +kernel) (fun _ h => h) dX4_laysIndex_61 hM.1 rfl ?_
            refine v_iload_n hc (i := 3) rfl dX4_laysIndex_64 rfl ?_
            refine v_iconst hc (v := nI 1) dX4_laysIndex_65 (by decide) ?_
            refine v_isub hc dX4_laysIndex_66 ?_
            refine v_ti (show _ = nI t from pk_sub (by omega)) ?_
            refine v_iald hc (t) dX4_laysIndex_67 (hM.2.1 22 rfl) (rfl) (lt40 (by omega)) (by decide) ?_
            refine v_ti (show _ = nI (X.getD t 0) from ef2) ?_
            refine m_iast hc hM 22 rfl ((t + 1)) dX4_laysIndex_68 (rfl) (lt40 (by omega)) (fun w hM => ?_)
            rw [up_up, va_up_self] at hM
            refine v_iinc hc (v := nI (t + 1) - nI 1) dX4_laysIndex_69 rfl (i32_dec _) (by decide) rfl ?_
            rw [show nI (t + 1) - nI 1 = nI t from pk_sub (by omega)]
            refine v_goto hc (tgt := 23) dX4_laysIndex_72 (by decide) ?_
            exact ih2 (t, w, va_up f2 (t + 1) (nI (X.getD t 0))) _ rfl ⟨by dsimp only; omega, hM, hh.move, hgt2⟩ (Nat.lt_succ_self t)
set_option maxRecDepth 100000 in
set_option maxHeartbeats 4000000 in
theorem c_X4_indexAt (hM : MP G w h ad sc ai al) (hD : RD n nm ct lv lo fm sc ai al) (hct : ∀ i, i < n → isC (ct i) = true) (o : Int32) : Met l yX4_indexAt wsX4_indexAt ({ frames := 11, cells := 0, slots := 0, locals := 190 } : Room) (Pw G A w [.ref h, .int o]) (va_Qi (fun r w' => ∃ f X, srtd (ihd ct) (fun i => i < n ∧ (fm i).isSome = true) X ∧ ((isO X.length o = false ∧ MP G w' h ad (va_up sc 24 (nI 1)) (va_up ai 22 f) al) ∨ ∃ i, i < X.length ∧ o = nI i ∧ MP G w' h ad (va_up sc 24 (nI 0)) (va_up ai 22 f) al ∧ r = nI (X.getD i 0))) (Bw G A) A) 0 0 A := by
  refine m_of (cc := cX4_indexAt) (maxL := 3) (ret := (some .int)) (by decide) rfl (Nat.le_of_ble_eq_true rfl) ?_
  intro p e s m args below meth c hc hr hmn
  refine v_loc [(0, some (.ref h)), (1, some (.int o))] rfl ?_
  have hn := hD.2.1
  first | refine v_aload_n hc (i := 0) rfl dX4_indexAt_0 rfl ?_ | refine v_aload_nN hc (i := 0) rfl dX4_indexAt_0 rfl ?_
  refine v_callVi hc (c_X4_laysIndex hM hD hct) (cwV 0 hc.1.2.2.2.2 gX4_indexAt_X4_laysIndex rfl rfl rfl (by decide +kernel) ⟨Nat.le_of_ble_eq_true rfl, Nat.le_of_ble_eq_true rfl⟩) (hM.1) rfl rfl rfl (Nat.le_of_ble_eq_true rfl) ⟨(by first | exact Nat.le_of_ble_eq_true rfl | omega | (dsimp only; omega)), (by first | exact Nat.le_of_ble_eq_true rfl | omega | (dsimp only; omega))⟩ dX4_indexAt_1 (fun r w' hp => ?_)
  obtain ⟨f, X, hM, hS, hL, rfl⟩ := hp
  have hXl : X.length ≤ n := nd_len (hS.nodup (so_ihd ct)) (fun i hi => ((hS.2 i).mp hi).1)
  refine v_istore_n hc (i := 2) rfl dX4_indexAt_4 (by decide) rfl ?_
  first | refine v_aload_n hc (i := 0) rfl dX4_indexAt_5 rfl ?_ | refine v_aload_nN hc (i := 0) rfl dX4_indexAt_5 rfl ?_
  refine v_iload_n hc (i := 1) rfl dX4_indexAt_6 rfl ?_
  refine v_iconst hc (v := nI 0) dX4_indexAt_7 (by decide) ?_
  refine v_iload_n hc (i := 2) rfl dX4_indexAt_8 rfl ?_
  refine v_iconst hc (v := nI 1) dX4_indexAt_9 (by decide) ?_
  refine v_isub hc dX4_indexAt_10 ?_
  refine v_callSi hc (c_X4_isIn _ _ _) (va_cwS 3 hc.1.2.2.2.2 gX4_indexAt_X4_isIn rfl rfl rfl (by decide +kernel) ⟨Nat.le_of_ble_eq_true rfl, Nat.le_of_ble_eq_true rfl⟩) rfl rfl (Nat.le_of_ble_eq_true rfl) ⟨(by first | exact Nat.le_of_ble_eq_true rfl | omega | (dsimp only; omega)), (by first | exact Nat.le_of_ble_eq_true rfl | omega | (dsimp only; omega))⟩ dX4_indexAt_11 (fun r w' hp => ?_)
  obtain ⟨rfl, rfl⟩ := hp
  rw [isin_OG (by omega)]
  refine v_ifB_eq hc (tgt := 21) dX4_indexAt_14 (by decide) (fun h1 => ?_) (fun h1 => ?_)
  · refine v_iconst hc (v := nI 1) dX4_indexAt_21 (by decide) ?_
    refine v_callVi hc (c_X4_goes hM (nI 1)) (cwV 1 hc.1.2.2.2.2 gX4_indexAt_X4_goes rfl rfl rfl (by decide +kernel) ⟨Nat.le_of_ble_eq_true rfl, Nat.le_of_ble_eq_true rfl⟩) (hM.1) rfl rfl rfl (Nat.le_of_ble_eq_true rfl) ⟨(by first | exact Nat.le_of_ble_eq_true rfl | omega | (dsimp only; omega)), (by first | exact Nat.le_of_ble_eq_true rfl | omega | (dsimp only; omega))⟩ dX4_indexAt_22 (fun r w' hp => ?_)
    obtain ⟨hM, rfl⟩ := hp
    refine v_ifB_eq hc (tgt := 37) dX4_indexAt_25 (by decide) (fun h4 => ?_) (fun h4 => ?_)
    · refine v_iconst hc (v := nI 0) dX4_indexAt_37 (by decide) ?_
      exact v_iret hc hr dX4_indexAt_38 (by first | exact Nat.le_of_ble_eq_true rfl | omega | (dsimp only; omega)) (by first | exact Nat.le_of_ble_eq_true rfl | omega | (dsimp only; omega)) (⟨f, X, hS, Or.inl ⟨h1, hM⟩⟩)
    · exact absurd h4 (by decide)
  · obtain ⟨i, hi, rfl⟩ := isO_ofG h1 (by omega)
    refine v_iconst hc (v := nI 0) dX4_indexAt_17 (by decide) ?_
    refine v_goto hc (tgt := 22) dX4_indexAt_18 (by decide) ?_
    refine v_callVi hc (c_X4_goes hM (nI 0)) (cwV 1 hc.1.2.2.2.2 gX4_indexAt_X4_goes rfl rfl rfl (by decide +kernel) ⟨Nat.le_of_ble_eq_true rfl, Nat.le_of_ble_eq_true rfl⟩) (hM.1) rfl rfl rfl (Nat.le_of_ble_eq_true rfl) ⟨(by first | exact Nat.le_of_ble_eq_true rfl | omega | (dsimp only; omega)), (by first | exact Nat.le_of_ble_eq_true rfl | omega | (dsimp only; omega))⟩ dX4_indexAt_22 (fun r w' hp => ?_)
    obtain ⟨hM, rfl⟩ := hp
    refine v_ifB_eq hc (tgt := 37) dX4_indexAt_25 (by decide) (fun h4 => ?_) (fun h4 => ?_)
    · exact absurd h4 (by decide)
    · first | refine v_aload_n hc (i := 0) rfl dX4_indexAt_28 rfl ?_ | refine v_aload_nN hc (i := 0) rfl dX4_indexAt_28 rfl ?_
      refine v_get hc 22 (ci := 7) rfl (by decide +kernel) (by decide) (by decide +kernel) (fun _ h => h) dX4_indexAt_29 hM.1 rfl ?_
      refine v_iload_n hc (i := 1) rfl dX4_indexAt_32 rfl ?_
      refine v_iald hc (i) dX4_indexAt_33 (hM.2.1 22 rfl) (rfl) (lt40 (by omega)) (by decide) ?_
      refine v_ti (show _ = nI (X.getD i 0) from hL i hi) ?_
      refine v_goto hc (tgt := 38) dX4_indexAt_34 (by decide) ?_
      exact v_iret hc hr dX4_indexAt_38 (by first | exact Nat.le_of_ble_eq_true rfl | omega | (dsimp only; omega)) (by first | exact Nat.le_of_ble_eq_true rfl | omega | (dsimp only; omega)) (⟨f, X, hS, Or.inr ⟨i, hi, rfl, hM, rfl⟩⟩)
set_option maxRecDepth 100000 in
set_option maxHeartbeats 4000000 in
theorem c_X4_looksUp (hM : MP G w h ad sc ai al) (hD : RD n nm ct lv lo fm sc ai al) (hct : ∀ i, i < n → isC (ct i) = true) {k : Nat} (hk : k < 4096) : Met l yX4_looksUp wsX4_looksUp ({ frames := 11, cells := 0, slots := 0, locals := 190 } : Room) (Pw G A w [.ref h, .int (nI k)]) (va_Qi (fun r w' => ∃ f X, srtd (ihd ct) (fun i => i < n ∧ (fm i).isSome = true) X ∧ MP G w' h ad (va_up sc 23 (nI (lku ct X k).2)) (va_up ai 22 f) al ∧ r = nIo ((lku ct X k).1.map (fun p => X.getD p 0))) (Bw G A) A) 0 0 A := by
  refine m_of (cc := cX4_looksUp) (maxL := 7) (ret := (some .int)) (by decide) rfl (Nat.le_of_ble_eq_true rfl) ?_
  intro p e s m args below meth c hc hr hmn
  refine v_loc [(0, some (.ref h)), (1, some (.int (nI k)))] rfl ?_
  have hn := hD.2.1
  first | refine v_aload_n hc (i := 0) rfl dX4_looksUp_0 rfl ?_ | refine v_aload_nN hc (i := 0) rfl dX4_looksUp_0 rfl ?_
  refine v_callVi hc (c_X4_laysIndex hM hD hct) (cwV 0 hc.1.2.2.2.2 gX4_looksUp_X4_laysIndex rfl rfl rfl (by decide +kernel) ⟨Nat.le_of_ble_eq_true rfl, Nat.le_of_ble_eq_true rfl⟩) (hM.1) rfl rfl rfl (Nat.le_of_ble_eq_true rfl) ⟨(by first | exact Nat.le_of_ble_eq_true rfl | omega | (dsimp only; omega)), (by first | exact Nat.le_of_ble_eq_true rfl | omega | (dsimp only; omega))⟩ dX4_looksUp_1 (fun r w' hp => ?_)
  obtain ⟨f, X, hM, hS, hL, rfl⟩ := hp
  have hXl : X.length ≤ n := nd_len (hS.nodup (so_ihd ct)) (fun i hi => ((hS.2 i).mp hi).1)
  have hD1 : RD n nm ct lv lo fm sc (va_up ai 22 f) al := hD.ai' (fun j hj => up_n (by omega))
  have e1 : k / 256 * 256 = k - k % 256 := by omega
  have hb1 := blw_le ct X (k - k % 256)
  have hb2 := blw_le ct X (k - k % 256 + 256)
  refine v_istore_n hc (i := 2) rfl dX4_looksUp_4 (by decide) rfl ?_
  first | refine v_aload_n hc (i := 0) rfl dX4_looksUp_5 rfl ?_ | refine v_aload_nN hc (i := 0) rfl dX4_looksUp_5 rfl ?_
  refine v_iload_n hc (i := 1) rfl dX4_looksUp_6 rfl ?_
  refine v_sipush hc (v := nI 256) dX4_looksUp_7 (by decide) ?_
  refine v_idiv hc (by decide) dX4_looksUp_10 ?_
  refine v_ti (pk_div (by omega) (by decide) (by decide)) ?_
  refine v_sipush hc (v := nI 256) dX4_looksUp_11 (by decide) ?_
  first | refine v_imulN hc dX4_looksUp_14 ?_ | refine v_imul hc dX4_looksUp_14 ?_
  rw [e1]
  refine v_callVi hc (c_X4_below hM hD1 hct (k := k - k % 256) (by omega)) (cwV 1 hc.1.2.2.2.2 gX4_looksUp_X4_below rfl rfl rfl (by decide +kernel) ⟨Nat.le_of_ble_eq_true rfl, Nat.le_of_ble_eq_true rfl⟩) (hM.1) rfl rfl rfl (Nat.le_of_ble_eq_true rfl) ⟨(by first | exact Nat.le_of_ble_eq_true rfl | omega | (dsimp only; omega)), (by first | exact Nat.le_of_ble_eq_true rfl | omega | (dsimp only; omega))⟩ dX4_looksUp_15 (fun r w' hp => ?_)
  obtain ⟨rfl, rfl⟩ := hp
  rw [← blw_blN hS]
  refine v_istore_n hc (i := 3) rfl dX4_looksUp_18 (by decide) rfl ?_
  first | refine v_aload_n hc (i := 0) rfl dX4_looksUp_19 rfl ?_ | refine v_aload_nN hc (i := 0) rfl dX4_looksUp_19 rfl ?_
  refine v_iload_n hc (i := 1) rfl dX4_looksUp_20 rfl ?_
  refine v_sipush hc (v := nI 256) dX4_looksUp_21 (by decide) ?_
  refine v_idiv hc (by decide) dX4_looksUp_24 ?_
  refine v_ti (pk_div (by omega) (by decide) (by decide)) ?_
  refine v_sipush hc (v := nI 256) dX4_looksUp_25 (by decide) ?_
  first | refine v_imulN hc dX4_looksUp_28 ?_ | refine v_imul hc dX4_looksUp_28 ?_
  refine v_sipush hc (v := nI 256) dX4_looksUp_29 (by decide) ?_
  first | refine v_iaddN hc dX4_looksUp_32 ?_ | refine v_iadd hc dX4_looksUp_32 ?_
  rw [e1]
  refine v_callVi hc (c_X4_below hM hD1 hct (k := k - k % 256 + 256) (by omega)) (cwV 1 hc.1.2.2.2.2 gX4_looksUp_X4_below rfl rfl rfl (by decide +kernel) ⟨Nat.le_of_ble_eq_true rfl, Nat.le_of_ble_eq_true rfl⟩) (hM.1) rfl rfl rfl (Nat.le_of_ble_eq_true rfl) ⟨(by first | exact Nat.le_of_ble_eq_true rfl | omega | (dsimp only; omega)), (by first | exact Nat.le_of_ble_eq_true rfl | omega | (dsimp only; omega))⟩ dX4_looksUp_33 (fun r w' hp => ?_)
  obtain ⟨rfl, rfl⟩ := hp
  rw [← blw_blN hS]
  refine v_istore hc dX4_looksUp_36 (by decide) rfl ?_
  first | refine v_aload_n hc (i := 0) rfl dX4_looksUp_38 rfl ?_ | refine v_aload_nN hc (i := 0) rfl dX4_looksUp_38 rfl ?_
  refine v_iconst hc (v := nI 0) dX4_looksUp_39 (by decide) ?_
  refine m_put hc hM 23 rfl (by decide +kernel) (by decide +kernel) dX4_looksUp_40 (fun w hM => ?_)
  refine v_loop (σ := Nat × Nat × Nat × wd) (fun a => (a.1 ≤ X.length ∧ a.2.2.1 + (a.2.1 - a.1) ≤ X.length) ∧ a.2.1 ≤ X.length ∧ lkp (fun i => hso ct (X.getD i 0)) k (X.length - a.2.2.1) a.1 a.2.1 a.2.2.1 = lku ct X k ∧ MP G a.2.2.2 h ad (va_up sc 23 (nI a.2.2.1)) (va_up ai 22 f) al) (fun a => X.length - a.2.2.1) (fun a => a.2.2.2) (fun _ => 0) (fun _ => 0) (fun a => [(0, some (.ref h)), (1, some (.int (nI k))), (3, some (.int (nI a.1))), (4, some (.int (nI a.2.1)))]) (blw ct X (k - k % 256), blw ct X (k - k % 256 + 256), 0, w) rfl ⟨by dsimp only; omega, hb2, rfl, hM⟩ ?_
  rintro ⟨lw, hg, cn, w⟩ ⟨⟨h30, h3⟩, h4, hI, hM⟩ ih
  dsimp only at h30 h3 h4 hI hM ih ⊢
  refine v_iload_n hc (i := 3) rfl dX4_looksUp_43 rfl ?_
  refine v_iload hc dX4_looksUp_44 rfl ?_
  refine v_icmp_geN hc (tgt := 131) dX4_looksUp_46 (by decide) (by omega) (by omega) (fun h5 => ?_) (fun h5 => ?_)
  · have stop : lku ct X k = (none, cn) := by
      rw [← hI]
      cases hq : X.length - cn with
      | zero => rfl
      | succ q => show (if _ then _ else _) = _; rw [if_neg (by omega)]
    refine v_iconst hc (v := (-1)) dX4_looksUp_131 (by decide) ?_
    exact v_iret hc hr dX4_looksUp_132 (by first | exact Nat.le_of_ble_eq_true rfl | omega | (dsimp only; omega)) (by first | exact Nat.le_of_ble_eq_true rfl | omega | (dsimp only; omega)) (⟨f, X, hS, by rw [stop]; exact hM, by rw [stop]; rfl⟩)
  · have hmid : (lw + hg) / 2 < X.length := by omega
    have hm := ((hS.2 _).mp (getD_mem hmid)).1
    have hhs : hsh (xN (ct (X.getD ((lw + hg) / 2) 0))) < 4096 := hsh_lt _
    have hst : lku ct X k = if hso ct (X.getD ((lw + hg) / 2) 0) = k then (some ((lw + hg) / 2), cn + 1) else if hso ct (X.getD ((lw + hg) / 2) 0) < k then lkp (fun i => hso ct (X.getD i 0)) k (X.length - (cn + 1)) ((lw + hg) / 2 + 1) hg (cn + 1) else lkp (fun i => hso ct (X.getD i 0)) k (X.length - (cn + 1)) lw ((lw + hg) / 2) (cn + 1) := by
      rw [← hI, show X.length - cn = (X.length - (cn + 1)) + 1 by omega]
      show (if _ then _ else _) = _
      rw [if_pos h5]
    refine v_iload_n hc (i := 3) rfl dX4_looksUp_49 rfl ?_
    refine v_iload hc dX4_looksUp_50 rfl ?_
    first | refine v_iaddN hc dX4_looksUp_52 ?_ | refine v_iadd hc dX4_looksUp_52 ?_
    refine v_iconst hc (v := nI 2) dX4_looksUp_53 (by decide) ?_
    refine v_idiv hc (by decide) dX4_looksUp_54 ?_
    refine v_ti (pk_div (by omega) (by decide) (by decide)) ?_
    refine v_istore hc dX4_looksUp_55 (by decide) rfl ?_
    first | refine v_aload_n hc (i := 0) rfl dX4_looksUp_57 rfl ?_ | refine v_aload_nN hc (i := 0) rfl dX4_looksUp_57 rfl ?_
    refine v_get hc 2 (ci := 7) rfl (by decide +kernel) (by decide) (by decide +kernel) (fun _ h => h) dX4_looksUp_58 hM.1 rfl ?_
    first | refine v_aload_n hc (i := 0) rfl dX4_looksUp_61 rfl ?_ | refine v_aload_nN hc (i := 0) rfl dX4_looksUp_61 rfl ?_
    refine v_get hc 22 (ci := 7) rfl (by decide +kernel) (by decide) (by decide +kernel) (fun _ h => h) dX4_looksUp_62 hM.1 rfl ?_
    refine v_iload hc dX4_looksUp_65 rfl ?_
    refine v_iald hc (((lw + hg) / 2)) dX4_looksUp_67 (hM.2.1 22 rfl) (rfl) (lt40 (by omega)) (by decide) ?_
    refine v_ti (show _ = nI (X.getD ((lw + hg) / 2) 0) from hL _ hmid) ?_
    refine v_lald hc ((X.getD ((lw + hg) / 2) 0)) dX4_looksUp_68 hM.2.2.2.1 (rfl) (by omega) (by decide) ?_
    rw [hD.r2 hm]
    refine v_callSi hc (c_X4_hashOf (ct (X.getD ((lw + hg) / 2) 0)) (hct _ hm)) (va_cwS 1 hc.1.2.2.2.2 gX4_looksUp_X4_hashOf rfl rfl rfl (by decide +kernel) ⟨Nat.le_of_ble_eq_true rfl, Nat.le_of_ble_eq_true rfl⟩) rfl rfl (Nat.le_of_ble_eq_true rfl) ⟨(by first | exact Nat.le_of_ble_eq_true rfl | omega | (dsimp only; omega)), (by first | exact Nat.le_of_ble_eq_true rfl | omega | (dsimp only; omega))⟩ dX4_looksUp_69 (fun r w' hp => ?_)
    obtain ⟨rfl, rfl⟩ := hp
    refine v_istore hc dX4_looksUp_72 (by decide) rfl ?_
    first | refine v_aload_n hc (i := 0) rfl dX4_looksUp_74 rfl ?_ | refine v_aload_nN hc (i := 0) rfl dX4_looksUp_74 rfl ?_
    refine v_dup hc dX4_looksUp_75 rfl ?_
    refine v_get hc 23 (ci := 7) rfl (by decide +kernel) (by decide) (by decide +kernel) (fun _ h => h) dX4_looksUp_76 hM.1 rfl ?_
    refine v_ti (show _ = nI cn from rfl) ?_
    refine v_iconst hc (v := nI 1) dX4_looksUp_79 (by decide) ?_
    first | refine v_iaddN hc dX4_looksUp_80 ?_ | refine v_iadd hc dX4_looksUp_80 ?_
    refine m_put hc hM 23 rfl (by decide +kernel) (by decide +kernel) dX4_looksUp_81 (fun w hM => ?_)
    rw [up_up] at hM
    refine v_iload hc dX4_looksUp_84 rfl ?_
    refine v_iload_n hc (i := 1) rfl dX4_looksUp_86 rfl ?_
    refine v_icmp_neN hc (tgt := 98) dX4_looksUp_87 (by decide) (by omega) (by omega) (fun h6 => ?_) (fun h6 => ?_)
    · rw [if_neg (show ¬ hso ct (X.getD ((lw + hg) / 2) 0) = k from h6)] at hst
      refine v_iload hc dX4_looksUp_98 rfl ?_
      refine v_iload_n hc (i := 1) rfl dX4_looksUp_100 rfl ?_
      refine v_icmp_geN hc (tgt := 111) dX4_looksUp_101 (by decide) (by omega) (by omega) (fun h7 => ?_) (fun h7 => ?_)
      · rw [if_neg (show ¬ hso ct (X.getD ((lw + hg) / 2) 0) < k from Nat.not_lt.mpr h7)] at hst
        refine v_iload_n hc (i := 3) rfl dX4_looksUp_111 rfl ?_
        refine v_istore_n hc (i := 3) rfl dX4_looksUp_112 (by decide) rfl ?_
        refine v_iload hc dX4_looksUp_113 rfl ?_
        refine v_iload_n hc (i := 1) rfl dX4_looksUp_115 rfl ?_
        refine v_icmp_geN hc (tgt := 124) dX4_looksUp_116 (by decide) (by omega) (by omega) (fun _ => ?_) (fun h8 => absurd h8 (by omega))
        refine v_iload hc dX4_looksUp_124 rfl ?_
        refine v_istore hc dX4_looksUp_126 (by decide) rfl ?_
        refine v_goto hc (tgt := 43) dX4_looksUp_128 (by decide) ?_
        exact ih (lw, (lw + hg) / 2, cn + 1, w) _ rfl ⟨by dsimp only; omega, by dsimp only; omega, hst.symm, hM⟩ (by dsimp only; omega)
      · rw [if_pos (show hso ct (X.getD ((lw + hg) / 2) 0) < k from h7)] at hst
        refine v_iload hc dX4_looksUp_104 rfl ?_
        refine v_iconst hc (v := nI 1) dX4_looksUp_106 (by decide) ?_
        first | refine v_iaddN hc dX4_looksUp_107 ?_ | refine v_iadd hc dX4_looksUp_107 ?_
        refine v_goto hc (tgt := 112) dX4_looksUp_108 (by decide) ?_
        refine v_istore_n hc (i := 3) rfl dX4_looksUp_112 (by decide) rfl ?_
        refine v_iload hc dX4_looksUp_113 rfl ?_
        refine v_iload_n hc (i := 1) rfl dX4_looksUp_115 rfl ?_
        refine v_icmp_geN hc (tgt := 124) dX4_looksUp_116 (by decide) (by omega) (by omega) (fun h8 => absurd h8 (by omega)) (fun _ => ?_)
        refine v_iload hc dX4_looksUp_119 rfl ?_
        refine v_goto hc (tgt := 126) dX4_looksUp_121 (by decide) ?_
        refine v_istore hc dX4_looksUp_126 (by decide) rfl ?_
        refine v_goto hc (tgt := 43) dX4_looksUp_128 (by decide) ?_
        exact ih ((lw + hg) / 2 + 1, hg, cn + 1, w) _ rfl ⟨by dsimp only; omega, by dsimp only; omega, hst.symm, hM⟩ (by dsimp only; omega)
    · rw [if_pos (show hso ct (X.getD ((lw + hg) / 2) 0) = k from h6)] at hst
      first | refine v_aload_n hc (i := 0) rfl dX4_looksUp_90 rfl ?_ | refine v_aload_nN hc (i := 0) rfl dX4_looksUp_90 rfl ?_
      refine v_get hc 22 (ci := 7) rfl (by decide +kernel) (by decide) (by decide +kernel) (fun _ h => h) dX4_looksUp_91 hM.1 rfl ?_
      refine v_iload hc dX4_looksUp_94 rfl ?_
      refine v_iald hc (((lw + hg) / 2)) dX4_looksUp_96 (hM.2.1 22 rfl) (rfl) (lt40 (by omega)) (by decide) ?_
      refine v_ti (show _ = nI (X.getD ((lw + hg) / 2) 0) from hL _ hmid) ?_
      exact v_iret hc hr dX4_looksUp_97 (by first | exact Nat.le_of_ble_eq_true rfl | omega | (dsimp only; omega)) (by first | exact Nat.le_of_ble_eq_true rfl | omega | (dsimp only; omega)) (⟨f, X, hS, by rw [hst]; exact hM, by rw [hst]; rfl⟩)
set_option maxRecDepth 100000 in
set_option maxHeartbeats 4000000 in
theorem c_X4_find (hM : MP G w h ad sc ai al) (hD : RD n nm ct lv lo fm sc ai al) (hct : ∀ i, i < n → isC (ct i) = true) (o : Int32) : Met l yX4_find wsX4_find ({ frames := 12, cells := 0, slots := 0, locals := 216 } : Room) (Pw G A w [.ref h, .int o]) (va_Qi (fun r w' => (isO 4096 o = false ∧ MP G w' h ad (va_up sc 24 (nI 1)) ai al) ∨ ∃ k f X v, k < 4096 ∧ o = nI k ∧ srtd (ihd ct) (fun i => i < n ∧ (fm i).isSome = true) X ∧ MP G w' h ad (va_up (va_up sc 24 (nI 0)) 23 v) (va_up ai 22 f) al ∧ r = nIo ((lku ct X k).1.map (fun p => X.getD p 0))) (Bw G A) A) 0 0 A := by
  refine m_of (cc := cX4_find) (maxL := 2) (ret := (some .int)) (by decide) rfl (Nat.le_of_ble_eq_true rfl) ?_
  intro p e s m args below meth c hc hr hmn
  refine v_loc [(0, some (.ref h)), (1, some (.int o))] rfl ?_
  first | refine v_aload_n hc (i := 0) rfl dX4_find_0 rfl ?_ | refine v_aload_nN hc (i := 0) rfl dX4_find_0 rfl ?_
  refine v_iload_n hc (i := 1) rfl dX4_find_1 rfl ?_
  refine v_callVi hc (c_X4_asksHash hM o) (cwV 1 hc.1.2.2.2.2 gX4_find_X4_asksHash rfl rfl rfl (by decide +kernel) ⟨Nat.le_of_ble_eq_true rfl, Nat.le_of_ble_eq_true rfl⟩) (hM.1) rfl rfl rfl (Nat.le_of_ble_eq_true rfl) ⟨(by first | exact Nat.le_of_ble_eq_true rfl | omega | (dsimp only; omega)), (by first | exact Nat.le_of_ble_eq_true rfl | omega | (dsimp only; omega))⟩ dX4_find_2 (fun r w' hp => ?_)
  rcases hp with ⟨h1, hM, rfl⟩ | ⟨k, hk, rfl, hM, rfl⟩
  · refine v_ifB_eq hc (tgt := 16) dX4_find_5 (by decide) (fun h2 => ?_) (fun h2 => ?_)
    · refine v_iconst hc (v := nI 0) dX4_find_16 (by decide) ?_
      exact v_iret hc hr dX4_find_17 (by first | exact Nat.le_of_ble_eq_true rfl | omega | (dsimp only; omega)) (by first | exact Nat.le_of_ble_eq_true rfl | omega | (dsimp only; omega)) (Or.inl ⟨h1, hM⟩)
    · cases h2
  · refine v_ifB_eq hc (tgt := 16) dX4_find_5 (by decide) (fun h2 => ?_) (fun h2 => ?_)
    · cases h2
    · first | refine v_aload_n hc (i := 0) rfl dX4_find_8 rfl ?_ | refine v_aload_nN hc (i := 0) rfl dX4_find_8 rfl ?_
      refine v_iload_n hc (i := 1) rfl dX4_find_9 rfl ?_
      refine v_callVi hc (c_X4_looksUp hM (hD.sc' rfl) hct hk) (cwV 1 hc.1.2.2.2.2 gX4_find_X4_looksUp rfl rfl rfl (by decide +kernel) ⟨Nat.le_of_ble_eq_true rfl, Nat.le_of_ble_eq_true rfl⟩) (hM.1) rfl rfl rfl (Nat.le_of_ble_eq_true rfl) ⟨(by first | exact Nat.le_of_ble_eq_true rfl | omega | (dsimp only; omega)), (by first | exact Nat.le_of_ble_eq_true rfl | omega | (dsimp only; omega))⟩ dX4_find_10 (fun r w' hp => ?_)
      obtain ⟨f, X, hS, hM, rfl⟩ := hp
      refine v_goto hc (tgt := 17) dX4_find_13 (by decide) ?_
      exact v_iret hc hr dX4_find_17 (by first | exact Nat.le_of_ble_eq_true rfl | omega | (dsimp only; omega)) (by first | exact Nat.le_of_ble_eq_true rfl | omega | (dsimp only; omega)) (Or.inr ⟨k, f, X, _, hk, rfl, hS, hM, rfl⟩)
set_option maxRecDepth 100000 in
set_option maxHeartbeats 4000000 in
theorem c_X4_looks (hM : MP G w h ad sc ai al) (hD : RD n nm ct lv lo fm sc ai al) (hct : ∀ i, i < n → isC (ct i) = true) (o : Int32) : Met l yX4_looks wsX4_looks ({ frames := 12, cells := 0, slots := 0, locals := 216 } : Room) (Pw G A w [.ref h, .int o]) (va_Qi (fun r w' => (isO 4096 o = false ∧ MP G w' h ad (va_up sc 24 (nI 1)) ai al) ∨ ∃ k f X v, k < 4096 ∧ o = nI k ∧ srtd (ihd ct) (fun i => i < n ∧ (fm i).isSome = true) X ∧ MP G w' h ad (va_up (va_up sc 24 (nI 0)) 23 v) (va_up ai 22 f) al ∧ r = nI (lku ct X k).2) (Bw G A) A) 0 0 A := by
  refine m_of (cc := cX4_looks) (maxL := 3) (ret := (some .int)) (by decide) rfl (Nat.le_of_ble_eq_true rfl) ?_
  intro p e s m args below meth c hc hr hmn
  refine v_loc [(0, some (.ref h)), (1, some (.int o))] rfl ?_
  first | refine v_aload_n hc (i := 0) rfl dX4_looks_0 rfl ?_ | refine v_aload_nN hc (i := 0) rfl dX4_looks_0 rfl ?_
  refine v_iload_n hc (i := 1) rfl dX4_looks_1 rfl ?_
  refine v_callVi hc (c_X4_asksHash hM o) (cwV 1 hc.1.2.2.2.2 gX4_looks_X4_asksHash rfl rfl rfl (by decide +kernel) ⟨Nat.le_of_ble_eq_true rfl, Nat.le_of_ble_eq_true rfl⟩) (hM.1) rfl rfl rfl (Nat.le_of_ble_eq_true rfl) ⟨(by first | exact Nat.le_of_ble_eq_true rfl | omega | (dsimp only; omega)), (by first | exact Nat.le_of_ble_eq_true rfl | omega | (dsimp only; omega))⟩ dX4_looks_2 (fun r w' hp => ?_)
  rcases hp with ⟨h1, hM, rfl⟩ | ⟨k, hk, rfl, hM, rfl⟩
  · refine v_ifB_ne hc (tgt := 10) dX4_looks_5 (by decide) (fun h2 => ?_) (fun h2 => ?_)
    · cases h2
    · refine v_iconst hc (v := nI 0) dX4_looks_8 (by decide) ?_
      exact v_iret hc hr dX4_looks_9 (by first | exact Nat.le_of_ble_eq_true rfl | omega | (dsimp only; omega)) (by first | exact Nat.le_of_ble_eq_true rfl | omega | (dsimp only; omega)) (Or.inl ⟨h1, hM⟩)
  · refine v_ifB_ne hc (tgt := 10) dX4_looks_5 (by decide) (fun h2 => ?_) (fun h2 => ?_)
    · first | refine v_aload_n hc (i := 0) rfl dX4_looks_10 rfl ?_ | refine v_aload_nN hc (i := 0) rfl dX4_looks_10 rfl ?_
      refine v_iload_n hc (i := 1) rfl dX4_looks_11 rfl ?_
      refine v_callVi hc (c_X4_looksUp hM (hD.sc' rfl) hct hk) (cwV 1 hc.1.2.2.2.2 gX4_looks_X4_looksUp rfl rfl rfl (by decide +kernel) ⟨Nat.le_of_ble_eq_true rfl, Nat.le_of_ble_eq_true rfl⟩) (hM.1) rfl rfl rfl (Nat.le_of_ble_eq_true rfl) ⟨(by first | exact Nat.le_of_ble_eq_true rfl | omega | (dsimp only; omega)), (by first | exact Nat.le_of_ble_eq_true rfl | omega | (dsimp only; omega))⟩ dX4_looks_12 (fun r w' hp => ?_)
      obtain ⟨f, X, hS, hM, rfl⟩ := hp
      refine v_istore_n hc (i := 2) rfl dX4_looks_15 (by decide) rfl ?_
      first | refine v_aload_n hc (i := 0) rfl dX4_looks_16 rfl ?_ | refine v_aload_nN hc (i := 0) rfl dX4_looks_16 rfl ?_
      refine v_get hc 23 (ci := 7) rfl (by decide +kernel) (by decide) (by decide +kernel) (fun _ h => h) dX4_looks_17 hM.1 rfl ?_
      exact v_iret hc hr dX4_looks_20 (by first | exact Nat.le_of_ble_eq_true rfl | omega | (dsimp only; omega)) (by first | exact Nat.le_of_ble_eq_true rfl | omega | (dsimp only; omega)) (Or.inr ⟨k, f, X, _, hk, rfl, hS, hM, rfl⟩)
    · cases h2
end MD6

