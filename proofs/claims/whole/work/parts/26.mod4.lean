/-! ===== the model: what it writes, sums, forms' questions ===== -/
section MD4
variable {l : Launch} {G : cG} {A : Nat → Prop} {w : wd} {h : Nat} {ad : Nat → Nat} {sc : Nat → Int32} {ai : Nat → Nat → Int32} {al : Nat → Int64} {n : Nat} {nm : Nat → Int32} {ct : Nat → Int64} {lv lo : Nat → Bool} {fm : Nat → Option Frm}
theorem RD.dm (hD : RD n nm ct lv lo fm sc ai al) {i : Nat} {g : Frm} (hg : fm i = some g) : RD n nm ct lv lo (va_up fm i (some (dmgF g))) sc (va_up ai 6 (va_up (ai 6) i (nI 1))) al := by
  refine ⟨hD.1, hD.2.1, fun j hj => ?_⟩
  have e : ∀ k, k ≠ 6 → va_up ai 6 (va_up (ai 6) i (nI 1)) k = ai k := fun k hk => up_n hk
  rw [e 1 (by decide), e 3 (by decide), e 4 (by decide), e 5 (by decide), e 7 (by decide), e 8 (by decide), e 9 (by decide), e 10 (by decide), va_up_self]
  obtain ⟨h1, h2⟩ := hD.2.2 j hj
  by_cases hji : j = i
  · subst hji
    rw [va_up_self, va_up_self]
    rw [hg] at h1
    refine ⟨h1, fun g' hg' => ?_⟩
    cases hg'
    exact ⟨rfl, (h2 g hg).2⟩
  · rw [up_n hji, up_n hji]
    exact ⟨h1, h2⟩
theorem RD.lvs (hD : RD n nm ct lv lo fm sc ai al) {i : Nat} (b : Bool) : RD n nm ct (va_up lv i b) lo fm sc (va_up ai 3 (va_up (ai 3) i (bI b))) al := by
  refine ⟨hD.1, hD.2.1, fun j hj => ?_⟩
  have e : ∀ k, k ≠ 3 → va_up ai 3 (va_up (ai 3) i (bI b)) k = ai k := fun k hk => up_n hk
  rw [e 1 (by decide), e 4 (by decide), e 5 (by decide), e 6 (by decide), e 7 (by decide), e 8 (by decide), e 9 (by decide), e 10 (by decide), va_up_self]
  obtain ⟨h1, h2⟩ := hD.2.2 j hj
  refine ⟨⟨h1.1, h1.2.1, ?_, h1.2.2.2⟩, h2⟩
  by_cases hji : j = i
  · subst hji; rw [va_up_self, va_up_self]
  · rw [up_n hji, up_n hji]; exact h1.2.2.1
theorem RD.los (hD : RD n nm ct lv lo fm sc ai al) {i : Nat} (b : Bool) : RD n nm ct lv (va_up lo i b) fm sc (va_up ai 4 (va_up (ai 4) i (bI b))) al := by
  refine ⟨hD.1, hD.2.1, fun j hj => ?_⟩
  have e : ∀ k, k ≠ 4 → va_up ai 4 (va_up (ai 4) i (bI b)) k = ai k := fun k hk => up_n hk
  rw [e 1 (by decide), e 3 (by decide), e 5 (by decide), e 6 (by decide), e 7 (by decide), e 8 (by decide), e 9 (by decide), e 10 (by decide), va_up_self]
  obtain ⟨h1, h2⟩ := hD.2.2 j hj
  refine ⟨⟨h1.1, h1.2.1, h1.2.2.1, ?_, h1.2.2.2.2⟩, h2⟩
  by_cases hji : j = i
  · subst hji; rw [va_up_self, va_up_self]
  · rw [up_n hji, up_n hji]; exact h1.2.2.2.1
theorem RD.loc {lo' : Nat → Bool} (hD : RD n nm ct lv lo fm sc ai al) (h : ∀ j, j < n → lo' j = lo j) : RD n nm ct lv lo' fm sc ai al := ⟨hD.1, hD.2.1, fun j hj => by rw [h j hj]; exact hD.2.2 j hj⟩
theorem RD.sto (hD : RD n nm ct lv lo fm sc ai al) {nm0 : Int32} {x : Int64} {sc' : Nat → Int32} {ai' : Nat → Nat → Int32} (hn : n < 40) (h0 : sc' 0 = nI (n + 1)) (h1 : ai' 1 = va_up (ai 1) n nm0) (h3 : ai' 3 = va_up (ai 3) n (nI 1)) (h4 : ai' 4 = va_up (ai 4) n (nI 1)) (h5 : ai' 5 = va_up (ai 5) n (nI 0)) (h6 : ai' 6 = ai 6) (h7 : ai' 7 = ai 7) (h8 : ai' 8 = ai 8) (h9 : ai' 9 = ai 9) (h10 : ai' 10 = ai 10) : RD (n + 1) (va_up nm n nm0) (va_up ct n x) (va_up lv n true) (va_up lo n true) (va_up fm n none) sc' ai' (va_up al n x) := by
  refine ⟨h0, hn, fun j hj => ?_⟩
  rw [h1, h3, h4, h5, h6, h7, h8, h9, h10]
  by_cases hji : j = n
  · subst hji
    exact ⟨⟨by rw [va_up_self, va_up_self], by rw [va_up_self, va_up_self], by rw [va_up_self, va_up_self]; rfl, by rw [va_up_self, va_up_self]; rfl, by rw [va_up_self, va_up_self]; rfl⟩, fun g hg => by rw [va_up_self] at hg; cases hg⟩
  · rw [up_n hji, up_n hji, up_n hji, up_n hji, up_n hji, up_n hji, up_n hji, up_n hji, up_n hji, up_n hji]
    exact hD.2.2 j (by omega)
set_option maxRecDepth 100000 in
set_option maxHeartbeats 4000000 in
theorem c_X4_allPacked (hM : MP G w h ad sc ai al) (hD : RD n nm ct lv lo fm sc ai al) (hC : CH n fm) : Met l yX4_allPacked wsX4_allPacked ({ frames := 9, cells := 0, slots := 0, locals := 142 } : Room) (Pw G A w [.ref h]) (va_Qi (fun r w' => w = w' ∧ r = nI (sumN n (fun j => b1 (rpk fm j)))) (Bw G A) A) 0 0 A := by
  refine m_of (cc := cX4_allPacked) (maxL := 3) (ret := (some .int)) (by decide) rfl (Nat.le_of_ble_eq_true rfl) ?_
  intro p e s m args below meth c hc hr hmn
  refine v_loc [(0, some (.ref h))] rfl ?_
  have hn := hD.2.1
  refine v_iconst hc (v := nI 0) dX4_allPacked_0 (by decide) ?_
  refine v_istore_n hc (i := 1) rfl dX4_allPacked_1 (by decide) rfl ?_
  refine v_iconst hc (v := nI 0) dX4_allPacked_2 (by decide) ?_
  refine v_istore_n hc (i := 2) rfl dX4_allPacked_3 (by decide) rfl ?_
  refine v_loop (σ := Nat) (fun k => k ≤ n) (fun k => n - k) (fun _ => w) (fun _ => 0) (fun _ => 0) (fun k => [(0, some (.ref h)), (1, some (.int (nI (sumN k (fun j => b1 (rpk fm j)))))), (2, some (.int (nI k)))]) 0 rfl (Nat.zero_le _) ?_
  intro k hk ih
  refine v_iload_n hc (i := 2) rfl dX4_allPacked_4 rfl ?_
  first | refine v_aload_n hc (i := 0) rfl dX4_allPacked_5 rfl ?_ | refine v_aload_nN hc (i := 0) rfl dX4_allPacked_5 rfl ?_
  refine v_get hc 0 (ci := 7) rfl (by decide +kernel) (by decide) (by decide +kernel) (fun _ h => h) dX4_allPacked_6 hM.1 rfl ?_
  refine v_ti (show _ = nI n from hD.1) ?_
  refine v_icmp_geN hc (tgt := 34) dX4_allPacked_9 (by decide) (by omega) (by omega) (fun h1 => ?_) (fun h1 => ?_)
  · have e : k = n := by omega
    subst e
    refine v_iload_n hc (i := 1) rfl dX4_allPacked_34 rfl ?_
    exact v_iret hc hr dX4_allPacked_35 (by first | exact Nat.le_of_ble_eq_true rfl | omega | (dsimp only; omega)) (by first | exact Nat.le_of_ble_eq_true rfl | omega | (dsimp only; omega)) (⟨rfl, rfl⟩)
  · refine v_iload_n hc (i := 1) rfl dX4_allPacked_12 rfl ?_
    first | refine v_aload_n hc (i := 0) rfl dX4_allPacked_13 rfl ?_ | refine v_aload_nN hc (i := 0) rfl dX4_allPacked_13 rfl ?_
    refine v_iload_n hc (i := 2) rfl dX4_allPacked_14 rfl ?_
    refine v_callVi hc (c_X4_isPacked hM hD hC h1) (cwV 1 hc.1.2.2.2.2 gX4_allPacked_X4_isPacked rfl rfl rfl (by decide +kernel) ⟨Nat.le_of_ble_eq_true rfl, Nat.le_of_ble_eq_true rfl⟩) (hM.1) rfl rfl rfl (Nat.le_of_ble_eq_true rfl) ⟨(by first | exact Nat.le_of_ble_eq_true rfl | omega | (dsimp only; omega)), (by first | exact Nat.le_of_ble_eq_true rfl | omega | (dsimp only; omega))⟩ dX4_allPacked_15 (fun r w' hp => ?_)
    obtain ⟨rfl, rfl⟩ := hp
    refine v_ifB_eq hc (tgt := 25) dX4_allPacked_18 (by decide) (fun h2 => ?_) (fun h2 => ?_)
    · refine v_iconst hc (v := nI 0) dX4_allPacked_25 (by decide) ?_
      first | refine v_iaddN hc dX4_allPacked_26 ?_ | refine v_iadd hc dX4_allPacked_26 ?_
      refine v_istore_n hc (i := 1) rfl dX4_allPacked_27 (by decide) rfl ?_
      first | refine v_iinc1 hc dX4_allPacked_28 rfl (by decide) rfl ?_ | refine v_iinc hc dX4_allPacked_28 rfl rfl (by decide) rfl ?_
      refine v_goto hc (tgt := 4) dX4_allPacked_31 (by decide) ?_
      exact ih (k + 1) _ (by dsimp only [List.map, sumN]; rw [h2]; rfl) h1 (by omega)
    · refine v_iconst hc (v := nI 1) dX4_allPacked_21 (by decide) ?_
      refine v_goto hc (tgt := 26) dX4_allPacked_22 (by decide) ?_
      first | refine v_iaddN hc dX4_allPacked_26 ?_ | refine v_iadd hc dX4_allPacked_26 ?_
      refine v_istore_n hc (i := 1) rfl dX4_allPacked_27 (by decide) rfl ?_
      first | refine v_iinc1 hc dX4_allPacked_28 rfl (by decide) rfl ?_ | refine v_iinc hc dX4_allPacked_28 rfl rfl (by decide) rfl ?_
      refine v_goto hc (tgt := 4) dX4_allPacked_31 (by decide) ?_
      exact ih (k + 1) _ (by dsimp only [List.map, sumN]; rw [h2]; rfl) h1 (by omega)
set_option maxRecDepth 100000 in
set_option maxHeartbeats 4000000 in
theorem c_X4_damage (hM : MP G w h ad sc ai al) (hD : RD n nm ct lv lo fm sc ai al) (hC : CH n fm) (o : Int32) : Met l yX4_damage wsX4_damage ({ frames := 10, cells := 0, slots := 0, locals := 164 } : Room) (Pw G A w [.ref h, .int o]) (va_Qi (fun r w' => (isO n o = false ∧ MP G w' h ad (va_up sc 24 (nI 1)) ai al) ∨ (∃ i, i < n ∧ o = nI i ∧ (fm i = none ∨ ∃ g, fm i = some g ∧ g.2.2.2.2 = true) ∧ MP G w' h ad (va_up sc 24 (nI 2)) ai al) ∨ ∃ i g, i < n ∧ o = nI i ∧ fm i = some g ∧ g.2.2.2.2 = false ∧ (∃ ai', MP G w' h ad (va_up sc 24 (nI 0)) ai' al ∧ RD n nm ct lv lo (va_up fm i (some (dmgF g))) (va_up sc 24 (nI 0)) ai' al) ∧ r = nI (sumN n (fun j => b1 (rpk fm j))) - nI (sumN n (fun j => b1 (rpk (va_up fm i (some (dmgF g))) j)))) (Bw G A) A) 0 0 A := by
  refine m_of (cc := cX4_damage) (maxL := 3) (ret := (some .int)) (by decide) rfl (Nat.le_of_ble_eq_true rfl) ?_
  intro p e s m args below meth c hc hr hmn
  refine v_loc [(0, some (.ref h)), (1, some (.int o))] rfl ?_
  have hn := hD.2.1
  first | refine v_aload_n hc (i := 0) rfl dX4_damage_0 rfl ?_ | refine v_aload_nN hc (i := 0) rfl dX4_damage_0 rfl ?_
  first | refine v_aload_n hc (i := 0) rfl dX4_damage_1 rfl ?_ | refine v_aload_nN hc (i := 0) rfl dX4_damage_1 rfl ?_
  refine v_iload_n hc (i := 1) rfl dX4_damage_2 rfl ?_
  refine v_callVi hc (c_X4_isObject hM o hD.1 hD.2.1) (cwV 1 hc.1.2.2.2.2 gX4_damage_X4_isObject rfl rfl rfl (by decide +kernel) ⟨Nat.le_of_ble_eq_true rfl, Nat.le_of_ble_eq_true rfl⟩) (hM.1) rfl rfl rfl (Nat.le_of_ble_eq_true rfl) ⟨(by first | exact Nat.le_of_ble_eq_true rfl | omega | (dsimp only; omega)), (by first | exact Nat.le_of_ble_eq_true rfl | omega | (dsimp only; omega))⟩ dX4_damage_3 (fun r w' hp => ?_)
  obtain ⟨rfl, rfl⟩ := hp
  refine v_ifB_ne hc (tgt := 13) dX4_damage_6 (by decide) (fun h1 => ?_) (fun h1 => ?_)
  · obtain ⟨i, hi, rfl⟩ := isO_of h1 hD.2.1
    have h5 := hD.r5 hi
    first | refine v_aload_n hc (i := 0) rfl dX4_damage_13 rfl ?_ | refine v_aload_nN hc (i := 0) rfl dX4_damage_13 rfl ?_
    refine v_get hc 5 (ci := 7) rfl (by decide +kernel) (by decide) (by decide +kernel) (fun _ h => h) dX4_damage_14 hM.1 rfl ?_
    refine v_iload_n hc (i := 1) rfl dX4_damage_17 rfl ?_
    refine v_zald hc (i) dX4_damage_18 (hM.2.2.1 5 rfl) (rfl) (by omega) (by decide) ?_
    rw [h5]
    cases hfm : fm i with
    | none =>
      refine v_ifB_eq hc (tgt := 31) dX4_damage_19 (by decide) (fun h2 => ?_) (fun h2 => ?_)
      · refine v_iconst hc (v := nI 2) dX4_damage_31 (by decide) ?_
        refine v_goto hc (tgt := 36) dX4_damage_32 (by decide) ?_
        refine v_callVi hc (c_X4_goes hM (nI 2)) (cwV 1 hc.1.2.2.2.2 gX4_damage_X4_goes rfl rfl rfl (by decide +kernel) ⟨Nat.le_of_ble_eq_true rfl, Nat.le_of_ble_eq_true rfl⟩) (hM.1) rfl rfl rfl (Nat.le_of_ble_eq_true rfl) ⟨(by first | exact Nat.le_of_ble_eq_true rfl | omega | (dsimp only; omega)), (by first | exact Nat.le_of_ble_eq_true rfl | omega | (dsimp only; omega))⟩ dX4_damage_36 (fun r w' hp => ?_)
        obtain ⟨hM, rfl⟩ := hp
        refine v_ifB_ne hc (tgt := 44) dX4_damage_39 (by decide) (fun h4 => ?_) (fun h4 => ?_)
        rotate_left
        · refine v_iconst hc (v := nI 0) dX4_damage_42 (by decide) ?_
          exact v_iret hc hr dX4_damage_43 (by first | exact Nat.le_of_ble_eq_true rfl | omega | (dsimp only; omega)) (by first | exact Nat.le_of_ble_eq_true rfl | omega | (dsimp only; omega)) (Or.inr (Or.inl ⟨i, hi, rfl, Or.inl hfm, hM⟩))
        · exact absurd h4 (by decide)
      · cases h2
    | some g =>
      have h6 := hD.r6 hi hfm
      refine v_ifB_eq hc (tgt := 31) dX4_damage_19 (by decide) (fun h2 => ?_) (fun h2 => ?_)
      · cases h2
      · first | refine v_aload_n hc (i := 0) rfl dX4_damage_22 rfl ?_ | refine v_aload_nN hc (i := 0) rfl dX4_damage_22 rfl ?_
        refine v_get hc 6 (ci := 7) rfl (by decide +kernel) (by decide) (by decide +kernel) (fun _ h => h) dX4_damage_23 hM.1 rfl ?_
        refine v_iload_n hc (i := 1) rfl dX4_damage_26 rfl ?_
        refine v_zald hc (i) dX4_damage_27 (hM.2.2.1 6 rfl) (rfl) (by omega) (by decide) ?_
        rw [h6]
        refine v_ifB_eq hc (tgt := 35) dX4_damage_28 (by decide) (fun h3 => ?_) (fun h3 => ?_)
        · refine v_iconst hc (v := nI 0) dX4_damage_35 (by decide) ?_
          refine v_callVi hc (c_X4_goes hM (nI 0)) (cwV 1 hc.1.2.2.2.2 gX4_damage_X4_goes rfl rfl rfl (by decide +kernel) ⟨Nat.le_of_ble_eq_true rfl, Nat.le_of_ble_eq_true rfl⟩) (hM.1) rfl rfl rfl (Nat.le_of_ble_eq_true rfl) ⟨(by first | exact Nat.le_of_ble_eq_true rfl | omega | (dsimp only; omega)), (by first | exact Nat.le_of_ble_eq_true rfl | omega | (dsimp only; omega))⟩ dX4_damage_36 (fun r w' hp => ?_)
          obtain ⟨hM, rfl⟩ := hp
          have hD := hD.sc' (sc' := va_up sc 24 (nI 0)) rfl
          refine v_ifB_ne hc (tgt := 44) dX4_damage_39 (by decide) (fun h4 => ?_) (fun h4 => ?_)
          rotate_left
          · exact absurd h4 (by decide)
          · first | refine v_aload_n hc (i := 0) rfl dX4_damage_44 rfl ?_ | refine v_aload_nN hc (i := 0) rfl dX4_damage_44 rfl ?_
            refine v_callVi hc (c_X4_allPacked hM hD hC) (cwV 0 hc.1.2.2.2.2 gX4_damage_X4_allPacked rfl rfl rfl (by decide +kernel) ⟨Nat.le_of_ble_eq_true rfl, Nat.le_of_ble_eq_true rfl⟩) (hM.1) rfl rfl rfl (Nat.le_of_ble_eq_true rfl) ⟨(by first | exact Nat.le_of_ble_eq_true rfl | omega | (dsimp only; omega)), (by first | exact Nat.le_of_ble_eq_true rfl | omega | (dsimp only; omega))⟩ dX4_damage_45 (fun r w' hp => ?_)
            obtain ⟨rfl, rfl⟩ := hp
            refine v_istore_n hc (i := 2) rfl dX4_damage_48 (by decide) rfl ?_
            first | refine v_aload_n hc (i := 0) rfl dX4_damage_49 rfl ?_ | refine v_aload_nN hc (i := 0) rfl dX4_damage_49 rfl ?_
            refine v_get hc 6 (ci := 7) rfl (by decide +kernel) (by decide) (by decide +kernel) (fun _ h => h) dX4_damage_50 hM.1 rfl ?_
            refine v_iload_n hc (i := 1) rfl dX4_damage_53 rfl ?_
            refine v_iconst hc (v := nI 1) dX4_damage_54 (by decide) ?_
            refine m_zast hc hM 6 rfl (i) dX4_damage_55 (rfl) (by omega) (bI_vp true) (fun w hM => ?_)
            have hD2 := hD.dm hfm
            refine v_iload_n hc (i := 2) rfl dX4_damage_56 rfl ?_
            first | refine v_aload_n hc (i := 0) rfl dX4_damage_57 rfl ?_ | refine v_aload_nN hc (i := 0) rfl dX4_damage_57 rfl ?_
            refine v_callVi hc (c_X4_allPacked hM hD2 (hC.dm hfm)) (cwV 0 hc.1.2.2.2.2 gX4_damage_X4_allPacked rfl rfl rfl (by decide +kernel) ⟨Nat.le_of_ble_eq_true rfl, Nat.le_of_ble_eq_true rfl⟩) (hM.1) rfl rfl rfl (Nat.le_of_ble_eq_true rfl) ⟨(by first | exact Nat.le_of_ble_eq_true rfl | omega | (dsimp only; omega)), (by first | exact Nat.le_of_ble_eq_true rfl | omega | (dsimp only; omega))⟩ dX4_damage_58 (fun r w' hp => ?_)
            obtain ⟨rfl, rfl⟩ := hp
            refine v_isub hc dX4_damage_61 ?_
            exact v_iret hc hr dX4_damage_62 (by first | exact Nat.le_of_ble_eq_true rfl | omega | (dsimp only; omega)) (by first | exact Nat.le_of_ble_eq_true rfl | omega | (dsimp only; omega)) (Or.inr (Or.inr ⟨i, g, hi, rfl, hfm, h3, ⟨_, hM, hD2⟩, rfl⟩))
        · refine v_iconst hc (v := nI 2) dX4_damage_31 (by decide) ?_
          refine v_goto hc (tgt := 36) dX4_damage_32 (by decide) ?_
          refine v_callVi hc (c_X4_goes hM (nI 2)) (cwV 1 hc.1.2.2.2.2 gX4_damage_X4_goes rfl rfl rfl (by decide +kernel) ⟨Nat.le_of_ble_eq_true rfl, Nat.le_of_ble_eq_true rfl⟩) (hM.1) rfl rfl rfl (Nat.le_of_ble_eq_true rfl) ⟨(by first | exact Nat.le_of_ble_eq_true rfl | omega | (dsimp only; omega)), (by first | exact Nat.le_of_ble_eq_true rfl | omega | (dsimp only; omega))⟩ dX4_damage_36 (fun r w' hp => ?_)
          obtain ⟨hM, rfl⟩ := hp
          refine v_ifB_ne hc (tgt := 44) dX4_damage_39 (by decide) (fun h4 => ?_) (fun h4 => ?_)
          rotate_left
          · refine v_iconst hc (v := nI 0) dX4_damage_42 (by decide) ?_
            exact v_iret hc hr dX4_damage_43 (by first | exact Nat.le_of_ble_eq_true rfl | omega | (dsimp only; omega)) (by first | exact Nat.le_of_ble_eq_true rfl | omega | (dsimp only; omega)) (Or.inr (Or.inl ⟨i, hi, rfl, Or.inr ⟨g, hfm, h3⟩, hM⟩))
          · exact absurd h4 (by decide)
  · refine v_iconst hc (v := nI 1) dX4_damage_9 (by decide) ?_
    refine v_goto hc (tgt := 36) dX4_damage_10 (by decide) ?_
    refine v_callVi hc (c_X4_goes hM (nI 1)) (cwV 1 hc.1.2.2.2.2 gX4_damage_X4_goes rfl rfl rfl (by decide +kernel) ⟨Nat.le_of_ble_eq_true rfl, Nat.le_of_ble_eq_true rfl⟩) (hM.1) rfl rfl rfl (Nat.le_of_ble_eq_true rfl) ⟨(by first | exact Nat.le_of_ble_eq_true rfl | omega | (dsimp only; omega)), (by first | exact Nat.le_of_ble_eq_true rfl | omega | (dsimp only; omega))⟩ dX4_damage_36 (fun r w' hp => ?_)
    obtain ⟨hM, rfl⟩ := hp
    refine v_ifB_ne hc (tgt := 44) dX4_damage_39 (by decide) (fun h4 => ?_) (fun h4 => ?_)
    rotate_left
    · refine v_iconst hc (v := nI 0) dX4_damage_42 (by decide) ?_
      exact v_iret hc hr dX4_damage_43 (by first | exact Nat.le_of_ble_eq_true rfl | omega | (dsimp only; omega)) (by first | exact Nat.le_of_ble_eq_true rfl | omega | (dsimp only; omega)) (Or.inl ⟨h1, hM⟩)
    · exact absurd h4 (by decide)
set_option maxRecDepth 100000 in
set_option maxHeartbeats 4000000 in
theorem c_X4_delete (hM : MP G w h ad sc ai al) (hD : RD n nm ct lv lo fm sc ai al) (o : Int32) : Met l yX4_delete wsX4_delete ({ frames := 10, cells := 0, slots := 0, locals := 163 } : Room) (Pw G A w [.ref h, .int o]) (va_Qi (fun r w' => (isO n o = false ∧ MP G w' h ad (va_up sc 24 (nI 1)) ai al) ∨ (∃ i, i < n ∧ o = nI i ∧ lv i = false ∧ MP G w' h ad (va_up sc 24 (nI 2)) ai al) ∨ ∃ i, i < n ∧ o = nI i ∧ lv i = true ∧ (∃ ai', MP G w' h ad (va_up sc 24 (nI 0)) ai' al ∧ RD n nm ct (va_up lv i false) (va_up lo i false) fm (va_up sc 24 (nI 0)) ai' al) ∧ r = nI (sumN n (fun j => b1 (va_up lv i false j)))) (Bw G A) A) 0 0 A := by
  refine m_of (cc := cX4_delete) (maxL := 4) (ret := (some .int)) (by decide) rfl (Nat.le_of_ble_eq_true rfl) ?_
  intro p e s m args below meth c hc hr hmn
  refine v_loc [(0, some (.ref h)), (1, some (.int o))] rfl ?_
  have hn := hD.2.1
  first | refine v_aload_n hc (i := 0) rfl dX4_delete_0 rfl ?_ | refine v_aload_nN hc (i := 0) rfl dX4_delete_0 rfl ?_
  first | refine v_aload_n hc (i := 0) rfl dX4_delete_1 rfl ?_ | refine v_aload_nN hc (i := 0) rfl dX4_delete_1 rfl ?_
  refine v_iload_n hc (i := 1) rfl dX4_delete_2 rfl ?_
  refine v_callVi hc (c_X4_isObject hM o hD.1 hD.2.1) (cwV 1 hc.1.2.2.2.2 gX4_delete_X4_isObject rfl rfl rfl (by decide +kernel) ⟨Nat.le_of_ble_eq_true rfl, Nat.le_of_ble_eq_true rfl⟩) (hM.1) rfl rfl rfl (Nat.le_of_ble_eq_true rfl) ⟨(by first | exact Nat.le_of_ble_eq_true rfl | omega | (dsimp only; omega)), (by first | exact Nat.le_of_ble_eq_true rfl | omega | (dsimp only; omega))⟩ dX4_delete_3 (fun r w' hp => ?_)
  obtain ⟨rfl, rfl⟩ := hp
  refine v_ifB_ne hc (tgt := 13) dX4_delete_6 (by decide) (fun h1 => ?_) (fun h1 => ?_)
  · obtain ⟨i, hi, rfl⟩ := isO_of h1 hD.2.1
    first | refine v_aload_n hc (i := 0) rfl dX4_delete_13 rfl ?_ | refine v_aload_nN hc (i := 0) rfl dX4_delete_13 rfl ?_
    refine v_get hc 3 (ci := 7) rfl (by decide +kernel) (by decide) (by decide +kernel) (fun _ h => h) dX4_delete_14 hM.1 rfl ?_
    refine v_iload_n hc (i := 1) rfl dX4_delete_17 rfl ?_
    refine v_zald hc (i) dX4_delete_18 (hM.2.2.1 3 rfl) (rfl) (by omega) (by decide) ?_
    rw [hD.r3 hi]
    refine v_ifB_eq hc (tgt := 26) dX4_delete_19 (by decide) (fun h2 => ?_) (fun h2 => ?_)
    · refine v_iconst hc (v := nI 2) dX4_delete_26 (by decide) ?_
      refine v_callVi hc (c_X4_goes hM (nI 2)) (cwV 1 hc.1.2.2.2.2 gX4_delete_X4_goes rfl rfl rfl (by decide +kernel) ⟨Nat.le_of_ble_eq_true rfl, Nat.le_of_ble_eq_true rfl⟩) (hM.1) rfl rfl rfl (Nat.le_of_ble_eq_true rfl) ⟨(by first | exact Nat.le_of_ble_eq_true rfl | omega | (dsimp only; omega)), (by first | exact Nat.le_of_ble_eq_true rfl | omega | (dsimp only; omega))⟩ dX4_delete_27 (fun r w' hp => ?_)
      obtain ⟨hM, rfl⟩ := hp
      refine v_ifB_ne hc (tgt := 35) dX4_delete_30 (by decide) (fun h4 => ?_) (fun h4 => ?_)
      rotate_left
      · refine v_iconst hc (v := nI 0) dX4_delete_33 (by decide) ?_
        exact v_iret hc hr dX4_delete_34 (by first | exact Nat.le_of_ble_eq_true rfl | omega | (dsimp only; omega)) (by first | exact Nat.le_of_ble_eq_true rfl | omega | (dsimp only; omega)) (Or.inr (Or.inl ⟨i, hi, rfl, h2, hM⟩))
      · exact absurd h4 (by decide)
    · refine v_iconst hc (v := nI 0) dX4_delete_22 (by decide) ?_
      refine v_goto hc (tgt := 27) dX4_delete_23 (by decide) ?_
      refine v_callVi hc (c_X4_goes hM (nI 0)) (cwV 1 hc.1.2.2.2.2 gX4_delete_X4_goes rfl rfl rfl (by decide +kernel) ⟨Nat.le_of_ble_eq_true rfl, Nat.le_of_ble_eq_true rfl⟩) (hM.1) rfl rfl rfl (Nat.le_of_ble_eq_true rfl) ⟨(by first | exact Nat.le_of_ble_eq_true rfl | omega | (dsimp only; omega)), (by first | exact Nat.le_of_ble_eq_true rfl | omega | (dsimp only; omega))⟩ dX4_delete_27 (fun r w' hp => ?_)
      obtain ⟨hM, rfl⟩ := hp
      have hD := hD.sc' (sc' := va_up sc 24 (nI 0)) rfl
      refine v_ifB_ne hc (tgt := 35) dX4_delete_30 (by decide) (fun h4 => ?_) (fun h4 => ?_)
      rotate_left
      · exact absurd h4 (by decide)
      · first | refine v_aload_n hc (i := 0) rfl dX4_delete_35 rfl ?_ | refine v_aload_nN hc (i := 0) rfl dX4_delete_35 rfl ?_
        refine v_get hc 3 (ci := 7) rfl (by decide +kernel) (by decide) (by decide +kernel) (fun _ h => h) dX4_delete_36 hM.1 rfl ?_
        refine v_iload_n hc (i := 1) rfl dX4_delete_39 rfl ?_
        refine v_iconst hc (v := nI 0) dX4_delete_40 (by decide) ?_
        refine m_zast hc hM 3 rfl (i) dX4_delete_41 (rfl) (by omega) (bI_vp false) (fun w hM => ?_)
        have hD := hD.lvs (i := i) false
        first | refine v_aload_n hc (i := 0) rfl dX4_delete_42 rfl ?_ | refine v_aload_nN hc (i := 0) rfl dX4_delete_42 rfl ?_
        refine v_get hc 4 (ci := 7) rfl (by decide +kernel) (by decide) (by decide +kernel) (fun _ h => h) dX4_delete_43 hM.1 rfl ?_
        refine v_iload_n hc (i := 1) rfl dX4_delete_46 rfl ?_
        refine v_iconst hc (v := nI 0) dX4_delete_47 (by decide) ?_
        refine m_zast hc hM 4 rfl (i) dX4_delete_48 (rfl) (by omega) (bI_vp false) (fun w hM => ?_)
        have hD := hD.los (i := i) false
        refine v_iconst hc (v := nI 0) dX4_delete_49 (by decide) ?_
        refine v_istore_n hc (i := 2) rfl dX4_delete_50 (by decide) rfl ?_
        refine v_iconst hc (v := nI 0) dX4_delete_51 (by decide) ?_
        refine v_istore_n hc (i := 3) rfl dX4_delete_52 (by decide) rfl ?_
        refine v_loop (σ := Nat) (fun k => k ≤ n) (fun k => n - k) (fun _ => w) (fun _ => 0) (fun _ => 0) (fun k => [(0, some (.ref h)), (2, some (.int (nI (sumN k (fun j => b1 (va_up lv i false j)))))), (3, some (.int (nI k)))]) 0 rfl (Nat.zero_le _) ?_
        intro k hk ih
        refine v_iload_n hc (i := 3) rfl dX4_delete_53 rfl ?_
        first | refine v_aload_n hc (i := 0) rfl dX4_delete_54 rfl ?_ | refine v_aload_nN hc (i := 0) rfl dX4_delete_54 rfl ?_
        refine v_get hc 0 (ci := 7) rfl (by decide +kernel) (by decide) (by decide +kernel) (fun _ h => h) dX4_delete_55 hM.1 rfl ?_
        refine v_ti (show _ = nI n from hD.1) ?_
        refine v_icmp_geN hc (tgt := 84) dX4_delete_58 (by decide) (by omega) (by omega) (fun h5 => ?_) (fun h5 => ?_)
        · have e : k = n := by omega
          subst e
          refine v_iload_n hc (i := 2) rfl dX4_delete_84 rfl ?_
          exact v_iret hc hr dX4_delete_85 (by first | exact Nat.le_of_ble_eq_true rfl | omega | (dsimp only; omega)) (by first | exact Nat.le_of_ble_eq_true rfl | omega | (dsimp only; omega)) (Or.inr (Or.inr ⟨i, hi, rfl, h2, ⟨_, hM, hD⟩, rfl⟩))
        · refine v_iload_n hc (i := 2) rfl dX4_delete_61 rfl ?_
          first | refine v_aload_n hc (i := 0) rfl dX4_delete_62 rfl ?_ | refine v_aload_nN hc (i := 0) rfl dX4_delete_62 rfl ?_
          refine v_get hc 3 (ci := 7) rfl (by decide +kernel) (by decide) (by decide +kernel) (fun _ h => h) dX4_delete_63 hM.1 rfl ?_
          refine v_iload_n hc (i := 3) rfl dX4_delete_66 rfl ?_
          refine v_zald hc (k) dX4_delete_67 (hM.2.2.1 3 rfl) (rfl) (by omega) (by decide) ?_
          refine v_ti (show _ = bI (va_up lv i false k) from hD.r3 h5) ?_
          refine v_ifB_eq hc (tgt := 75) dX4_delete_68 (by decide) (fun h6 => ?_) (fun h6 => ?_)
          · refine v_iconst hc (v := nI 0) dX4_delete_75 (by decide) ?_
            first | refine v_iaddN hc dX4_delete_76 ?_ | refine v_iadd hc dX4_delete_76 ?_
            refine v_istore_n hc (i := 2) rfl dX4_delete_77 (by decide) rfl ?_
            first | refine v_iinc1 hc dX4_delete_78 rfl (by decide) rfl ?_ | refine v_iinc hc dX4_delete_78 rfl rfl (by decide) rfl ?_
            refine v_goto hc (tgt := 53) dX4_delete_81 (by decide) ?_
            exact ih (k + 1) _ (by dsimp only [List.map, sumN]; rw [h6]; rfl) h5 (by omega)
          · refine v_iconst hc (v := nI 1) dX4_delete_71 (by decide) ?_
            refine v_goto hc (tgt := 76) dX4_delete_72 (by decide) ?_
            first | refine v_iaddN hc dX4_delete_76 ?_ | refine v_iadd hc dX4_delete_76 ?_
            refine v_istore_n hc (i := 2) rfl dX4_delete_77 (by decide) rfl ?_
            first | refine v_iinc1 hc dX4_delete_78 rfl (by decide) rfl ?_ | refine v_iinc hc dX4_delete_78 rfl rfl (by decide) rfl ?_
            refine v_goto hc (tgt := 53) dX4_delete_81 (by decide) ?_
            exact ih (k + 1) _ (by dsimp only [List.map, sumN]; rw [h6]; rfl) h5 (by omega)
  · refine v_iconst hc (v := nI 1) dX4_delete_9 (by decide) ?_
    refine v_goto hc (tgt := 27) dX4_delete_10 (by decide) ?_
    refine v_callVi hc (c_X4_goes hM (nI 1)) (cwV 1 hc.1.2.2.2.2 gX4_delete_X4_goes rfl rfl rfl (by decide +kernel) ⟨Nat.le_of_ble_eq_true rfl, Nat.le_of_ble_eq_true rfl⟩) (hM.1) rfl rfl rfl (Nat.le_of_ble_eq_true rfl) ⟨(by first | exact Nat.le_of_ble_eq_true rfl | omega | (dsimp only; omega)), (by first | exact Nat.le_of_ble_eq_true rfl | omega | (dsimp only; omega))⟩ dX4_delete_27 (fun r w' hp => ?_)
    obtain ⟨hM, rfl⟩ := hp
    refine v_ifB_ne hc (tgt := 35) dX4_delete_30 (by decide) (fun h4 => ?_) (fun h4 => ?_)
    rotate_left
    · refine v_iconst hc (v := nI 0) dX4_delete_33 (by decide) ?_
      exact v_iret hc hr dX4_delete_34 (by first | exact Nat.le_of_ble_eq_true rfl | omega | (dsimp only; omega)) (by first | exact Nat.le_of_ble_eq_true rfl | omega | (dsimp only; omega)) (Or.inl ⟨h1, hM⟩)
    · exact absurd h4 (by decide)
set_option maxRecDepth 100000 in
set_option maxHeartbeats 4000000 in
theorem c_X4_store (hM : MP G w h ad sc ai al) (hD : RD n nm ct lv lo fm sc ai al) (nm0 : Int32) (x : Int64) : Met l yX4_store wsX4_store ({ frames := 10, cells := 0, slots := 0, locals := 168 } : Room) (Pw G A w [.ref h, .int nm0, .long x]) (va_Qi (fun r w' => ((isin nm0 (nI 0) (nI 99) && isC x) = false ∧ MP G w' h ad (va_up sc 24 (nI 1)) ai al) ∨ ((isin nm0 (nI 0) (nI 99) && isC x) = true ∧ n = 40 ∧ MP G w' h ad (va_up sc 24 (nI 2)) ai al) ∨ ((isin nm0 (nI 0) (nI 99) && isC x) = true ∧ n < 40 ∧ (∃ ai' al', MP G w' h ad (va_up (va_up sc 24 (nI 0)) 0 (nI (n + 1))) ai' al' ∧ RD (n + 1) (va_up nm n nm0) (va_up ct n x) (va_up lv n true) (va_up lo n true) (va_up fm n none) (va_up (va_up sc 24 (nI 0)) 0 (nI (n + 1))) ai' al') ∧ r = nI n)) (Bw G A) A) 0 0 A := by
  refine m_of (cc := cX4_store) (maxL := 4) (ret := (some .int)) (by decide) rfl (Nat.le_of_ble_eq_true rfl) ?_
  intro p e s m args below meth c hc hr hmn
  refine v_loc [(0, some (.ref h)), (1, some (.int nm0)), (2, some (.long x))] rfl ?_
  have hn := hD.2.1
  first | refine v_aload_n hc (i := 0) rfl dX4_store_0 rfl ?_ | refine v_aload_nN hc (i := 0) rfl dX4_store_0 rfl ?_
  refine v_iload_n hc (i := 1) rfl dX4_store_1 rfl ?_
  refine v_iconst hc (v := nI 0) dX4_store_2 (by decide) ?_
  refine v_bipush hc (v := nI 99) dX4_store_3 (by decide) ?_
  refine v_callSi hc (c_X4_isIn _ _ _) (va_cwS 3 hc.1.2.2.2.2 gX4_store_X4_isIn rfl rfl rfl (by decide +kernel) ⟨Nat.le_of_ble_eq_true rfl, Nat.le_of_ble_eq_true rfl⟩) rfl rfl (Nat.le_of_ble_eq_true rfl) ⟨(by first | exact Nat.le_of_ble_eq_true rfl | omega | (dsimp only; omega)), (by first | exact Nat.le_of_ble_eq_true rfl | omega | (dsimp only; omega))⟩ dX4_store_5 (fun r w' hp => ?_)
  obtain ⟨rfl, rfl⟩ := hp
  have bad : ∀ {P : Prop}, (isin nm0 (nI 0) (nI 99) && isC x) = false → True := fun _ => trivial
  refine v_ifB_eq hc (tgt := 18) dX4_store_8 (by decide) (fun h1 => ?_) (fun h1 => ?_)
  · refine v_iconst hc (v := nI 1) dX4_store_18 (by decide) ?_
    refine v_goto hc (tgt := 36) dX4_store_19 (by decide) ?_
    refine v_callVi hc (c_X4_goes hM (nI 1)) (cwV 1 hc.1.2.2.2.2 gX4_store_X4_goes rfl rfl rfl (by decide +kernel) ⟨Nat.le_of_ble_eq_true rfl, Nat.le_of_ble_eq_true rfl⟩) (hM.1) rfl rfl rfl (Nat.le_of_ble_eq_true rfl) ⟨(by first | exact Nat.le_of_ble_eq_true rfl | omega | (dsimp only; omega)), (by first | exact Nat.le_of_ble_eq_true rfl | omega | (dsimp only; omega))⟩ dX4_store_36 (fun r w' hp => ?_)
    obtain ⟨hM, rfl⟩ := hp
    refine v_ifB_ne hc (tgt := 44) dX4_store_39 (by decide) (fun h4 => ?_) (fun h4 => ?_)
    rotate_left
    · refine v_iconst hc (v := nI 0) dX4_store_42 (by decide) ?_
      exact v_iret hc hr dX4_store_43 (by first | exact Nat.le_of_ble_eq_true rfl | omega | (dsimp only; omega)) (by first | exact Nat.le_of_ble_eq_true rfl | omega | (dsimp only; omega)) (Or.inl ⟨by rw [h1]; rfl, hM⟩)
    · exact absurd h4 (by decide)
  · refine v_lload_n hc (i := 2) rfl dX4_store_11 rfl ?_
    refine v_callSi hc (c_X4_isContent x) (va_cwS 1 hc.1.2.2.2.2 gX4_store_X4_isContent rfl rfl rfl (by decide +kernel) ⟨Nat.le_of_ble_eq_true rfl, Nat.le_of_ble_eq_true rfl⟩) rfl rfl (Nat.le_of_ble_eq_true rfl) ⟨(by first | exact Nat.le_of_ble_eq_true rfl | omega | (dsimp only; omega)), (by first | exact Nat.le_of_ble_eq_true rfl | omega | (dsimp only; omega))⟩ dX4_store_12 (fun r w' hp => ?_)
    obtain ⟨rfl, rfl⟩ := hp
    refine v_ifB_ne hc (tgt := 22) dX4_store_15 (by decide) (fun h2 => ?_) (fun h2 => ?_)
    · first | refine v_aload_n hc (i := 0) rfl dX4_store_22 rfl ?_ | refine v_aload_nN hc (i := 0) rfl dX4_store_22 rfl ?_
      refine v_get hc 0 (ci := 7) rfl (by decide +kernel) (by decide) (by decide +kernel) (fun _ h => h) dX4_store_23 hM.1 rfl ?_
      refine v_ti (show _ = nI n from hD.1) ?_
      refine v_bipush hc (v := nI 40) dX4_store_26 (by decide) ?_
      refine v_icmp_neN hc (tgt := 35) dX4_store_28 (by decide) (by omega) (by omega) (fun h3 => ?_) (fun h3 => ?_)
      · refine v_iconst hc (v := nI 0) dX4_store_35 (by decide) ?_
        refine v_callVi hc (c_X4_goes hM (nI 0)) (cwV 1 hc.1.2.2.2.2 gX4_store_X4_goes rfl rfl rfl (by decide +kernel) ⟨Nat.le_of_ble_eq_true rfl, Nat.le_of_ble_eq_true rfl⟩) (hM.1) rfl rfl rfl (Nat.le_of_ble_eq_true rfl) ⟨(by first | exact Nat.le_of_ble_eq_true rfl | omega | (dsimp only; omega)), (by first | exact Nat.le_of_ble_eq_true rfl | omega | (dsimp only; omega))⟩ dX4_store_36 (fun r w' hp => ?_)
        obtain ⟨hM, rfl⟩ := hp
        have hD := hD.sc' (sc' := va_up sc 24 (nI 0)) rfl
        refine v_ifB_ne hc (tgt := 44) dX4_store_39 (by decide) (fun h4 => ?_) (fun h4 => ?_)
        rotate_left
        · exact absurd h4 (by decide)
        · have hn2 : n < 40 := by omega
          first | refine v_aload_n hc (i := 0) rfl dX4_store_44 rfl ?_ | refine v_aload_nN hc (i := 0) rfl dX4_store_44 rfl ?_
          refine v_get hc 1 (ci := 7) rfl (by decide +kernel) (by decide) (by decide +kernel) (fun _ h => h) dX4_store_45 hM.1 rfl ?_
          first | refine v_aload_n hc (i := 0) rfl dX4_store_48 rfl ?_ | refine v_aload_nN hc (i := 0) rfl dX4_store_48 rfl ?_
          refine v_get hc 0 (ci := 7) rfl (by decide +kernel) (by decide) (by decide +kernel) (fun _ h => h) dX4_store_49 hM.1 rfl ?_
          refine v_iload_n hc (i := 1) rfl dX4_store_52 rfl ?_
          refine m_iast hc hM 1 rfl (n) dX4_store_53 (hD.1) (hn2) (fun w hM => ?_)
          first | refine v_aload_n hc (i := 0) rfl dX4_store_54 rfl ?_ | refine v_aload_nN hc (i := 0) rfl dX4_store_54 rfl ?_
          refine v_get hc 2 (ci := 7) rfl (by decide +kernel) (by decide) (by decide +kernel) (fun _ h => h) dX4_store_55 hM.1 rfl ?_
          first | refine v_aload_n hc (i := 0) rfl dX4_store_58 rfl ?_ | refine v_aload_nN hc (i := 0) rfl dX4_store_58 rfl ?_
          refine v_get hc 0 (ci := 7) rfl (by decide +kernel) (by decide) (by decide +kernel) (fun _ h => h) dX4_store_59 hM.1 rfl ?_
          refine v_lload_n hc (i := 2) rfl dX4_store_62 rfl ?_
          refine m_last hc hM (n) dX4_store_63 (hD.1) (hn2) (fun w hM => ?_)
          first | refine v_aload_n hc (i := 0) rfl dX4_store_64 rfl ?_ | refine v_aload_nN hc (i := 0) rfl dX4_store_64 rfl ?_
          refine v_get hc 3 (ci := 7) rfl (by decide +kernel) (by decide) (by decide +kernel) (fun _ h => h) dX4_store_65 hM.1 rfl ?_
          first | refine v_aload_n hc (i := 0) rfl dX4_store_68 rfl ?_ | refine v_aload_nN hc (i := 0) rfl dX4_store_68 rfl ?_
          refine v_get hc 0 (ci := 7) rfl (by decide +kernel) (by decide) (by decide +kernel) (fun _ h => h) dX4_store_69 hM.1 rfl ?_
          refine v_iconst hc (v := nI 1) dX4_store_72 (by decide) ?_
          refine m_zast hc hM 3 rfl (n) dX4_store_73 (hD.1) (hn2) (bI_vp true) (fun w hM => ?_)
          first | refine v_aload_n hc (i := 0) rfl dX4_store_74 rfl ?_ | refine v_aload_nN hc (i := 0) rfl dX4_store_74 rfl ?_
          refine v_get hc 4 (ci := 7) rfl (by decide +kernel) (by decide) (by decide +kernel) (fun _ h => h) dX4_store_75 hM.1 rfl ?_
          first | refine v_aload_n hc (i := 0) rfl dX4_store_78 rfl ?_ | refine v_aload_nN hc (i := 0) rfl dX4_store_78 rfl ?_
          refine v_get hc 0 (ci := 7) rfl (by decide +kernel) (by decide) (by decide +kernel) (fun _ h => h) dX4_store_79 hM.1 rfl ?_
          refine v_iconst hc (v := nI 1) dX4_store_82 (by decide) ?_
          refine m_zast hc hM 4 rfl (n) dX4_store_83 (hD.1) (hn2) (bI_vp true) (fun w hM => ?_)
          first | refine v_aload_n hc (i := 0) rfl dX4_store_84 rfl ?_ | refine v_aload_nN hc (i := 0) rfl dX4_store_84 rfl ?_
          refine v_get hc 5 (ci := 7) rfl (by decide +kernel) (by decide) (by decide +kernel) (fun _ h => h) dX4_store_85 hM.1 rfl ?_
          first | refine v_aload_n hc (i := 0) rfl dX4_store_88 rfl ?_ | refine v_aload_nN hc (i := 0) rfl dX4_store_88 rfl ?_
          refine v_get hc 0 (ci := 7) rfl (by decide +kernel) (by decide) (by decide +kernel) (fun _ h => h) dX4_store_89 hM.1 rfl ?_
          refine v_iconst hc (v := nI 0) dX4_store_92 (by decide) ?_
          refine m_zast hc hM 5 rfl (n) dX4_store_93 (hD.1) (hn2) (bI_vp false) (fun w hM => ?_)
          first | refine v_aload_n hc (i := 0) rfl dX4_store_94 rfl ?_ | refine v_aload_nN hc (i := 0) rfl dX4_store_94 rfl ?_
          refine v_dup hc dX4_store_95 rfl ?_
          refine v_get hc 0 (ci := 7) rfl (by decide +kernel) (by decide) (by decide +kernel) (fun _ h => h) dX4_store_96 hM.1 rfl ?_
          refine v_ti (show _ = nI n from hD.1) ?_
          refine v_iconst hc (v := nI 1) dX4_store_99 (by decide) ?_
          first | refine v_iaddN hc dX4_store_100 ?_ | refine v_iadd hc dX4_store_100 ?_
          refine m_put hc hM 0 rfl (by decide +kernel) (by decide +kernel) dX4_store_101 (fun w hM => ?_)
          have hD2 := hD.sto (nm0 := nm0) (x := x) (sc' := va_up (va_up sc 24 (nI 0)) 0 (nI (n + 1))) hn2 rfl (ai' := va_up (va_up (va_up (va_up ai 1 (va_up (ai 1) n nm0)) 3 (va_up (ai 3) n (nI 1))) 4 (va_up (ai 4) n (nI 1))) 5 (va_up (ai 5) n (nI 0))) rfl rfl rfl rfl rfl rfl rfl rfl rfl
          first | refine v_aload_n hc (i := 0) rfl dX4_store_104 rfl ?_ | refine v_aload_nN hc (i := 0) rfl dX4_store_104 rfl ?_
          refine v_get hc 0 (ci := 7) rfl (by decide +kernel) (by decide) (by decide +kernel) (fun _ h => h) dX4_store_105 hM.1 rfl ?_
          refine v_ti (show _ = nI (n + 1) from rfl) ?_
          refine v_iconst hc (v := nI 1) dX4_store_108 (by decide) ?_
          first | refine v_isubN hc (by omega) dX4_store_109 ?_ | refine v_isub hc dX4_store_109 ?_
          exact v_iret hc hr dX4_store_110 (by first | exact Nat.le_of_ble_eq_true rfl | omega | (dsimp only; omega)) (by first | exact Nat.le_of_ble_eq_true rfl | omega | (dsimp only; omega)) (Or.inr (Or.inr ⟨by rw [h1, h2]; rfl, hn2, ⟨_, _, hM, hD2⟩, rfl⟩))
      · refine v_iconst hc (v := nI 2) dX4_store_31 (by decide) ?_
        refine v_goto hc (tgt := 36) dX4_store_32 (by decide) ?_
        refine v_callVi hc (c_X4_goes hM (nI 2)) (cwV 1 hc.1.2.2.2.2 gX4_store_X4_goes rfl rfl rfl (by decide +kernel) ⟨Nat.le_of_ble_eq_true rfl, Nat.le_of_ble_eq_true rfl⟩) (hM.1) rfl rfl rfl (Nat.le_of_ble_eq_true rfl) ⟨(by first | exact Nat.le_of_ble_eq_true rfl | omega | (dsimp only; omega)), (by first | exact Nat.le_of_ble_eq_true rfl | omega | (dsimp only; omega))⟩ dX4_store_36 (fun r w' hp => ?_)
        obtain ⟨hM, rfl⟩ := hp
        refine v_ifB_ne hc (tgt := 44) dX4_store_39 (by decide) (fun h4 => ?_) (fun h4 => ?_)
        rotate_left
        · refine v_iconst hc (v := nI 0) dX4_store_42 (by decide) ?_
          exact v_iret hc hr dX4_store_43 (by first | exact Nat.le_of_ble_eq_true rfl | omega | (dsimp only; omega)) (by first | exact Nat.le_of_ble_eq_true rfl | omega | (dsimp only; omega)) (Or.inr (Or.inl ⟨by rw [h1, h2]; rfl, h3, hM⟩))
        · exact absurd h4 (by decide)
    · refine v_iconst hc (v := nI 1) dX4_store_18 (by decide) ?_
      refine v_goto hc (tgt := 36) dX4_store_19 (by decide) ?_
      refine v_callVi hc (c_X4_goes hM (nI 1)) (cwV 1 hc.1.2.2.2.2 gX4_store_X4_goes rfl rfl rfl (by decide +kernel) ⟨Nat.le_of_ble_eq_true rfl, Nat.le_of_ble_eq_true rfl⟩) (hM.1) rfl rfl rfl (Nat.le_of_ble_eq_true rfl) ⟨(by first | exact Nat.le_of_ble_eq_true rfl | omega | (dsimp only; omega)), (by first | exact Nat.le_of_ble_eq_true rfl | omega | (dsimp only; omega))⟩ dX4_store_36 (fun r w' hp => ?_)
      obtain ⟨hM, rfl⟩ := hp
      refine v_ifB_ne hc (tgt := 44) dX4_store_39 (by decide) (fun h4 => ?_) (fun h4 => ?_)
      rotate_left
      · refine v_iconst hc (v := nI 0) dX4_store_42 (by decide) ?_
        exact v_iret hc hr dX4_store_43 (by first | exact Nat.le_of_ble_eq_true rfl | omega | (dsimp only; omega)) (by first | exact Nat.le_of_ble_eq_true rfl | omega | (dsimp only; omega)) (Or.inl ⟨by rw [h2, Bool.and_false], hM⟩)
      · exact absurd h4 (by decide)
set_option maxRecDepth 100000 in
set_option maxHeartbeats 4000000 in
theorem c_X4_prune (hM : MP G w h ad sc ai al) (hD : RD n nm ct lv lo fm sc ai al) (hC : CH n fm) : Met l yX4_prune wsX4_prune ({ frames := 9, cells := 0, slots := 0, locals := 142 } : Room) (Pw G A w [.ref h]) (va_Qi (fun r w' => (∃ ai', MP G w' h ad (va_up sc 24 (nI 0)) ai' al ∧ RD n nm ct lv (fun i => lo i && !rpk fm i) fm (va_up sc 24 (nI 0)) ai' al) ∧ r = nI (sumN n (fun i => b1 (lo i && rpk fm i)))) (Bw G A) A) 0 0 A := by
  refine m_of (cc := cX4_prune) (maxL := 3) (ret := (some .int)) (by decide) rfl (Nat.le_of_ble_eq_true rfl) ?_
  intro p e s m args below meth c hc hr hmn
  refine v_loc [(0, some (.ref h))] rfl ?_
  have hn := hD.2.1
  first | refine v_aload_n hc (i := 0) rfl dX4_prune_0 rfl ?_ | refine v_aload_nN hc (i := 0) rfl dX4_prune_0 rfl ?_
  refine v_iconst hc (v := nI 0) dX4_prune_1 (by decide) ?_
  refine m_put hc hM 24 rfl (by decide +kernel) (by decide +kernel) dX4_prune_2 (fun w hM => ?_)
  have hD := hD.sc' (sc' := va_up sc 24 (nI 0)) rfl
  refine v_iconst hc (v := nI 0) dX4_prune_5 (by decide) ?_
  refine v_istore_n hc (i := 1) rfl dX4_prune_6 (by decide) rfl ?_
  refine v_iconst hc (v := nI 0) dX4_prune_7 (by decide) ?_
  refine v_istore_n hc (i := 2) rfl dX4_prune_8 (by decide) rfl ?_
  refine v_loop (σ := Nat × wd × (Nat → Bool) × (Nat → Nat → Int32)) (fun a => a.1 ≤ n ∧ MP G a.2.1 h ad (va_up sc 24 (nI 0)) a.2.2.2 al ∧ RD n nm ct lv a.2.2.1 fm (va_up sc 24 (nI 0)) a.2.2.2 al ∧ (∀ j, j < a.1 → a.2.2.1 j = (lo j && !rpk fm j)) ∧ ∀ j, a.1 ≤ j → a.2.2.1 j = lo j) (fun a => n - a.1) (fun a => a.2.1) (fun _ => 0) (fun _ => 0) (fun a => [(0, some (.ref h)), (1, some (.int (nI (sumN a.1 (fun i => b1 (lo i && rpk fm i)))))), (2, some (.int (nI a.1)))]) (0, w, lo, ai) rfl ⟨Nat.zero_le _, hM, hD, fun j hj => absurd hj (Nat.not_lt_zero _), fun _ _ => rfl⟩ ?_
  rintro ⟨i, w, lo2, ai⟩ ⟨hi, hM, hD, h3, h4⟩ ih
  dsimp only at hi hM hD h3 h4 ih ⊢
  refine v_iload_n hc (i := 2) rfl dX4_prune_9 rfl ?_
  first | refine v_aload_n hc (i := 0) rfl dX4_prune_10 rfl ?_ | refine v_aload_nN hc (i := 0) rfl dX4_prune_10 rfl ?_
  refine v_get hc 0 (ci := 7) rfl (by decide +kernel) (by decide) (by decide +kernel) (fun _ h => h) dX4_prune_11 hM.1 rfl ?_
  refine v_ti (show _ = nI n from hD.1) ?_
  refine v_icmp_geN hc (tgt := 50) dX4_prune_14 (by decide) (by omega) (by omega) (fun h1 => ?_) (fun h1 => ?_)
  · have e : i = n := by omega
    subst e
    refine v_iload_n hc (i := 1) rfl dX4_prune_50 rfl ?_
    exact v_iret hc hr dX4_prune_51 (by first | exact Nat.le_of_ble_eq_true rfl | omega | (dsimp only; omega)) (by first | exact Nat.le_of_ble_eq_true rfl | omega | (dsimp only; omega)) (⟨⟨_, hM, hD.loc (fun j hj => (h3 j hj).symm)⟩, rfl⟩)
  · have skip : (lo i && rpk fm i) = false → (lo i && !rpk fm i) = lo i := by cases lo i <;> cases rpk fm i <;> simp
    first | refine v_aload_n hc (i := 0) rfl dX4_prune_17 rfl ?_ | refine v_aload_nN hc (i := 0) rfl dX4_prune_17 rfl ?_
    refine v_get hc 4 (ci := 7) rfl (by decide +kernel) (by decide) (by decide +kernel) (fun _ h => h) dX4_prune_18 hM.1 rfl ?_
    refine v_iload_n hc (i := 2) rfl dX4_prune_21 rfl ?_
    refine v_zald hc (i) dX4_prune_22 (hM.2.2.1 4 rfl) (rfl) (by omega) (by decide) ?_
    rw [hD.r4 h1, h4 i (Nat.le_refl _)]
    refine v_ifB_eq hc (tgt := 44) dX4_prune_23 (by decide) (fun h5 => ?_) (fun h5 => ?_)
    · have hz : (lo i && rpk fm i) = false := by rw [h5]; rfl
      first | refine v_iinc1 hc dX4_prune_44 rfl (by decide) rfl ?_ | refine v_iinc hc dX4_prune_44 rfl rfl (by decide) rfl ?_
      refine v_goto hc (tgt := 9) dX4_prune_47 (by decide) ?_
      refine ih (i + 1, w, lo2, ai) _ (by dsimp only [List.map, sumN]; rw [hz]; rfl) ⟨h1, hM, hD, fun j hj => ?_, fun j hj => h4 j (by dsimp only at hj; omega)⟩ (by dsimp only; omega)
      dsimp only at hj ⊢
      by_cases hji : j = i
      · subst hji; rw [skip hz]; exact h4 j (Nat.le_refl _)
      · exact h3 j (by omega)
    · first | refine v_aload_n hc (i := 0) rfl dX4_prune_26 rfl ?_ | refine v_aload_nN hc (i := 0) rfl dX4_prune_26 rfl ?_
      refine v_iload_n hc (i := 2) rfl dX4_prune_27 rfl ?_
      refine v_callVi hc (c_X4_isPacked hM hD hC h1) (cwV 1 hc.1.2.2.2.2 gX4_prune_X4_isPacked rfl rfl rfl (by decide +kernel) ⟨Nat.le_of_ble_eq_true rfl, Nat.le_of_ble_eq_true rfl⟩) (hM.1) rfl rfl rfl (Nat.le_of_ble_eq_true rfl) ⟨(by first | exact Nat.le_of_ble_eq_true rfl | omega | (dsimp only; omega)), (by first | exact Nat.le_of_ble_eq_true rfl | omega | (dsimp only; omega))⟩ dX4_prune_28 (fun r w' hp => ?_)
      obtain ⟨rfl, rfl⟩ := hp
      refine v_ifB_eq hc (tgt := 44) dX4_prune_31 (by decide) (fun h6 => ?_) (fun h6 => ?_)
      · have hz : (lo i && rpk fm i) = false := by rw [h6, Bool.and_false]
        first | refine v_iinc1 hc dX4_prune_44 rfl (by decide) rfl ?_ | refine v_iinc hc dX4_prune_44 rfl rfl (by decide) rfl ?_
        refine v_goto hc (tgt := 9) dX4_prune_47 (by decide) ?_
        refine ih (i + 1, w, lo2, ai) _ (by dsimp only [List.map, sumN]; rw [hz]; rfl) ⟨h1, hM, hD, fun j hj => ?_, fun j hj => h4 j (by dsimp only at hj; omega)⟩ (by dsimp only; omega)
        dsimp only at hj ⊢
        by_cases hji : j = i
        · subst hji; rw [skip hz]; exact h4 j (Nat.le_refl _)
        · exact h3 j (by omega)
      · have hz : (lo i && rpk fm i) = true := by rw [h5, h6]; rfl
        first | refine v_aload_n hc (i := 0) rfl dX4_prune_34 rfl ?_ | refine v_aload_nN hc (i := 0) rfl dX4_prune_34 rfl ?_
        refine v_get hc 4 (ci := 7) rfl (by decide +kernel) (by decide) (by decide +kernel) (fun _ h => h) dX4_prune_35 hM.1 rfl ?_
        refine v_iload_n hc (i := 2) rfl dX4_prune_38 rfl ?_
        refine v_iconst hc (v := nI 0) dX4_prune_39 (by decide) ?_
        refine m_zast hc hM 4 rfl i dX4_prune_40 rfl (by omega) (bI_vp false) (fun w hM => ?_)
        have hD := hD.los (i := i) false
        first | refine v_iinc1 hc dX4_prune_41 rfl (by decide) rfl ?_ | refine v_iinc hc dX4_prune_41 rfl rfl (by decide) rfl ?_
        first | refine v_iinc1 hc dX4_prune_44 rfl (by decide) rfl ?_ | refine v_iinc hc dX4_prune_44 rfl rfl (by decide) rfl ?_
        refine v_goto hc (tgt := 9) dX4_prune_47 (by decide) ?_
        refine ih (i + 1, w, va_up lo2 i false, _) _ (by dsimp only [List.map, sumN]; rw [hz]; rfl) ⟨h1, hM, hD, fun j hj => ?_, fun j hj => ?_⟩ (by dsimp only; omega)
        · dsimp only at hj ⊢
          by_cases hji : j = i
          · subst hji; rw [va_up_self, h5, h6]; rfl
          · rw [up_n hji]; exact h3 j (by omega)
        · dsimp only at hj ⊢
          rw [up_n (by omega)]; exact h4 j (by omega)
set_option maxRecDepth 100000 in
set_option maxHeartbeats 4000000 in
theorem c_X4_forms_ (hM : MP G w h ad sc ai al) (hD : RD n nm ct lv lo fm sc ai al) : Met l yX4_forms_ wsX4_forms_ ({ frames := 8, cells := 0, slots := 0, locals := 120 } : Room) (Pw G A w [.ref h]) (va_Qi (fun r w' => MP G w' h ad (va_up sc 24 (nI 0)) ai al ∧ r = nI (sumN n (fun i => b1 (fm i).isSome))) (Bw G A) A) 0 0 A := by
  refine m_of (cc := cX4_forms_) (maxL := 3) (ret := (some .int)) (by decide) rfl (Nat.le_of_ble_eq_true rfl) ?_
  intro p e s m args below meth c hc hr hmn
  refine v_loc [(0, some (.ref h))] rfl ?_
  have hn := hD.2.1
  first | refine v_aload_n hc (i := 0) rfl dX4_forms__0 rfl ?_ | refine v_aload_nN hc (i := 0) rfl dX4_forms__0 rfl ?_
  refine v_iconst hc (v := nI 0) dX4_forms__1 (by decide) ?_
  refine m_put hc hM 24 rfl (by decide +kernel) (by decide +kernel) dX4_forms__2 (fun w hM => ?_)
  refine v_iconst hc (v := nI 0) dX4_forms__5 (by decide) ?_
  refine v_istore_n hc (i := 1) rfl dX4_forms__6 (by decide) rfl ?_
  refine v_iconst hc (v := nI 0) dX4_forms__7 (by decide) ?_
  refine v_istore_n hc (i := 2) rfl dX4_forms__8 (by decide) rfl ?_
  refine v_loop (σ := Nat) (fun k => k ≤ n) (fun k => n - k) (fun _ => w) (fun _ => 0) (fun _ => 0) (fun k => [(0, some (.ref h)), (1, some (.int (nI (sumN k (fun i => b1 (fm i).isSome))))), (2, some (.int (nI k)))]) 0 rfl (Nat.zero_le _) ?_
  intro k hk ih
  refine v_iload_n hc (i := 2) rfl dX4_forms__9 rfl ?_
  first | refine v_aload_n hc (i := 0) rfl dX4_forms__10 rfl ?_ | refine v_aload_nN hc (i := 0) rfl dX4_forms__10 rfl ?_
  refine v_get hc 0 (ci := 7) rfl (by decide +kernel) (by decide) (by decide +kernel) (fun _ h => h) dX4_forms__11 hM.1 rfl ?_
  refine v_ti (show _ = nI n from hD.1) ?_
  refine v_icmp_geN hc (tgt := 40) dX4_forms__14 (by decide) (by omega) (by omega) (fun h1 => ?_) (fun h1 => ?_)
  · have e : k = n := by omega
    subst e
    refine v_iload_n hc (i := 1) rfl dX4_forms__40 rfl ?_
    exact v_iret hc hr dX4_forms__41 (by first | exact Nat.le_of_ble_eq_true rfl | omega | (dsimp only; omega)) (by first | exact Nat.le_of_ble_eq_true rfl | omega | (dsimp only; omega)) (⟨hM, rfl⟩)
  · refine v_iload_n hc (i := 1) rfl dX4_forms__17 rfl ?_
    first | refine v_aload_n hc (i := 0) rfl dX4_forms__18 rfl ?_ | refine v_aload_nN hc (i := 0) rfl dX4_forms__18 rfl ?_
    refine v_get hc 5 (ci := 7) rfl (by decide +kernel) (by decide) (by decide +kernel) (fun _ h => h) dX4_forms__19 hM.1 rfl ?_
    refine v_iload_n hc (i := 2) rfl dX4_forms__22 rfl ?_
    refine v_zald hc (k) dX4_forms__23 (hM.2.2.1 5 rfl) (rfl) (by omega) (by decide) ?_
    rw [hD.r5 h1]
    refine v_ifB_eq hc (tgt := 31) dX4_forms__24 (by decide) (fun h2 => ?_) (fun h2 => ?_)
    · refine v_iconst hc (v := nI 0) dX4_forms__31 (by decide) ?_
      first | refine v_iaddN hc dX4_forms__32 ?_ | refine v_iadd hc dX4_forms__32 ?_
      refine v_istore_n hc (i := 1) rfl dX4_forms__33 (by decide) rfl ?_
      first | refine v_iinc1 hc dX4_forms__34 rfl (by decide) rfl ?_ | refine v_iinc hc dX4_forms__34 rfl rfl (by decide) rfl ?_
      refine v_goto hc (tgt := 9) dX4_forms__37 (by decide) ?_
      exact ih (k + 1) _ (by dsimp only [List.map, sumN]; rw [h2]; rfl) h1 (by omega)
    · refine v_iconst hc (v := nI 1) dX4_forms__27 (by decide) ?_
      refine v_goto hc (tgt := 32) dX4_forms__28 (by decide) ?_
      first | refine v_iaddN hc dX4_forms__32 ?_ | refine v_iadd hc dX4_forms__32 ?_
      refine v_istore_n hc (i := 1) rfl dX4_forms__33 (by decide) rfl ?_
      first | refine v_iinc1 hc dX4_forms__34 rfl (by decide) rfl ?_ | refine v_iinc hc dX4_forms__34 rfl rfl (by decide) rfl ?_
      refine v_goto hc (tgt := 9) dX4_forms__37 (by decide) ?_
      exact ih (k + 1) _ (by dsimp only [List.map, sumN]; rw [h2]; rfl) h1 (by omega)
set_option maxRecDepth 100000 in
set_option maxHeartbeats 4000000 in
theorem c_X4_allCosts (hM : MP G w h ad sc ai al) (hD : RD n nm ct lv lo fm sc ai al) : Met l yX4_allCosts wsX4_allCosts ({ frames := 8, cells := 0, slots := 0, locals := 120 } : Room) (Pw G A w [.ref h]) (va_Qi (fun r w' => w = w' ∧ r = nI (sumN n (cst fm))) (Bw G A) A) 0 0 A := by
  refine m_of (cc := cX4_allCosts) (maxL := 3) (ret := (some .int)) (by decide) rfl (Nat.le_of_ble_eq_true rfl) ?_
  intro p e s m args below meth c hc hr hmn
  refine v_loc [(0, some (.ref h))] rfl ?_
  have hn := hD.2.1
  refine v_iconst hc (v := nI 0) dX4_allCosts_0 (by decide) ?_
  refine v_istore_n hc (i := 1) rfl dX4_allCosts_1 (by decide) rfl ?_
  refine v_iconst hc (v := nI 0) dX4_allCosts_2 (by decide) ?_
  refine v_istore_n hc (i := 2) rfl dX4_allCosts_3 (by decide) rfl ?_
  refine v_loop (σ := Nat) (fun k => k ≤ n) (fun k => n - k) (fun _ => w) (fun _ => 0) (fun _ => 0) (fun k => [(0, some (.ref h)), (1, some (.int (nI (sumN k (cst fm))))), (2, some (.int (nI k)))]) 0 rfl (Nat.zero_le _) ?_
  intro k hk ih
  refine v_iload_n hc (i := 2) rfl dX4_allCosts_4 rfl ?_
  first | refine v_aload_n hc (i := 0) rfl dX4_allCosts_5 rfl ?_ | refine v_aload_nN hc (i := 0) rfl dX4_allCosts_5 rfl ?_
  refine v_get hc 0 (ci := 7) rfl (by decide +kernel) (by decide) (by decide +kernel) (fun _ h => h) dX4_allCosts_6 hM.1 rfl ?_
  refine v_ti (show _ = nI n from hD.1) ?_
  refine v_icmp_geN hc (tgt := 40) dX4_allCosts_9 (by decide) (by omega) (by omega) (fun h1 => ?_) (fun h1 => ?_)
  · have e : k = n := by omega
    subst e
    refine v_iload_n hc (i := 1) rfl dX4_allCosts_40 rfl ?_
    exact v_iret hc hr dX4_allCosts_41 (by first | exact Nat.le_of_ble_eq_true rfl | omega | (dsimp only; omega)) (by first | exact Nat.le_of_ble_eq_true rfl | omega | (dsimp only; omega)) (⟨rfl, rfl⟩)
  · refine v_iload_n hc (i := 1) rfl dX4_allCosts_12 rfl ?_
    first | refine v_aload_n hc (i := 0) rfl dX4_allCosts_13 rfl ?_ | refine v_aload_nN hc (i := 0) rfl dX4_allCosts_13 rfl ?_
    refine v_get hc 5 (ci := 7) rfl (by decide +kernel) (by decide) (by decide +kernel) (fun _ h => h) dX4_allCosts_14 hM.1 rfl ?_
    refine v_iload_n hc (i := 2) rfl dX4_allCosts_17 rfl ?_
    refine v_zald hc (k) dX4_allCosts_18 (hM.2.2.1 5 rfl) (rfl) (by omega) (by decide) ?_
    rw [hD.r5 h1]
    cases hfm : fm k with
    | none =>
      have hz : cst fm k = 0 := by unfold cst; rw [hfm]
      refine v_ifB_eq hc (tgt := 31) dX4_allCosts_19 (by decide) (fun h2 => ?_) (fun h2 => ?_)
      · refine v_iconst hc (v := nI 0) dX4_allCosts_31 (by decide) ?_
        first | refine v_iaddN hc dX4_allCosts_32 ?_ | refine v_iadd hc dX4_allCosts_32 ?_
        refine v_istore_n hc (i := 1) rfl dX4_allCosts_33 (by decide) rfl ?_
        first | refine v_iinc1 hc dX4_allCosts_34 rfl (by decide) rfl ?_ | refine v_iinc hc dX4_allCosts_34 rfl rfl (by decide) rfl ?_
        refine v_goto hc (tgt := 4) dX4_allCosts_37 (by decide) ?_
        exact ih (k + 1) _ (by dsimp only [List.map, sumN]; rw [hz]; rfl) h1 (by omega)
      · cases h2
    | some g =>
      have hz : cst fm k = g.2.2.2.1 := by unfold cst; rw [hfm]
      refine v_ifB_eq hc (tgt := 31) dX4_allCosts_19 (by decide) (fun h2 => ?_) (fun h2 => ?_)
      · cases h2
      · first | refine v_aload_n hc (i := 0) rfl dX4_allCosts_22 rfl ?_ | refine v_aload_nN hc (i := 0) rfl dX4_allCosts_22 rfl ?_
        refine v_get hc 8 (ci := 7) rfl (by decide +kernel) (by decide) (by decide +kernel) (fun _ h => h) dX4_allCosts_23 hM.1 rfl ?_
        refine v_iload_n hc (i := 2) rfl dX4_allCosts_26 rfl ?_
        refine v_iald hc (k) dX4_allCosts_27 (hM.2.1 8 rfl) (rfl) (Nat.lt_of_lt_of_le h1 hn) (by decide) ?_
        rw [hD.r8 h1 hfm]
        refine v_goto hc (tgt := 32) dX4_allCosts_28 (by decide) ?_
        first | refine v_iaddN hc dX4_allCosts_32 ?_ | refine v_iadd hc dX4_allCosts_32 ?_
        refine v_istore_n hc (i := 1) rfl dX4_allCosts_33 (by decide) rfl ?_
        first | refine v_iinc1 hc dX4_allCosts_34 rfl (by decide) rfl ?_ | refine v_iinc hc dX4_allCosts_34 rfl rfl (by decide) rfl ?_
        refine v_goto hc (tgt := 4) dX4_allCosts_37 (by decide) ?_
        exact ih (k + 1) _ (by dsimp only [List.map, sumN]; rw [hz]; rfl) h1 (by omega)
set_option maxRecDepth 100000 in
set_option maxHeartbeats 4000000 in
theorem c_X4_cost (hM : MP G w h ad sc ai al) (hD : RD n nm ct lv lo fm sc ai al) : Met l yX4_cost wsX4_cost ({ frames := 9, cells := 0, slots := 0, locals := 142 } : Room) (Pw G A w [.ref h]) (va_Qi (fun r w' => MP G w' h ad (va_up sc 24 (nI 0)) ai al ∧ r = nI (sumN n (cst fm))) (Bw G A) A) 0 0 A := by
  refine m_of (cc := cX4_cost) (maxL := 1) (ret := (some .int)) (by decide) rfl (Nat.le_of_ble_eq_true rfl) ?_
  intro p e s m args below meth c hc hr hmn
  refine v_loc [(0, some (.ref h))] rfl ?_
  first | refine v_aload_n hc (i := 0) rfl dX4_cost_0 rfl ?_ | refine v_aload_nN hc (i := 0) rfl dX4_cost_0 rfl ?_
  refine v_iconst hc (v := nI 0) dX4_cost_1 (by decide) ?_
  refine m_put hc hM 24 rfl (by decide +kernel) (by decide +kernel) dX4_cost_2 (fun w hM => ?_)
  first | refine v_aload_n hc (i := 0) rfl dX4_cost_5 rfl ?_ | refine v_aload_nN hc (i := 0) rfl dX4_cost_5 rfl ?_
  refine v_callVi hc (c_X4_allCosts hM (hD.sc' rfl)) (cwV 0 hc.1.2.2.2.2 gX4_cost_X4_allCosts rfl rfl rfl (by decide +kernel) ⟨Nat.le_of_ble_eq_true rfl, Nat.le_of_ble_eq_true rfl⟩) (hM.1) rfl rfl rfl (Nat.le_of_ble_eq_true rfl) ⟨(by first | exact Nat.le_of_ble_eq_true rfl | omega | (dsimp only; omega)), (by first | exact Nat.le_of_ble_eq_true rfl | omega | (dsimp only; omega))⟩ dX4_cost_6 (fun r w' hp => ?_)
  obtain ⟨rfl, rfl⟩ := hp
  exact v_iret hc hr dX4_cost_9 (by first | exact Nat.le_of_ble_eq_true rfl | omega | (dsimp only; omega)) (by first | exact Nat.le_of_ble_eq_true rfl | omega | (dsimp only; omega)) (⟨hM, rfl⟩)
set_option maxRecDepth 100000 in
set_option maxHeartbeats 4000000 in
theorem c_X4_asksForm (hM : MP G w h ad sc ai al) (hD : RD n nm ct lv lo fm sc ai al) (o : Int32) : Met l yX4_asksForm wsX4_asksForm ({ frames := 10, cells := 0, slots := 0, locals := 163 } : Room) (Pw G A w [.ref h, .int o]) (va_Qi (fun r w' => (isO n o = false ∧ MP G w' h ad (va_up sc 24 (nI 1)) ai al ∧ r = bI false) ∨ (∃ i, i < n ∧ o = nI i ∧ fm i = none ∧ MP G w' h ad (va_up sc 24 (nI 2)) ai al ∧ r = bI false) ∨ ∃ i g, i < n ∧ o = nI i ∧ fm i = some g ∧ MP G w' h ad (va_up sc 24 (nI 0)) ai al ∧ r = bI true) (Bw G A) A) 0 0 A := by
  refine m_of (cc := cX4_asksForm) (maxL := 2) (ret := (some .boolean)) (by decide) rfl (Nat.le_of_ble_eq_true rfl) ?_
  intro p e s m args below meth c hc hr hmn
  refine v_loc [(0, some (.ref h)), (1, some (.int o))] rfl ?_
  have hn := hD.2.1
  first | refine v_aload_n hc (i := 0) rfl dX4_asksForm_0 rfl ?_ | refine v_aload_nN hc (i := 0) rfl dX4_asksForm_0 rfl ?_
  first | refine v_aload_n hc (i := 0) rfl dX4_asksForm_1 rfl ?_ | refine v_aload_nN hc (i := 0) rfl dX4_asksForm_1 rfl ?_
  refine v_iload_n hc (i := 1) rfl dX4_asksForm_2 rfl ?_
  refine v_callVi hc (c_X4_isObject hM o hD.1 hD.2.1) (cwV 1 hc.1.2.2.2.2 gX4_asksForm_X4_isObject rfl rfl rfl (by decide +kernel) ⟨Nat.le_of_ble_eq_true rfl, Nat.le_of_ble_eq_true rfl⟩) (hM.1) rfl rfl rfl (Nat.le_of_ble_eq_true rfl) ⟨(by first | exact Nat.le_of_ble_eq_true rfl | omega | (dsimp only; omega)), (by first | exact Nat.le_of_ble_eq_true rfl | omega | (dsimp only; omega))⟩ dX4_asksForm_3 (fun r w' hp => ?_)
  obtain ⟨rfl, rfl⟩ := hp
  refine v_ifB_ne hc (tgt := 13) dX4_asksForm_6 (by decide) (fun h1 => ?_) (fun h1 => ?_)
  · obtain ⟨i, hi, rfl⟩ := isO_of h1 hD.2.1
    first | refine v_aload_n hc (i := 0) rfl dX4_asksForm_13 rfl ?_ | refine v_aload_nN hc (i := 0) rfl dX4_asksForm_13 rfl ?_
    refine v_get hc 5 (ci := 7) rfl (by decide +kernel) (by decide) (by decide +kernel) (fun _ h => h) dX4_asksForm_14 hM.1 rfl ?_
    refine v_iload_n hc (i := 1) rfl dX4_asksForm_17 rfl ?_
    refine v_zald hc (i) dX4_asksForm_18 (hM.2.2.1 5 rfl) (rfl) (by omega) (by decide) ?_
    rw [hD.r5 hi]
    cases hfm : fm i with
    | none =>
      refine v_ifB_eq hc (tgt := 26) dX4_asksForm_19 (by decide) (fun h2 => ?_) (fun h2 => ?_)
      · refine v_iconst hc (v := nI 2) dX4_asksForm_26 (by decide) ?_
        refine v_callVi hc (c_X4_goes hM (nI 2)) (cwV 1 hc.1.2.2.2.2 gX4_asksForm_X4_goes rfl rfl rfl (by decide +kernel) ⟨Nat.le_of_ble_eq_true rfl, Nat.le_of_ble_eq_true rfl⟩) (hM.1) rfl rfl rfl (Nat.le_of_ble_eq_true rfl) ⟨(by first | exact Nat.le_of_ble_eq_true rfl | omega | (dsimp only; omega)), (by first | exact Nat.le_of_ble_eq_true rfl | omega | (dsimp only; omega))⟩ dX4_asksForm_27 (fun r w' hp => ?_)
        obtain ⟨hM, rfl⟩ := hp
        exact v_zret hc hr dX4_asksForm_30 (by first | exact Nat.le_of_ble_eq_true rfl | omega | (dsimp only; omega)) (by first | exact Nat.le_of_ble_eq_true rfl | omega | (dsimp only; omega)) (by first | rfl | exact bI_nar _) (Or.inr (Or.inl ⟨i, hi, rfl, hfm, hM, rfl⟩))
      · cases h2
    | some g =>
      refine v_ifB_eq hc (tgt := 26) dX4_asksForm_19 (by decide) (fun h2 => ?_) (fun h2 => ?_)
      · cases h2
      · refine v_iconst hc (v := nI 0) dX4_asksForm_22 (by decide) ?_
        refine v_goto hc (tgt := 27) dX4_asksForm_23 (by decide) ?_
        refine v_callVi hc (c_X4_goes hM (nI 0)) (cwV 1 hc.1.2.2.2.2 gX4_asksForm_X4_goes rfl rfl rfl (by decide +kernel) ⟨Nat.le_of_ble_eq_true rfl, Nat.le_of_ble_eq_true rfl⟩) (hM.1) rfl rfl rfl (Nat.le_of_ble_eq_true rfl) ⟨(by first | exact Nat.le_of_ble_eq_true rfl | omega | (dsimp only; omega)), (by first | exact Nat.le_of_ble_eq_true rfl | omega | (dsimp only; omega))⟩ dX4_asksForm_27 (fun r w' hp => ?_)
        obtain ⟨hM, rfl⟩ := hp
        exact v_zret hc hr dX4_asksForm_30 (by first | exact Nat.le_of_ble_eq_true rfl | omega | (dsimp only; omega)) (by first | exact Nat.le_of_ble_eq_true rfl | omega | (dsimp only; omega)) (by first | rfl | exact bI_nar _) (Or.inr (Or.inr ⟨i, g, hi, rfl, hfm, hM, rfl⟩))
  · refine v_iconst hc (v := nI 1) dX4_asksForm_9 (by decide) ?_
    refine v_goto hc (tgt := 27) dX4_asksForm_10 (by decide) ?_
    refine v_callVi hc (c_X4_goes hM (nI 1)) (cwV 1 hc.1.2.2.2.2 gX4_asksForm_X4_goes rfl rfl rfl (by decide +kernel) ⟨Nat.le_of_ble_eq_true rfl, Nat.le_of_ble_eq_true rfl⟩) (hM.1) rfl rfl rfl (Nat.le_of_ble_eq_true rfl) ⟨(by first | exact Nat.le_of_ble_eq_true rfl | omega | (dsimp only; omega)), (by first | exact Nat.le_of_ble_eq_true rfl | omega | (dsimp only; omega))⟩ dX4_asksForm_27 (fun r w' hp => ?_)
    obtain ⟨hM, rfl⟩ := hp
    exact v_zret hc hr dX4_asksForm_30 (by first | exact Nat.le_of_ble_eq_true rfl | omega | (dsimp only; omega)) (by first | exact Nat.le_of_ble_eq_true rfl | omega | (dsimp only; omega)) (by first | rfl | exact bI_nar _) (Or.inl ⟨h1, hM, rfl⟩)
set_option maxRecDepth 100000 in
set_option maxHeartbeats 4000000 in
theorem c_X4_costOf (hM : MP G w h ad sc ai al) (hD : RD n nm ct lv lo fm sc ai al) (o : Int32) : Met l yX4_costOf wsX4_costOf ({ frames := 11, cells := 0, slots := 0, locals := 184 } : Room) (Pw G A w [.ref h, .int o]) (va_Qi (fun r w' => (isO n o = false ∧ MP G w' h ad (va_up sc 24 (nI 1)) ai al) ∨ (∃ i, i < n ∧ o = nI i ∧ fm i = none ∧ MP G w' h ad (va_up sc 24 (nI 2)) ai al) ∨ ∃ i g, i < n ∧ o = nI i ∧ fm i = some g ∧ MP G w' h ad (va_up sc 24 (nI 0)) ai al ∧ r = nI g.2.2.2.1) (Bw G A) A) 0 0 A := by
  refine m_of (cc := cX4_costOf) (maxL := 2) (ret := (some .int)) (by decide) rfl (Nat.le_of_ble_eq_true rfl) ?_
  intro p e s m args below meth c hc hr hmn
  refine v_loc [(0, some (.ref h)), (1, some (.int o))] rfl ?_
  have hn := hD.2.1
  first | refine v_aload_n hc (i := 0) rfl dX4_costOf_0 rfl ?_ | refine v_aload_nN hc (i := 0) rfl dX4_costOf_0 rfl ?_
  refine v_iload_n hc (i := 1) rfl dX4_costOf_1 rfl ?_
  refine v_callVi hc (c_X4_asksForm hM hD o) (cwV 1 hc.1.2.2.2.2 gX4_costOf_X4_asksForm rfl rfl rfl (by decide +kernel) ⟨Nat.le_of_ble_eq_true rfl, Nat.le_of_ble_eq_true rfl⟩) (hM.1) rfl rfl rfl (Nat.le_of_ble_eq_true rfl) ⟨(by first | exact Nat.le_of_ble_eq_true rfl | omega | (dsimp only; omega)), (by first | exact Nat.le_of_ble_eq_true rfl | omega | (dsimp only; omega))⟩ dX4_costOf_2 (fun r w' hp => ?_)
  rcases hp with ⟨h1, hM, rfl⟩ | ⟨i, hi, rfl, hfm, hM, rfl⟩ | ⟨i, g, hi, rfl, hfm, hM, rfl⟩
  · refine v_ifB_eq hc (tgt := 17) dX4_costOf_5 (by decide) (fun h2 => ?_) (fun h2 => ?_)
    · refine v_iconst hc (v := nI 0) dX4_costOf_17 (by decide) ?_
      exact v_iret hc hr dX4_costOf_18 (by first | exact Nat.le_of_ble_eq_true rfl | omega | (dsimp only; omega)) (by first | exact Nat.le_of_ble_eq_true rfl | omega | (dsimp only; omega)) (Or.inl ⟨h1, hM⟩)
    · cases h2
  · refine v_ifB_eq hc (tgt := 17) dX4_costOf_5 (by decide) (fun h2 => ?_) (fun h2 => ?_)
    · refine v_iconst hc (v := nI 0) dX4_costOf_17 (by decide) ?_
      exact v_iret hc hr dX4_costOf_18 (by first | exact Nat.le_of_ble_eq_true rfl | omega | (dsimp only; omega)) (by first | exact Nat.le_of_ble_eq_true rfl | omega | (dsimp only; omega)) (Or.inr (Or.inl ⟨i, hi, rfl, hfm, hM⟩))
    · cases h2
  · refine v_ifB_eq hc (tgt := 17) dX4_costOf_5 (by decide) (fun h2 => ?_) (fun h2 => ?_)
    · cases h2
    · first | refine v_aload_n hc (i := 0) rfl dX4_costOf_8 rfl ?_ | refine v_aload_nN hc (i := 0) rfl dX4_costOf_8 rfl ?_
      refine v_get hc 8 (ci := 7) rfl (by decide +kernel) (by decide) (by decide +kernel) (fun _ h => h) dX4_costOf_9 hM.1 rfl ?_
      refine v_iload_n hc (i := 1) rfl dX4_costOf_12 rfl ?_
      refine v_iald hc (i) dX4_costOf_13 (hM.2.1 8 rfl) (rfl) (Nat.lt_of_lt_of_le hi hn) (by decide) ?_
      rw [hD.r8 hi hfm]
      refine v_goto hc (tgt := 18) dX4_costOf_14 (by decide) ?_
      exact v_iret hc hr dX4_costOf_18 (by first | exact Nat.le_of_ble_eq_true rfl | omega | (dsimp only; omega)) (by first | exact Nat.le_of_ble_eq_true rfl | omega | (dsimp only; omega)) (Or.inr (Or.inr ⟨i, g, hi, rfl, hfm, hM, rfl⟩))
set_option maxRecDepth 100000 in
set_option maxHeartbeats 4000000 in
theorem c_X4_base (hM : MP G w h ad sc ai al) (hD : RD n nm ct lv lo fm sc ai al) (o : Int32) : Met l yX4_base wsX4_base ({ frames := 11, cells := 0, slots := 0, locals := 184 } : Room) (Pw G A w [.ref h, .int o]) (va_Qi (fun r w' => (isO n o = false ∧ MP G w' h ad (va_up sc 24 (nI 1)) ai al) ∨ (∃ i, i < n ∧ o = nI i ∧ fm i = none ∧ MP G w' h ad (va_up sc 24 (nI 2)) ai al) ∨ ∃ i g, i < n ∧ o = nI i ∧ fm i = some g ∧ MP G w' h ad (va_up sc 24 (nI 0)) ai al ∧ r = nIo g.1) (Bw G A) A) 0 0 A := by
  refine m_of (cc := cX4_base) (maxL := 2) (ret := (some .int)) (by decide) rfl (Nat.le_of_ble_eq_true rfl) ?_
  intro p e s m args below meth c hc hr hmn
  refine v_loc [(0, some (.ref h)), (1, some (.int o))] rfl ?_
  have hn := hD.2.1
  first | refine v_aload_n hc (i := 0) rfl dX4_base_0 rfl ?_ | refine v_aload_nN hc (i := 0) rfl dX4_base_0 rfl ?_
  refine v_iload_n hc (i := 1) rfl dX4_base_1 rfl ?_
  refine v_callVi hc (c_X4_asksForm hM hD o) (cwV 1 hc.1.2.2.2.2 gX4_base_X4_asksForm rfl rfl rfl (by decide +kernel) ⟨Nat.le_of_ble_eq_true rfl, Nat.le_of_ble_eq_true rfl⟩) (hM.1) rfl rfl rfl (Nat.le_of_ble_eq_true rfl) ⟨(by first | exact Nat.le_of_ble_eq_true rfl | omega | (dsimp only; omega)), (by first | exact Nat.le_of_ble_eq_true rfl | omega | (dsimp only; omega))⟩ dX4_base_2 (fun r w' hp => ?_)
  rcases hp with ⟨h1, hM, rfl⟩ | ⟨i, hi, rfl, hfm, hM, rfl⟩ | ⟨i, g, hi, rfl, hfm, hM, rfl⟩
  · refine v_ifB_eq hc (tgt := 17) dX4_base_5 (by decide) (fun h2 => ?_) (fun h2 => ?_)
    · refine v_iconst hc (v := nI 0) dX4_base_17 (by decide) ?_
      exact v_iret hc hr dX4_base_18 (by first | exact Nat.le_of_ble_eq_true rfl | omega | (dsimp only; omega)) (by first | exact Nat.le_of_ble_eq_true rfl | omega | (dsimp only; omega)) (Or.inl ⟨h1, hM⟩)
    · cases h2
  · refine v_ifB_eq hc (tgt := 17) dX4_base_5 (by decide) (fun h2 => ?_) (fun h2 => ?_)
    · refine v_iconst hc (v := nI 0) dX4_base_17 (by decide) ?_
      exact v_iret hc hr dX4_base_18 (by first | exact Nat.le_of_ble_eq_true rfl | omega | (dsimp only; omega)) (by first | exact Nat.le_of_ble_eq_true rfl | omega | (dsimp only; omega)) (Or.inr (Or.inl ⟨i, hi, rfl, hfm, hM⟩))
    · cases h2
  · refine v_ifB_eq hc (tgt := 17) dX4_base_5 (by decide) (fun h2 => ?_) (fun h2 => ?_)
    · cases h2
    · first | refine v_aload_n hc (i := 0) rfl dX4_base_8 rfl ?_ | refine v_aload_nN hc (i := 0) rfl dX4_base_8 rfl ?_
      refine v_get hc 7 (ci := 7) rfl (by decide +kernel) (by decide) (by decide +kernel) (fun _ h => h) dX4_base_9 hM.1 rfl ?_
      refine v_iload_n hc (i := 1) rfl dX4_base_12 rfl ?_
      refine v_iald hc (i) dX4_base_13 (hM.2.1 7 rfl) (rfl) (Nat.lt_of_lt_of_le hi hn) (by decide) ?_
      rw [hD.r7 hi hfm]
      refine v_goto hc (tgt := 18) dX4_base_14 (by decide) ?_
      exact v_iret hc hr dX4_base_18 (by first | exact Nat.le_of_ble_eq_true rfl | omega | (dsimp only; omega)) (by first | exact Nat.le_of_ble_eq_true rfl | omega | (dsimp only; omega)) (Or.inr (Or.inr ⟨i, g, hi, rfl, hfm, hM, rfl⟩))
set_option maxRecDepth 100000 in
set_option maxHeartbeats 4000000 in
theorem c_X4_depth (hM : MP G w h ad sc ai al) (hD : RD n nm ct lv lo fm sc ai al) (o : Int32) : Met l yX4_depth wsX4_depth ({ frames := 11, cells := 0, slots := 0, locals := 184 } : Room) (Pw G A w [.ref h, .int o]) (va_Qi (fun r w' => (isO n o = false ∧ MP G w' h ad (va_up sc 24 (nI 1)) ai al) ∨ (∃ i, i < n ∧ o = nI i ∧ fm i = none ∧ MP G w' h ad (va_up sc 24 (nI 2)) ai al) ∨ ∃ i g, i < n ∧ o = nI i ∧ fm i = some g ∧ MP G w' h ad (va_up sc 24 (nI 0)) ai al ∧ r = nI g.2.1) (Bw G A) A) 0 0 A := by
  refine m_of (cc := cX4_depth) (maxL := 2) (ret := (some .int)) (by decide) rfl (Nat.le_of_ble_eq_true rfl) ?_
  intro p e s m args below meth c hc hr hmn
  refine v_loc [(0, some (.ref h)), (1, some (.int o))] rfl ?_
  have hn := hD.2.1
  first | refine v_aload_n hc (i := 0) rfl dX4_depth_0 rfl ?_ | refine v_aload_nN hc (i := 0) rfl dX4_depth_0 rfl ?_
  refine v_iload_n hc (i := 1) rfl dX4_depth_1 rfl ?_
  refine v_callVi hc (c_X4_asksForm hM hD o) (cwV 1 hc.1.2.2.2.2 gX4_depth_X4_asksForm rfl rfl rfl (by decide +kernel) ⟨Nat.le_of_ble_eq_true rfl, Nat.le_of_ble_eq_true rfl⟩) (hM.1) rfl rfl rfl (Nat.le_of_ble_eq_true rfl) ⟨(by first | exact Nat.le_of_ble_eq_true rfl | omega | (dsimp only; omega)), (by first | exact Nat.le_of_ble_eq_true rfl | omega | (dsimp only; omega))⟩ dX4_depth_2 (fun r w' hp => ?_)
  rcases hp with ⟨h1, hM, rfl⟩ | ⟨i, hi, rfl, hfm, hM, rfl⟩ | ⟨i, g, hi, rfl, hfm, hM, rfl⟩
  · refine v_ifB_eq hc (tgt := 17) dX4_depth_5 (by decide) (fun h2 => ?_) (fun h2 => ?_)
    · refine v_iconst hc (v := nI 0) dX4_depth_17 (by decide) ?_
      exact v_iret hc hr dX4_depth_18 (by first | exact Nat.le_of_ble_eq_true rfl | omega | (dsimp only; omega)) (by first | exact Nat.le_of_ble_eq_true rfl | omega | (dsimp only; omega)) (Or.inl ⟨h1, hM⟩)
    · cases h2
  · refine v_ifB_eq hc (tgt := 17) dX4_depth_5 (by decide) (fun h2 => ?_) (fun h2 => ?_)
    · refine v_iconst hc (v := nI 0) dX4_depth_17 (by decide) ?_
      exact v_iret hc hr dX4_depth_18 (by first | exact Nat.le_of_ble_eq_true rfl | omega | (dsimp only; omega)) (by first | exact Nat.le_of_ble_eq_true rfl | omega | (dsimp only; omega)) (Or.inr (Or.inl ⟨i, hi, rfl, hfm, hM⟩))
    · cases h2
  · refine v_ifB_eq hc (tgt := 17) dX4_depth_5 (by decide) (fun h2 => ?_) (fun h2 => ?_)
    · cases h2
    · first | refine v_aload_n hc (i := 0) rfl dX4_depth_8 rfl ?_ | refine v_aload_nN hc (i := 0) rfl dX4_depth_8 rfl ?_
      refine v_get hc 10 (ci := 7) rfl (by decide +kernel) (by decide) (by decide +kernel) (fun _ h => h) dX4_depth_9 hM.1 rfl ?_
      refine v_iload_n hc (i := 1) rfl dX4_depth_12 rfl ?_
      refine v_iald hc (i) dX4_depth_13 (hM.2.1 10 rfl) (rfl) (Nat.lt_of_lt_of_le hi hn) (by decide) ?_
      rw [hD.r10 hi hfm]
      refine v_goto hc (tgt := 18) dX4_depth_14 (by decide) ?_
      exact v_iret hc hr dX4_depth_18 (by first | exact Nat.le_of_ble_eq_true rfl | omega | (dsimp only; omega)) (by first | exact Nat.le_of_ble_eq_true rfl | omega | (dsimp only; omega)) (Or.inr (Or.inr ⟨i, g, hi, rfl, hfm, hM, rfl⟩))
set_option maxRecDepth 100000 in
set_option maxHeartbeats 4000000 in
theorem c_X4_parts (hM : MP G w h ad sc ai al) (hD : RD n nm ct lv lo fm sc ai al) (o : Int32) : Met l yX4_parts wsX4_parts ({ frames := 11, cells := 0, slots := 0, locals := 184 } : Room) (Pw G A w [.ref h, .int o]) (va_Qi (fun r w' => (isO n o = false ∧ MP G w' h ad (va_up sc 24 (nI 1)) ai al) ∨ (∃ i, i < n ∧ o = nI i ∧ fm i = none ∧ MP G w' h ad (va_up sc 24 (nI 2)) ai al) ∨ ∃ i g, i < n ∧ o = nI i ∧ fm i = some g ∧ MP G w' h ad (va_up sc 24 (nI 0)) ai al ∧ r = nI g.2.2.1) (Bw G A) A) 0 0 A := by
  refine m_of (cc := cX4_parts) (maxL := 2) (ret := (some .int)) (by decide) rfl (Nat.le_of_ble_eq_true rfl) ?_
  intro p e s m args below meth c hc hr hmn
  refine v_loc [(0, some (.ref h)), (1, some (.int o))] rfl ?_
  have hn := hD.2.1
  first | refine v_aload_n hc (i := 0) rfl dX4_parts_0 rfl ?_ | refine v_aload_nN hc (i := 0) rfl dX4_parts_0 rfl ?_
  refine v_iload_n hc (i := 1) rfl dX4_parts_1 rfl ?_
  refine v_callVi hc (c_X4_asksForm hM hD o) (cwV 1 hc.1.2.2.2.2 gX4_parts_X4_asksForm rfl rfl rfl (by decide +kernel) ⟨Nat.le_of_ble_eq_true rfl, Nat.le_of_ble_eq_true rfl⟩) (hM.1) rfl rfl rfl (Nat.le_of_ble_eq_true rfl) ⟨(by first | exact Nat.le_of_ble_eq_true rfl | omega | (dsimp only; omega)), (by first | exact Nat.le_of_ble_eq_true rfl | omega | (dsimp only; omega))⟩ dX4_parts_2 (fun r w' hp => ?_)
  rcases hp with ⟨h1, hM, rfl⟩ | ⟨i, hi, rfl, hfm, hM, rfl⟩ | ⟨i, g, hi, rfl, hfm, hM, rfl⟩
  · refine v_ifB_eq hc (tgt := 17) dX4_parts_5 (by decide) (fun h2 => ?_) (fun h2 => ?_)
    · refine v_iconst hc (v := nI 0) dX4_parts_17 (by decide) ?_
      exact v_iret hc hr dX4_parts_18 (by first | exact Nat.le_of_ble_eq_true rfl | omega | (dsimp only; omega)) (by first | exact Nat.le_of_ble_eq_true rfl | omega | (dsimp only; omega)) (Or.inl ⟨h1, hM⟩)
    · cases h2
  · refine v_ifB_eq hc (tgt := 17) dX4_parts_5 (by decide) (fun h2 => ?_) (fun h2 => ?_)
    · refine v_iconst hc (v := nI 0) dX4_parts_17 (by decide) ?_
      exact v_iret hc hr dX4_parts_18 (by first | exact Nat.le_of_ble_eq_true rfl | omega | (dsimp only; omega)) (by first | exact Nat.le_of_ble_eq_true rfl | omega | (dsimp only; omega)) (Or.inr (Or.inl ⟨i, hi, rfl, hfm, hM⟩))
    · cases h2
  · refine v_ifB_eq hc (tgt := 17) dX4_parts_5 (by decide) (fun h2 => ?_) (fun h2 => ?_)
    · cases h2
    · first | refine v_aload_n hc (i := 0) rfl dX4_parts_8 rfl ?_ | refine v_aload_nN hc (i := 0) rfl dX4_parts_8 rfl ?_
      refine v_get hc 9 (ci := 7) rfl (by decide +kernel) (by decide) (by decide +kernel) (fun _ h => h) dX4_parts_9 hM.1 rfl ?_
      refine v_iload_n hc (i := 1) rfl dX4_parts_12 rfl ?_
      refine v_iald hc (i) dX4_parts_13 (hM.2.1 9 rfl) (rfl) (Nat.lt_of_lt_of_le hi hn) (by decide) ?_
      rw [hD.r9 hi hfm]
      refine v_goto hc (tgt := 18) dX4_parts_14 (by decide) ?_
      exact v_iret hc hr dX4_parts_18 (by first | exact Nat.le_of_ble_eq_true rfl | omega | (dsimp only; omega)) (by first | exact Nat.le_of_ble_eq_true rfl | omega | (dsimp only; omega)) (Or.inr (Or.inr ⟨i, g, hi, rfl, hfm, hM, rfl⟩))
end MD4

