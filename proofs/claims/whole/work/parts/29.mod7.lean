/-! ===== the model: the order of a pack, bases ===== -/
theorem up11 {α : Type} {ai : Nat → α} {f g f' : α} : va_up (va_up (va_up ai 11 f) 13 g) 11 f' = va_up (va_up ai 11 f') 13 g := by
  funext j; unfold va_up
  by_cases h1 : j = 11
  · subst h1; rfl
  · rw [if_neg h1, if_neg h1, if_neg h1]
section MD7
variable {l : Launch} {G : cG} {A : Nat → Prop} {w : wd} {h : Nat} {ad : Nat → Nat} {sc : Nat → Int32} {ai : Nat → Nat → Int32} {al : Nat → Int64} {n : Nat} {nm : Nat → Int32} {ct : Nat → Int64} {lv lo : Nat → Bool} {fm nf : Nat → Option Frm} {O : List Nat}
theorem mp11 {f g : Nat → Int32} {i : Nat} {v : Int32} (hM : MP G w h ad sc (va_up (va_up (va_up ai 11 f) 13 g) 11 (va_up ((va_up (va_up ai 11 f) 13 g) 11) i v)) al) : MP G w h ad sc (va_up (va_up ai 11 (va_up f i v)) 13 g) al := by rw [up11] at hM; exact hM
set_option maxRecDepth 100000 in
set_option maxHeartbeats 4000000 in
theorem c_X4_isAhead (hM : MP G w h ad sc ai al) (hD : RD n nm ct lv lo fm sc ai al) {i j : Nat} (hi : i < n) (hj : j < n) : Met l yX4_isAhead wsX4_isAhead ({ frames := 9, cells := 0, slots := 0, locals := 144 } : Room) (Pw G A w [.ref h, .int (nI i), .int (nI j)]) (va_Qi (fun r w' => w = w' ∧ r = bI (ahd nm ct i j)) (Bw G A) A) 0 0 A := by
  refine m_of (cc := cX4_isAhead) (maxL := 5) (ret := (some .boolean)) (by decide) rfl (Nat.le_of_ble_eq_true rfl) ?_
  intro p e s m args below meth c hc hr hmn
  refine v_loc [(0, some (.ref h)), (1, some (.int (nI i))), (2, some (.int (nI j)))] rfl ?_
  have hn := hD.2.1
  have hA : hxn (xN (ct i)) ≤ 16 := hxl_le 16 _
  have hB : hxn (xN (ct j)) ≤ 16 := hxl_le 16 _
  first | refine v_aload_n hc (i := 0) rfl dX4_isAhead_0 rfl ?_ | refine v_aload_nN hc (i := 0) rfl dX4_isAhead_0 rfl ?_
  refine v_get hc 2 (ci := 7) rfl (by decide +kernel) (by decide) (by decide +kernel) (fun _ h => h) dX4_isAhead_1 hM.1 rfl ?_
  refine v_iload_n hc (i := 1) rfl dX4_isAhead_4 rfl ?_
  refine v_lald hc (i) dX4_isAhead_5 hM.2.2.2.1 (rfl) (by omega) (by decide) ?_
  rw [hD.r2 hi]
  refine v_callSi hc (c_X4_size (ct i)) (va_cwS 1 hc.1.2.2.2.2 gX4_isAhead_X4_size rfl rfl rfl (by decide +kernel) ⟨Nat.le_of_ble_eq_true rfl, Nat.le_of_ble_eq_true rfl⟩) rfl rfl (Nat.le_of_ble_eq_true rfl) ⟨(by first | exact Nat.le_of_ble_eq_true rfl | omega | (dsimp only; omega)), (by first | exact Nat.le_of_ble_eq_true rfl | omega | (dsimp only; omega))⟩ dX4_isAhead_6 (fun r w' hp => ?_)
  obtain ⟨rfl, rfl⟩ := hp
  refine v_istore_n hc (i := 3) rfl dX4_isAhead_9 (by decide) rfl ?_
  first | refine v_aload_n hc (i := 0) rfl dX4_isAhead_10 rfl ?_ | refine v_aload_nN hc (i := 0) rfl dX4_isAhead_10 rfl ?_
  refine v_get hc 2 (ci := 7) rfl (by decide +kernel) (by decide) (by decide +kernel) (fun _ h => h) dX4_isAhead_11 hM.1 rfl ?_
  refine v_iload_n hc (i := 2) rfl dX4_isAhead_14 rfl ?_
  refine v_lald hc (j) dX4_isAhead_15 hM.2.2.2.1 (rfl) (by omega) (by decide) ?_
  rw [hD.r2 hj]
  refine v_callSi hc (c_X4_size (ct j)) (va_cwS 1 hc.1.2.2.2.2 gX4_isAhead_X4_size rfl rfl rfl (by decide +kernel) ⟨Nat.le_of_ble_eq_true rfl, Nat.le_of_ble_eq_true rfl⟩) rfl rfl (Nat.le_of_ble_eq_true rfl) ⟨(by first | exact Nat.le_of_ble_eq_true rfl | omega | (dsimp only; omega)), (by first | exact Nat.le_of_ble_eq_true rfl | omega | (dsimp only; omega))⟩ dX4_isAhead_16 (fun r w' hp => ?_)
  obtain ⟨rfl, rfl⟩ := hp
  refine v_istore hc dX4_isAhead_19 (by decide) rfl ?_
  first | refine v_aload_n hc (i := 0) rfl dX4_isAhead_21 rfl ?_ | refine v_aload_nN hc (i := 0) rfl dX4_isAhead_21 rfl ?_
  refine v_get hc 1 (ci := 7) rfl (by decide +kernel) (by decide) (by decide +kernel) (fun _ h => h) dX4_isAhead_22 hM.1 rfl ?_
  refine v_iload_n hc (i := 1) rfl dX4_isAhead_25 rfl ?_
  refine v_iald hc (i) dX4_isAhead_26 (hM.2.1 1 rfl) (rfl) (Nat.lt_of_lt_of_le hi hn) (by decide) ?_
  rw [hD.r1 hi]
  first | refine v_aload_n hc (i := 0) rfl dX4_isAhead_27 rfl ?_ | refine v_aload_nN hc (i := 0) rfl dX4_isAhead_27 rfl ?_
  refine v_get hc 1 (ci := 7) rfl (by decide +kernel) (by decide) (by decide +kernel) (fun _ h => h) dX4_isAhead_28 hM.1 rfl ?_
  refine v_iload_n hc (i := 2) rfl dX4_isAhead_31 rfl ?_
  refine v_iald hc (j) dX4_isAhead_32 (hM.2.1 1 rfl) (rfl) (Nat.lt_of_lt_of_le hj hn) (by decide) ?_
  rw [hD.r1 hj]
  refine v_icmp_eq hc (tgt := 59) dX4_isAhead_33 (by decide) (fun h1 => ?_) (fun h1 => ?_)
  · refine v_iload_n hc (i := 3) rfl dX4_isAhead_59 rfl ?_
    refine v_iload hc dX4_isAhead_60 rfl ?_
    refine v_icmp_eqN hc (tgt := 79) dX4_isAhead_62 (by decide) (by omega) (by omega) (fun h2 => ?_) (fun h2 => ?_)
    · refine v_iload_n hc (i := 1) rfl dX4_isAhead_79 rfl ?_
      refine v_iload_n hc (i := 2) rfl dX4_isAhead_80 rfl ?_
      refine v_icmp_geN hc (tgt := 88) dX4_isAhead_81 (by decide) (by omega) (by omega) (fun h3 => ?_) (fun h3 => ?_)
      · refine v_iconst hc (v := nI 0) dX4_isAhead_88 (by decide) ?_
        exact v_zret hc hr dX4_isAhead_89 (by first | exact Nat.le_of_ble_eq_true rfl | omega | (dsimp only; omega)) (by first | exact Nat.le_of_ble_eq_true rfl | omega | (dsimp only; omega)) (by first | rfl | exact bI_nar _) (⟨rfl, by unfold ahd; rw [if_pos h1, if_pos h2, decide_eq_false (by omega)]; rfl⟩)
      · refine v_iconst hc (v := nI 1) dX4_isAhead_84 (by decide) ?_
        refine v_goto hc (tgt := 89) dX4_isAhead_85 (by decide) ?_
        exact v_zret hc hr dX4_isAhead_89 (by first | exact Nat.le_of_ble_eq_true rfl | omega | (dsimp only; omega)) (by first | exact Nat.le_of_ble_eq_true rfl | omega | (dsimp only; omega)) (by first | rfl | exact bI_nar _) (⟨rfl, by unfold ahd; rw [if_pos h1, if_pos h2, decide_eq_true (by omega)]; rfl⟩)
    · refine v_iload_n hc (i := 3) rfl dX4_isAhead_65 rfl ?_
      refine v_iload hc dX4_isAhead_66 rfl ?_
      refine v_icmp_leN hc (tgt := 75) dX4_isAhead_68 (by decide) (by omega) (by omega) (fun h3 => ?_) (fun h3 => ?_)
      · refine v_iconst hc (v := nI 0) dX4_isAhead_75 (by decide) ?_
        refine v_goto hc (tgt := 89) dX4_isAhead_76 (by decide) ?_
        exact v_zret hc hr dX4_isAhead_89 (by first | exact Nat.le_of_ble_eq_true rfl | omega | (dsimp only; omega)) (by first | exact Nat.le_of_ble_eq_true rfl | omega | (dsimp only; omega)) (by first | rfl | exact bI_nar _) (⟨rfl, by unfold ahd; rw [if_pos h1, if_neg h2, decide_eq_false (by omega)]; rfl⟩)
      · refine v_iconst hc (v := nI 1) dX4_isAhead_71 (by decide) ?_
        refine v_goto hc (tgt := 89) dX4_isAhead_72 (by decide) ?_
        exact v_zret hc hr dX4_isAhead_89 (by first | exact Nat.le_of_ble_eq_true rfl | omega | (dsimp only; omega)) (by first | exact Nat.le_of_ble_eq_true rfl | omega | (dsimp only; omega)) (by first | rfl | exact bI_nar _) (⟨rfl, by unfold ahd; rw [if_pos h1, if_neg h2, decide_eq_true (by omega)]; rfl⟩)
  · first | refine v_aload_n hc (i := 0) rfl dX4_isAhead_36 rfl ?_ | refine v_aload_nN hc (i := 0) rfl dX4_isAhead_36 rfl ?_
    refine v_get hc 1 (ci := 7) rfl (by decide +kernel) (by decide) (by decide +kernel) (fun _ h => h) dX4_isAhead_37 hM.1 rfl ?_
    refine v_iload_n hc (i := 1) rfl dX4_isAhead_40 rfl ?_
    refine v_iald hc (i) dX4_isAhead_41 (hM.2.1 1 rfl) (rfl) (Nat.lt_of_lt_of_le hi hn) (by decide) ?_
    rw [hD.r1 hi]
    first | refine v_aload_n hc (i := 0) rfl dX4_isAhead_42 rfl ?_ | refine v_aload_nN hc (i := 0) rfl dX4_isAhead_42 rfl ?_
    refine v_get hc 1 (ci := 7) rfl (by decide +kernel) (by decide) (by decide +kernel) (fun _ h => h) dX4_isAhead_43 hM.1 rfl ?_
    refine v_iload_n hc (i := 2) rfl dX4_isAhead_46 rfl ?_
    refine v_iald hc (j) dX4_isAhead_47 (hM.2.1 1 rfl) (rfl) (Nat.lt_of_lt_of_le hj hn) (by decide) ?_
    rw [hD.r1 hj]
    refine v_icmp_ge hc (tgt := 55) dX4_isAhead_48 (by decide) (fun h3 => ?_) (fun h3 => ?_)
    · refine v_iconst hc (v := nI 0) dX4_isAhead_55 (by decide) ?_
      refine v_goto hc (tgt := 89) dX4_isAhead_56 (by decide) ?_
      exact v_zret hc hr dX4_isAhead_89 (by first | exact Nat.le_of_ble_eq_true rfl | omega | (dsimp only; omega)) (by first | exact Nat.le_of_ble_eq_true rfl | omega | (dsimp only; omega)) (by first | rfl | exact bI_nar _) (⟨rfl, by unfold ahd; rw [if_neg h1, decide_eq_false (fun z => i32_nle z h3)]; rfl⟩)
    · refine v_iconst hc (v := nI 1) dX4_isAhead_51 (by decide) ?_
      refine v_goto hc (tgt := 89) dX4_isAhead_52 (by decide) ?_
      exact v_zret hc hr dX4_isAhead_89 (by first | exact Nat.le_of_ble_eq_true rfl | omega | (dsimp only; omega)) (by first | exact Nat.le_of_ble_eq_true rfl | omega | (dsimp only; omega)) (by first | rfl | exact bI_nar _) (⟨rfl, by unfold ahd; rw [if_neg h1, decide_eq_true (i32_nlt h3)]; rfl⟩)
set_option maxRecDepth 100000 in
set_option maxHeartbeats 4000000 in
theorem c_X4_orders (hM : MP G w h ad sc ai al) (hD : RD n nm ct lv lo fm sc ai al) (hC : CH n fm) : Met l yX4_orders wsX4_orders ({ frames := 10, cells := 0, slots := 0, locals := 168 } : Room) (Pw G A w [.ref h]) (va_Qv (fun w' => ∃ f g O, MP G w' h ad (va_up sc 12 (nI O.length)) (va_up (va_up ai 11 f) 13 g) al ∧ srtd (ahd nm ct) (fun i => i < n ∧ rdb lv lo fm i = true) O ∧ isL f O ∧ (∀ p, p < O.length → g (O.getD p 0) = nI p) ∧ ∀ i, i < n → (∀ p, p < O.length → O.getD p 0 ≠ i) → g i = -1) (Bw G A) A) 0 0 A := by
  refine m_of (cc := cX4_orders) (maxL := 3) (ret := none) (by decide) rfl (Nat.le_of_ble_eq_true rfl) ?_
  intro p e s m args below meth c hc hr hmn
  refine v_loc [(0, some (.ref h))] rfl ?_
  have hn := hD.2.1
  have hsT := so_ahd nm ct
  first | refine v_aload_n hc (i := 0) rfl dX4_orders_0 rfl ?_ | refine v_aload_nN hc (i := 0) rfl dX4_orders_0 rfl ?_
  refine v_iconst hc (v := nI 0) dX4_orders_1 (by decide) ?_
  refine m_put hc hM 12 rfl (by decide +kernel) (by decide +kernel) dX4_orders_2 (fun w hM => ?_)
  refine v_iconst hc (v := nI 0) dX4_orders_5 (by decide) ?_
  refine v_istore_n hc (i := 1) rfl dX4_orders_6 (by decide) rfl ?_
  refine v_loop (σ := Nat × wd × List Nat × (Nat → Int32) × (Nat → Int32)) (fun a => a.1 ≤ n ∧ MP G a.2.1 h ad (va_up sc 12 (nI a.2.2.1.length)) (va_up (va_up ai 11 a.2.2.2.1) 13 a.2.2.2.2) al ∧ srtd (ahd nm ct) (fun i => i < a.1 ∧ rdb lv lo fm i = true) a.2.2.1 ∧ isL a.2.2.2.1 a.2.2.1 ∧ ∀ i, i < a.1 → a.2.2.2.2 i = -1) (fun a => n - a.1) (fun a => a.2.1) (fun _ => 0) (fun _ => 0) (fun a => [(0, some (.ref h)), (1, some (.int (nI a.1)))]) (0, w, [], ai 11, ai 13) rfl ⟨Nat.zero_le _, by dsimp only; rw [up_id (f := ai) rfl, up_id (f := ai) rfl]; exact hM, srtd.nil (fun i z => absurd z.1 (Nat.not_lt_zero _)), fun p hp => absurd hp (Nat.not_lt_zero _), fun i hi => absurd hi (Nat.not_lt_zero _)⟩ ?_
  rintro ⟨k, w, O, f, f13⟩ ⟨hk, hM, hS, hL, h13⟩ ih
  dsimp only at hk hM hS hL h13 ih ⊢
  have hXn : ∀ i ∈ O, i < k := fun i hi => ((hS.2 i).mp hi).1
  have hXl : O.length ≤ k := nd_len (hS.nodup hsT) hXn
  refine v_iload_n hc (i := 1) rfl dX4_orders_7 rfl ?_
  first | refine v_aload_n hc (i := 0) rfl dX4_orders_8 rfl ?_ | refine v_aload_nN hc (i := 0) rfl dX4_orders_8 rfl ?_
  refine v_get hc 0 (ci := 7) rfl (by decide +kernel) (by decide) (by decide +kernel) (fun _ h => h) dX4_orders_9 hM.1 rfl ?_
  refine v_ti (show _ = nI n from hD.1) ?_
  refine v_icmp_geN hc (tgt := 98) dX4_orders_12 (by decide) (by omega) (by omega) (fun h1 => ?_) (fun h1 => ?_)
  · have e : k = n := by omega
    subst e
    refine v_iconst hc (v := nI 0) dX4_orders_98 (by decide) ?_
    refine v_istore_n hc (i := 1) rfl dX4_orders_99 (by decide) rfl ?_
    refine v_loop (σ := Nat × wd × (Nat → Int32)) (fun a => a.1 ≤ O.length ∧ MP G a.2.1 h ad (va_up sc 12 (nI O.length)) (va_up (va_up ai 11 f) 13 a.2.2) al ∧ (∀ p, p < a.1 → a.2.2 (O.getD p 0) = nI p) ∧ ∀ i, i < k → (∀ p, p < a.1 → O.getD p 0 ≠ i) → a.2.2 i = -1) (fun a => O.length - a.1) (fun a => a.2.1) (fun _ => 0) (fun _ => 0) (fun a => [(0, some (.ref h)), (1, some (.int (nI a.1)))]) (0, w, f13) rfl ⟨Nat.zero_le _, hM, fun p hp => absurd hp (Nat.not_lt_zero _), fun i hi _ => h13 i hi⟩ ?_
    rintro ⟨q, w, g⟩ ⟨hq, hM, hg1, hg2⟩ ih2
    dsimp only at hq hM hg1 hg2 ih2 ⊢
    refine v_iload_n hc (i := 1) rfl dX4_orders_100 rfl ?_
    first | refine v_aload_n hc (i := 0) rfl dX4_orders_101 rfl ?_ | refine v_aload_nN hc (i := 0) rfl dX4_orders_101 rfl ?_
    refine v_get hc 12 (ci := 7) rfl (by decide +kernel) (by decide) (by decide +kernel) (fun _ h => h) dX4_orders_102 hM.1 rfl ?_
    refine v_ti (show _ = nI O.length from rfl) ?_
    refine v_icmp_geN hc (tgt := 126) dX4_orders_105 (by decide) (by omega) (by omega) (fun h2 => ?_) (fun h2 => ?_)
    · have e : q = O.length := by omega
      subst e
      exact v_vret hc hr dX4_orders_126 (by first | exact Nat.le_of_ble_eq_true rfl | omega | (dsimp only; omega)) (by first | exact Nat.le_of_ble_eq_true rfl | omega | (dsimp only; omega)) (⟨f, g, O, hM, hS, hL, hg1, hg2⟩)
    · have hmk := hXn _ (getD_mem h2)
      first | refine v_aload_n hc (i := 0) rfl dX4_orders_108 rfl ?_ | refine v_aload_nN hc (i := 0) rfl dX4_orders_108 rfl ?_
      refine v_get hc 13 (ci := 7) rfl (by decide +kernel) (by decide) (by decide +kernel) (fun _ h => h) dX4_orders_109 hM.1 rfl ?_
      first | refine v_aload_n hc (i := 0) rfl dX4_orders_112 rfl ?_ | refine v_aload_nN hc (i := 0) rfl dX4_orders_112 rfl ?_
      refine v_get hc 11 (ci := 7) rfl (by decide +kernel) (by decide) (by decide +kernel) (fun _ h => h) dX4_orders_113 hM.1 rfl ?_
      refine v_iload_n hc (i := 1) rfl dX4_orders_116 rfl ?_
      refine v_iald hc (q) dX4_orders_117 (hM.2.1 11 rfl) (rfl) (lt40 (by omega)) (by decide) ?_
      refine v_ti (show _ = nI (O.getD q 0) from hL q h2) ?_
      refine v_iload_n hc (i := 1) rfl dX4_orders_118 rfl ?_
      refine m_iast hc hM 13 rfl ((O.getD q 0)) dX4_orders_119 (rfl) (lt40 (by omega)) (fun w hM => ?_)
      rw [up_up, va_up_self] at hM
      first | refine v_iinc1 hc dX4_orders_120 rfl (by decide) rfl ?_ | refine v_iinc hc dX4_orders_120 rfl rfl (by decide) rfl ?_
      refine v_goto hc (tgt := 100) dX4_orders_123 (by decide) ?_
      refine ih2 (q + 1, w, va_up g (O.getD q 0) (nI q)) _ rfl ⟨h2, hM, fun p hp => ?_, fun i hi hp => ?_⟩ (by dsimp only; omega)
      · dsimp only at hp ⊢
        by_cases hpq : p = q
        · subst hpq; rw [va_up_self]
        · rw [up_n (fun z => hpq (nd_getD (hS.nodup hsT) (by omega) h2 z))]; exact hg1 p (by omega)
      · dsimp only at hp ⊢
        rw [up_n (fun z => hp q (Nat.lt_succ_self q) z.symm)]
        exact hg2 i hi (fun p hpq => hp p (Nat.lt_succ_of_lt hpq))
  · have hkX : k ∉ O := fun z => absurd (hXn k z) (Nat.lt_irrefl _)
    first | refine v_aload_n hc (i := 0) rfl dX4_orders_15 rfl ?_ | refine v_aload_nN hc (i := 0) rfl dX4_orders_15 rfl ?_
    refine v_get hc 13 (ci := 7) rfl (by decide +kernel) (by decide) (by decide +kernel) (fun _ h => h) dX4_orders_16 hM.1 rfl ?_
    refine v_iload_n hc (i := 1) rfl dX4_orders_19 rfl ?_
    refine v_iconst hc (v := (-1)) dX4_orders_20 (by decide) ?_
    refine m_iast hc hM 13 rfl (k) dX4_orders_21 (rfl) (lt40 (by omega)) (fun w hM => ?_)
    rw [up_up, va_up_self] at hM
    first | refine v_aload_n hc (i := 0) rfl dX4_orders_22 rfl ?_ | refine v_aload_nN hc (i := 0) rfl dX4_orders_22 rfl ?_
    refine v_iload_n hc (i := 1) rfl dX4_orders_23 rfl ?_
    refine v_callVi hc (c_X4_isReadable hM ((hD.sc' (sc' := va_up sc 12 (nI O.length)) rfl).ai' (fun j hj => by rw [up_n (by omega), up_n (by omega)])) hC h1) (cwV 1 hc.1.2.2.2.2 gX4_orders_X4_isReadable rfl rfl rfl (by decide +kernel) ⟨Nat.le_of_ble_eq_true rfl, Nat.le_of_ble_eq_true rfl⟩) (hM.1) rfl rfl rfl (Nat.le_of_ble_eq_true rfl) ⟨(by first | exact Nat.le_of_ble_eq_true rfl | omega | (dsimp only; omega)), (by first | exact Nat.le_of_ble_eq_true rfl | omega | (dsimp only; omega))⟩ dX4_orders_24 (fun r w' hp => ?_)
    obtain ⟨rfl, rfl⟩ := hp
    refine v_ifB_eq hc (tgt := 92) dX4_orders_27 (by decide) (fun h2 => ?_) (fun h2 => ?_)
    · first | refine v_iinc1 hc dX4_orders_92 rfl (by decide) rfl ?_ | refine v_iinc hc dX4_orders_92 rfl rfl (by decide) rfl ?_
      refine v_goto hc (tgt := 7) dX4_orders_95 (by decide) ?_
      refine ih (k + 1, w, O, f, va_up f13 k (-1)) _ rfl ⟨h1, hM, hS.congr (fun j => ?_), hL, fun j hj => ?_⟩ (by dsimp only; omega)
      · dsimp only
        constructor
        · rintro ⟨a, b⟩; exact ⟨by omega, b⟩
        · rintro ⟨a, b⟩
          refine ⟨?_, b⟩
          by_cases hj : j = k
          · subst hj; rw [h2] at b; cases b
          · omega
      · dsimp only at hj ⊢
        by_cases hjk : j = k
        · subst hjk; rw [va_up_self]
        · rw [up_n hjk]; exact h13 j (by omega)
    · first | refine v_aload_n hc (i := 0) rfl dX4_orders_30 rfl ?_ | refine v_aload_nN hc (i := 0) rfl dX4_orders_30 rfl ?_
      refine v_get hc 12 (ci := 7) rfl (by decide +kernel) (by decide) (by decide +kernel) (fun _ h => h) dX4_orders_31 hM.1 rfl ?_
      refine v_ti (show _ = nI O.length from rfl) ?_
      refine v_istore_n hc (i := 2) rfl dX4_orders_34 (by decide) rfl ?_
      refine v_loop (σ := Nat × wd × (Nat → Int32)) (fun a => a.1 ≤ O.length ∧ MP G a.2.1 h ad (va_up sc 12 (nI O.length)) (va_up (va_up ai 11 a.2.2) 13 (va_up f13 k (-1))) al ∧ hole a.2.2 O a.1 ∧ ∀ y ∈ O.drop a.1, ahd nm ct k y = true) (fun a => a.1) (fun a => a.2.1) (fun _ => 0) (fun _ => 0) (fun a => [(0, some (.ref h)), (1, some (.int (nI k))), (2, some (.int (nI a.1)))]) (O.length, w, f) rfl ⟨Nat.le_refl _, hM, hL.hole, fun y hy => by rw [List.drop_length] at hy; cases hy⟩ ?_
      rintro ⟨t0, w, f2⟩ ⟨hat, hM, hh, hgt⟩ ih2
      dsimp only at hat hM hh hgt ih2 ⊢
      cases t0 with
      | zero =>
        have hlt : ∀ y ∈ O.take 0, ahd nm ct y k = true := fun y hy => by rw [List.take_zero] at hy; cases hy
        refine v_iload_n hc (i := 2) rfl dX4_orders_35 rfl ?_
        refine v_if_le hc (tgt := 75) dX4_orders_36 (by decide) (fun h3 => ?_) (fun h3 => ?_)
        · have hat2 := hh.fill (x := k) hat
          first | refine v_aload_n hc (i := 0) rfl dX4_orders_75 rfl ?_ | refine v_aload_nN hc (i := 0) rfl dX4_orders_75 rfl ?_
          refine v_get hc 11 (ci := 7) rfl (by decide +kernel) (by decide) (by decide +kernel) (fun _ h => h) dX4_orders_76 hM.1 rfl ?_
          refine v_iload_n hc (i := 2) rfl dX4_orders_79 rfl ?_
          refine v_iload_n hc (i := 1) rfl dX4_orders_80 rfl ?_
          refine m_iast hc hM 11 rfl (0) dX4_orders_81 (rfl) (lt40 (by omega)) (fun w hM => ?_)
          have hM := mp11 hM
          have hS2 := hS.ins (x := k) (p := 0) hlt hgt
          first | refine v_aload_n hc (i := 0) rfl dX4_orders_82 rfl ?_ | refine v_aload_nN hc (i := 0) rfl dX4_orders_82 rfl ?_
          refine v_dup hc dX4_orders_83 rfl ?_
          refine v_get hc 12 (ci := 7) rfl (by decide +kernel) (by decide) (by decide +kernel) (fun _ h => h) dX4_orders_84 hM.1 rfl ?_
          refine v_ti (show _ = nI O.length from rfl) ?_
          refine v_iconst hc (v := nI 1) dX4_orders_87 (by decide) ?_
          first | refine v_iaddN hc dX4_orders_88 ?_ | refine v_iadd hc dX4_orders_88 ?_
          refine m_put hc hM 12 rfl (by decide +kernel) (by decide +kernel) dX4_orders_89 (fun w hM => ?_)
          rw [up_up] at hM
          first | refine v_iinc1 hc dX4_orders_92 rfl (by decide) rfl ?_ | refine v_iinc hc dX4_orders_92 rfl rfl (by decide) rfl ?_
          refine v_goto hc (tgt := 7) dX4_orders_95 (by decide) ?_
          refine ih (k + 1, w, O.take (0) ++ k :: O.drop (0), va_up f2 (0) (nI k), va_up f13 k (-1)) _ rfl ⟨h1, by dsimp only; rw [len_ins hat]; exact hM, hS2.congr (fun j => ?_), hat2, fun j hj => ?_⟩ (by dsimp only; omega)
          · dsimp only
            constructor
            · rintro (⟨a, b⟩ | rfl)
              · exact ⟨by omega, b⟩
              · exact ⟨by omega, h2⟩
            · rintro ⟨a, b⟩
              by_cases hj : j = k
              · exact Or.inr hj
              · exact Or.inl ⟨by omega, b⟩
          · dsimp only at hj ⊢
            by_cases hjk : j = k
            · subst hjk; rw [va_up_self]
            · rw [up_n hjk]; exact h13 j (by omega)
        · exact absurd (by decide) h3
      | succ t =>
        have ht : t < O.length := hat
        have hm := getD_mem ht
        have hmn := hXn _ hm
        have ef2 : f2 t = nI (O.getD t 0) := hh.1 t (Nat.lt_succ_self t)
        have hD2 : RD n nm ct lv lo fm (va_up sc 12 (nI O.length)) (va_up (va_up ai 11 f2) 13 (va_up f13 k (-1))) al := (hD.sc' (sc' := va_up sc 12 (nI O.length)) rfl).ai' (fun j hj => by rw [up_n (by omega), up_n (by omega)])
        refine v_iload_n hc (i := 2) rfl dX4_orders_35 rfl ?_
        refine v_if_le hc (tgt := 75) dX4_orders_36 (by decide) (fun h3 => ?_) (fun h3 => ?_)
        · exact absurd h3 (nI_nle (Nat.succ_pos t) (by omega))
        · first | refine v_aload_n hc (i := 0) rfl dX4_orders_39 rfl ?_ | refine v_aload_nN hc (i := 0) rfl dX4_orders_39 rfl ?_
          refine v_iload_n hc (i := 1) rfl dX4_orders_40 rfl ?_
          first | refine v_aload_n hc (i := 0) rfl dX4_orders_41 rfl ?_ | refine v_aload_nN hc (i := 0) rfl dX4_orders_41 rfl ?_
          refine v_get hc 11 (ci := 7) rfl (by decide +kernel) (by decide) (by decide +kernel) (fun _ h => h) dX4_orders_42 hM.1 rfl ?_
          refine v_iload_n hc (i := 2) rfl dX4_orders_45 rfl ?_
          refine v_iconst hc (v := nI 1) dX4_orders_46 (by decide) ?_
          refine v_isub hc dX4_orders_47 ?_
          refine v_ti (show _ = nI t from pk_sub (by omega)) ?_
          refine v_iald hc (t) dX4_orders_48 (hM.2.1 11 rfl) (rfl) (lt40 (by omega)) (by decide) ?_
          refine v_ti (show _ = nI (O.getD t 0) from ef2) ?_
          refine v_callVi hc (c_X4_isAhead hM hD2 h1 (j := O.getD t 0) (by omega)) (cwV 2 hc.1.2.2.2.2 gX4_orders_X4_isAhead rfl rfl rfl (by decide +kernel) ⟨Nat.le_of_ble_eq_true rfl, Nat.le_of_ble_eq_true rfl⟩) (hM.1) rfl rfl rfl (Nat.le_of_ble_eq_true rfl) ⟨(by first | exact Nat.le_of_ble_eq_true rfl | omega | (dsimp only; omega)), (by first | exact Nat.le_of_ble_eq_true rfl | omega | (dsimp only; omega))⟩ dX4_orders_49 (fun r w' hp => ?_)
          obtain ⟨rfl, rfl⟩ := hp
          refine v_ifB_eq hc (tgt := 75) dX4_orders_52 (by decide) (fun h5 => ?_) (fun h5 => ?_)
          · have hlt : ∀ y ∈ O.take (t + 1), ahd nm ct y k = true := take_lt hsT hS.1 ht (hsT.2.2 _ _ (fun z => by omega) h5)
            have hat2 := hh.fill (x := k) hat
            first | refine v_aload_n hc (i := 0) rfl dX4_orders_75 rfl ?_ | refine v_aload_nN hc (i := 0) rfl dX4_orders_75 rfl ?_
            refine v_get hc 11 (ci := 7) rfl (by decide +kernel) (by decide) (by decide +kernel) (fun _ h => h) dX4_orders_76 hM.1 rfl ?_
            refine v_iload_n hc (i := 2) rfl dX4_orders_79 rfl ?_
            refine v_iload_n hc (i := 1) rfl dX4_orders_80 rfl ?_
            refine m_iast hc hM 11 rfl (t + 1) dX4_orders_81 (rfl) (lt40 (by omega)) (fun w hM => ?_)
            have hM := mp11 hM
            have hS2 := hS.ins (x := k) (p := t + 1) hlt hgt
            first | refine v_aload_n hc (i := 0) rfl dX4_orders_82 rfl ?_ | refine v_aload_nN hc (i := 0) rfl dX4_orders_82 rfl ?_
            refine v_dup hc dX4_orders_83 rfl ?_
            refine v_get hc 12 (ci := 7) rfl (by decide +kernel) (by decide) (by decide +kernel) (fun _ h => h) dX4_orders_84 hM.1 rfl ?_
            refine v_ti (show _ = nI O.length from rfl) ?_
            refine v_iconst hc (v := nI 1) dX4_orders_87 (by decide) ?_
            first | refine v_iaddN hc dX4_orders_88 ?_ | refine v_iadd hc dX4_orders_88 ?_
            refine m_put hc hM 12 rfl (by decide +kernel) (by decide +kernel) dX4_orders_89 (fun w hM => ?_)
            rw [up_up] at hM
            first | refine v_iinc1 hc dX4_orders_92 rfl (by decide) rfl ?_ | refine v_iinc hc dX4_orders_92 rfl rfl (by decide) rfl ?_
            refine v_goto hc (tgt := 7) dX4_orders_95 (by decide) ?_
            refine ih (k + 1, w, O.take (t + 1) ++ k :: O.drop (t + 1), va_up f2 (t + 1) (nI k), va_up f13 k (-1)) _ rfl ⟨h1, by dsimp only; rw [len_ins hat]; exact hM, hS2.congr (fun j => ?_), hat2, fun j hj => ?_⟩ (by dsimp only; omega)
            · dsimp only
              constructor
              · rintro (⟨a, b⟩ | rfl)
                · exact ⟨by omega, b⟩
                · exact ⟨by omega, h2⟩
              · rintro ⟨a, b⟩
                by_cases hj : j = k
                · exact Or.inr hj
                · exact Or.inl ⟨by omega, b⟩
            · dsimp only at hj ⊢
              by_cases hjk : j = k
              · subst hjk; rw [va_up_self]
              · rw [up_n hjk]; exact h13 j (by omega)
          · have hgt2 := drop_gt hsT hS.1 ht (x := k) h5
            first | refine v_aload_n hc (i := 0) rfl dX4_orders_55 rfl ?_ | refine v_aload_nN hc (i := 0) rfl dX4_orders_55 rfl ?_
            refine v_get hc 11 (ci := 7) rfl (by decide +kernel) (by decide) (by decide +kernel) (fun _ h => h) dX4_orders_56 hM.1 rfl ?_
            refine v_iload_n hc (i := 2) rfl dX4_orders_59 rfl ?_
            first | refine v_aload_n hc (i := 0) rfl dX4_orders_60 rfl ?_ | refine v_aload_nN hc (i := 0) rfl dX4_orders_60 rfl ?_
            refine v_get hc 11 (ci := 7) rfl (by decide +kernel) (by decide) (by decide +kernel) (fun _ h => h) dX4_orders_61 hM.1 rfl ?_
            refine v_iload_n hc (i := 2) rfl dX4_orders_64 rfl ?_
            refine v_iconst hc (v := nI 1) dX4_orders_65 (by decide) ?_
            refine v_isub hc dX4_orders_66 ?_
            refine v_ti (show _ = nI t from pk_sub (by omega)) ?_
            refine v_iald hc (t) dX4_orders_67 (hM.2.1 11 rfl) (rfl) (lt40 (by omega)) (by decide) ?_
            refine v_ti (show _ = nI (O.getD t 0) from ef2) ?_
            refine m_iast hc hM 11 rfl ((t + 1)) dX4_orders_68 (rfl) (lt40 (by omega)) (fun w hM => ?_)
            have hM := mp11 hM
            refine v_iinc hc (v := nI (t + 1) - nI 1) dX4_orders_69 rfl (i32_dec _) (by decide) rfl ?_
            rw [show nI (t + 1) - nI 1 = nI t from pk_sub (by omega)]
            refine v_goto hc (tgt := 35) dX4_orders_72 (by decide) ?_
            exact ih2 (t, w, va_up f2 (t + 1) (nI (O.getD t 0))) _ rfl ⟨by dsimp only; omega, hM, hh.move, hgt2⟩ (Nat.lt_succ_self t)
/-- the rows of a pack that is being laid -/
def PKR (n : Nat) (O : List Nat) (nf : Nat → Option Frm) (ai : Nat → Nat → Int32) : Prop := isL (ai 11) O ∧ (∀ p, p < O.length → ai 13 (O.getD p 0) = nI p) ∧ (∀ i, i < n → (∀ p, p < O.length → O.getD p 0 ≠ i) → ai 13 i = -1) ∧ ∀ i, i < n → ∀ g, nf i = some g → ai 14 i = nIo g.1 ∧ ai 15 i = nI g.2.1
set_option maxRecDepth 100000 in
set_option maxHeartbeats 4000000 in
theorem c_X4_oldBase (hM : MP G w h ad sc ai al) (hD : RD n nm ct lv lo fm sc ai al) (hC : CH n fm) (hCn : CH n nf) (hK : PKR n O nf ai) (hd : O.Nodup) (hO : ∀ i ∈ O, i < n) {p bd : Nat} (hp : p < O.length) (hpl : ∀ i, (∃ g, nf i = some g) ↔ ∃ j, j < p ∧ O.getD j 0 = i) (hbd : bd ≤ 6) : Met l yX4_oldBase wsX4_oldBase ({ frames := 8, cells := 0, slots := 0, locals := 120 } : Room) (Pw G A w [.ref h, .int (nI p), .int (nI bd)]) (va_Qi (fun r w' => w = w' ∧ r = nIo (reu fm nf bd (O.getD p 0))) (Bw G A) A) 0 0 A := by
  refine m_of (cc := cX4_oldBase) (maxL := 5) (ret := (some .int)) (by decide) rfl (Nat.le_of_ble_eq_true rfl) ?_
  intro pp e s m args below meth c hc hr hmn

  refine v_loc [(0, some (.ref h)), (1, some (.int (nI p))), (2, some (.int (nI bd)))] rfl ?_
  have hn := hD.2.1
  have ho := hO _ (getD_mem hp)
  have hl : O.length ≤ n := nd_len hd hO
  have e11 := hK.1 p hp
  first | refine v_aload_n hc (i := 0) rfl dX4_oldBase_0 rfl ?_ | refine v_aload_nN hc (i := 0) rfl dX4_oldBase_0 rfl ?_
  refine v_get hc 11 (ci := 7) rfl (by decide +kernel) (by decide) (by decide +kernel) (fun _ h => h) dX4_oldBase_1 hM.1 rfl ?_
  refine v_iload_n hc (i := 1) rfl dX4_oldBase_4 rfl ?_
  refine v_iald hc (p) dX4_oldBase_5 (hM.2.1 11 rfl) (rfl) (lt40 (by omega)) (by decide) ?_
  rw [e11]
  generalize hoo : O.getD p 0 = o at *
  refine v_istore_n hc (i := 3) rfl dX4_oldBase_6 (by decide) rfl ?_
  first | refine v_aload_n hc (i := 0) rfl dX4_oldBase_7 rfl ?_ | refine v_aload_nN hc (i := 0) rfl dX4_oldBase_7 rfl ?_
  refine v_get hc 5 (ci := 7) rfl (by decide +kernel) (by decide) (by decide +kernel) (fun _ h => h) dX4_oldBase_8 hM.1 rfl ?_
  refine v_iload_n hc (i := 3) rfl dX4_oldBase_11 rfl ?_
  refine v_zald hc (o) dX4_oldBase_12 (hM.2.2.1 5 rfl) (rfl) (by omega) (by decide) ?_
  rw [hD.r5 ho]
  cases hfm : fm o with
  | none =>
    refine v_ifB_eq hc (tgt := 35) dX4_oldBase_13 (by decide) (fun h1 => ?_) (fun h1 => ?_)
    · refine v_iconst hc (v := (-1)) dX4_oldBase_35 (by decide) ?_
      exact v_iret hc hr dX4_oldBase_36 (by first | exact Nat.le_of_ble_eq_true rfl | omega | (dsimp only; omega)) (by first | exact Nat.le_of_ble_eq_true rfl | omega | (dsimp only; omega)) (⟨rfl, by unfold reu; rw [hfm]; rfl⟩)
    · cases h1
  | some g =>
    have h6 := hD.r6 ho hfm
    have h7 := hD.r7 ho hfm
    obtain ⟨gb, gd, gp, gc, gx⟩ := g
    refine v_ifB_eq hc (tgt := 35) dX4_oldBase_13 (by decide) (fun h1 => ?_) (fun h1 => ?_)
    · cases h1
    · first | refine v_aload_n hc (i := 0) rfl dX4_oldBase_16 rfl ?_ | refine v_aload_nN hc (i := 0) rfl dX4_oldBase_16 rfl ?_
      refine v_get hc 6 (ci := 7) rfl (by decide +kernel) (by decide) (by decide +kernel) (fun _ h => h) dX4_oldBase_17 hM.1 rfl ?_
      refine v_iload_n hc (i := 3) rfl dX4_oldBase_20 rfl ?_
      refine v_zald hc (o) dX4_oldBase_21 (hM.2.2.1 6 rfl) (rfl) (by omega) (by decide) ?_
      rw [h6]
      refine v_ifB_ne hc (tgt := 35) dX4_oldBase_22 (by decide) (fun h2 => ?_) (fun h2 => ?_)
      · refine v_iconst hc (v := (-1)) dX4_oldBase_35 (by decide) ?_
        exact v_iret hc hr dX4_oldBase_36 (by first | exact Nat.le_of_ble_eq_true rfl | omega | (dsimp only; omega)) (by first | exact Nat.le_of_ble_eq_true rfl | omega | (dsimp only; omega)) (⟨rfl, by unfold reu; rw [hfm]; simp only [show gx = true from h2, if_true]; rfl⟩)
      · have h2 : gx = false := h2
        subst h2
        first | refine v_aload_n hc (i := 0) rfl dX4_oldBase_25 rfl ?_ | refine v_aload_nN hc (i := 0) rfl dX4_oldBase_25 rfl ?_
        refine v_get hc 7 (ci := 7) rfl (by decide +kernel) (by decide) (by decide +kernel) (fun _ h => h) dX4_oldBase_26 hM.1 rfl ?_
        refine v_iload_n hc (i := 3) rfl dX4_oldBase_29 rfl ?_
        refine v_iald hc (o) dX4_oldBase_30 (hM.2.1 7 rfl) (rfl) (Nat.lt_of_lt_of_le ho hn) (by decide) ?_
        rw [h7]
        refine v_iconst hc (v := (-1)) dX4_oldBase_31 (by decide) ?_
        cases gb with
        | none =>
          refine v_icmp_ne hc (tgt := 37) dX4_oldBase_32 (by decide) (fun h3 => ?_) (fun h3 => ?_)
          · exact absurd rfl h3
          · refine v_iconst hc (v := (-1)) dX4_oldBase_35 (by decide) ?_
            exact v_iret hc hr dX4_oldBase_36 (by first | exact Nat.le_of_ble_eq_true rfl | omega | (dsimp only; omega)) (by first | exact Nat.le_of_ble_eq_true rfl | omega | (dsimp only; omega)) (⟨rfl, by unfold reu; rw [hfm]; rfl⟩)
        | some b =>
          obtain ⟨hbn, g2, hg2, -⟩ := (hC o ho _ hfm).2 b rfl
          refine v_icmp_ne hc (tgt := 37) dX4_oldBase_32 (by decide) (fun h3 => ?_) (fun h3 => ?_)
          · first | refine v_aload_n hc (i := 0) rfl dX4_oldBase_37 rfl ?_ | refine v_aload_nN hc (i := 0) rfl dX4_oldBase_37 rfl ?_
            refine v_get hc 13 (ci := 7) rfl (by decide +kernel) (by decide) (by decide +kernel) (fun _ h => h) dX4_oldBase_38 hM.1 rfl ?_
            first | refine v_aload_n hc (i := 0) rfl dX4_oldBase_41 rfl ?_ | refine v_aload_nN hc (i := 0) rfl dX4_oldBase_41 rfl ?_
            refine v_get hc 7 (ci := 7) rfl (by decide +kernel) (by decide) (by decide +kernel) (fun _ h => h) dX4_oldBase_42 hM.1 rfl ?_
            refine v_iload_n hc (i := 3) rfl dX4_oldBase_45 rfl ?_
            refine v_iald hc (o) dX4_oldBase_46 (hM.2.1 7 rfl) (rfl) (Nat.lt_of_lt_of_le ho hn) (by decide) ?_
            rw [h7]
            refine v_iald hc (b) dX4_oldBase_47 (hM.2.1 13 rfl) (rfl) (Nat.lt_of_lt_of_le hbn hn) (by decide) ?_
            cases hnb : nf b with
            | none =>
              have hreu : reu fm nf bd o = none := by unfold reu; rw [hfm]; simp [hnb]
              by_cases hex : ∃ q, q < O.length ∧ O.getD q 0 = b
              · obtain ⟨q, hq, hqb⟩ := hex
                have hpq : p ≤ q := Nat.not_lt.mp (fun z => by
                  obtain ⟨g9, hg9⟩ := (hpl b).mpr ⟨q, z, hqb⟩
                  rw [hnb] at hg9; cases hg9)
                rw [← hqb, hK.2.1 q hq]
                refine v_istore hc dX4_oldBase_48 (by decide) rfl ?_
                refine v_iload hc dX4_oldBase_50 rfl ?_
                refine v_iconst hc (v := (-1)) dX4_oldBase_52 (by decide) ?_
                refine v_icmp_eq hc (tgt := 86) dX4_oldBase_53 (by decide) (fun h4 => ?_) (fun h4 => ?_)
                · exact absurd h4 (nI_nm1 (by omega))
                · refine v_iload hc dX4_oldBase_56 rfl ?_
                  refine v_iload_n hc (i := 1) rfl dX4_oldBase_58 rfl ?_
                  refine v_icmp_geN hc (tgt := 86) dX4_oldBase_59 (by decide) (by omega) (by omega) (fun h5 => ?_) (fun h5 => ?_)
                  · refine v_iconst hc (v := (-1)) dX4_oldBase_86 (by decide) ?_
                    exact v_iret hc hr dX4_oldBase_87 (by first | exact Nat.le_of_ble_eq_true rfl | omega | (dsimp only; omega)) (by first | exact Nat.le_of_ble_eq_true rfl | omega | (dsimp only; omega)) (⟨rfl, by rw [hreu]; rfl⟩)
                  · omega
              · rw [hK.2.2.1 b hbn (fun q hq z => hex ⟨q, hq, z⟩)]
                refine v_istore hc dX4_oldBase_48 (by decide) rfl ?_
                refine v_iload hc dX4_oldBase_50 rfl ?_
                refine v_iconst hc (v := (-1)) dX4_oldBase_52 (by decide) ?_
                refine v_icmp_eq hc (tgt := 86) dX4_oldBase_53 (by decide) (fun h4 => ?_) (fun h4 => ?_)
                · refine v_iconst hc (v := (-1)) dX4_oldBase_86 (by decide) ?_
                  exact v_iret hc hr dX4_oldBase_87 (by first | exact Nat.le_of_ble_eq_true rfl | omega | (dsimp only; omega)) (by first | exact Nat.le_of_ble_eq_true rfl | omega | (dsimp only; omega)) (⟨rfl, by rw [hreu]; rfl⟩)
                · exact absurd rfl h4
            | some g' =>
              obtain ⟨q, hq, hqb⟩ := (hpl b).mp ⟨g', hnb⟩
              have hd' := (hCn b hbn g' hnb).1
              have e13 : ai 13 b = nI q := by rw [← hqb]; exact hK.2.1 q (by omega)
              rw [e13]
              refine v_istore hc dX4_oldBase_48 (by decide) rfl ?_
              refine v_iload hc dX4_oldBase_50 rfl ?_
              refine v_iconst hc (v := (-1)) dX4_oldBase_52 (by decide) ?_
              refine v_icmp_eq hc (tgt := 86) dX4_oldBase_53 (by decide) (fun h4 => ?_) (fun h4 => ?_)
              · exact absurd h4 (nI_nm1 (by omega))
              · refine v_iload hc dX4_oldBase_56 rfl ?_
                refine v_iload_n hc (i := 1) rfl dX4_oldBase_58 rfl ?_
                refine v_icmp_geN hc (tgt := 86) dX4_oldBase_59 (by decide) (by omega) (by omega) (fun h5 => ?_) (fun h5 => ?_)
                · omega
                · first | refine v_aload_n hc (i := 0) rfl dX4_oldBase_62 rfl ?_ | refine v_aload_nN hc (i := 0) rfl dX4_oldBase_62 rfl ?_
                  refine v_get hc 15 (ci := 7) rfl (by decide +kernel) (by decide) (by decide +kernel) (fun _ h => h) dX4_oldBase_63 hM.1 rfl ?_
                  first | refine v_aload_n hc (i := 0) rfl dX4_oldBase_66 rfl ?_ | refine v_aload_nN hc (i := 0) rfl dX4_oldBase_66 rfl ?_
                  refine v_get hc 7 (ci := 7) rfl (by decide +kernel) (by decide) (by decide +kernel) (fun _ h => h) dX4_oldBase_67 hM.1 rfl ?_
                  refine v_iload_n hc (i := 3) rfl dX4_oldBase_70 rfl ?_
                  refine v_iald hc (o) dX4_oldBase_71 (hM.2.1 7 rfl) (rfl) (Nat.lt_of_lt_of_le ho hn) (by decide) ?_
                  rw [h7]
                  refine v_iald hc (b) dX4_oldBase_72 (hM.2.1 15 rfl) (rfl) (Nat.lt_of_lt_of_le hbn hn) (by decide) ?_
                  rw [(hK.2.2.2 b hbn g' hnb).2]
                  refine v_iload_n hc (i := 2) rfl dX4_oldBase_73 rfl ?_
                  refine v_icmp_geN hc (tgt := 86) dX4_oldBase_74 (by decide) (by omega) (by omega) (fun h6 => ?_) (fun h6 => ?_)
                  · refine v_iconst hc (v := (-1)) dX4_oldBase_86 (by decide) ?_
                    exact v_iret hc hr dX4_oldBase_87 (by first | exact Nat.le_of_ble_eq_true rfl | omega | (dsimp only; omega)) (by first | exact Nat.le_of_ble_eq_true rfl | omega | (dsimp only; omega)) (⟨rfl, by unfold reu; rw [hfm]; simp only [hnb, if_neg (show ¬ g'.2.1 < bd by omega)]; rfl⟩)
                  · first | refine v_aload_n hc (i := 0) rfl dX4_oldBase_77 rfl ?_ | refine v_aload_nN hc (i := 0) rfl dX4_oldBase_77 rfl ?_
                    refine v_get hc 7 (ci := 7) rfl (by decide +kernel) (by decide) (by decide +kernel) (fun _ h => h) dX4_oldBase_78 hM.1 rfl ?_
                    refine v_iload_n hc (i := 3) rfl dX4_oldBase_81 rfl ?_
                    refine v_iald hc (o) dX4_oldBase_82 (hM.2.1 7 rfl) (rfl) (Nat.lt_of_lt_of_le ho hn) (by decide) ?_
                    rw [h7]
                    refine v_goto hc (tgt := 87) dX4_oldBase_83 (by decide) ?_
                    exact v_iret hc hr dX4_oldBase_87 (by first | exact Nat.le_of_ble_eq_true rfl | omega | (dsimp only; omega)) (by first | exact Nat.le_of_ble_eq_true rfl | omega | (dsimp only; omega)) (⟨rfl, by unfold reu; rw [hfm]; simp only [hnb, if_pos h6]; rfl⟩)
          · exact absurd (show nI b = -1 from h3) (nI_nm1 (by omega))
end MD7

