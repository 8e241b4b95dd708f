/-! ===== the model: deltas ===== -/
theorem up_up {α : Type} (f : Nat → α) (k : Nat) (v u : α) : va_up (va_up f k v) k u = va_up f k u := by
  funext j; unfold va_up; split <;> rfl
theorem up_n {α : Type} {f : Nat → α} {k j : Nat} {v : α} (h : j ≠ k) : va_up f k v j = f j := by unfold va_up; rw [if_neg h]
def eqS (sc sc' : Nat → Int32) : Prop := ∀ k, k ≠ 20 → k ≠ 21 → sc' k = sc k
def eqA (ai ai' : Nat → Nat → Int32) : Prop := ∀ k, k ≠ 18 → k ≠ 19 → ai' k = ai k
def isR (f : Nat → Int32) (c : Nat) : Prop := (∀ i, i < hxn c → f i = nI (ltr c i)) ∧ f (hxn c) = nI 0
section MD2
variable {l : Launch} {G : cG} {A : Nat → Prop} {w : wd} {h : Nat} {ad : Nat → Nat} {sc : Nat → Int32} {ai : Nat → Nat → Int32} {al : Nat → Int64}
set_option maxRecDepth 100000 in
set_option maxHeartbeats 4000000 in
theorem c_X4_lays (hM : MP G w h ad sc ai al) (x : Int64) (hx : isC x = true) (kx : Nat) (hkx : kx = 18 ∨ kx = 19) : Met l yX4_lays wsX4_lays ({ frames := 9, cells := 0, slots := 0, locals := 144 } : Room) (Pw G A w [.long x, .ref (ad kx)]) (va_Qi (fun r w' => (∃ f, MP G w' h ad sc (va_up ai kx f) al ∧ isR f (xN x)) ∧ r = nI (hxn (xN x))) (Bw G A) A) 0 0 A := by
  refine m_of (cc := cX4_lays) (maxL := 5) (ret := (some .int)) (by decide) rfl (Nat.le_of_ble_eq_true rfl) ?_
  intro p e s m args below meth c hc hr hmn
  refine v_loc [(0, some (.long x)), (2, some (.ref (ad kx)))] rfl ?_
  have hI : isI kx = true := by rcases hkx with rfl | rfl <;> rfl
  have hml : mln kx = 16 := by rcases hkx with rfl | rfl <;> rfl
  have h15 := isC_15 hx
  refine v_lload_n hc (i := 0) rfl dX4_lays_0 rfl ?_
  refine v_callSi hc (c_X4_size x) (va_cwS 1 hc.1.2.2.2.2 gX4_lays_X4_size rfl rfl rfl (by decide +kernel) ⟨Nat.le_of_ble_eq_true rfl, Nat.le_of_ble_eq_true rfl⟩) rfl rfl (Nat.le_of_ble_eq_true rfl) ⟨(by first | exact Nat.le_of_ble_eq_true rfl | omega | (dsimp only; omega)), (by first | exact Nat.le_of_ble_eq_true rfl | omega | (dsimp only; omega))⟩ dX4_lays_1 (fun r w' hp => ?_)
  obtain ⟨rfl, rfl⟩ := hp
  refine v_istore_n hc (i := 3) rfl dX4_lays_4 (by decide) rfl ?_
  refine v_iconst hc (v := nI 0) dX4_lays_5 (by decide) ?_
  refine v_istore hc dX4_lays_6 (by decide) rfl ?_
  refine v_loop (σ := Nat × wd × (Nat → Int32)) (fun a => a.1 ≤ hxn (xN x) ∧ MP G a.2.1 h ad sc (va_up ai kx a.2.2) al ∧ ∀ i, i < a.1 → a.2.2 i = nI (ltr (xN x) i)) (fun a => hxn (xN x) - a.1) (fun a => a.2.1) (fun _ => 0) (fun _ => 0) (fun a => [(4, some (.int (nI a.1))), (3, some (.int (nI (hxn (xN x))))), (2, some (.ref (ad kx))), (0, some (.long x))]) (0, w, ai kx) rfl ⟨Nat.zero_le _, by dsimp only; rw [show va_up ai kx (ai kx) = ai by funext j; unfold va_up; split <;> simp_all]; exact hM, fun i hi => absurd hi (Nat.not_lt_zero _)⟩ ?_
  rintro ⟨i, w, f⟩ ⟨hi, hM, hf⟩ ih
  dsimp only at hi hM hf ih ⊢
  refine v_iload hc dX4_lays_8 rfl ?_
  refine v_iload_n hc (i := 3) rfl dX4_lays_10 rfl ?_
  refine v_icmp_geN hc (tgt := 39) dX4_lays_11 (by decide) (by omega) (by omega) (fun h1 => ?_) (fun h1 => ?_)
  · have hie : i = hxn (xN x) := by omega
    first | refine v_aload_n hc (i := 2) rfl dX4_lays_39 rfl ?_ | refine v_aload_nN hc (i := 2) rfl dX4_lays_39 rfl ?_
    refine v_iload_n hc (i := 3) rfl dX4_lays_40 rfl ?_
    refine v_iconst hc (v := nI 0) dX4_lays_41 (by decide) ?_
    refine m_iast hc hM kx hI (hxn (xN x)) dX4_lays_42 rfl (by omega) (fun w hM => ?_)
    rw [up_up, va_up_self] at hM
    refine v_iload_n hc (i := 3) rfl dX4_lays_43 rfl ?_
    exact v_iret hc hr dX4_lays_44 (by first | exact Nat.le_of_ble_eq_true rfl | omega | (dsimp only; omega)) (by first | exact Nat.le_of_ble_eq_true rfl | omega | (dsimp only; omega)) (⟨⟨_, hM, fun j hj => by rw [up_n (by omega)]; exact hf j (by omega), va_up_self _ _ _⟩, rfl⟩)
  · have h2 := dgt_lt (xN x) (hxn (xN x) - 1 - i)
    first | refine v_aload_n hc (i := 2) rfl dX4_lays_14 rfl ?_ | refine v_aload_nN hc (i := 2) rfl dX4_lays_14 rfl ?_
    refine v_iload hc dX4_lays_15 rfl ?_
    refine v_lload_n hc (i := 0) rfl dX4_lays_17 rfl ?_
    refine v_iconst hc (v := nI 4) dX4_lays_18 (by decide) ?_
    refine v_iload_n hc (i := 3) rfl dX4_lays_19 rfl ?_
    refine v_iconst hc (v := nI 1) dX4_lays_20 (by decide) ?_
    first | refine v_isubN hc (by omega) dX4_lays_21 ?_ | refine v_isub hc dX4_lays_21 ?_
    refine v_iload hc dX4_lays_22 rfl ?_
    first | refine v_isubN hc (by omega) dX4_lays_24 ?_ | refine v_isub hc dX4_lays_24 ?_
    first | refine v_imulN hc dX4_lays_25 ?_ | refine v_imul hc dX4_lays_25 ?_
    refine v_lshr hc dX4_lays_26 ?_
    refine v_ldc2 hc (v := 15) dX4_lays_27 (by decide +kernel) ?_
    refine v_land hc dX4_lays_30 ?_
    refine v_l2i hc dX4_lays_31 ?_
    refine v_ti (dig_eq hx (by omega)) ?_
    refine m_iast hc hM kx hI i dX4_lays_32 rfl (by omega) (fun w hM => ?_)
    rw [up_up, va_up_self] at hM
    first | refine v_iinc1 hc dX4_lays_33 rfl (by decide) rfl ?_ | refine v_iinc hc dX4_lays_33 rfl rfl (by decide) rfl ?_
    refine v_goto hc (tgt := 8) dX4_lays_36 (by decide) ?_
    refine ih (i + 1, w, va_up f i (nI (dgt (xN x) (hxn (xN x) - 1 - i)))) _ rfl ⟨by dsimp only; omega, hM, fun j hj => ?_⟩ (by dsimp only; omega)
    dsimp only at hj ⊢
    by_cases hji : j = i
    · subst hji; rw [va_up_self]; rfl
    · rw [up_n hji]; exact hf j (by omega)
set_option maxRecDepth 100000 in
set_option maxHeartbeats 4000000 in
theorem c_X4_common (hM : MP G w h ad sc ai al) {c0 d0 : Nat} (h1 : isR (ai 18) c0) (h2 : isR (ai 19) d0) (hc15 : hxn c0 ≤ 15) (hd15 : hxn d0 ≤ 15) (hnz : ∀ i, i < hxn c0 → ltr c0 i ≠ 0) {i j : Nat} (hi : i ≤ hxn c0) (hj : j ≤ hxn d0) : Met l yX4_common wsX4_common ({ frames := 8, cells := 0, slots := 0, locals := 120 } : Room) (Pw G A w [.ref h, .int (nI i), .int (nI j)]) (va_Qi (fun r w' => w = w' ∧ r = nI (cml c0 d0 i j)) (Bw G A) A) 0 0 A := by
  refine m_of (cc := cX4_common) (maxL := 4) (ret := (some .int)) (by decide) rfl (Nat.le_of_ble_eq_true rfl) ?_
  intro p e s m args below meth c hc hr hmn
  refine v_loc [(0, some (.ref h)), (1, some (.int (nI i))), (2, some (.int (nI j)))] rfl ?_
  refine v_iconst hc (v := nI 0) dX4_common_0 (by decide) ?_
  refine v_istore_n hc (i := 3) rfl dX4_common_1 (by decide) rfl ?_
  refine v_loop (σ := Nat) (fun t => i + t ≤ hxn c0 ∧ j + t ≤ hxn d0 ∧ t + cml c0 d0 (i + t) (j + t) = cml c0 d0 i j) (fun t => hxn c0 - t) (fun _ => w) (fun _ => 0) (fun _ => 0) (fun t => [(0, some (.ref h)), (1, some (.int (nI i))), (2, some (.int (nI j))), (3, some (.int (nI t)))]) 0 rfl ⟨hi, hj, Nat.zero_add _⟩ ?_
  rintro t ⟨ht1, ht2, hI⟩ ih
  have fin : cml c0 d0 (i + t) (j + t) = 0 → V p l e ({ frames := 8, cells := 0, slots := 0, locals := 120 } : Room) s m args below meth c 4 G A (MQ below (va_Qi (fun r w' => w = w' ∧ r = nI (cml c0 d0 i j)) (Bw G A) A) args s 0 0 A) w 0 0 38 [(0, some (.ref h)), (1, some (.int (nI i))), (2, some (.int (nI j))), (3, some (.int (nI t)))] [] := by
    intro h0
    refine v_iload_n hc (i := 3) rfl dX4_common_38 rfl ?_
    exact v_iret hc hr dX4_common_39 (by first | exact Nat.le_of_ble_eq_true rfl | omega | (dsimp only; omega)) (by first | exact Nat.le_of_ble_eq_true rfl | omega | (dsimp only; omega)) (⟨rfl, by rw [← hI, h0]; rfl⟩)
  first | refine v_aload_n hc (i := 0) rfl dX4_common_2 rfl ?_ | refine v_aload_nN hc (i := 0) rfl dX4_common_2 rfl ?_
  refine v_get hc 18 (ci := 7) rfl (by decide +kernel) (by decide) (by decide +kernel) (fun _ h => h) dX4_common_3 hM.1 rfl ?_
  refine v_iload_n hc (i := 1) rfl dX4_common_6 rfl ?_
  refine v_iload_n hc (i := 3) rfl dX4_common_7 rfl ?_
  first | refine v_iaddN hc dX4_common_8 ?_ | refine v_iadd hc dX4_common_8 ?_
  refine v_iald hc (i + t) dX4_common_9 (hM.2.1 18 rfl) (rfl) (show i + t < 16 by omega) (by decide) ?_
  rcases Nat.lt_or_ge (i + t) (hxn c0) with hlt | hge
  · have e1 := h1.1 (i + t) hlt
    rw [e1]
    have hl1 : ltr c0 (i + t) < 2 ^ 31 := Nat.lt_trans (dgt_lt _ _) (by decide)
    refine v_if_eqN hc (tgt := 38) dX4_common_10 (by decide) hl1 (fun z => absurd z (hnz _ hlt)) (fun _ => ?_)
    first | refine v_aload_n hc (i := 0) rfl dX4_common_13 rfl ?_ | refine v_aload_nN hc (i := 0) rfl dX4_common_13 rfl ?_
    refine v_get hc 18 (ci := 7) rfl (by decide +kernel) (by decide) (by decide +kernel) (fun _ h => h) dX4_common_14 hM.1 rfl ?_
    refine v_iload_n hc (i := 1) rfl dX4_common_17 rfl ?_
    refine v_iload_n hc (i := 3) rfl dX4_common_18 rfl ?_
    first | refine v_iaddN hc dX4_common_19 ?_ | refine v_iadd hc dX4_common_19 ?_
    refine v_iald hc (i + t) dX4_common_20 (hM.2.1 18 rfl) (rfl) (show i + t < 16 by omega) (by decide) ?_
    rw [e1]
    first | refine v_aload_n hc (i := 0) rfl dX4_common_21 rfl ?_ | refine v_aload_nN hc (i := 0) rfl dX4_common_21 rfl ?_
    refine v_get hc 19 (ci := 7) rfl (by decide +kernel) (by decide) (by decide +kernel) (fun _ h => h) dX4_common_22 hM.1 rfl ?_
    refine v_iload_n hc (i := 2) rfl dX4_common_25 rfl ?_
    refine v_iload_n hc (i := 3) rfl dX4_common_26 rfl ?_
    first | refine v_iaddN hc dX4_common_27 ?_ | refine v_iadd hc dX4_common_27 ?_
    refine v_iald hc (j + t) dX4_common_28 (hM.2.1 19 rfl) (rfl) (show j + t < 16 by omega) (by decide) ?_
    rcases Nat.lt_or_ge (j + t) (hxn d0) with hlt2 | hge2
    · have e2 := h2.1 (j + t) hlt2
      rw [e2]
      have hl2 : ltr d0 (j + t) < 2 ^ 31 := Nat.lt_trans (dgt_lt _ _) (by decide)
      refine v_icmp_neN hc (tgt := 38) dX4_common_29 (by decide) hl1 hl2 (fun hne => ?_) (fun heq => ?_)
      · exact fin (cml_ne hne)
      · first | refine v_iinc1 hc dX4_common_32 rfl (by decide) rfl ?_ | refine v_iinc hc dX4_common_32 rfl rfl (by decide) rfl ?_
        refine v_goto hc (tgt := 2) dX4_common_35 (by decide) ?_
        exact ih (t + 1) _ rfl ⟨by omega, by omega, by rw [cml_eq hlt hlt2 heq] at hI; rw [← hI, ← Nat.add_assoc, ← Nat.add_assoc]; omega⟩ (by omega)
    · have e2 : ai 19 (j + t) = nI 0 := by rw [show j + t = hxn d0 by omega]; exact h2.2
      rw [e2]
      refine v_icmp_neN hc (tgt := 38) dX4_common_29 (by decide) hl1 (by decide) (fun hne => ?_) (fun heq => absurd heq (hnz _ hlt))
      exact fin (cml_e2 hge2)
  · have e1 : ai 18 (i + t) = nI 0 := by rw [show i + t = hxn c0 by omega]; exact h1.2
    rw [e1]
    refine v_if_eqN hc (tgt := 38) dX4_common_10 (by decide) (by decide) (fun _ => ?_) (fun z => absurd rfl z)
    exact fin (cml_e1 hge)
set_option maxRecDepth 100000 in
set_option maxHeartbeats 4000000 in
theorem c_X4_longest (hM : MP G w h ad sc ai al) {c0 d0 : Nat} (h1 : isR (ai 18) c0) (h2 : isR (ai 19) d0) (hc15 : hxn c0 ≤ 15) (hd15 : hxn d0 ≤ 15) (hnz : ∀ i, i < hxn c0 → ltr c0 i ≠ 0) {i : Nat} (hi : i ≤ hxn c0) : Met l yX4_longest wsX4_longest ({ frames := 9, cells := 0, slots := 0, locals := 143 } : Room) (Pw G A w [.ref h, .int (nI i), .int (nI (hxn d0))]) (va_Qi (fun r w' => w = w' ∧ r = nI (lgs c0 d0 i)) (Bw G A) A) 0 0 A := by
  refine m_of (cc := cX4_longest) (maxL := 6) (ret := (some .int)) (by decide) rfl (Nat.le_of_ble_eq_true rfl) ?_
  intro p e s m args below meth c hc hr hmn
  refine v_loc [(0, some (.ref h)), (1, some (.int (nI i))), (2, some (.int (nI (hxn d0))))] rfl ?_
  refine v_iconst hc (v := nI 0) dX4_longest_0 (by decide) ?_
  refine v_istore_n hc (i := 3) rfl dX4_longest_1 (by decide) rfl ?_
  refine v_iconst hc (v := nI 0) dX4_longest_2 (by decide) ?_
  refine v_istore hc dX4_longest_3 (by decide) rfl ?_
  refine v_loop (σ := Nat) (fun t => t ≤ hxn d0) (fun t => hxn d0 - t) (fun _ => w) (fun _ => 0) (fun _ => 0) (fun t => [(0, some (.ref h)), (1, some (.int (nI i))), (2, some (.int (nI (hxn d0)))), (3, some (.int (nI (lgr c0 d0 i t)))), (4, some (.int (nI t)))]) 0 rfl (Nat.zero_le _) ?_
  intro t ht ih
  refine v_iload hc dX4_longest_5 rfl ?_
  refine v_iload_n hc (i := 2) rfl dX4_longest_7 rfl ?_
  refine v_icmp_geN hc (tgt := 39) dX4_longest_8 (by decide) (by omega) (by omega) (fun hb => ?_) (fun hb => ?_)
  · have e : t = hxn d0 := by omega
    subst e
    refine v_iload_n hc (i := 3) rfl dX4_longest_39 rfl ?_
    exact v_iret hc hr dX4_longest_40 (by first | exact Nat.le_of_ble_eq_true rfl | omega | (dsimp only; omega)) (by first | exact Nat.le_of_ble_eq_true rfl | omega | (dsimp only; omega)) (⟨rfl, rfl⟩)
  · first | refine v_aload_n hc (i := 0) rfl dX4_longest_11 rfl ?_ | refine v_aload_nN hc (i := 0) rfl dX4_longest_11 rfl ?_
    refine v_iload_n hc (i := 1) rfl dX4_longest_12 rfl ?_
    refine v_iload hc dX4_longest_13 rfl ?_
    refine v_callVi hc (c_X4_common hM h1 h2 hc15 hd15 hnz hi ht) (cwV 2 hc.1.2.2.2.2 gX4_longest_X4_common rfl rfl rfl (by decide +kernel) ⟨Nat.le_of_ble_eq_true rfl, Nat.le_of_ble_eq_true rfl⟩) (hM.1) rfl rfl rfl (Nat.le_of_ble_eq_true rfl) ⟨(by first | exact Nat.le_of_ble_eq_true rfl | omega | (dsimp only; omega)), (by first | exact Nat.le_of_ble_eq_true rfl | omega | (dsimp only; omega))⟩ dX4_longest_15 (fun r w' hp => ?_)
    obtain ⟨rfl, rfl⟩ := hp
    have hl1 := cml_le c0 d0 i t
    have hl2 := lgr_le c0 d0 i t
    have back : ∀ v, v = max (lgr c0 d0 i t) (cml c0 d0 i t) → V p l e ({ frames := 9, cells := 0, slots := 0, locals := 143 } : Room) s m args below meth c 6 G A (MQ below (va_Qi (fun r w' => w = w' ∧ r = nI (lgs c0 d0 i)) (Bw G A) A) args s 0 0 A) w 0 0 32 [(0, some (.ref h)), (1, some (.int (nI i))), (2, some (.int (nI (hxn d0)))), (3, some (.int (nI (lgr c0 d0 i t)))), (4, some (.int (nI t))), (5, some (.int (nI (cml c0 d0 i t))))] [.int (nI v)] := by
      intro v hv
      subst hv
      refine v_istore_n hc (i := 3) rfl dX4_longest_32 (by decide) rfl ?_
      first | refine v_iinc1 hc dX4_longest_33 rfl (by decide) rfl ?_ | refine v_iinc hc dX4_longest_33 rfl rfl (by decide) rfl ?_
      refine v_goto hc (tgt := 5) dX4_longest_36 (by decide) ?_
      exact ih (t + 1) _ rfl hb (by omega)
    refine v_istore hc dX4_longest_18 (by decide) rfl ?_
    refine v_iload hc dX4_longest_20 rfl ?_
    refine v_iload_n hc (i := 3) rfl dX4_longest_22 rfl ?_
    refine v_icmp_leN hc (tgt := 31) dX4_longest_23 (by decide) (by omega) (by omega) (fun h3 => ?_) (fun h3 => ?_)
    · refine v_iload_n hc (i := 3) rfl dX4_longest_31 rfl ?_
      refine v_loc _ ?_ (back _ ?_)
      · rfl
      · omega
    · refine v_iload hc dX4_longest_26 rfl ?_
      refine v_goto hc (tgt := 32) dX4_longest_28 (by decide) ?_
      refine v_loc _ ?_ (back _ ?_)
      · rfl
      · omega
set_option maxRecDepth 100000 in
set_option maxHeartbeats 4000000 in
theorem c_X4_deltas (hM : MP G w h ad sc ai al) (x y : Int64) (hx : isC x = true) (hy : isC y = true) : Met l yX4_deltas wsX4_deltas ({ frames := 10, cells := 0, slots := 0, locals := 168 } : Room) (Pw G A w [.ref h, .long x, .long y]) (va_Qi (fun r w' => (∃ sc' ai', MP G w' h ad sc' ai' al ∧ eqS sc sc' ∧ eqA ai ai' ∧ sc' 20 = nI (cpt (xN x) (xN y) 0) ∧ sc' 21 = nI (adt (xN x) (xN y) 0)) ∧ r = nI (dco (xN x) (xN y))) (Bw G A) A) 0 0 A := by
  refine m_of (cc := cX4_deltas) (maxL := 9) (ret := (some .int)) (by decide) rfl (Nat.le_of_ble_eq_true rfl) ?_
  intro p e s m args below meth c hc hr hmn
  refine v_loc [(0, some (.ref h)), (1, some (.long x)), (3, some (.long y))] rfl ?_
  have hx15 := isC_15 hx
  have hy15 := isC_15 hy
  have hnz : ∀ i, i < hxn (xN x) → ltr (xN x) i ≠ 0 := fun i hi => isC_dg hx _ (by omega)
  refine v_lload_n hc (i := 1) rfl dX4_deltas_0 rfl ?_
  first | refine v_aload_n hc (i := 0) rfl dX4_deltas_1 rfl ?_ | refine v_aload_nN hc (i := 0) rfl dX4_deltas_1 rfl ?_
  refine v_get hc 18 (ci := 7) rfl (by decide +kernel) (by decide) (by decide +kernel) (fun _ h => h) dX4_deltas_2 hM.1 rfl ?_
  refine v_callSi hc (c_X4_lays hM x hx 18 (Or.inl rfl)) (va_cwS 2 hc.1.2.2.2.2 gX4_deltas_X4_lays rfl rfl rfl (by decide +kernel) ⟨Nat.le_of_ble_eq_true rfl, Nat.le_of_ble_eq_true rfl⟩) rfl rfl (Nat.le_of_ble_eq_true rfl) ⟨(by first | exact Nat.le_of_ble_eq_true rfl | omega | (dsimp only; omega)), (by first | exact Nat.le_of_ble_eq_true rfl | omega | (dsimp only; omega))⟩ dX4_deltas_5 (fun r w' hp => ?_)
  obtain ⟨⟨f1, hM, hf1⟩, rfl⟩ := hp
  refine v_istore hc dX4_deltas_8 (by decide) rfl ?_
  refine v_lload_n hc (i := 3) rfl dX4_deltas_10 rfl ?_
  first | refine v_aload_n hc (i := 0) rfl dX4_deltas_11 rfl ?_ | refine v_aload_nN hc (i := 0) rfl dX4_deltas_11 rfl ?_
  refine v_get hc 19 (ci := 7) rfl (by decide +kernel) (by decide) (by decide +kernel) (fun _ h => h) dX4_deltas_12 hM.1 rfl ?_
  refine v_callSi hc (c_X4_lays hM y hy 19 (Or.inr rfl)) (va_cwS 2 hc.1.2.2.2.2 gX4_deltas_X4_lays rfl rfl rfl (by decide +kernel) ⟨Nat.le_of_ble_eq_true rfl, Nat.le_of_ble_eq_true rfl⟩) rfl rfl (Nat.le_of_ble_eq_true rfl) ⟨(by first | exact Nat.le_of_ble_eq_true rfl | omega | (dsimp only; omega)), (by first | exact Nat.le_of_ble_eq_true rfl | omega | (dsimp only; omega))⟩ dX4_deltas_15 (fun r w' hp => ?_)
  obtain ⟨⟨f2, hM, hf2⟩, rfl⟩ := hp
  refine v_istore hc dX4_deltas_18 (by decide) rfl ?_
  first | refine v_aload_n hc (i := 0) rfl dX4_deltas_20 rfl ?_ | refine v_aload_nN hc (i := 0) rfl dX4_deltas_20 rfl ?_
  refine v_iconst hc (v := nI 0) dX4_deltas_21 (by decide) ?_
  refine m_put hc hM 20 rfl (by decide +kernel) (by decide +kernel) dX4_deltas_22 (fun w hM => ?_)
  first | refine v_aload_n hc (i := 0) rfl dX4_deltas_25 rfl ?_ | refine v_aload_nN hc (i := 0) rfl dX4_deltas_25 rfl ?_
  refine v_iconst hc (v := nI 0) dX4_deltas_26 (by decide) ?_
  refine m_put hc hM 21 rfl (by decide +kernel) (by decide +kernel) dX4_deltas_27 (fun w hM => ?_)
  refine v_iconst hc (v := nI 0) dX4_deltas_30 (by decide) ?_
  refine v_istore hc dX4_deltas_31 (by decide) rfl ?_
  refine v_loop (σ := Nat × wd × (Nat → Int32)) (fun a => a.1 ≤ hxn (xN x) ∧ MP G a.2.1 h ad a.2.2 (va_up (va_up ai 18 f1) 19 f2) al ∧ eqS sc a.2.2 ∧ (∃ cp, a.2.2 20 = nI cp ∧ cp + cpt (xN x) (xN y) a.1 = cpt (xN x) (xN y) 0) ∧ (∃ aa, a.2.2 21 = nI aa ∧ aa + adt (xN x) (xN y) a.1 = adt (xN x) (xN y) 0)) (fun a => hxn (xN x) - a.1) (fun a => a.2.1) (fun _ => 0) (fun _ => 0) (fun a => [(0, some (.ref h)), (1, some (.long x)), (3, some (.long y)), (5, some (.int (nI (hxn (xN x))))), (6, some (.int (nI (hxn (xN y))))), (7, some (.int (nI a.1)))]) (0, w, va_up (va_up sc 20 (nI 0)) 21 (nI 0)) rfl ⟨Nat.zero_le _, hM, fun k h1 h2 => by dsimp only; rw [up_n h2, up_n h1], ⟨0, rfl, Nat.zero_add _⟩, ⟨0, rfl, Nat.zero_add _⟩⟩ ?_
  rintro ⟨i, w, sc1⟩ ⟨hi, hM, hS1, ⟨cp, hcp, hcpe⟩, ⟨aa, haa, haae⟩⟩ ih
  dsimp only at hi hM hS1 hcp hcpe haa haae ih ⊢
  have hbd := dpt_le (xN x) (xN y) 0
  have hR1 : isR ((va_up (va_up ai 18 f1) 19 f2) 18) (xN x) := hf1
  have hR2 : isR ((va_up (va_up ai 18 f1) 19 f2) 19) (xN y) := hf2
  refine v_iload hc dX4_deltas_33 rfl ?_
  refine v_iload hc dX4_deltas_35 rfl ?_
  refine v_icmp_geN hc (tgt := 110) dX4_deltas_37 (by decide) (by omega) (by omega) (fun hb => ?_) (fun hb => ?_)
  · have e : i = hxn (xN x) := by omega
    have hce : cp = cpt (xN x) (xN y) 0 := by rw [cpt_end hb] at hcpe; omega
    have hae : aa = adt (xN x) (xN y) 0 := by rw [adt_end hb] at haae; omega
    refine v_iconst hc (v := nI 1) dX4_deltas_110 (by decide) ?_
    refine v_iconst hc (v := nI 2) dX4_deltas_111 (by decide) ?_
    first | refine v_aload_n hc (i := 0) rfl dX4_deltas_112 rfl ?_ | refine v_aload_nN hc (i := 0) rfl dX4_deltas_112 rfl ?_
    refine v_get hc 20 (ci := 7) rfl (by decide +kernel) (by decide) (by decide +kernel) (fun _ h => h) dX4_deltas_113 hM.1 rfl ?_
    rw [hcp]
    first | refine v_imulN hc dX4_deltas_116 ?_ | refine v_imul hc dX4_deltas_116 ?_
    first | refine v_iaddN hc dX4_deltas_117 ?_ | refine v_iadd hc dX4_deltas_117 ?_
    first | refine v_aload_n hc (i := 0) rfl dX4_deltas_118 rfl ?_ | refine v_aload_nN hc (i := 0) rfl dX4_deltas_118 rfl ?_
    refine v_get hc 21 (ci := 7) rfl (by decide +kernel) (by decide) (by decide +kernel) (fun _ h => h) dX4_deltas_119 hM.1 rfl ?_
    rw [haa]
    first | refine v_iaddN hc dX4_deltas_122 ?_ | refine v_iadd hc dX4_deltas_122 ?_
    exact v_iret hc hr dX4_deltas_123 (by first | exact Nat.le_of_ble_eq_true rfl | omega | (dsimp only; omega)) (by first | exact Nat.le_of_ble_eq_true rfl | omega | (dsimp only; omega)) (⟨⟨sc1, _, hM, hS1, fun k h1 h2 => by rw [up_n h2, up_n h1], by rw [hcp, hce], by rw [haa, hae]⟩, by rw [hce, hae]; rfl⟩)
  · first | refine v_aload_n hc (i := 0) rfl dX4_deltas_40 rfl ?_ | refine v_aload_nN hc (i := 0) rfl dX4_deltas_40 rfl ?_
    refine v_iload hc dX4_deltas_41 rfl ?_
    refine v_iload hc dX4_deltas_43 rfl ?_
    refine v_callVi hc (c_X4_longest hM hR1 hR2 hx15 hy15 hnz hi) (cwV 2 hc.1.2.2.2.2 gX4_deltas_X4_longest rfl rfl rfl (by decide +kernel) ⟨Nat.le_of_ble_eq_true rfl, Nat.le_of_ble_eq_true rfl⟩) (hM.1) rfl rfl rfl (Nat.le_of_ble_eq_true rfl) ⟨(by first | exact Nat.le_of_ble_eq_true rfl | omega | (dsimp only; omega)), (by first | exact Nat.le_of_ble_eq_true rfl | omega | (dsimp only; omega))⟩ dX4_deltas_45 (fun r w' hp => ?_)
    obtain ⟨rfl, rfl⟩ := hp
    have hlg := lgs_le (xN x) (xN y) i
    have hst1 := cpt_step (d := xN y) hb
    have hst2 := adt_step (d := xN y) hb
    have hnx := nxt_gt (xN x) (xN y) i
    have hnl := nxt_le (d := xN y) hb
    refine v_istore hc dX4_deltas_48 (by decide) rfl ?_
    first | refine v_aload_n hc (i := 0) rfl dX4_deltas_50 rfl ?_ | refine v_aload_nN hc (i := 0) rfl dX4_deltas_50 rfl ?_
    refine v_dup hc dX4_deltas_51 rfl ?_
    refine v_get hc 20 (ci := 7) rfl (by decide +kernel) (by decide) (by decide +kernel) (fun _ h => h) dX4_deltas_52 hM.1 rfl ?_
    rw [hcp]
    refine v_iload hc dX4_deltas_55 rfl ?_
    refine v_iconst hc (v := nI 1) dX4_deltas_57 (by decide) ?_
    rcases Nat.lt_or_ge 1 (lgs (xN x) (xN y) i) with hlt | hge
    · rw [if_pos hlt] at hst1 hst2
      have hnx2 : nxt (xN x) (xN y) i = i + lgs (xN x) (xN y) i := by unfold nxt; rw [if_pos hlt]
      refine v_icmp_leN hc (tgt := 65) dX4_deltas_58 (by decide) (by omega) (by decide) (fun z => absurd z (by omega)) (fun _ => ?_)
      refine v_iconst hc (v := nI 1) dX4_deltas_61 (by decide) ?_
      refine v_goto hc (tgt := 66) dX4_deltas_62 (by decide) ?_
      first | refine v_iaddN hc dX4_deltas_66 ?_ | refine v_iadd hc dX4_deltas_66 ?_
      refine m_put hc hM 20 rfl (by decide +kernel) (by decide +kernel) dX4_deltas_67 (fun w hM => ?_)
      first | refine v_aload_n hc (i := 0) rfl dX4_deltas_70 rfl ?_ | refine v_aload_nN hc (i := 0) rfl dX4_deltas_70 rfl ?_
      refine v_dup hc dX4_deltas_71 rfl ?_
      refine v_get hc 21 (ci := 7) rfl (by decide +kernel) (by decide) (by decide +kernel) (fun _ h => h) dX4_deltas_72 hM.1 rfl ?_
      rw [show va_up sc1 20 (nI (cp + 1)) 21 = nI aa from haa]
      refine v_iload hc dX4_deltas_75 rfl ?_
      refine v_iconst hc (v := nI 1) dX4_deltas_77 (by decide) ?_
      refine v_icmp_leN hc (tgt := 85) dX4_deltas_78 (by decide) (by omega) (by decide) (fun z => absurd z (by omega)) (fun _ => ?_)
      refine v_iconst hc (v := nI 0) dX4_deltas_81 (by decide) ?_
      refine v_goto hc (tgt := 86) dX4_deltas_82 (by decide) ?_
      first | refine v_iaddN hc dX4_deltas_86 ?_ | refine v_iadd hc dX4_deltas_86 ?_
      refine m_put hc hM 21 rfl (by decide +kernel) (by decide +kernel) dX4_deltas_87 (fun w hM => ?_)
      refine v_iload hc dX4_deltas_90 rfl ?_
      refine v_iload hc dX4_deltas_92 rfl ?_
      refine v_iconst hc (v := nI 1) dX4_deltas_94 (by decide) ?_
      refine v_icmp_leN hc (tgt := 103) dX4_deltas_95 (by decide) (by omega) (by decide) (fun z => absurd z (by omega)) (fun _ => ?_)
      refine v_iload hc dX4_deltas_98 rfl ?_
      refine v_goto hc (tgt := 104) dX4_deltas_100 (by decide) ?_
      first | refine v_iaddN hc dX4_deltas_104 ?_ | refine v_iadd hc dX4_deltas_104 ?_
      refine v_istore hc dX4_deltas_105 (by decide) rfl ?_
      refine v_goto hc (tgt := 33) dX4_deltas_107 (by decide) ?_
      rw [← hnx2]
      exact ih (nxt (xN x) (xN y) i, w, va_up (va_up sc1 20 (nI (cp + 1))) 21 (nI (aa + 0))) _ rfl ⟨hnl, hM, fun k h1 h2 => by dsimp only; rw [up_n h2, up_n h1]; exact hS1 k h1 h2, ⟨cp + 1, rfl, by dsimp only; omega⟩, ⟨aa + 0, rfl, by dsimp only; omega⟩⟩ (by dsimp only; omega)
    · rw [if_neg (by omega)] at hst1 hst2
      have hnx2 : nxt (xN x) (xN y) i = i + 1 := by unfold nxt; rw [if_neg (by omega)]
      refine v_icmp_leN hc (tgt := 65) dX4_deltas_58 (by decide) (by omega) (by decide) (fun _ => ?_) (fun z => absurd z (by omega))
      refine v_iconst hc (v := nI 0) dX4_deltas_65 (by decide) ?_
      first | refine v_iaddN hc dX4_deltas_66 ?_ | refine v_iadd hc dX4_deltas_66 ?_
      refine m_put hc hM 20 rfl (by decide +kernel) (by decide +kernel) dX4_deltas_67 (fun w hM => ?_)
      first | refine v_aload_n hc (i := 0) rfl dX4_deltas_70 rfl ?_ | refine v_aload_nN hc (i := 0) rfl dX4_deltas_70 rfl ?_
      refine v_dup hc dX4_deltas_71 rfl ?_
      refine v_get hc 21 (ci := 7) rfl (by decide +kernel) (by decide) (by decide +kernel) (fun _ h => h) dX4_deltas_72 hM.1 rfl ?_
      rw [show va_up sc1 20 (nI (cp + 0)) 21 = nI aa from haa]
      refine v_iload hc dX4_deltas_75 rfl ?_
      refine v_iconst hc (v := nI 1) dX4_deltas_77 (by decide) ?_
      refine v_icmp_leN hc (tgt := 85) dX4_deltas_78 (by decide) (by omega) (by decide) (fun _ => ?_) (fun z => absurd z (by omega))
      refine v_iconst hc (v := nI 1) dX4_deltas_85 (by decide) ?_
      first | refine v_iaddN hc dX4_deltas_86 ?_ | refine v_iadd hc dX4_deltas_86 ?_
      refine m_put hc hM 21 rfl (by decide +kernel) (by decide +kernel) dX4_deltas_87 (fun w hM => ?_)
      refine v_iload hc dX4_deltas_90 rfl ?_
      refine v_iload hc dX4_deltas_92 rfl ?_
      refine v_iconst hc (v := nI 1) dX4_deltas_94 (by decide) ?_
      refine v_icmp_leN hc (tgt := 103) dX4_deltas_95 (by decide) (by omega) (by decide) (fun _ => ?_) (fun z => absurd z (by omega))
      refine v_iconst hc (v := nI 1) dX4_deltas_103 (by decide) ?_
      first | refine v_iaddN hc dX4_deltas_104 ?_ | refine v_iadd hc dX4_deltas_104 ?_
      refine v_istore hc dX4_deltas_105 (by decide) rfl ?_
      refine v_goto hc (tgt := 33) dX4_deltas_107 (by decide) ?_
      rw [← hnx2]
      exact ih (nxt (xN x) (xN y) i, w, va_up (va_up sc1 20 (nI (cp + 0))) 21 (nI (aa + 1))) _ rfl ⟨hnl, hM, fun k h1 h2 => by dsimp only; rw [up_n h2, up_n h1]; exact hS1 k h1 h2, ⟨cp + 0, rfl, by dsimp only; omega⟩, ⟨aa + 1, rfl, by dsimp only; omega⟩⟩ (by dsimp only; omega)
end MD2

