/-! ===== the model: what its rows hold; questions ===== -/
def RD (n : Nat) (nm : Nat → Int32) (ct : Nat → Int64) (lv lo : Nat → Bool) (fm : Nat → Option Frm) (sc : Nat → Int32) (ai : Nat → Nat → Int32) (al : Nat → Int64) : Prop :=
  sc 0 = nI n ∧ n ≤ 40 ∧ ∀ i, i < n → (ai 1 i = nm i ∧ al i = ct i ∧ ai 3 i = bI (lv i) ∧ ai 4 i = bI (lo i) ∧ ai 5 i = bI (fm i).isSome) ∧ ∀ g, fm i = some g → ai 6 i = bI g.2.2.2.2 ∧ ai 7 i = nIo g.1 ∧ ai 8 i = nI g.2.2.2.1 ∧ ai 9 i = nI g.2.2.1 ∧ ai 10 i = nI g.2.1
theorem nI_nm1 {b : Nat} (h : b < 2 ^ 31) : ¬ nI b = -1 := fun z => by
  have := congrArg Int32.toInt z
  rw [nI_toInt h, show (-1 : Int32).toInt = -1 by decide] at this
  omega
section MD3
variable {l : Launch} {G : cG} {A : Nat → Prop} {w : wd} {h : Nat} {ad : Nat → Nat} {sc : Nat → Int32} {ai : Nat → Nat → Int32} {al : Nat → Int64} {n : Nat} {nm : Nat → Int32} {ct : Nat → Int64} {lv lo : Nat → Bool} {fm : Nat → Option Frm}
theorem RD.sc' {sc' : Nat → Int32} (hD : RD n nm ct lv lo fm sc ai al) (h : sc' 0 = sc 0) : RD n nm ct lv lo fm sc' ai al := ⟨h.trans hD.1, hD.2⟩
theorem RD.ai' {ai' : Nat → Nat → Int32} (hD : RD n nm ct lv lo fm sc ai al) (h : ∀ k, k ≤ 10 → ai' k = ai k) : RD n nm ct lv lo fm sc ai' al := ⟨hD.1, hD.2.1, fun i hi => by
  rw [h 1 (by decide), h 3 (by decide), h 4 (by decide), h 5 (by decide), h 6 (by decide), h 7 (by decide), h 8 (by decide), h 9 (by decide), h 10 (by decide)]
  exact hD.2.2 i hi⟩
theorem RD.r1 (hD : RD n nm ct lv lo fm sc ai al) {i : Nat} (hi : i < n) : ai 1 i = nm i := (hD.2.2 i hi).1.1
theorem RD.r2 (hD : RD n nm ct lv lo fm sc ai al) {i : Nat} (hi : i < n) : al i = ct i := (hD.2.2 i hi).1.2.1
theorem RD.r3 (hD : RD n nm ct lv lo fm sc ai al) {i : Nat} (hi : i < n) : ai 3 i = bI (lv i) := (hD.2.2 i hi).1.2.2.1
theorem RD.r4 (hD : RD n nm ct lv lo fm sc ai al) {i : Nat} (hi : i < n) : ai 4 i = bI (lo i) := (hD.2.2 i hi).1.2.2.2.1
theorem RD.r5 (hD : RD n nm ct lv lo fm sc ai al) {i : Nat} (hi : i < n) : ai 5 i = bI (fm i).isSome := (hD.2.2 i hi).1.2.2.2.2
theorem RD.r6 (hD : RD n nm ct lv lo fm sc ai al) {i : Nat} (hi : i < n) {g : Frm} (hg : fm i = some g) : ai 6 i = bI g.2.2.2.2 := ((hD.2.2 i hi).2 g hg).1
theorem RD.r7 (hD : RD n nm ct lv lo fm sc ai al) {i : Nat} (hi : i < n) {g : Frm} (hg : fm i = some g) : ai 7 i = nIo g.1 := ((hD.2.2 i hi).2 g hg).2.1
theorem RD.r8 (hD : RD n nm ct lv lo fm sc ai al) {i : Nat} (hi : i < n) {g : Frm} (hg : fm i = some g) : ai 8 i = nI g.2.2.2.1 := ((hD.2.2 i hi).2 g hg).2.2.1
theorem RD.r9 (hD : RD n nm ct lv lo fm sc ai al) {i : Nat} (hi : i < n) {g : Frm} (hg : fm i = some g) : ai 9 i = nI g.2.2.1 := ((hD.2.2 i hi).2 g hg).2.2.2.1
theorem RD.r10 (hD : RD n nm ct lv lo fm sc ai al) {i : Nat} (hi : i < n) {g : Frm} (hg : fm i = some g) : ai 10 i = nI g.2.1 := ((hD.2.2 i hi).2 g hg).2.2.2.2
set_option maxRecDepth 100000 in
set_option maxHeartbeats 4000000 in
theorem c_X4_objects (hM : MP G w h ad sc ai al) (hD : RD n nm ct lv lo fm sc ai al) : Met l yX4_objects wsX4_objects ({ frames := 8, cells := 0, slots := 0, locals := 120 } : Room) (Pw G A w [.ref h]) (va_Qi (fun r w' => MP G w' h ad (va_up sc 24 (nI 0)) ai al ∧ r = nI n) (Bw G A) A) 0 0 A := by
  refine m_of (cc := cX4_objects) (maxL := 1) (ret := (some .int)) (by decide) rfl (Nat.le_of_ble_eq_true rfl) ?_
  intro p e s m args below meth c hc hr hmn
  refine v_loc [(0, some (.ref h))] rfl ?_
  first | refine v_aload_n hc (i := 0) rfl dX4_objects_0 rfl ?_ | refine v_aload_nN hc (i := 0) rfl dX4_objects_0 rfl ?_
  refine v_iconst hc (v := nI 0) dX4_objects_1 (by decide) ?_
  refine m_put hc hM 24 rfl (by decide +kernel) (by decide +kernel) dX4_objects_2 (fun w hM => ?_)
  first | refine v_aload_n hc (i := 0) rfl dX4_objects_5 rfl ?_ | refine v_aload_nN hc (i := 0) rfl dX4_objects_5 rfl ?_
  refine v_get hc 0 (ci := 7) rfl (by decide +kernel) (by decide) (by decide +kernel) (fun _ h => h) dX4_objects_6 hM.1 rfl ?_
  exact v_iret hc hr dX4_objects_9 (by first | exact Nat.le_of_ble_eq_true rfl | omega | (dsimp only; omega)) (by first | exact Nat.le_of_ble_eq_true rfl | omega | (dsimp only; omega)) (⟨hM, hD.1⟩)
set_option maxRecDepth 100000 in
set_option maxHeartbeats 4000000 in
theorem c_X4_compared (hM : MP G w h ad sc ai al) : Met l yX4_compared wsX4_compared ({ frames := 8, cells := 0, slots := 0, locals := 120 } : Room) (Pw G A w [.ref h]) (va_Qi (fun r w' => MP G w' h ad (va_up sc 24 (nI 0)) ai al ∧ r = sc 16) (Bw G A) A) 0 0 A := by
  refine m_of (cc := cX4_compared) (maxL := 1) (ret := (some .int)) (by decide) rfl (Nat.le_of_ble_eq_true rfl) ?_
  intro p e s m args below meth c hc hr hmn
  refine v_loc [(0, some (.ref h))] rfl ?_
  first | refine v_aload_n hc (i := 0) rfl dX4_compared_0 rfl ?_ | refine v_aload_nN hc (i := 0) rfl dX4_compared_0 rfl ?_
  refine v_iconst hc (v := nI 0) dX4_compared_1 (by decide) ?_
  refine m_put hc hM 24 rfl (by decide +kernel) (by decide +kernel) dX4_compared_2 (fun w hM => ?_)
  first | refine v_aload_n hc (i := 0) rfl dX4_compared_5 rfl ?_ | refine v_aload_nN hc (i := 0) rfl dX4_compared_5 rfl ?_
  refine v_get hc 16 (ci := 7) rfl (by decide +kernel) (by decide) (by decide +kernel) (fun _ h => h) dX4_compared_6 hM.1 rfl ?_
  exact v_iret hc hr dX4_compared_9 (by first | exact Nat.le_of_ble_eq_true rfl | omega | (dsimp only; omega)) (by first | exact Nat.le_of_ble_eq_true rfl | omega | (dsimp only; omega)) (⟨hM, rfl⟩)
set_option maxRecDepth 100000 in
set_option maxHeartbeats 4000000 in
theorem c_X4_reused (hM : MP G w h ad sc ai al) : Met l yX4_reused wsX4_reused ({ frames := 8, cells := 0, slots := 0, locals := 120 } : Room) (Pw G A w [.ref h]) (va_Qi (fun r w' => MP G w' h ad (va_up sc 24 (nI 0)) ai al ∧ r = sc 17) (Bw G A) A) 0 0 A := by
  refine m_of (cc := cX4_reused) (maxL := 1) (ret := (some .int)) (by decide) rfl (Nat.le_of_ble_eq_true rfl) ?_
  intro p e s m args below meth c hc hr hmn
  refine v_loc [(0, some (.ref h))] rfl ?_
  first | refine v_aload_n hc (i := 0) rfl dX4_reused_0 rfl ?_ | refine v_aload_nN hc (i := 0) rfl dX4_reused_0 rfl ?_
  refine v_iconst hc (v := nI 0) dX4_reused_1 (by decide) ?_
  refine m_put hc hM 24 rfl (by decide +kernel) (by decide +kernel) dX4_reused_2 (fun w hM => ?_)
  first | refine v_aload_n hc (i := 0) rfl dX4_reused_5 rfl ?_ | refine v_aload_nN hc (i := 0) rfl dX4_reused_5 rfl ?_
  refine v_get hc 17 (ci := 7) rfl (by decide +kernel) (by decide) (by decide +kernel) (fun _ h => h) dX4_reused_6 hM.1 rfl ?_
  exact v_iret hc hr dX4_reused_9 (by first | exact Nat.le_of_ble_eq_true rfl | omega | (dsimp only; omega)) (by first | exact Nat.le_of_ble_eq_true rfl | omega | (dsimp only; omega)) (⟨hM, rfl⟩)
set_option maxRecDepth 100000 in
set_option maxHeartbeats 4000000 in
theorem c_X4_isLive (hM : MP G w h ad sc ai al) (hD : RD n nm ct lv lo fm sc ai al) (o : Int32) : Met l yX4_isLive wsX4_isLive ({ frames := 10, cells := 0, slots := 0, locals := 163 } : Room) (Pw G A w [.ref h, .int o]) (va_Qi (fun r w' => (isO n o = false ∧ MP G w' h ad (va_up sc 24 (nI 1)) ai al ∧ r = bI false) ∨ ∃ i, i < n ∧ o = nI i ∧ MP G w' h ad (va_up sc 24 (nI 0)) ai al ∧ r = bI (lv i)) (Bw G A) A) 0 0 A := by
  refine m_of (cc := cX4_isLive) (maxL := 2) (ret := (some .boolean)) (by decide) rfl (Nat.le_of_ble_eq_true rfl) ?_
  intro p e s m args below meth c hc hr hmn
  refine v_loc [(0, some (.ref h)), (1, some (.int o))] rfl ?_
  first | refine v_aload_n hc (i := 0) rfl dX4_isLive_0 rfl ?_ | refine v_aload_nN hc (i := 0) rfl dX4_isLive_0 rfl ?_
  first | refine v_aload_n hc (i := 0) rfl dX4_isLive_1 rfl ?_ | refine v_aload_nN hc (i := 0) rfl dX4_isLive_1 rfl ?_
  refine v_iload_n hc (i := 1) rfl dX4_isLive_2 rfl ?_
  refine v_callVi hc (c_X4_isObject hM o hD.1 hD.2.1) (cwV 1 hc.1.2.2.2.2 gX4_isLive_X4_isObject rfl rfl rfl (by decide +kernel) ⟨Nat.le_of_ble_eq_true rfl, Nat.le_of_ble_eq_true rfl⟩) (hM.1) rfl rfl rfl (Nat.le_of_ble_eq_true rfl) ⟨(by first | exact Nat.le_of_ble_eq_true rfl | omega | (dsimp only; omega)), (by first | exact Nat.le_of_ble_eq_true rfl | omega | (dsimp only; omega))⟩ dX4_isLive_3 (fun r w' hp => ?_)
  obtain ⟨rfl, rfl⟩ := hp
  refine v_ifB_eq hc (tgt := 13) dX4_isLive_6 (by decide) (fun h1 => ?_) (fun h1 => ?_)
  · refine v_iconst hc (v := nI 1) dX4_isLive_13 (by decide) ?_
    refine v_callVi hc (c_X4_goes hM (nI 1)) (cwV 1 hc.1.2.2.2.2 gX4_isLive_X4_goes rfl rfl rfl (by decide +kernel) ⟨Nat.le_of_ble_eq_true rfl, Nat.le_of_ble_eq_true rfl⟩) (hM.1) rfl rfl rfl (Nat.le_of_ble_eq_true rfl) ⟨(by first | exact Nat.le_of_ble_eq_true rfl | omega | (dsimp only; omega)), (by first | exact Nat.le_of_ble_eq_true rfl | omega | (dsimp only; omega))⟩ dX4_isLive_14 (fun r w' hp => ?_)
    obtain ⟨hM, rfl⟩ := hp
    refine v_ifB_eq hc (tgt := 33) dX4_isLive_17 (by decide) (fun h2 => ?_) (fun h2 => ?_)
    · refine v_iconst hc (v := nI 0) dX4_isLive_33 (by decide) ?_
      exact v_zret hc hr dX4_isLive_34 (by first | exact Nat.le_of_ble_eq_true rfl | omega | (dsimp only; omega)) (by first | exact Nat.le_of_ble_eq_true rfl | omega | (dsimp only; omega)) (by first | rfl | exact bI_nar _) (Or.inl ⟨h1, hM, rfl⟩)
    · exact absurd h2 (by decide)
  · obtain ⟨i, hi, rfl⟩ := isO_of h1 hD.2.1
    have hn := hD.2.1
    refine v_iconst hc (v := nI 0) dX4_isLive_9 (by decide) ?_
    refine v_goto hc (tgt := 14) dX4_isLive_10 (by decide) ?_
    refine v_callVi hc (c_X4_goes hM (nI 0)) (cwV 1 hc.1.2.2.2.2 gX4_isLive_X4_goes rfl rfl rfl (by decide +kernel) ⟨Nat.le_of_ble_eq_true rfl, Nat.le_of_ble_eq_true rfl⟩) (hM.1) rfl rfl rfl (Nat.le_of_ble_eq_true rfl) ⟨(by first | exact Nat.le_of_ble_eq_true rfl | omega | (dsimp only; omega)), (by first | exact Nat.le_of_ble_eq_true rfl | omega | (dsimp only; omega))⟩ dX4_isLive_14 (fun r w' hp => ?_)
    obtain ⟨hM, rfl⟩ := hp
    refine v_ifB_eq hc (tgt := 33) dX4_isLive_17 (by decide) (fun h2 => ?_) (fun h2 => ?_)
    · exact absurd h2 (by decide)
    · first | refine v_aload_n hc (i := 0) rfl dX4_isLive_20 rfl ?_ | refine v_aload_nN hc (i := 0) rfl dX4_isLive_20 rfl ?_
      refine v_get hc 3 (ci := 7) rfl (by decide +kernel) (by decide) (by decide +kernel) (fun _ h => h) dX4_isLive_21 hM.1 rfl ?_
      refine v_iload_n hc (i := 1) rfl dX4_isLive_24 rfl ?_
      refine v_zald hc (i) dX4_isLive_25 (hM.2.2.1 3 rfl) (rfl) (by omega) (by decide) ?_
      rw [hD.r3 hi]
      refine v_ifB_eq hc (tgt := 33) dX4_isLive_26 (by decide) (fun h3 => ?_) (fun h3 => ?_)
      · refine v_iconst hc (v := nI 0) dX4_isLive_33 (by decide) ?_
        exact v_zret hc hr dX4_isLive_34 (by first | exact Nat.le_of_ble_eq_true rfl | omega | (dsimp only; omega)) (by first | exact Nat.le_of_ble_eq_true rfl | omega | (dsimp only; omega)) (by first | rfl | exact bI_nar _) (Or.inr ⟨i, hi, rfl, hM, by rw [h3]; rfl⟩)
      · refine v_iconst hc (v := nI 1) dX4_isLive_29 (by decide) ?_
        refine v_goto hc (tgt := 34) dX4_isLive_30 (by decide) ?_
        exact v_zret hc hr dX4_isLive_34 (by first | exact Nat.le_of_ble_eq_true rfl | omega | (dsimp only; omega)) (by first | exact Nat.le_of_ble_eq_true rfl | omega | (dsimp only; omega)) (by first | rfl | exact bI_nar _) (Or.inr ⟨i, hi, rfl, hM, by rw [h3]; rfl⟩)
set_option maxRecDepth 100000 in
set_option maxHeartbeats 4000000 in
theorem c_X4_isLoose (hM : MP G w h ad sc ai al) (hD : RD n nm ct lv lo fm sc ai al) (o : Int32) : Met l yX4_isLoose wsX4_isLoose ({ frames := 10, cells := 0, slots := 0, locals := 163 } : Room) (Pw G A w [.ref h, .int o]) (va_Qi (fun r w' => (isO n o = false ∧ MP G w' h ad (va_up sc 24 (nI 1)) ai al ∧ r = bI false) ∨ ∃ i, i < n ∧ o = nI i ∧ MP G w' h ad (va_up sc 24 (nI 0)) ai al ∧ r = bI (lo i)) (Bw G A) A) 0 0 A := by
  refine m_of (cc := cX4_isLoose) (maxL := 2) (ret := (some .boolean)) (by decide) rfl (Nat.le_of_ble_eq_true rfl) ?_
  intro p e s m args below meth c hc hr hmn
  refine v_loc [(0, some (.ref h)), (1, some (.int o))] rfl ?_
  first | refine v_aload_n hc (i := 0) rfl dX4_isLoose_0 rfl ?_ | refine v_aload_nN hc (i := 0) rfl dX4_isLoose_0 rfl ?_
  first | refine v_aload_n hc (i := 0) rfl dX4_isLoose_1 rfl ?_ | refine v_aload_nN hc (i := 0) rfl dX4_isLoose_1 rfl ?_
  refine v_iload_n hc (i := 1) rfl dX4_isLoose_2 rfl ?_
  refine v_callVi hc (c_X4_isObject hM o hD.1 hD.2.1) (cwV 1 hc.1.2.2.2.2 gX4_isLoose_X4_isObject rfl rfl rfl (by decide +kernel) ⟨Nat.le_of_ble_eq_true rfl, Nat.le_of_ble_eq_true rfl⟩) (hM.1) rfl rfl rfl (Nat.le_of_ble_eq_true rfl) ⟨(by first | exact Nat.le_of_ble_eq_true rfl | omega | (dsimp only; omega)), (by first | exact Nat.le_of_ble_eq_true rfl | omega | (dsimp only; omega))⟩ dX4_isLoose_3 (fun r w' hp => ?_)
  obtain ⟨rfl, rfl⟩ := hp
  refine v_ifB_eq hc (tgt := 13) dX4_isLoose_6 (by decide) (fun h1 => ?_) (fun h1 => ?_)
  · refine v_iconst hc (v := nI 1) dX4_isLoose_13 (by decide) ?_
    refine v_callVi hc (c_X4_goes hM (nI 1)) (cwV 1 hc.1.2.2.2.2 gX4_isLoose_X4_goes rfl rfl rfl (by decide +kernel) ⟨Nat.le_of_ble_eq_true rfl, Nat.le_of_ble_eq_true rfl⟩) (hM.1) rfl rfl rfl (Nat.le_of_ble_eq_true rfl) ⟨(by first | exact Nat.le_of_ble_eq_true rfl | omega | (dsimp only; omega)), (by first | exact Nat.le_of_ble_eq_true rfl | omega | (dsimp only; omega))⟩ dX4_isLoose_14 (fun r w' hp => ?_)
    obtain ⟨hM, rfl⟩ := hp
    refine v_ifB_eq hc (tgt := 33) dX4_isLoose_17 (by decide) (fun h2 => ?_) (fun h2 => ?_)
    · refine v_iconst hc (v := nI 0) dX4_isLoose_33 (by decide) ?_
      exact v_zret hc hr dX4_isLoose_34 (by first | exact Nat.le_of_ble_eq_true rfl | omega | (dsimp only; omega)) (by first | exact Nat.le_of_ble_eq_true rfl | omega | (dsimp only; omega)) (by first | rfl | exact bI_nar _) (Or.inl ⟨h1, hM, rfl⟩)
    · exact absurd h2 (by decide)
  · obtain ⟨i, hi, rfl⟩ := isO_of h1 hD.2.1
    have hn := hD.2.1
    refine v_iconst hc (v := nI 0) dX4_isLoose_9 (by decide) ?_
    refine v_goto hc (tgt := 14) dX4_isLoose_10 (by decide) ?_
    refine v_callVi hc (c_X4_goes hM (nI 0)) (cwV 1 hc.1.2.2.2.2 gX4_isLoose_X4_goes rfl rfl rfl (by decide +kernel) ⟨Nat.le_of_ble_eq_true rfl, Nat.le_of_ble_eq_true rfl⟩) (hM.1) rfl rfl rfl (Nat.le_of_ble_eq_true rfl) ⟨(by first | exact Nat.le_of_ble_eq_true rfl | omega | (dsimp only; omega)), (by first | exact Nat.le_of_ble_eq_true rfl | omega | (dsimp only; omega))⟩ dX4_isLoose_14 (fun r w' hp => ?_)
    obtain ⟨hM, rfl⟩ := hp
    refine v_ifB_eq hc (tgt := 33) dX4_isLoose_17 (by decide) (fun h2 => ?_) (fun h2 => ?_)
    · exact absurd h2 (by decide)
    · first | refine v_aload_n hc (i := 0) rfl dX4_isLoose_20 rfl ?_ | refine v_aload_nN hc (i := 0) rfl dX4_isLoose_20 rfl ?_
      refine v_get hc 4 (ci := 7) rfl (by decide +kernel) (by decide) (by decide +kernel) (fun _ h => h) dX4_isLoose_21 hM.1 rfl ?_
      refine v_iload_n hc (i := 1) rfl dX4_isLoose_24 rfl ?_
      refine v_zald hc (i) dX4_isLoose_25 (hM.2.2.1 4 rfl) (rfl) (by omega) (by decide) ?_
      rw [hD.r4 hi]
      refine v_ifB_eq hc (tgt := 33) dX4_isLoose_26 (by decide) (fun h3 => ?_) (fun h3 => ?_)
      · refine v_iconst hc (v := nI 0) dX4_isLoose_33 (by decide) ?_
        exact v_zret hc hr dX4_isLoose_34 (by first | exact Nat.le_of_ble_eq_true rfl | omega | (dsimp only; omega)) (by first | exact Nat.le_of_ble_eq_true rfl | omega | (dsimp only; omega)) (by first | rfl | exact bI_nar _) (Or.inr ⟨i, hi, rfl, hM, by rw [h3]; rfl⟩)
      · refine v_iconst hc (v := nI 1) dX4_isLoose_29 (by decide) ?_
        refine v_goto hc (tgt := 34) dX4_isLoose_30 (by decide) ?_
        exact v_zret hc hr dX4_isLoose_34 (by first | exact Nat.le_of_ble_eq_true rfl | omega | (dsimp only; omega)) (by first | exact Nat.le_of_ble_eq_true rfl | omega | (dsimp only; omega)) (by first | rfl | exact bI_nar _) (Or.inr ⟨i, hi, rfl, hM, by rw [h3]; rfl⟩)
set_option maxRecDepth 100000 in
set_option maxHeartbeats 4000000 in
theorem c_X4_isPacked (hM : MP G w h ad sc ai al) (hD : RD n nm ct lv lo fm sc ai al) (hC : CH n fm) {i : Nat} (hi : i < n) : Met l yX4_isPacked wsX4_isPacked ({ frames := 8, cells := 0, slots := 0, locals := 120 } : Room) (Pw G A w [.ref h, .int (nI i)]) (va_Qi (fun r w' => w = w' ∧ r = bI (rpk fm i)) (Bw G A) A) 0 0 A := by
  refine m_of (cc := cX4_isPacked) (maxL := 3) (ret := (some .boolean)) (by decide) rfl (Nat.le_of_ble_eq_true rfl) ?_
  intro p e s m args below meth c hc hr hmn
  refine v_loc [(0, some (.ref h)), (1, some (.int (nI i)))] rfl ?_
  have hn := hD.2.1
  refine v_iload_n hc (i := 1) rfl dX4_isPacked_0 rfl ?_
  refine v_istore_n hc (i := 2) rfl dX4_isPacked_1 (by decide) rfl ?_
  refine v_loop (σ := Nat × Nat) (fun a => a.1 < n ∧ rp fm a.2 a.1 = rpk fm i ∧ ∀ f, fm a.1 = some f → f.2.1 < a.2) (fun a => a.2) (fun _ => w) (fun _ => 0) (fun _ => 0) (fun a => [(0, some (.ref h)), (2, some (.int (nI a.1)))]) (i, 8) rfl ⟨hi, rfl, fun f hf => by have := (hC i hi f hf).1; dsimp only; omega⟩ ?_
  rintro ⟨j, g⟩ ⟨hj, hrp, hdep⟩ ih
  dsimp only at hj hrp hdep ih ⊢
  have h5 := hD.r5 hj
  first | refine v_aload_n hc (i := 0) rfl dX4_isPacked_2 rfl ?_ | refine v_aload_nN hc (i := 0) rfl dX4_isPacked_2 rfl ?_
  refine v_get hc 5 (ci := 7) rfl (by decide +kernel) (by decide) (by decide +kernel) (fun _ h => h) dX4_isPacked_3 hM.1 rfl ?_
  refine v_iload_n hc (i := 2) rfl dX4_isPacked_6 rfl ?_
  refine v_zald hc (j) dX4_isPacked_7 (hM.2.2.1 5 rfl) (rfl) (by omega) (by decide) ?_
  rw [h5]
  cases hfm : fm j with
  | none =>
    rw [hfm] at h5
    refine v_ifB_eq hc (tgt := 40) dX4_isPacked_8 (by decide) (fun h1 => ?_) (fun h1 => ?_)
    · first | refine v_aload_n hc (i := 0) rfl dX4_isPacked_40 rfl ?_ | refine v_aload_nN hc (i := 0) rfl dX4_isPacked_40 rfl ?_
      refine v_get hc 5 (ci := 7) rfl (by decide +kernel) (by decide) (by decide +kernel) (fun _ h => h) dX4_isPacked_41 hM.1 rfl ?_
      refine v_iload_n hc (i := 2) rfl dX4_isPacked_44 rfl ?_
      refine v_zald hc (j) dX4_isPacked_45 (hM.2.2.1 5 rfl) (rfl) (by omega) (by decide) ?_
      rw [h5]
      refine v_ifB_eq hc (tgt := 62) dX4_isPacked_46 (by decide) (fun h2 => ?_) (fun h2 => ?_)
      · refine v_iconst hc (v := nI 0) dX4_isPacked_62 (by decide) ?_
        exact v_zret hc hr dX4_isPacked_63 (by first | exact Nat.le_of_ble_eq_true rfl | omega | (dsimp only; omega)) (by first | exact Nat.le_of_ble_eq_true rfl | omega | (dsimp only; omega)) (by first | rfl | exact bI_nar _) (⟨rfl, by rw [← hrp]; cases g <;> simp [rp, hfm, bI] <;> rfl⟩)
      · cases h2
    · cases h1
  | some fr =>
    rw [hfm] at h5
    have hg := hdep fr hfm
    have h6 := hD.r6 hj hfm
    have h7 := hD.r7 hj hfm
    obtain ⟨g', rfl⟩ : ∃ g', g = g' + 1 := ⟨g - 1, by omega⟩
    have hst : rp fm (g' + 1) j = (!fr.2.2.2.2 && (match fr.1 with | none => true | some b => rp fm g' b)) := by
      show (match fm j with | none => false | some g => _) = _
      rw [hfm]
      rfl
    refine v_ifB_eq hc (tgt := 40) dX4_isPacked_8 (by decide) (fun h1 => ?_) (fun h1 => ?_)
    · cases h1
    · first | refine v_aload_n hc (i := 0) rfl dX4_isPacked_11 rfl ?_ | refine v_aload_nN hc (i := 0) rfl dX4_isPacked_11 rfl ?_
      refine v_get hc 6 (ci := 7) rfl (by decide +kernel) (by decide) (by decide +kernel) (fun _ h => h) dX4_isPacked_12 hM.1 rfl ?_
      refine v_iload_n hc (i := 2) rfl dX4_isPacked_15 rfl ?_
      refine v_zald hc (j) dX4_isPacked_16 (hM.2.2.1 6 rfl) (rfl) (by omega) (by decide) ?_
      rw [h6]
      refine v_ifB_ne hc (tgt := 40) dX4_isPacked_17 (by decide) (fun hd => ?_) (fun hd => ?_)
      · rw [hd] at hst
        first | refine v_aload_n hc (i := 0) rfl dX4_isPacked_40 rfl ?_ | refine v_aload_nN hc (i := 0) rfl dX4_isPacked_40 rfl ?_
        refine v_get hc 5 (ci := 7) rfl (by decide +kernel) (by decide) (by decide +kernel) (fun _ h => h) dX4_isPacked_41 hM.1 rfl ?_
        refine v_iload_n hc (i := 2) rfl dX4_isPacked_44 rfl ?_
        refine v_zald hc (j) dX4_isPacked_45 (hM.2.2.1 5 rfl) (rfl) (by omega) (by decide) ?_
        rw [h5]
        refine v_ifB_eq hc (tgt := 62) dX4_isPacked_46 (by decide) (fun h2 => ?_) (fun h2 => ?_)
        · cases h2
        · first | refine v_aload_n hc (i := 0) rfl dX4_isPacked_49 rfl ?_ | refine v_aload_nN hc (i := 0) rfl dX4_isPacked_49 rfl ?_
          refine v_get hc 6 (ci := 7) rfl (by decide +kernel) (by decide) (by decide +kernel) (fun _ h => h) dX4_isPacked_50 hM.1 rfl ?_
          refine v_iload_n hc (i := 2) rfl dX4_isPacked_53 rfl ?_
          refine v_zald hc (j) dX4_isPacked_54 (hM.2.2.1 6 rfl) (rfl) (by omega) (by decide) ?_
          rw [h6]
          refine v_ifB_ne hc (tgt := 62) dX4_isPacked_55 (by decide) (fun h3 => ?_) (fun h3 => ?_)
          · refine v_iconst hc (v := nI 0) dX4_isPacked_62 (by decide) ?_
            exact v_zret hc hr dX4_isPacked_63 (by first | exact Nat.le_of_ble_eq_true rfl | omega | (dsimp only; omega)) (by first | exact Nat.le_of_ble_eq_true rfl | omega | (dsimp only; omega)) (by first | rfl | exact bI_nar _) (⟨rfl, by rw [← hrp, hst]; rfl⟩)
          · rw [hd] at h3; cases h3
      · rw [hd] at hst
        first | refine v_aload_n hc (i := 0) rfl dX4_isPacked_20 rfl ?_ | refine v_aload_nN hc (i := 0) rfl dX4_isPacked_20 rfl ?_
        refine v_get hc 7 (ci := 7) rfl (by decide +kernel) (by decide) (by decide +kernel) (fun _ h => h) dX4_isPacked_21 hM.1 rfl ?_
        refine v_iload_n hc (i := 2) rfl dX4_isPacked_24 rfl ?_
        refine v_iald hc (j) dX4_isPacked_25 (hM.2.1 7 rfl) (rfl) (Nat.lt_of_lt_of_le hj hn) (by decide) ?_
        rw [h7]
        refine v_iconst hc (v := (-1)) dX4_isPacked_26 (by decide) ?_
        cases hb3 : fr.1 with
        | none =>
          rw [hb3] at hst
          refine v_icmp_eq hc (tgt := 40) dX4_isPacked_27 (by decide) (fun h8 => ?_) (fun h8 => ?_)
          · first | refine v_aload_n hc (i := 0) rfl dX4_isPacked_40 rfl ?_ | refine v_aload_nN hc (i := 0) rfl dX4_isPacked_40 rfl ?_
            refine v_get hc 5 (ci := 7) rfl (by decide +kernel) (by decide) (by decide +kernel) (fun _ h => h) dX4_isPacked_41 hM.1 rfl ?_
            refine v_iload_n hc (i := 2) rfl dX4_isPacked_44 rfl ?_
            refine v_zald hc (j) dX4_isPacked_45 (hM.2.2.1 5 rfl) (rfl) (by omega) (by decide) ?_
            rw [h5]
            refine v_ifB_eq hc (tgt := 62) dX4_isPacked_46 (by decide) (fun h2 => ?_) (fun h2 => ?_)
            · cases h2
            · first | refine v_aload_n hc (i := 0) rfl dX4_isPacked_49 rfl ?_ | refine v_aload_nN hc (i := 0) rfl dX4_isPacked_49 rfl ?_
              refine v_get hc 6 (ci := 7) rfl (by decide +kernel) (by decide) (by decide +kernel) (fun _ h => h) dX4_isPacked_50 hM.1 rfl ?_
              refine v_iload_n hc (i := 2) rfl dX4_isPacked_53 rfl ?_
              refine v_zald hc (j) dX4_isPacked_54 (hM.2.2.1 6 rfl) (rfl) (by omega) (by decide) ?_
              rw [h6]
              refine v_ifB_ne hc (tgt := 62) dX4_isPacked_55 (by decide) (fun h3 => ?_) (fun h3 => ?_)
              · rw [hd] at h3; cases h3
              · refine v_iconst hc (v := nI 1) dX4_isPacked_58 (by decide) ?_
                refine v_goto hc (tgt := 63) dX4_isPacked_59 (by decide) ?_
                exact v_zret hc hr dX4_isPacked_63 (by first | exact Nat.le_of_ble_eq_true rfl | omega | (dsimp only; omega)) (by first | exact Nat.le_of_ble_eq_true rfl | omega | (dsimp only; omega)) (by first | rfl | exact bI_nar _) (⟨rfl, by rw [← hrp, hst]; rfl⟩)
          · exact absurd rfl h8
        | some b =>
          rw [hb3] at hst h7
          obtain ⟨hbn, g2, hg2, hdd⟩ := (hC j hj fr hfm).2 b hb3
          refine v_icmp_eq hc (tgt := 40) dX4_isPacked_27 (by decide) (fun h8 => ?_) (fun h8 => ?_)
          · exact absurd h8 (nI_nm1 (by omega))
          · first | refine v_aload_n hc (i := 0) rfl dX4_isPacked_30 rfl ?_ | refine v_aload_nN hc (i := 0) rfl dX4_isPacked_30 rfl ?_
            refine v_get hc 7 (ci := 7) rfl (by decide +kernel) (by decide) (by decide +kernel) (fun _ h => h) dX4_isPacked_31 hM.1 rfl ?_
            refine v_iload_n hc (i := 2) rfl dX4_isPacked_34 rfl ?_
            refine v_iald hc (j) dX4_isPacked_35 (hM.2.1 7 rfl) (rfl) (Nat.lt_of_lt_of_le hj hn) (by decide) ?_
            rw [h7]
            refine v_istore_n hc (i := 2) rfl dX4_isPacked_36 (by decide) rfl ?_
            refine v_goto hc (tgt := 2) dX4_isPacked_37 (by decide) ?_
            exact ih (b, g') _ rfl ⟨hbn, by dsimp only; rw [← hrp, hst]; rfl, fun f hf => by rw [hg2] at hf; cases hf; dsimp only; omega⟩ (by dsimp only; omega)
set_option maxRecDepth 100000 in
set_option maxHeartbeats 4000000 in
theorem c_X4_isReadable (hM : MP G w h ad sc ai al) (hD : RD n nm ct lv lo fm sc ai al) (hC : CH n fm) {i : Nat} (hi : i < n) : Met l yX4_isReadable wsX4_isReadable ({ frames := 9, cells := 0, slots := 0, locals := 142 } : Room) (Pw G A w [.ref h, .int (nI i)]) (va_Qi (fun r w' => w = w' ∧ r = bI (rdb lv lo fm i)) (Bw G A) A) 0 0 A := by
  refine m_of (cc := cX4_isReadable) (maxL := 2) (ret := (some .boolean)) (by decide) rfl (Nat.le_of_ble_eq_true rfl) ?_
  intro p e s m args below meth c hc hr hmn
  refine v_loc [(0, some (.ref h)), (1, some (.int (nI i)))] rfl ?_
  have hn := hD.2.1
  first | refine v_aload_n hc (i := 0) rfl dX4_isReadable_0 rfl ?_ | refine v_aload_nN hc (i := 0) rfl dX4_isReadable_0 rfl ?_
  refine v_get hc 3 (ci := 7) rfl (by decide +kernel) (by decide) (by decide +kernel) (fun _ h => h) dX4_isReadable_1 hM.1 rfl ?_
  refine v_iload_n hc (i := 1) rfl dX4_isReadable_4 rfl ?_
  refine v_zald hc (i) dX4_isReadable_5 (hM.2.2.1 3 rfl) (rfl) (by omega) (by decide) ?_
  rw [hD.r3 hi]
  refine v_ifB_eq hc (tgt := 30) dX4_isReadable_6 (by decide) (fun h1 => ?_) (fun h1 => ?_)
  · refine v_iconst hc (v := nI 0) dX4_isReadable_30 (by decide) ?_
    exact v_zret hc hr dX4_isReadable_31 (by first | exact Nat.le_of_ble_eq_true rfl | omega | (dsimp only; omega)) (by first | exact Nat.le_of_ble_eq_true rfl | omega | (dsimp only; omega)) (by first | rfl | exact bI_nar _) (⟨rfl, by unfold rdb; rw [h1]; rfl⟩)
  · first | refine v_aload_n hc (i := 0) rfl dX4_isReadable_9 rfl ?_ | refine v_aload_nN hc (i := 0) rfl dX4_isReadable_9 rfl ?_
    refine v_get hc 4 (ci := 7) rfl (by decide +kernel) (by decide) (by decide +kernel) (fun _ h => h) dX4_isReadable_10 hM.1 rfl ?_
    refine v_iload_n hc (i := 1) rfl dX4_isReadable_13 rfl ?_
    refine v_zald hc (i) dX4_isReadable_14 (hM.2.2.1 4 rfl) (rfl) (by omega) (by decide) ?_
    rw [hD.r4 hi]
    refine v_ifB_ne hc (tgt := 26) dX4_isReadable_15 (by decide) (fun h2 => ?_) (fun h2 => ?_)
    · refine v_iconst hc (v := nI 1) dX4_isReadable_26 (by decide) ?_
      refine v_goto hc (tgt := 31) dX4_isReadable_27 (by decide) ?_
      exact v_zret hc hr dX4_isReadable_31 (by first | exact Nat.le_of_ble_eq_true rfl | omega | (dsimp only; omega)) (by first | exact Nat.le_of_ble_eq_true rfl | omega | (dsimp only; omega)) (by first | rfl | exact bI_nar _) (⟨rfl, by unfold rdb; rw [h1, h2]; rfl⟩)
    · first | refine v_aload_n hc (i := 0) rfl dX4_isReadable_18 rfl ?_ | refine v_aload_nN hc (i := 0) rfl dX4_isReadable_18 rfl ?_
      refine v_iload_n hc (i := 1) rfl dX4_isReadable_19 rfl ?_
      refine v_callVi hc (c_X4_isPacked hM hD hC hi) (cwV 1 hc.1.2.2.2.2 gX4_isReadable_X4_isPacked rfl rfl rfl (by decide +kernel) ⟨Nat.le_of_ble_eq_true rfl, Nat.le_of_ble_eq_true rfl⟩) (hM.1) rfl rfl rfl (Nat.le_of_ble_eq_true rfl) ⟨(by first | exact Nat.le_of_ble_eq_true rfl | omega | (dsimp only; omega)), (by first | exact Nat.le_of_ble_eq_true rfl | omega | (dsimp only; omega))⟩ dX4_isReadable_20 (fun r w' hp => ?_)
      obtain ⟨rfl, rfl⟩ := hp
      refine v_ifB_eq hc (tgt := 30) dX4_isReadable_23 (by decide) (fun h3 => ?_) (fun h3 => ?_)
      · refine v_iconst hc (v := nI 0) dX4_isReadable_30 (by decide) ?_
        exact v_zret hc hr dX4_isReadable_31 (by first | exact Nat.le_of_ble_eq_true rfl | omega | (dsimp only; omega)) (by first | exact Nat.le_of_ble_eq_true rfl | omega | (dsimp only; omega)) (by first | rfl | exact bI_nar _) (⟨rfl, by unfold rdb; rw [h1, h2, h3]; rfl⟩)
      · refine v_iconst hc (v := nI 1) dX4_isReadable_26 (by decide) ?_
        refine v_goto hc (tgt := 31) dX4_isReadable_27 (by decide) ?_
        exact v_zret hc hr dX4_isReadable_31 (by first | exact Nat.le_of_ble_eq_true rfl | omega | (dsimp only; omega)) (by first | exact Nat.le_of_ble_eq_true rfl | omega | (dsimp only; omega)) (by first | rfl | exact bI_nar _) (⟨rfl, by unfold rdb; rw [h1, h2, h3]; rfl⟩)
set_option maxRecDepth 100000 in
set_option maxHeartbeats 4000000 in
theorem c_X4_canRead (hM : MP G w h ad sc ai al) (hD : RD n nm ct lv lo fm sc ai al) (hC : CH n fm) (o : Int32) : Met l yX4_canRead wsX4_canRead ({ frames := 10, cells := 0, slots := 0, locals := 163 } : Room) (Pw G A w [.ref h, .int o]) (va_Qi (fun r w' => (isO n o = false ∧ MP G w' h ad (va_up sc 24 (nI 1)) ai al ∧ r = bI false) ∨ ∃ i, i < n ∧ o = nI i ∧ MP G w' h ad (va_up sc 24 (nI 0)) ai al ∧ r = bI (rdb lv lo fm i)) (Bw G A) A) 0 0 A := by
  refine m_of (cc := cX4_canRead) (maxL := 2) (ret := (some .boolean)) (by decide) rfl (Nat.le_of_ble_eq_true rfl) ?_
  intro p e s m args below meth c hc hr hmn
  refine v_loc [(0, some (.ref h)), (1, some (.int o))] rfl ?_
  first | refine v_aload_n hc (i := 0) rfl dX4_canRead_0 rfl ?_ | refine v_aload_nN hc (i := 0) rfl dX4_canRead_0 rfl ?_
  first | refine v_aload_n hc (i := 0) rfl dX4_canRead_1 rfl ?_ | refine v_aload_nN hc (i := 0) rfl dX4_canRead_1 rfl ?_
  refine v_iload_n hc (i := 1) rfl dX4_canRead_2 rfl ?_
  refine v_callVi hc (c_X4_isObject hM o hD.1 hD.2.1) (cwV 1 hc.1.2.2.2.2 gX4_canRead_X4_isObject rfl rfl rfl (by decide +kernel) ⟨Nat.le_of_ble_eq_true rfl, Nat.le_of_ble_eq_true rfl⟩) (hM.1) rfl rfl rfl (Nat.le_of_ble_eq_true rfl) ⟨(by first | exact Nat.le_of_ble_eq_true rfl | omega | (dsimp only; omega)), (by first | exact Nat.le_of_ble_eq_true rfl | omega | (dsimp only; omega))⟩ dX4_canRead_3 (fun r w' hp => ?_)
  obtain ⟨rfl, rfl⟩ := hp
  refine v_ifB_eq hc (tgt := 13) dX4_canRead_6 (by decide) (fun h1 => ?_) (fun h1 => ?_)
  · refine v_iconst hc (v := nI 1) dX4_canRead_13 (by decide) ?_
    refine v_callVi hc (c_X4_goes hM (nI 1)) (cwV 1 hc.1.2.2.2.2 gX4_canRead_X4_goes rfl rfl rfl (by decide +kernel) ⟨Nat.le_of_ble_eq_true rfl, Nat.le_of_ble_eq_true rfl⟩) (hM.1) rfl rfl rfl (Nat.le_of_ble_eq_true rfl) ⟨(by first | exact Nat.le_of_ble_eq_true rfl | omega | (dsimp only; omega)), (by first | exact Nat.le_of_ble_eq_true rfl | omega | (dsimp only; omega))⟩ dX4_canRead_14 (fun r w' hp => ?_)
    obtain ⟨hM, rfl⟩ := hp
    refine v_ifB_eq hc (tgt := 32) dX4_canRead_17 (by decide) (fun h2 => ?_) (fun h2 => ?_)
    · refine v_iconst hc (v := nI 0) dX4_canRead_32 (by decide) ?_
      exact v_zret hc hr dX4_canRead_33 (by first | exact Nat.le_of_ble_eq_true rfl | omega | (dsimp only; omega)) (by first | exact Nat.le_of_ble_eq_true rfl | omega | (dsimp only; omega)) (by first | rfl | exact bI_nar _) (Or.inl ⟨h1, hM, rfl⟩)
    · exact absurd h2 (by decide)
  · obtain ⟨i, hi, rfl⟩ := isO_of h1 hD.2.1
    refine v_iconst hc (v := nI 0) dX4_canRead_9 (by decide) ?_
    refine v_goto hc (tgt := 14) dX4_canRead_10 (by decide) ?_
    refine v_callVi hc (c_X4_goes hM (nI 0)) (cwV 1 hc.1.2.2.2.2 gX4_canRead_X4_goes rfl rfl rfl (by decide +kernel) ⟨Nat.le_of_ble_eq_true rfl, Nat.le_of_ble_eq_true rfl⟩) (hM.1) rfl rfl rfl (Nat.le_of_ble_eq_true rfl) ⟨(by first | exact Nat.le_of_ble_eq_true rfl | omega | (dsimp only; omega)), (by first | exact Nat.le_of_ble_eq_true rfl | omega | (dsimp only; omega))⟩ dX4_canRead_14 (fun r w' hp => ?_)
    obtain ⟨hM, rfl⟩ := hp
    refine v_ifB_eq hc (tgt := 32) dX4_canRead_17 (by decide) (fun h2 => ?_) (fun h2 => ?_)
    · exact absurd h2 (by decide)
    · first | refine v_aload_n hc (i := 0) rfl dX4_canRead_20 rfl ?_ | refine v_aload_nN hc (i := 0) rfl dX4_canRead_20 rfl ?_
      refine v_iload_n hc (i := 1) rfl dX4_canRead_21 rfl ?_
      refine v_callVi hc (c_X4_isReadable hM (hD.sc' rfl) hC hi) (cwV 1 hc.1.2.2.2.2 gX4_canRead_X4_isReadable rfl rfl rfl (by decide +kernel) ⟨Nat.le_of_ble_eq_true rfl, Nat.le_of_ble_eq_true rfl⟩) (hM.1) rfl rfl rfl (Nat.le_of_ble_eq_true rfl) ⟨(by first | exact Nat.le_of_ble_eq_true rfl | omega | (dsimp only; omega)), (by first | exact Nat.le_of_ble_eq_true rfl | omega | (dsimp only; omega))⟩ dX4_canRead_22 (fun r w' hp => ?_)
      obtain ⟨rfl, rfl⟩ := hp
      refine v_ifB_eq hc (tgt := 32) dX4_canRead_25 (by decide) (fun h3 => ?_) (fun h3 => ?_)
      · refine v_iconst hc (v := nI 0) dX4_canRead_32 (by decide) ?_
        exact v_zret hc hr dX4_canRead_33 (by first | exact Nat.le_of_ble_eq_true rfl | omega | (dsimp only; omega)) (by first | exact Nat.le_of_ble_eq_true rfl | omega | (dsimp only; omega)) (by first | rfl | exact bI_nar _) (Or.inr ⟨i, hi, rfl, hM, by rw [h3]; rfl⟩)
      · refine v_iconst hc (v := nI 1) dX4_canRead_28 (by decide) ?_
        refine v_goto hc (tgt := 33) dX4_canRead_29 (by decide) ?_
        exact v_zret hc hr dX4_canRead_33 (by first | exact Nat.le_of_ble_eq_true rfl | omega | (dsimp only; omega)) (by first | exact Nat.le_of_ble_eq_true rfl | omega | (dsimp only; omega)) (by first | rfl | exact bI_nar _) (Or.inr ⟨i, hi, rfl, hM, by rw [h3]; rfl⟩)
set_option maxRecDepth 100000 in
set_option maxHeartbeats 4000000 in
theorem c_X4_read (hM : MP G w h ad sc ai al) (hD : RD n nm ct lv lo fm sc ai al) (hC : CH n fm) (o : Int32) : Met l yX4_read wsX4_read ({ frames := 10, cells := 0, slots := 0, locals := 163 } : Room) (Pw G A w [.ref h, .int o]) (va_Ql (fun r w' => (isO n o = false ∧ MP G w' h ad (va_up sc 24 (nI 1)) ai al) ∨ (∃ i, i < n ∧ o = nI i ∧ rdb lv lo fm i = false ∧ MP G w' h ad (va_up sc 24 (nI 2)) ai al) ∨ ∃ i, i < n ∧ o = nI i ∧ rdb lv lo fm i = true ∧ MP G w' h ad (va_up sc 24 (nI 0)) ai al ∧ r = ct i) (Bw G A) A) 0 0 A := by
  refine m_of (cc := cX4_read) (maxL := 2) (ret := (some .long)) (by decide) rfl (Nat.le_of_ble_eq_true rfl) ?_
  intro p e s m args below meth c hc hr hmn
  refine v_loc [(0, some (.ref h)), (1, some (.int o))] rfl ?_
  first | refine v_aload_n hc (i := 0) rfl dX4_read_0 rfl ?_ | refine v_aload_nN hc (i := 0) rfl dX4_read_0 rfl ?_
  first | refine v_aload_n hc (i := 0) rfl dX4_read_1 rfl ?_ | refine v_aload_nN hc (i := 0) rfl dX4_read_1 rfl ?_
  refine v_iload_n hc (i := 1) rfl dX4_read_2 rfl ?_
  refine v_callVi hc (c_X4_isObject hM o hD.1 hD.2.1) (cwV 1 hc.1.2.2.2.2 gX4_read_X4_isObject rfl rfl rfl (by decide +kernel) ⟨Nat.le_of_ble_eq_true rfl, Nat.le_of_ble_eq_true rfl⟩) (hM.1) rfl rfl rfl (Nat.le_of_ble_eq_true rfl) ⟨(by first | exact Nat.le_of_ble_eq_true rfl | omega | (dsimp only; omega)), (by first | exact Nat.le_of_ble_eq_true rfl | omega | (dsimp only; omega))⟩ dX4_read_3 (fun r w' hp => ?_)
  obtain ⟨rfl, rfl⟩ := hp
  refine v_ifB_ne hc (tgt := 13) dX4_read_6 (by decide) (fun h1 => ?_) (fun h1 => ?_)
  · obtain ⟨i, hi, rfl⟩ := isO_of h1 hD.2.1
    have hn := hD.2.1
    first | refine v_aload_n hc (i := 0) rfl dX4_read_13 rfl ?_ | refine v_aload_nN hc (i := 0) rfl dX4_read_13 rfl ?_
    refine v_iload_n hc (i := 1) rfl dX4_read_14 rfl ?_
    refine v_callVi hc (c_X4_isReadable hM hD hC hi) (cwV 1 hc.1.2.2.2.2 gX4_read_X4_isReadable rfl rfl rfl (by decide +kernel) ⟨Nat.le_of_ble_eq_true rfl, Nat.le_of_ble_eq_true rfl⟩) (hM.1) rfl rfl rfl (Nat.le_of_ble_eq_true rfl) ⟨(by first | exact Nat.le_of_ble_eq_true rfl | omega | (dsimp only; omega)), (by first | exact Nat.le_of_ble_eq_true rfl | omega | (dsimp only; omega))⟩ dX4_read_15 (fun r w' hp => ?_)
    obtain ⟨rfl, rfl⟩ := hp
    refine v_ifB_eq hc (tgt := 25) dX4_read_18 (by decide) (fun h3 => ?_) (fun h3 => ?_)
    · refine v_iconst hc (v := nI 2) dX4_read_25 (by decide) ?_
      refine v_callVi hc (c_X4_goes hM (nI 2)) (cwV 1 hc.1.2.2.2.2 gX4_read_X4_goes rfl rfl rfl (by decide +kernel) ⟨Nat.le_of_ble_eq_true rfl, Nat.le_of_ble_eq_true rfl⟩) (hM.1) rfl rfl rfl (Nat.le_of_ble_eq_true rfl) ⟨(by first | exact Nat.le_of_ble_eq_true rfl | omega | (dsimp only; omega)), (by first | exact Nat.le_of_ble_eq_true rfl | omega | (dsimp only; omega))⟩ dX4_read_26 (fun r w' hp => ?_)
      obtain ⟨hM, rfl⟩ := hp
      refine v_ifB_eq hc (tgt := 41) dX4_read_29 (by decide) (fun h2 => ?_) (fun h2 => ?_)
      · refine v_lconst hc (v := 0) dX4_read_41 (by decide) ?_
        exact v_lret hc hr dX4_read_42 (by first | exact Nat.le_of_ble_eq_true rfl | omega | (dsimp only; omega)) (by first | exact Nat.le_of_ble_eq_true rfl | omega | (dsimp only; omega)) (Or.inr (Or.inl ⟨i, hi, rfl, h3, hM⟩))
      · exact absurd h2 (by decide)
    · refine v_iconst hc (v := nI 0) dX4_read_21 (by decide) ?_
      refine v_goto hc (tgt := 26) dX4_read_22 (by decide) ?_
      refine v_callVi hc (c_X4_goes hM (nI 0)) (cwV 1 hc.1.2.2.2.2 gX4_read_X4_goes rfl rfl rfl (by decide +kernel) ⟨Nat.le_of_ble_eq_true rfl, Nat.le_of_ble_eq_true rfl⟩) (hM.1) rfl rfl rfl (Nat.le_of_ble_eq_true rfl) ⟨(by first | exact Nat.le_of_ble_eq_true rfl | omega | (dsimp only; omega)), (by first | exact Nat.le_of_ble_eq_true rfl | omega | (dsimp only; omega))⟩ dX4_read_26 (fun r w' hp => ?_)
      obtain ⟨hM, rfl⟩ := hp
      refine v_ifB_eq hc (tgt := 41) dX4_read_29 (by decide) (fun h2 => ?_) (fun h2 => ?_)
      · exact absurd h2 (by decide)
      · first | refine v_aload_n hc (i := 0) rfl dX4_read_32 rfl ?_ | refine v_aload_nN hc (i := 0) rfl dX4_read_32 rfl ?_
        refine v_get hc 2 (ci := 7) rfl (by decide +kernel) (by decide) (by decide +kernel) (fun _ h => h) dX4_read_33 hM.1 rfl ?_
        refine v_iload_n hc (i := 1) rfl dX4_read_36 rfl ?_
        refine v_lald hc (i) dX4_read_37 hM.2.2.2.1 (rfl) (by omega) (by decide) ?_
        rw [hD.r2 hi]
        refine v_goto hc (tgt := 42) dX4_read_38 (by decide) ?_
        exact v_lret hc hr dX4_read_42 (by first | exact Nat.le_of_ble_eq_true rfl | omega | (dsimp only; omega)) (by first | exact Nat.le_of_ble_eq_true rfl | omega | (dsimp only; omega)) (Or.inr (Or.inr ⟨i, hi, rfl, h3, hM, rfl⟩))
  · refine v_iconst hc (v := nI 1) dX4_read_9 (by decide) ?_
    refine v_goto hc (tgt := 26) dX4_read_10 (by decide) ?_
    refine v_callVi hc (c_X4_goes hM (nI 1)) (cwV 1 hc.1.2.2.2.2 gX4_read_X4_goes rfl rfl rfl (by decide +kernel) ⟨Nat.le_of_ble_eq_true rfl, Nat.le_of_ble_eq_true rfl⟩) (hM.1) rfl rfl rfl (Nat.le_of_ble_eq_true rfl) ⟨(by first | exact Nat.le_of_ble_eq_true rfl | omega | (dsimp only; omega)), (by first | exact Nat.le_of_ble_eq_true rfl | omega | (dsimp only; omega))⟩ dX4_read_26 (fun r w' hp => ?_)
    obtain ⟨hM, rfl⟩ := hp
    refine v_ifB_eq hc (tgt := 41) dX4_read_29 (by decide) (fun h2 => ?_) (fun h2 => ?_)
    · refine v_lconst hc (v := 0) dX4_read_41 (by decide) ?_
      exact v_lret hc hr dX4_read_42 (by first | exact Nat.le_of_ble_eq_true rfl | omega | (dsimp only; omega)) (by first | exact Nat.le_of_ble_eq_true rfl | omega | (dsimp only; omega)) (Or.inl ⟨h1, hM⟩)
    · exact absurd h2 (by decide)
end MD3

