/-! ===== the JDK's list, holding items ===== -/
def ALr (G : cG) (w : wd) (al : Nat) (mo : Int32) (ea cap : Nat) (f : Nat → Option Nat) (L : List Nat) : Prop :=
  w al = some (.inr (2, [.int mo, .ref ea, .int (nI L.length)])) ∧ L.length ≤ 40 ∧ (∀ x ∈ L, ∃ vs, w x = some (.inr (4, vs))) ∧ ((ea = gE G ∧ L = [] ∧ cap = 0) ∨ (w ea = some (aO G cap f) ∧ L.length ≤ cap ∧ 0 < cap ∧ cap ≤ 60 ∧ ∀ j (h : j < L.length), f j = some L[j]))
section LST
variable {l : Launch} {G : cG} {A : Nat → Prop} {w : wd} {al ea cap : Nat} {mo : Int32} {f : Nat → Option Nat} {L : List Nat}
set_option maxRecDepth 100000 in
set_option maxHeartbeats 4000000 in
theorem c_Jxa1e45_init {fs : List Value} {ci : Nat} (ha : w al = some (.inr (ci, fs))) : Met l yJxa1e45_init_da8c8 wsJxa1e45_init_da8c8 ({ frames := 8, cells := 0, slots := 0, locals := 120 } : Room) (Pw G A w [.ref al]) (va_Qv (fun w' => w = w') (Bw G A) A) 0 0 A := by
  refine m_of (cc := cJxa1e45_init_da8c8) (maxL := 1) (ret := none) (by decide) rfl (Nat.le_of_ble_eq_true rfl) ?_
  intro p e s m args below meth c hc hr hmn
  refine v_loc [(0, some (.ref al))] rfl ?_
  first | refine v_aload_n hc (i := 0) rfl dJxa1e45_init_da8c8_0 rfl ?_ | refine v_aload_nN hc (i := 0) rfl dJxa1e45_init_da8c8_0 rfl ?_
  refine v_objInit hc (by decide +kernel) (by decide +kernel) (by decide +kernel) (Nat.le_of_ble_eq_true rfl) (Nat.le_of_ble_eq_true rfl) dJxa1e45_init_da8c8_1 ?_
  exact v_vret hc hr dJxa1e45_init_da8c8_4 (by first | exact Nat.le_of_ble_eq_true rfl | omega | (dsimp only; omega)) (by first | exact Nat.le_of_ble_eq_true rfl | omega | (dsimp only; omega)) (rfl)
set_option maxRecDepth 100000 in
set_option maxHeartbeats 4000000 in
theorem c_Jxc12de_init (ha : w al = some (.inr (2, [.int 0, .null, .int 0]))) : Met l yJxc12de_init_da8c8 wsJxc12de_init_da8c8 ({ frames := 9, cells := 0, slots := 0, locals := 140 } : Room) (Pw G A w [.ref al]) (va_Qv (fun w' => w' = wup w al (.inr (2, [.int (nI 0), .null, .int 0]))) (Bw G A) A) 0 0 A := by
  refine m_of (cc := cJxc12de_init_da8c8) (maxL := 1) (ret := none) (by decide) rfl (Nat.le_of_ble_eq_true rfl) ?_
  intro p e s m args below meth c hc hr hmn
  refine v_loc [(0, some (.ref al))] rfl ?_
  first | refine v_aload_n hc (i := 0) rfl dJxc12de_init_da8c8_0 rfl ?_ | refine v_aload_nN hc (i := 0) rfl dJxc12de_init_da8c8_0 rfl ?_
  refine v_callIv hc (c_Jxa1e45_init ha) (cwI 0 hc.1.2.2.2.2 gJxc12de_init_da8c8_Jxa1e45_init_da8c8 rfl rfl rfl (hc.1.2.2.2.2 (.initialized yJxa1e45_init_da8c8.cls) (by decide +kernel)) (hc.1.2.2.2.2 (.methodLink RJxc12de 1 yJxa1e45_init_da8c8) (by decide +kernel)) (hc.1.2.2.2.2 (.instanceMethod yJxa1e45_init_da8c8) (by decide +kernel)) rfl (by decide +kernel) ⟨Nat.le_of_ble_eq_true rfl, Nat.le_of_ble_eq_true rfl⟩) rfl rfl (Nat.le_of_ble_eq_true rfl) ⟨(by first | exact Nat.le_of_ble_eq_true rfl | omega | (dsimp only; omega)), (by first | exact Nat.le_of_ble_eq_true rfl | omega | (dsimp only; omega))⟩ dJxc12de_init_da8c8_1 (fun w' hp => ?_)
  subst hp
  first | refine v_aload_n hc (i := 0) rfl dJxc12de_init_da8c8_4 rfl ?_ | refine v_aload_nN hc (i := 0) rfl dJxc12de_init_da8c8_4 rfl ?_
  refine v_iconst hc (v := nI 0) dJxc12de_init_da8c8_5 (by decide) ?_
  refine v_put hc 0 (ci := 2) rfl tyJx4a65c tyJx4a65c_ok nmJx4a65c (by decide +kernel) (by decide) (by decide +kernel) (fun _ h => h) rfl (tyJx4a65c_ok 0 (by decide)) rfl rfl (Nat.le_of_ble_eq_true rfl) dJxc12de_init_da8c8_6 (ha) ?_
  exact v_vret hc hr dJxc12de_init_da8c8_9 (by first | exact Nat.le_of_ble_eq_true rfl | omega | (dsimp only; omega)) (by first | exact Nat.le_of_ble_eq_true rfl | omega | (dsimp only; omega)) (rfl)
set_option maxRecDepth 100000 in
set_option maxHeartbeats 4000000 in
theorem c_list_init (ha : w al = some (.inr (2, [.int 0, .null, .int 0]))) : Met l yJx4a65c_init_da8c8 wsJx4a65c_init_da8c8 ({ frames := 10, cells := 0, slots := 0, locals := 160 } : Room) (Pw G A w [.ref al]) (va_Qv (fun w' => w' = wup w al (.inr (2, [.int (nI 0), .ref (gE G), .int (nI 0)]))) (Bw G A) A) 0 0 A := by
  refine m_of (cc := cJx4a65c_init_da8c8) (maxL := 1) (ret := none) (by decide) rfl (Nat.le_of_ble_eq_true rfl) ?_
  intro p e s m args below meth c hc hr hmn
  refine v_loc [(0, some (.ref al))] rfl ?_
  first | refine v_aload_n hc (i := 0) rfl dJx4a65c_init_da8c8_0 rfl ?_ | refine v_aload_nN hc (i := 0) rfl dJx4a65c_init_da8c8_0 rfl ?_
  refine v_callIv hc (c_Jxc12de_init ha) (cwI 0 hc.1.2.2.2.2 gJx4a65c_init_da8c8_Jxc12de_init_da8c8 rfl rfl rfl (hc.1.2.2.2.2 (.initialized yJxc12de_init_da8c8.cls) (by decide +kernel)) (hc.1.2.2.2.2 (.methodLink RJx4a65c 1 yJxc12de_init_da8c8) (by decide +kernel)) (hc.1.2.2.2.2 (.instanceMethod yJxc12de_init_da8c8) (by decide +kernel)) rfl (by decide +kernel) ⟨Nat.le_of_ble_eq_true rfl, Nat.le_of_ble_eq_true rfl⟩) rfl rfl (Nat.le_of_ble_eq_true rfl) ⟨(by first | exact Nat.le_of_ble_eq_true rfl | omega | (dsimp only; omega)), (by first | exact Nat.le_of_ble_eq_true rfl | omega | (dsimp only; omega))⟩ dJx4a65c_init_da8c8_1 (fun w' hp => ?_)
  subst hp
  first | refine v_aload_n hc (i := 0) rfl dJx4a65c_init_da8c8_4 rfl ?_ | refine v_aload_nN hc (i := 0) rfl dJx4a65c_init_da8c8_4 rfl ?_
  refine v_getsE hc (by decide +kernel) rfl dJx4a65c_init_da8c8_5 ?_
  refine v_put hc 1 (ci := 2) rfl tyJx4a65c tyJx4a65c_ok nmJx4a65c (by decide +kernel) (by decide) (by decide +kernel) (fun _ h => h) rfl (tyJx4a65c_ok 1 (by decide)) rfl rfl (Nat.le_of_ble_eq_true rfl) dJx4a65c_init_da8c8_8 (wup_s _ _ _) ?_
  rw [wup_up]
  exact v_vret hc hr dJx4a65c_init_da8c8_11 (by first | exact Nat.le_of_ble_eq_true rfl | omega | (dsimp only; omega)) (by first | exact Nat.le_of_ble_eq_true rfl | omega | (dsimp only; omega)) (rfl)
set_option maxRecDepth 100000 in
set_option maxHeartbeats 4000000 in
theorem c_size (hL : ALr G w al mo ea cap f L) : Met l yJx4a65c_size_8abf5 wsJx4a65c_size_8abf5 ({ frames := 8, cells := 0, slots := 0, locals := 120 } : Room) (Pw G A w [.ref al]) (va_Qi (fun r w' => w = w' ∧ r = nI L.length) (Bw G A) A) 0 0 A := by
  refine m_of (cc := cJx4a65c_size_8abf5) (maxL := 1) (ret := (some .int)) (by decide) rfl (Nat.le_of_ble_eq_true rfl) ?_
  intro p e s m args below meth c hc hr hmn
  refine v_loc [(0, some (.ref al))] rfl ?_
  first | refine v_aload_n hc (i := 0) rfl dJx4a65c_size_8abf5_0 rfl ?_ | refine v_aload_nN hc (i := 0) rfl dJx4a65c_size_8abf5_0 rfl ?_
  refine v_get hc 2 (ci := 2) rfl (by decide +kernel) (by decide) (by decide +kernel) (fun _ h => h) dJx4a65c_size_8abf5_1 (hL.1) rfl ?_
  exact v_iret hc hr dJx4a65c_size_8abf5_4 (by first | exact Nat.le_of_ble_eq_true rfl | omega | (dsimp only; omega)) (by first | exact Nat.le_of_ble_eq_true rfl | omega | (dsimp only; omega)) (⟨rfl, rfl⟩)
set_option maxRecDepth 100000 in
set_option maxHeartbeats 4000000 in
theorem c_chk3 {i n : Nat} (hi : i < n) (hn : n < 2 ^ 31) : Met l yJ3_checkIndex_8e157 wsJ3_checkIndex_8e157 ({ frames := 8, cells := 0, slots := 0, locals := 120 } : Room) (Pw G A w [.int (nI i), .int (nI n), .null]) (va_Qi (fun r w' => w = w' ∧ r = nI i) (Bw G A) A) 0 0 A := by
  refine m_of (cc := cJ3_checkIndex_8e157) (maxL := 3) (ret := (some .int)) (by decide) rfl (Nat.le_of_ble_eq_true rfl) ?_
  intro p e s m args below meth c hc hr hmn
  refine v_loc [(0, some (.int (nI i))), (1, some (.int (nI n))), (2, some (.null))] rfl ?_
  refine v_iload_n hc (i := 0) rfl dJ3_checkIndex_8e157_0 rfl ?_
  refine v_if_lt hc (tgt := 9) dJ3_checkIndex_8e157_1 (by decide) (fun hb => ?_) (fun hb => ?_)
  · exact absurd hb (nI_pos (by omega))
  · refine v_iload_n hc (i := 0) rfl dJ3_checkIndex_8e157_4 rfl ?_
    refine v_iload_n hc (i := 1) rfl dJ3_checkIndex_8e157_5 rfl ?_
    refine v_icmp_ltN hc (tgt := 16) dJ3_checkIndex_8e157_6 (by decide) (by omega) (by omega) (fun h2 => ?_) (fun h2 => ?_)
    · refine v_iload_n hc (i := 0) rfl dJ3_checkIndex_8e157_16 rfl ?_
      exact v_iret hc hr dJ3_checkIndex_8e157_17 (by first | exact Nat.le_of_ble_eq_true rfl | omega | (dsimp only; omega)) (by first | exact Nat.le_of_ble_eq_true rfl | omega | (dsimp only; omega)) (⟨rfl, rfl⟩)
    · omega
set_option maxRecDepth 100000 in
set_option maxHeartbeats 4000000 in
theorem c_chk2 {i n : Nat} (hi : i < n) (hn : n < 2 ^ 31) : Met l yJ15_checkIndex_7cf53 wsJ15_checkIndex_7cf53 ({ frames := 9, cells := 0, slots := 0, locals := 142 } : Room) (Pw G A w [.int (nI i), .int (nI n)]) (va_Qi (fun r w' => w = w' ∧ r = nI i) (Bw G A) A) 0 0 A := by
  refine m_of (cc := cJ15_checkIndex_7cf53) (maxL := 2) (ret := (some .int)) (by decide) rfl (Nat.le_of_ble_eq_true rfl) ?_
  intro p e s m args below meth c hc hr hmn
  refine v_loc [(0, some (.int (nI i))), (1, some (.int (nI n)))] rfl ?_
  refine v_iload_n hc (i := 0) rfl dJ15_checkIndex_7cf53_0 rfl ?_
  refine v_iload_n hc (i := 1) rfl dJ15_checkIndex_7cf53_1 rfl ?_
  refine v_null hc dJ15_checkIndex_7cf53_2 ?_
  refine v_callSi hc (c_chk3 hi hn) (va_cwS 3 hc.1.2.2.2.2 gJ15_checkIndex_7cf53_J3_checkIndex_8e157 rfl rfl rfl (by decide +kernel) ⟨Nat.le_of_ble_eq_true rfl, Nat.le_of_ble_eq_true rfl⟩) rfl rfl (Nat.le_of_ble_eq_true rfl) ⟨(by first | exact Nat.le_of_ble_eq_true rfl | omega | (dsimp only; omega)), (by first | exact Nat.le_of_ble_eq_true rfl | omega | (dsimp only; omega))⟩ dJ15_checkIndex_7cf53_3 (fun r w' hp => ?_)
  obtain ⟨rfl, rfl⟩ := hp
  exact v_iret hc hr dJ15_checkIndex_7cf53_6 (by first | exact Nat.le_of_ble_eq_true rfl | omega | (dsimp only; omega)) (by first | exact Nat.le_of_ble_eq_true rfl | omega | (dsimp only; omega)) (⟨rfl, rfl⟩)
set_option maxRecDepth 100000 in
set_option maxHeartbeats 4000000 in
theorem c_elemData (ha : w al = some (.inr (2, [.int mo, .ref ea, .int (nI L.length)]))) (he : w ea = some (aO G cap f)) {i : Nat} (hi : i < cap) (hcap : cap ≤ 60) : Met l yJx4a65c_elementData_915e3 wsJx4a65c_elementData_915e3 ({ frames := 8, cells := 0, slots := 0, locals := 120 } : Room) (Pw G A w [.ref al, .int (nI i)]) (va_Qq (fun r w' => w = w' ∧ r = f i) (Bw G A) A) 0 0 A := by
  refine m_of (cc := cJx4a65c_elementData_915e3) (maxL := 2) (ret := (some (.object "java/lang/Object"))) (by decide) rfl (Nat.le_of_ble_eq_true rfl) ?_
  intro p e s m args below meth c hc hr hmn
  refine v_loc [(0, some (.ref al)), (1, some (.int (nI i)))] rfl ?_
  first | refine v_aload_n hc (i := 0) rfl dJx4a65c_elementData_915e3_0 rfl ?_ | refine v_aload_nN hc (i := 0) rfl dJx4a65c_elementData_915e3_0 rfl ?_
  refine v_get hc 1 (ci := 2) rfl (by decide +kernel) (by decide) (by decide +kernel) (fun _ h => h) dJx4a65c_elementData_915e3_1 (ha) rfl ?_
  refine v_iload_n hc (i := 1) rfl dJx4a65c_elementData_915e3_4 rfl ?_
  refine v_aald hc (i) dJx4a65c_elementData_915e3_5 (he) (rfl) (hi) (by omega) ?_
  exact v_aret hc (f i) hr (by first | exact Or.inl ⟨_, rfl⟩ | exact Or.inr ⟨_, rfl⟩) rfl dJx4a65c_elementData_915e3_6 (by first | exact Nat.le_of_ble_eq_true rfl | omega | (dsimp only; omega)) (by first | exact Nat.le_of_ble_eq_true rfl | omega | (dsimp only; omega)) (⟨rfl, rfl⟩)
set_option maxRecDepth 100000 in
set_option maxHeartbeats 4000000 in
theorem c_get (hL : ALr G w al mo ea cap f L) {i : Nat} (hi : i < L.length) : Met l yJx4a65c_get_915e3 wsJx4a65c_get_915e3 ({ frames := 10, cells := 0, slots := 0, locals := 163 } : Room) (Pw G A w [.ref al, .int (nI i)]) (va_Qq (fun r w' => w = w' ∧ r = some (L.getD i 0)) (Bw G A) A) 0 0 A := by
  refine m_of (cc := cJx4a65c_get_915e3) (maxL := 2) (ret := (some (.object "java/lang/Object"))) (by decide) rfl (Nat.le_of_ble_eq_true rfl) ?_
  intro p e s m args below meth c hc hr hmn
  refine v_loc [(0, some (.ref al)), (1, some (.int (nI i)))] rfl ?_
  obtain ⟨h1, h2, -, h4⟩ := hL
  rcases h4 with ⟨-, rfl, -⟩ | ⟨h4, h5, h6, h7, h8⟩
  · exact absurd hi (Nat.not_lt_zero _)
  refine v_iload_n hc (i := 1) rfl dJx4a65c_get_915e3_0 rfl ?_
  first | refine v_aload_n hc (i := 0) rfl dJx4a65c_get_915e3_1 rfl ?_ | refine v_aload_nN hc (i := 0) rfl dJx4a65c_get_915e3_1 rfl ?_
  refine v_get hc 2 (ci := 2) rfl (by decide +kernel) (by decide) (by decide +kernel) (fun _ h => h) dJx4a65c_get_915e3_2 (h1) rfl ?_
  refine v_callSi hc (c_chk2 hi (by omega)) (va_cwS 2 hc.1.2.2.2.2 gJx4a65c_get_915e3_J15_checkIndex_7cf53 rfl rfl rfl (by decide +kernel) ⟨Nat.le_of_ble_eq_true rfl, Nat.le_of_ble_eq_true rfl⟩) rfl rfl (Nat.le_of_ble_eq_true rfl) ⟨(by first | exact Nat.le_of_ble_eq_true rfl | omega | (dsimp only; omega)), (by first | exact Nat.le_of_ble_eq_true rfl | omega | (dsimp only; omega))⟩ dJx4a65c_get_915e3_5 (fun r w' hp => ?_)
  obtain ⟨rfl, rfl⟩ := hp
  refine v_pop hc dJx4a65c_get_915e3_8 rfl ?_
  first | refine v_aload_n hc (i := 0) rfl dJx4a65c_get_915e3_9 rfl ?_ | refine v_aload_nN hc (i := 0) rfl dJx4a65c_get_915e3_9 rfl ?_
  refine v_iload_n hc (i := 1) rfl dJx4a65c_get_915e3_10 rfl ?_
  refine v_callVq hc (c_elemData h1 h4 (by omega) h7) (cwV 1 hc.1.2.2.2.2 gJx4a65c_get_915e3_Jx4a65c_elementData_915e3 rfl rfl rfl (by decide +kernel) ⟨Nat.le_of_ble_eq_true rfl, Nat.le_of_ble_eq_true rfl⟩) (h1) rfl rfl rfl (Nat.le_of_ble_eq_true rfl) ⟨(by first | exact Nat.le_of_ble_eq_true rfl | omega | (dsimp only; omega)), (by first | exact Nat.le_of_ble_eq_true rfl | omega | (dsimp only; omega))⟩ dJx4a65c_get_915e3_11 (fun r w' hp => ?_)
  obtain ⟨rfl, rfl⟩ := hp
  exact v_aret hc (f i) hr (by first | exact Or.inl ⟨_, rfl⟩ | exact Or.inr ⟨_, rfl⟩) rfl dJx4a65c_get_915e3_14 (by first | exact Nat.le_of_ble_eq_true rfl | omega | (dsimp only; omega)) (by first | exact Nat.le_of_ble_eq_true rfl | omega | (dsimp only; omega)) (⟨rfl, by rw [h8 i hi]; simp [hi]⟩)
set_option maxRecDepth 100000 in
set_option maxHeartbeats 4000000 in
theorem c_newLength {a b c0 : Nat} (ha : a ≤ 60) (hb1 : b ≤ 60) (hc1 : c0 ≤ 60) (h0 : 0 < b) : Met l yJ8_newLength_cabcc wsJ8_newLength_cabcc ({ frames := 9, cells := 0, slots := 0, locals := 142 } : Room) (Pw G A w [.int (nI a), .int (nI b), .int (nI c0)]) (va_Qi (fun r w' => w = w' ∧ r = nI (a + max b c0)) (Bw G A) A) 0 0 A := by
  refine m_of (cc := cJ8_newLength_cabcc) (maxL := 4) (ret := (some .int)) (by decide) rfl (Nat.le_of_ble_eq_true rfl) ?_
  intro p e s m args below meth c hc hr hmn
  refine v_loc [(0, some (.int (nI a))), (1, some (.int (nI b))), (2, some (.int (nI c0)))] rfl ?_
  refine v_iload_n hc (i := 0) rfl dJ8_newLength_cabcc_0 rfl ?_
  refine v_iload_n hc (i := 1) rfl dJ8_newLength_cabcc_1 rfl ?_
  refine v_iload_n hc (i := 2) rfl dJ8_newLength_cabcc_2 rfl ?_
  refine v_mmax hc (by decide +kernel) (by decide +kernel) (by decide +kernel) (by decide +kernel) (Nat.le_of_ble_eq_true rfl) (Nat.le_of_ble_eq_true rfl) (by first | exact Nat.le_of_ble_eq_true rfl | omega | (dsimp only; omega)) (by first | exact Nat.le_of_ble_eq_true rfl | omega | (dsimp only; omega)) dJ8_newLength_cabcc_3 ?_
  refine v_ti (max_nI (by omega) (by omega)) ?_
  first | refine v_iaddN hc dJ8_newLength_cabcc_6 ?_ | refine v_iadd hc dJ8_newLength_cabcc_6 ?_
  refine v_istore_n hc (i := 3) rfl dJ8_newLength_cabcc_7 (by decide) rfl ?_
  refine v_iconst hc (v := nI 0) dJ8_newLength_cabcc_8 (by decide) ?_
  refine v_iload_n hc (i := 3) rfl dJ8_newLength_cabcc_9 rfl ?_
  refine v_icmp_geN hc (tgt := 21) dJ8_newLength_cabcc_10 (by decide) (by omega) (by omega) (fun h1 => ?_) (fun h1 => ?_)
  · omega
  · refine v_iload_n hc (i := 3) rfl dJ8_newLength_cabcc_13 rfl ?_
    refine v_ldcI hc (v := nI 2147483639) dJ8_newLength_cabcc_14 (by decide +kernel) ?_
    refine v_icmp_gtN hc (tgt := 21) dJ8_newLength_cabcc_16 (by decide) (by omega) (by omega) (fun h2 => ?_) (fun h2 => ?_)
    · omega
    · refine v_iload_n hc (i := 3) rfl dJ8_newLength_cabcc_19 rfl ?_
      exact v_iret hc hr dJ8_newLength_cabcc_20 (by first | exact Nat.le_of_ble_eq_true rfl | omega | (dsimp only; omega)) (by first | exact Nat.le_of_ble_eq_true rfl | omega | (dsimp only; omega)) (⟨rfl, rfl⟩)
/-- what a list's own writing leaves: the list L', its row new or as before -/
def ALp (G : cG) (w w' : wd) (al ea : Nat) (mo : Int32) (L : List Nat) : Prop := ∃ (ea' cap' : Nat) (f' : Nat → Option Nat), ALr G w' al mo ea' cap' f' L ∧ (∀ x, x ≠ al → x ≠ ea → x ≠ ea' → w' x = w x) ∧ (ea' = ea ∨ (w ea' = none ∧ ea' ≠ gE G))
set_option maxRecDepth 100000 in
set_option maxHeartbeats 4000000 in
theorem c_copyOf3 {a n0 nn : Nat} (he : w a = some (aO G n0 f)) (hn0 : n0 ≤ nn) (hnn : nn ≤ 60) (hel : ∀ i, i < n0 → ∀ y, f i = some y → ∃ vs, w y = some (.inr (4, vs))) : Met l yJ7_copyOf_6403c wsJ7_copyOf_6403c ({ frames := 8, cells := 1, slots := 60, locals := 120 } : Room) (Pw G A w [.ref a, .int (nI nn), .ref (gM G)]) (va_Qq (fun r w' => ∃ q, w q = none ∧ q ≠ gE G ∧ r = some q ∧ w' = wup w q (aO G nn (va_cpy f (fun _ => none) 0 0 n0))) (Bw G A) A) 1 60 A := by
  refine m_of (cc := cJ7_copyOf_6403c) (maxL := 4) (ret := (some (.array (.object "java/lang/Object")))) (by decide) rfl (Nat.le_of_ble_eq_true rfl) ?_
  intro p e s m args below meth c hc hr hmn
  refine v_loc [(0, some (.ref a)), (1, some (.int (nI nn))), (2, some (.ref (gM G)))] rfl ?_
  first | refine v_aload_n hc (i := 2) rfl dJ7_copyOf_6403c_0 rfl ?_ | refine v_aload_nN hc (i := 2) rfl dJ7_copyOf_6403c_0 rfl ?_
  refine v_ldcM hc (by decide +kernel) dJ7_copyOf_6403c_1 ?_
  refine v_acmp_ne hc (rx := some (gM G)) (ry := some (gM G)) (tgt := 13) dJ7_copyOf_6403c_3 (by decide) (fun hne => absurd rfl hne) (fun _ => ?_)
  refine v_iload_n hc (i := 1) rfl dJ7_copyOf_6403c_6 rfl ?_
  refine v_anew hc nn (by decide +kernel) rfl (by omega) (by first | exact Nat.le_of_ble_eq_true rfl | omega | (dsimp only; omega)) (by first | exact Nat.le_of_ble_eq_true rfl | omega | (dsimp only; omega)) dJ7_copyOf_6403c_7 (fun q hq hqA => ?_)
  have hqa : a ≠ q := fun z => by rw [z, hq] at he; cases he
  have hqE : q ≠ gE G := fun z => by
    obtain ⟨_, _, _, _, _, _, _, hnA⟩ := hc.2.1.2.2.1
    exact hnA (z ▸ hqA)
  have hel2 : ∀ i, i < n0 → ∀ y, f (0 + i) = some y → ∃ vs, wup w q (aO G nn (fun _ => none)) y = some (.inr (4, vs)) := fun i hi y hy => by
    rw [Nat.zero_add] at hy
    obtain ⟨vs, hv⟩ := hel i hi y hy
    exact ⟨vs, (wup_n _ _ (fun z => by rw [z, hq] at hv; cases hv)).trans hv⟩
  refine v_goto hc (tgt := 24) dJ7_copyOf_6403c_10 (by decide) ?_
  first | refine v_astore_n hc (i := 3) rfl dJ7_copyOf_6403c_24 (by decide) rfl ?_ | refine v_astore_nN hc (i := 3) rfl dJ7_copyOf_6403c_24 (by decide) rfl ?_
  first | refine v_aload_n hc (i := 0) rfl dJ7_copyOf_6403c_25 rfl ?_ | refine v_aload_nN hc (i := 0) rfl dJ7_copyOf_6403c_25 rfl ?_
  refine v_iconst hc (v := nI 0) dJ7_copyOf_6403c_26 (by decide) ?_
  first | refine v_aload_n hc (i := 3) rfl dJ7_copyOf_6403c_27 rfl ?_ | refine v_aload_nN hc (i := 3) rfl dJ7_copyOf_6403c_27 rfl ?_
  refine v_iconst hc (v := nI 0) dJ7_copyOf_6403c_28 (by decide) ?_
  first | refine v_aload_n hc (i := 0) rfl dJ7_copyOf_6403c_29 rfl ?_ | refine v_aload_nN hc (i := 0) rfl dJ7_copyOf_6403c_29 rfl ?_
  refine v_alen hc (t0 := 3) (x := (n0, .inr (.inr (.inr (.inr f))))) dJ7_copyOf_6403c_30 ((wup_n _ _ hqa).trans he) rfl ?_
  dsimp only
  refine v_iload_n hc (i := 1) rfl dJ7_copyOf_6403c_31 rfl ?_
  refine v_mmin hc (by decide +kernel) (by decide +kernel) (by decide +kernel) (by decide +kernel) (Nat.le_of_ble_eq_true rfl) (Nat.le_of_ble_eq_true rfl) (by first | exact Nat.le_of_ble_eq_true rfl | omega | (dsimp only; omega)) (by first | exact Nat.le_of_ble_eq_true rfl | omega | (dsimp only; omega)) dJ7_copyOf_6403c_32 ?_
  refine v_ti (show _ = nI n0 by rw [if_neg (nI_nlt hn0 (by omega))]) ?_
  refine v_copy hc (sp := 0) (dp := 0) (nn := n0) rfl rfl rfl (by omega) (by omega) (by omega) ((wup_n _ _ hqa).trans he) (wup_s _ _ _) (by omega) (by omega) (hel2) (by decide +kernel) (by decide +kernel) (by decide +kernel) (by decide +kernel) (Nat.le_of_ble_eq_true rfl) (by decide +kernel) dJ7_copyOf_6403c_35 ?_
  rw [wup_up]
  first | refine v_aload_n hc (i := 3) rfl dJ7_copyOf_6403c_38 rfl ?_ | refine v_aload_nN hc (i := 3) rfl dJ7_copyOf_6403c_38 rfl ?_
  exact v_aret hc (some q) hr (by first | exact Or.inl ⟨_, rfl⟩ | exact Or.inr ⟨_, rfl⟩) rfl dJ7_copyOf_6403c_39 (by first | exact Nat.le_of_ble_eq_true rfl | omega | (dsimp only; omega)) (by first | exact Nat.le_of_ble_eq_true rfl | omega | (dsimp only; omega)) (⟨q, hq, hqE, rfl, rfl⟩)
set_option maxRecDepth 100000 in
set_option maxHeartbeats 4000000 in
theorem c_copyOf2 {a n0 nn : Nat} (he : w a = some (aO G n0 f)) (hn0 : n0 ≤ nn) (hnn : nn ≤ 60) (hel : ∀ i, i < n0 → ∀ y, f i = some y → ∃ vs, w y = some (.inr (4, vs))) : Met l yJ7_copyOf_1904c wsJ7_copyOf_1904c ({ frames := 9, cells := 1, slots := 60, locals := 143 } : Room) (Pw G A w [.ref a, .int (nI nn)]) (va_Qq (fun r w' => ∃ q, w q = none ∧ q ≠ gE G ∧ r = some q ∧ w' = wup w q (aO G nn (va_cpy f (fun _ => none) 0 0 n0))) (Bw G A) A) 1 60 A := by
  refine m_of (cc := cJ7_copyOf_1904c) (maxL := 2) (ret := (some (.array (.object "java/lang/Object")))) (by decide) rfl (Nat.le_of_ble_eq_true rfl) ?_
  intro p e s m args below meth c hc hr hmn
  refine v_loc [(0, some (.ref a)), (1, some (.int (nI nn)))] rfl ?_
  first | refine v_aload_n hc (i := 0) rfl dJ7_copyOf_1904c_0 rfl ?_ | refine v_aload_nN hc (i := 0) rfl dJ7_copyOf_1904c_0 rfl ?_
  refine v_iload_n hc (i := 1) rfl dJ7_copyOf_1904c_1 rfl ?_
  first | refine v_aload_n hc (i := 0) rfl dJ7_copyOf_1904c_2 rfl ?_ | refine v_aload_nN hc (i := 0) rfl dJ7_copyOf_1904c_2 rfl ?_
  refine v_getC hc (he) (by decide +kernel) (by decide +kernel) (by decide +kernel) (by decide +kernel) (Nat.le_of_ble_eq_true rfl) (Nat.le_of_ble_eq_true rfl) dJ7_copyOf_1904c_3 ?_
  refine v_callSq hc (c_copyOf3 he hn0 hnn hel) (va_cwS 3 hc.1.2.2.2.2 gJ7_copyOf_1904c_J7_copyOf_6403c rfl rfl rfl (by decide +kernel) ⟨Nat.le_of_ble_eq_true rfl, Nat.le_of_ble_eq_true rfl⟩) rfl rfl (Nat.le_of_ble_eq_true rfl) ⟨(by first | exact Nat.le_of_ble_eq_true rfl | omega | (dsimp only; omega)), (by first | exact Nat.le_of_ble_eq_true rfl | omega | (dsimp only; omega))⟩ dJ7_copyOf_1904c_6 (fun r w' hp => ?_)
  obtain ⟨q, hq, hqE, rfl, rfl⟩ := hp
  exact v_aret hc (some q) hr (by first | exact Or.inl ⟨_, rfl⟩ | exact Or.inr ⟨_, rfl⟩) rfl dJ7_copyOf_1904c_9 (by first | exact Nat.le_of_ble_eq_true rfl | omega | (dsimp only; omega)) (by first | exact Nat.le_of_ble_eq_true rfl | omega | (dsimp only; omega)) (⟨q, hq, hqE, rfl, rfl⟩)
set_option maxRecDepth 100000 in
set_option maxHeartbeats 4000000 in
theorem c_grow1 (hL : ALr G w al mo ea cap f L) (hfull : L.length = cap) (h40 : L.length < 40) : Met l yJx4a65c_grow_92f84 wsJx4a65c_grow_92f84 ({ frames := 10, cells := 1, slots := 60, locals := 165 } : Room) (Pw G A w [.ref al, .int (nI (L.length + 1))]) (va_Qq (fun r w' => ∃ q cap' f', w q = none ∧ q ≠ gE G ∧ r = some q ∧ w' = wup (wup w q (aO G cap' f')) al (.inr (2, [.int mo, .ref q, .int (nI L.length)])) ∧ L.length < cap' ∧ cap' ≤ 60 ∧ ∀ j (h : j < L.length), f' j = some L[j]) (Bw G A) A) 1 60 A := by
  refine m_of (cc := cJx4a65c_grow_92f84) (maxL := 4) (ret := (some (.array (.object "java/lang/Object")))) (by decide) rfl (Nat.le_of_ble_eq_true rfl) ?_
  intro p e s m args below meth c hc hr hmn
  refine v_loc [(0, some (.ref al)), (1, some (.int (nI (L.length + 1))))] rfl ?_
  obtain ⟨h1, h2, hel, h4⟩ := hL
  rcases h4 with ⟨rfl, rfl, rfl⟩ | ⟨h4, h5, h6, h7, h8⟩
  · first | refine v_aload_n hc (i := 0) rfl dJx4a65c_grow_92f84_0 rfl ?_ | refine v_aload_nN hc (i := 0) rfl dJx4a65c_grow_92f84_0 rfl ?_
    refine v_get hc 1 (ci := 2) rfl (by decide +kernel) (by decide) (by decide +kernel) (fun _ h => h) dJx4a65c_grow_92f84_1 (h1) rfl ?_
    refine v_alenE hc dJx4a65c_grow_92f84_4 ?_
    refine v_istore_n hc (i := 2) rfl dJx4a65c_grow_92f84_5 (by decide) rfl ?_
    refine v_iload_n hc (i := 2) rfl dJx4a65c_grow_92f84_6 rfl ?_
    refine v_if_gt hc (tgt := 20) dJx4a65c_grow_92f84_7 (by decide) (fun hb => ?_) (fun hb => ?_)
    · exact absurd hb (by decide)
    · first | refine v_aload_n hc (i := 0) rfl dJx4a65c_grow_92f84_10 rfl ?_ | refine v_aload_nN hc (i := 0) rfl dJx4a65c_grow_92f84_10 rfl ?_
      refine v_get hc 1 (ci := 2) rfl (by decide +kernel) (by decide) (by decide +kernel) (fun _ h => h) dJx4a65c_grow_92f84_11 (h1) rfl ?_
      refine v_getsE hc (by decide +kernel) rfl dJx4a65c_grow_92f84_14 ?_
      refine v_acmp_eq hc (rx := some (gE G)) (ry := some (gE G)) (tgt := 45) dJx4a65c_grow_92f84_17 (by decide) (fun _ => ?_) (fun hne => absurd rfl hne)
      first | refine v_aload_n hc (i := 0) rfl dJx4a65c_grow_92f84_45 rfl ?_ | refine v_aload_nN hc (i := 0) rfl dJx4a65c_grow_92f84_45 rfl ?_
      refine v_bipush hc (v := nI 10) dJx4a65c_grow_92f84_46 (by decide) ?_
      refine v_iload_n hc (i := 1) rfl dJx4a65c_grow_92f84_48 rfl ?_
      refine v_mmax hc (by decide +kernel) (by decide +kernel) (by decide +kernel) (by decide +kernel) (Nat.le_of_ble_eq_true rfl) (Nat.le_of_ble_eq_true rfl) (by first | exact Nat.le_of_ble_eq_true rfl | omega | (dsimp only; omega)) (by first | exact Nat.le_of_ble_eq_true rfl | omega | (dsimp only; omega)) dJx4a65c_grow_92f84_49 ?_
      refine v_ti (show _ = nI 10 by decide) ?_
      refine v_anew hc 10 (by decide +kernel) rfl (by omega) (by first | exact Nat.le_of_ble_eq_true rfl | omega | (dsimp only; omega)) (by first | exact Nat.le_of_ble_eq_true rfl | omega | (dsimp only; omega)) dJx4a65c_grow_92f84_52 (fun q hq hqA => ?_)
      have hqE : q ≠ gE G := fun z => by
        obtain ⟨_, _, _, _, _, _, _, hnA⟩ := hc.2.1.2.2.1
        exact hnA (z ▸ hqA)
      have hqa : al ≠ q := fun z => by rw [z, hq] at h1; cases h1
      refine v_dup_x1 hc dJx4a65c_grow_92f84_55 rfl rfl ?_
      refine v_put hc 1 (ci := 2) rfl tyJx4a65c tyJx4a65c_ok nmJx4a65c (by decide +kernel) (by decide) (by decide +kernel) (fun _ h => h) rfl (tyJx4a65c_ok 1 (by decide)) rfl rfl (Nat.le_of_ble_eq_true rfl) dJx4a65c_grow_92f84_56 ((wup_n _ _ hqa).trans h1) ?_
      exact v_aret hc (some q) hr (by first | exact Or.inl ⟨_, rfl⟩ | exact Or.inr ⟨_, rfl⟩) rfl dJx4a65c_grow_92f84_59 (by first | exact Nat.le_of_ble_eq_true rfl | omega | (dsimp only; omega)) (by first | exact Nat.le_of_ble_eq_true rfl | omega | (dsimp only; omega)) (⟨q, 10, fun _ => none, hq, hqE, rfl, rfl, by decide, by decide, fun j h => absurd h (Nat.not_lt_zero _)⟩)
  · first | refine v_aload_n hc (i := 0) rfl dJx4a65c_grow_92f84_0 rfl ?_ | refine v_aload_nN hc (i := 0) rfl dJx4a65c_grow_92f84_0 rfl ?_
    refine v_get hc 1 (ci := 2) rfl (by decide +kernel) (by decide) (by decide +kernel) (fun _ h => h) dJx4a65c_grow_92f84_1 (h1) rfl ?_
    refine v_alen hc (t0 := 3) (x := (cap, .inr (.inr (.inr (.inr f))))) dJx4a65c_grow_92f84_4 h4 rfl ?_
    dsimp only
    refine v_istore_n hc (i := 2) rfl dJx4a65c_grow_92f84_5 (by decide) rfl ?_
    refine v_iload_n hc (i := 2) rfl dJx4a65c_grow_92f84_6 rfl ?_
    refine v_if_gt hc (tgt := 20) dJx4a65c_grow_92f84_7 (by decide) (fun hb => ?_) (fun hb => ?_)
    · refine v_iload_n hc (i := 2) rfl dJx4a65c_grow_92f84_20 rfl ?_
      refine v_iload_n hc (i := 1) rfl dJx4a65c_grow_92f84_21 rfl ?_
      refine v_iload_n hc (i := 2) rfl dJx4a65c_grow_92f84_22 rfl ?_
      first | refine v_isubN hc (by omega) dJx4a65c_grow_92f84_23 ?_ | refine v_isub hc dJx4a65c_grow_92f84_23 ?_
      refine v_iload_n hc (i := 2) rfl dJx4a65c_grow_92f84_24 rfl ?_
      refine v_iconst hc (v := nI 1) dJx4a65c_grow_92f84_25 (by decide) ?_
      refine v_ishr hc dJx4a65c_grow_92f84_26 ?_
      refine v_ti (show _ = nI (cap / 2) from (pk_shrN (n := cap) (by omega) (nI 1 &&& 31) 1 (by decide)).trans (by rw [Nat.pow_one])) ?_
      refine v_callSi hc (c_newLength (a := cap) (b := L.length + 1 - cap) (c0 := cap / 2) (by omega) (by omega) (by omega) (by omega)) (va_cwS 3 hc.1.2.2.2.2 gJx4a65c_grow_92f84_J8_newLength_cabcc rfl rfl rfl (by decide +kernel) ⟨Nat.le_of_ble_eq_true rfl, Nat.le_of_ble_eq_true rfl⟩) rfl rfl (Nat.le_of_ble_eq_true rfl) ⟨(by first | exact Nat.le_of_ble_eq_true rfl | omega | (dsimp only; omega)), (by first | exact Nat.le_of_ble_eq_true rfl | omega | (dsimp only; omega))⟩ dJx4a65c_grow_92f84_27 (fun r w' hp => ?_)
      obtain ⟨rfl, rfl⟩ := hp
      refine v_istore_n hc (i := 3) rfl dJx4a65c_grow_92f84_30 (by decide) rfl ?_
      first | refine v_aload_n hc (i := 0) rfl dJx4a65c_grow_92f84_31 rfl ?_ | refine v_aload_nN hc (i := 0) rfl dJx4a65c_grow_92f84_31 rfl ?_
      first | refine v_aload_n hc (i := 0) rfl dJx4a65c_grow_92f84_32 rfl ?_ | refine v_aload_nN hc (i := 0) rfl dJx4a65c_grow_92f84_32 rfl ?_
      refine v_get hc 1 (ci := 2) rfl (by decide +kernel) (by decide) (by decide +kernel) (fun _ h => h) dJx4a65c_grow_92f84_33 (h1) rfl ?_
      refine v_iload_n hc (i := 3) rfl dJx4a65c_grow_92f84_36 rfl ?_
      have hel2 : ∀ i, i < cap → ∀ y, f i = some y → ∃ vs, w y = some (.inr (4, vs)) := fun i hi y hy => by
        have h9 := h8 i (by omega)
        rw [h9] at hy
        cases hy
        exact hel _ (List.getElem_mem _)
      refine v_callSq hc (c_copyOf2 (nn := cap + max (L.length + 1 - cap) (cap / 2)) h4 (by omega) (by omega) hel2) (va_cwS 2 hc.1.2.2.2.2 gJx4a65c_grow_92f84_J7_copyOf_1904c rfl rfl rfl (by decide +kernel) ⟨Nat.le_of_ble_eq_true rfl, Nat.le_of_ble_eq_true rfl⟩) rfl rfl (Nat.le_of_ble_eq_true rfl) ⟨(by first | exact Nat.le_of_ble_eq_true rfl | omega | (dsimp only; omega)), (by first | exact Nat.le_of_ble_eq_true rfl | omega | (dsimp only; omega))⟩ dJx4a65c_grow_92f84_37 (fun r w' hp => ?_)
      obtain ⟨q, hq, hqE, rfl, rfl⟩ := hp
      have hqa : al ≠ q := fun z => by rw [z, hq] at h1; cases h1
      refine v_dup_x1 hc dJx4a65c_grow_92f84_40 rfl rfl ?_
      refine v_put hc 1 (ci := 2) rfl tyJx4a65c tyJx4a65c_ok nmJx4a65c (by decide +kernel) (by decide) (by decide +kernel) (fun _ h => h) rfl (tyJx4a65c_ok 1 (by decide)) rfl rfl (Nat.le_of_ble_eq_true rfl) dJx4a65c_grow_92f84_41 ((wup_n _ _ hqa).trans h1) ?_
      exact v_aret hc (some q) hr (by first | exact Or.inl ⟨_, rfl⟩ | exact Or.inr ⟨_, rfl⟩) rfl dJx4a65c_grow_92f84_44 (by first | exact Nat.le_of_ble_eq_true rfl | omega | (dsimp only; omega)) (by first | exact Nat.le_of_ble_eq_true rfl | omega | (dsimp only; omega)) (⟨q, _, _, hq, hqE, rfl, rfl, by omega, by omega, fun j h => by rw [pk_cpy_in (Nat.zero_le _) (by omega), show 0 + (j - 0) = j by omega]; exact h8 j h⟩)
    · exact absurd (nI_lt (a := 0) (by omega) (by omega)) hb
set_option maxRecDepth 100000 in
set_option maxHeartbeats 4000000 in
theorem c_grow0 (hL : ALr G w al mo ea cap f L) (hfull : L.length = cap) (h40 : L.length < 40) : Met l yJx4a65c_grow_d5877 wsJx4a65c_grow_d5877 ({ frames := 11, cells := 1, slots := 60, locals := 188 } : Room) (Pw G A w [.ref al]) (va_Qq (fun r w' => ∃ q cap' f', w q = none ∧ q ≠ gE G ∧ r = some q ∧ w' = wup (wup w q (aO G cap' f')) al (.inr (2, [.int mo, .ref q, .int (nI L.length)])) ∧ L.length < cap' ∧ cap' ≤ 60 ∧ ∀ j (h : j < L.length), f' j = some L[j]) (Bw G A) A) 1 60 A := by
  refine m_of (cc := cJx4a65c_grow_d5877) (maxL := 1) (ret := (some (.array (.object "java/lang/Object")))) (by decide) rfl (Nat.le_of_ble_eq_true rfl) ?_
  intro p e s m args below meth c hc hr hmn
  refine v_loc [(0, some (.ref al))] rfl ?_
  first | refine v_aload_n hc (i := 0) rfl dJx4a65c_grow_d5877_0 rfl ?_ | refine v_aload_nN hc (i := 0) rfl dJx4a65c_grow_d5877_0 rfl ?_
  first | refine v_aload_n hc (i := 0) rfl dJx4a65c_grow_d5877_1 rfl ?_ | refine v_aload_nN hc (i := 0) rfl dJx4a65c_grow_d5877_1 rfl ?_
  refine v_get hc 2 (ci := 2) rfl (by decide +kernel) (by decide) (by decide +kernel) (fun _ h => h) dJx4a65c_grow_d5877_2 (hL.1) rfl ?_
  refine v_iconst hc (v := nI 1) dJx4a65c_grow_d5877_5 (by decide) ?_
  first | refine v_iaddN hc dJx4a65c_grow_d5877_6 ?_ | refine v_iadd hc dJx4a65c_grow_d5877_6 ?_
  refine v_callVq hc (c_grow1 hL hfull h40) (cwV 1 hc.1.2.2.2.2 gJx4a65c_grow_d5877_Jx4a65c_grow_92f84 rfl rfl rfl (by decide +kernel) ⟨Nat.le_of_ble_eq_true rfl, Nat.le_of_ble_eq_true rfl⟩) (hL.1) rfl rfl rfl (Nat.le_of_ble_eq_true rfl) ⟨(by first | exact Nat.le_of_ble_eq_true rfl | omega | (dsimp only; omega)), (by first | exact Nat.le_of_ble_eq_true rfl | omega | (dsimp only; omega))⟩ dJx4a65c_grow_d5877_7 (fun r w' hp => ?_)
  obtain ⟨q, cap', f', hq, hqE, rfl, rfl, g1, g2, g3⟩ := hp
  exact v_aret hc (some q) hr (by first | exact Or.inl ⟨_, rfl⟩ | exact Or.inr ⟨_, rfl⟩) rfl dJx4a65c_grow_d5877_10 (by first | exact Nat.le_of_ble_eq_true rfl | omega | (dsimp only; omega)) (by first | exact Nat.le_of_ble_eq_true rfl | omega | (dsimp only; omega)) (⟨q, cap', f', hq, hqE, rfl, rfl, g1, g2, g3⟩)
/-- a longer list out of a row with room -/
theorem ALr.put {ea' cap' : Nat} {g f' : Nat → Option Nat} {w1 : wd} {L' : List Nat} {mo' : Int32} (hne : ea' ≠ al) (he : w1 ea' = some (aO G cap' g)) (hlen : L'.length = L.length + 1) (hroom : L.length < cap') (h60 : cap' ≤ 60) (h40 : L.length < 40) (hel : ∀ x ∈ L', ∃ vs, w1 x = some (.inr (4, vs))) (hal : ∃ vs, w1 al = some (.inr (2, vs))) (hf : ∀ j (h : j < L'.length), f' j = some L'[j]) :
    ALr G (wup (wup w1 ea' (aO G cap' f')) al (.inr (2, [.int mo', .ref ea', .int (nI (L.length + 1))]))) al mo' ea' cap' f' L' := by
  refine ⟨by rw [wup_s, hlen], by omega, fun x hx => ?_, Or.inr ⟨by rw [wup_n _ _ hne, wup_s], by omega, by omega, h60, hf⟩⟩
  obtain ⟨vs, hv⟩ := hel x hx
  obtain ⟨us, hu⟩ := hal
  exact ⟨vs, by rw [wup_n _ _ (fun z => by rw [z, hu] at hv; cases hv), wup_n _ _ (fun z => by rw [z, he] at hv; cases hv)]; exact hv⟩
set_option maxRecDepth 100000 in
set_option maxHeartbeats 4000000 in
theorem c_add3 (hL : ALr G w al mo ea cap f L) (h40 : L.length < 40) {q0 : Nat} {vs : List Value} (hq0 : w q0 = some (.inr (4, vs))) : Met l yJx4a65c_add_72be8 wsJx4a65c_add_72be8 ({ frames := 12, cells := 1, slots := 60, locals := 208 } : Room) (Pw G A w [.ref al, .ref q0, .ref ea, .int (nI L.length)]) (va_Qv (fun w' => ALp G w w' al ea mo (L ++ [q0])) (Bw G A) A) 1 60 A := by
  refine m_of (cc := cJx4a65c_add_72be8) (maxL := 4) (ret := none) (by decide) rfl (Nat.le_of_ble_eq_true rfl) ?_
  intro p e s m args below meth c hc hr hmn
  refine v_loc [(0, some (.ref al)), (1, some (.ref q0)), (2, some (.ref ea)), (3, some (.int (nI L.length)))] rfl ?_
  have hca : va_Nw (.castable RX1 "java/lang/Object") s := hc.2.1.2.2.2.2.2.1 _ (by decide +kernel)
  have key : ∀ (w1 : wd) (ea1 cap1 : Nat) (f1 : Nat → Option Nat), w1 al = some (.inr (2, [.int mo, .ref ea1, .int (nI L.length)])) → w1 ea1 = some (aO G cap1 f1) → L.length < cap1 → cap1 ≤ 60 → (∀ j (h : j < L.length), f1 j = some L[j]) → (∀ x, x ≠ al → x ≠ ea → x ≠ ea1 → w1 x = w x) → (ea1 = ea ∨ (w ea1 = none ∧ ea1 ≠ gE G)) → (∀ x us, w x = some (.inr (4, us)) → w1 x = some (.inr (4, us))) → V p l e ({ frames := 12, cells := 1, slots := 60, locals := 208 } : Room) s m args below meth c 4 G A (MQ below (va_Qv (fun w' => ALp G w w' al ea mo (L ++ [q0])) (Bw G A) A) args s 1 60 A) w1 1 60 11 [(0, some (.ref al)), (1, some (.ref q0)), (2, some (.ref ea1)), (3, some (.int (nI L.length)))] [] := by
    intro w1 ea1 cap1 f1 k1 k2 k3 k4 k5 k6 k7 k8
    have hne : ea1 ≠ al := fun z => by rw [z, k1] at k2; cases k2
    first | refine v_aload_n hc (i := 2) rfl dJx4a65c_add_72be8_11 rfl ?_ | refine v_aload_nN hc (i := 2) rfl dJx4a65c_add_72be8_11 rfl ?_
    refine v_iload_n hc (i := 3) rfl dJx4a65c_add_72be8_12 rfl ?_
    first | refine v_aload_n hc (i := 1) rfl dJx4a65c_add_72be8_13 rfl ?_ | refine v_aload_nN hc (i := 1) rfl dJx4a65c_add_72be8_13 rfl ?_
    refine v_aast hc (ci := 4) L.length dJx4a65c_add_72be8_14 k2 rfl k3 (by omega) (k8 _ _ hq0) rfl hca ?_
    first | refine v_aload_n hc (i := 0) rfl dJx4a65c_add_72be8_15 rfl ?_ | refine v_aload_nN hc (i := 0) rfl dJx4a65c_add_72be8_15 rfl ?_
    refine v_iload_n hc (i := 3) rfl dJx4a65c_add_72be8_16 rfl ?_
    refine v_iconst hc (v := nI 1) dJx4a65c_add_72be8_17 (by decide) ?_
    first | refine v_iaddN hc dJx4a65c_add_72be8_18 ?_ | refine v_iadd hc dJx4a65c_add_72be8_18 ?_
    refine v_put hc 2 (ci := 2) rfl tyJx4a65c tyJx4a65c_ok nmJx4a65c (by decide +kernel) (by decide) (by decide +kernel) (fun _ h => h) rfl (tyJx4a65c_ok 2 (by decide)) rfl rfl (Nat.le_of_ble_eq_true rfl) dJx4a65c_add_72be8_19 ((wup_n _ _ hne.symm).trans k1) ?_
    refine v_vret hc hr dJx4a65c_add_72be8_22 (Nat.le_refl _) (Nat.le_refl _) ⟨ea1, cap1, _, ALr.put hne k2 (by simp) k3 k4 h40 (fun x hx => ?_) ⟨_, k1⟩ (fun j h => ?_), fun x g1 g2 g3 => ?_, k7⟩
    · rcases List.mem_append.mp hx with hx | hx
      · obtain ⟨us, hu⟩ := hL.2.2.1 x hx
        exact ⟨us, k8 _ _ hu⟩
      · rw [List.mem_singleton.mp hx]
        exact ⟨vs, k8 _ _ hq0⟩
    · by_cases hj : j = L.length
      · subst hj
        rw [va_up_self]; simp
      · have hjl : j < L.length := by simp at h; omega
        rw [up_n hj, List.getElem_append_left hjl]
        exact k5 j hjl
    · rw [wup_n _ _ g1, wup_n _ _ g3]
      exact k6 x g1 g2 g3
  obtain ⟨h1, h2, hel, h4⟩ := id hL
  have grw : L.length = cap → V p l e ({ frames := 12, cells := 1, slots := 60, locals := 208 } : Room) s m args below meth c 4 G A (MQ below (va_Qv (fun w' => ALp G w w' al ea mo (L ++ [q0])) (Bw G A) A) args s 1 60 A) w 0 0 6 [(0, some (.ref al)), (1, some (.ref q0)), (2, some (.ref ea)), (3, some (.int (nI L.length)))] [] := by
    intro hfull
    first | refine v_aload_n hc (i := 0) rfl dJx4a65c_add_72be8_6 rfl ?_ | refine v_aload_nN hc (i := 0) rfl dJx4a65c_add_72be8_6 rfl ?_
    refine v_callVq hc (c_grow0 hL hfull h40) (cwV 0 hc.1.2.2.2.2 gJx4a65c_add_72be8_Jx4a65c_grow_d5877 rfl rfl rfl (by decide +kernel) ⟨Nat.le_of_ble_eq_true rfl, Nat.le_of_ble_eq_true rfl⟩) (h1) rfl rfl rfl (Nat.le_of_ble_eq_true rfl) ⟨(by first | exact Nat.le_of_ble_eq_true rfl | omega | (dsimp only; omega)), (by first | exact Nat.le_of_ble_eq_true rfl | omega | (dsimp only; omega))⟩ dJx4a65c_add_72be8_7 (fun r w' hp => ?_)
    obtain ⟨q, cap', f', hq, hqE, rfl, rfl, g1, g2, g3⟩ := hp
    have hqa : q ≠ al := fun z => by rw [← z, hq] at h1; cases h1
    first | refine v_astore_n hc (i := 2) rfl dJx4a65c_add_72be8_10 (by decide) rfl ?_ | refine v_astore_nN hc (i := 2) rfl dJx4a65c_add_72be8_10 (by decide) rfl ?_
    refine v_loc [(0, some (.ref al)), (1, some (.ref q0)), (2, some (.ref q)), (3, some (.int (nI L.length)))] rfl (key _ q cap' f' (wup_s _ _ _) ((wup_n _ _ hqa).trans (wup_s _ _ _)) g1 g2 g3 (fun x a1 a2 a3 => by rw [wup_n _ _ a1, wup_n _ _ a3]) (Or.inr ⟨hq, hqE⟩) (fun x us hu => ?_))
    rw [wup_n _ _ (fun z => by rw [z, h1] at hu; cases hu), wup_n _ _ (fun z => by rw [z, hq] at hu; cases hu)]
    exact hu
  rcases h4 with ⟨rfl, rfl, rfl⟩ | ⟨h4, h5, h6, h7, h8⟩
  · refine v_iload_n hc (i := 3) rfl dJx4a65c_add_72be8_0 rfl ?_
    first | refine v_aload_n hc (i := 2) rfl dJx4a65c_add_72be8_1 rfl ?_ | refine v_aload_nN hc (i := 2) rfl dJx4a65c_add_72be8_1 rfl ?_
    refine v_alenE hc dJx4a65c_add_72be8_2 ?_
    refine v_icmp_neN hc (tgt := 11) dJx4a65c_add_72be8_3 (by decide) (by omega) (by omega) (fun hb => ?_) (fun hb => ?_)
    · exact absurd rfl hb
    · exact grw rfl
  · refine v_iload_n hc (i := 3) rfl dJx4a65c_add_72be8_0 rfl ?_
    first | refine v_aload_n hc (i := 2) rfl dJx4a65c_add_72be8_1 rfl ?_ | refine v_aload_nN hc (i := 2) rfl dJx4a65c_add_72be8_1 rfl ?_
    refine v_alen hc (t0 := 3) (x := (cap, .inr (.inr (.inr (.inr f))))) dJx4a65c_add_72be8_2 h4 rfl ?_
    dsimp only
    refine v_icmp_neN hc (tgt := 11) dJx4a65c_add_72be8_3 (by decide) (by omega) (by omega) (fun hb => ?_) (fun hb => ?_)
    · exact v_widen (Nat.zero_le _) (Nat.zero_le _) (key w ea cap f h1 h4 (by omega) h7 h8 (fun _ _ _ _ => rfl) (Or.inl rfl) (fun _ _ h => h))
    · exact grw hb
/-- the list's count of changes, put up by one -/
theorem ALr.cnt (hL : ALr G w al mo ea cap f L) (mo' : Int32) : ALr G (wup w al (.inr (2, [.int mo', .ref ea, .int (nI L.length)]))) al mo' ea cap f L := by
  obtain ⟨h1, h2, hel, h4⟩ := hL
  refine ⟨wup_s _ _ _, h2, fun x hx => ?_, ?_⟩
  · obtain ⟨vs, hv⟩ := hel x hx
    exact ⟨vs, by rw [wup_n _ _ (fun z => by rw [z, h1] at hv; cases hv)]; exact hv⟩
  · rcases h4 with h4 | ⟨h4, h5⟩
    · exact Or.inl h4
    · exact Or.inr ⟨by rw [wup_n _ _ (fun z => by rw [z, h1] at h4; cases h4)]; exact h4, h5⟩
theorem ALp.from {w1 w2 : wd} {mo' : Int32} {L' : List Nat} (h : ALp G w1 w2 al ea mo' L') (hs : ∀ x, x ≠ al → w1 x = w x) (hal : w1 al ≠ none) : ALp G w w2 al ea mo' L' := by
  obtain ⟨ea', cap', f', h1, h2, h3⟩ := h
  refine ⟨ea', cap', f', h1, fun x a1 a2 a3 => (h2 x a1 a2 a3).trans (hs x a1), h3.imp id fun h4 => ⟨?_, h4.2⟩⟩
  rw [← hs ea' (fun z => hal (z ▸ h4.1))]; exact h4.1
set_option maxRecDepth 100000 in
set_option maxHeartbeats 4000000 in
theorem c_add1 (hL : ALr G w al mo ea cap f L) (h40 : L.length < 40) {q0 : Nat} {vs : List Value} (hq0 : w q0 = some (.inr (4, vs))) : Met l yJx4a65c_add_9ea2d wsJx4a65c_add_9ea2d ({ frames := 13, cells := 1, slots := 60, locals := 231 } : Room) (Pw G A w [.ref al, .ref q0]) (va_Qi (fun r w' => r = nI 1 ∧ ALp G w w' al ea (mo + nI 1) (L ++ [q0])) (Bw G A) A) 1 60 A := by
  refine m_of (cc := cJx4a65c_add_9ea2d) (maxL := 2) (ret := (some .boolean)) (by decide) rfl (Nat.le_of_ble_eq_true rfl) ?_
  intro p e s m args below meth c hc hr hmn
  refine v_loc [(0, some (.ref al)), (1, some (.ref q0))] rfl ?_
  first | refine v_aload_n hc (i := 0) rfl dJx4a65c_add_9ea2d_0 rfl ?_ | refine v_aload_nN hc (i := 0) rfl dJx4a65c_add_9ea2d_0 rfl ?_
  refine v_dup hc dJx4a65c_add_9ea2d_1 rfl ?_
  refine v_get hc 0 (ci := 2) rfl (by decide +kernel) (by decide) (by decide +kernel) (u_same (hc.1.2.2.2.2 (.sameField "java/util/ArrayList" "java/util/AbstractList" "modCount" "I") (by decide +kernel))) dJx4a65c_add_9ea2d_2 (hL.1) rfl ?_
  refine v_iconst hc (v := nI 1) dJx4a65c_add_9ea2d_5 (by decide) ?_
  refine v_iadd hc dJx4a65c_add_9ea2d_6 ?_
  refine v_put hc 0 (ci := 2) rfl tyJx4a65c tyJx4a65c_ok nmJx4a65c (by decide +kernel) (by decide) (by decide +kernel) (u_same (hc.1.2.2.2.2 (.sameField "java/util/ArrayList" "java/util/AbstractList" "modCount" "I") (by decide +kernel))) rfl (tyJx4a65c_ok 0 (by decide)) rfl rfl (Nat.le_of_ble_eq_true rfl) dJx4a65c_add_9ea2d_7 (hL.1) ?_
  have hL2 := hL.cnt (mo + nI 1)
  have hq2 : wup w al (.inr (2, [.int (mo + nI 1), .ref ea, .int (nI L.length)])) q0 = some (.inr (4, vs)) := (wup_n _ _ (fun z => by rw [z, hL.1] at hq0; cases hq0)).trans hq0
  first | refine v_aload_n hc (i := 0) rfl dJx4a65c_add_9ea2d_10 rfl ?_ | refine v_aload_nN hc (i := 0) rfl dJx4a65c_add_9ea2d_10 rfl ?_
  first | refine v_aload_n hc (i := 1) rfl dJx4a65c_add_9ea2d_11 rfl ?_ | refine v_aload_nN hc (i := 1) rfl dJx4a65c_add_9ea2d_11 rfl ?_
  first | refine v_aload_n hc (i := 0) rfl dJx4a65c_add_9ea2d_12 rfl ?_ | refine v_aload_nN hc (i := 0) rfl dJx4a65c_add_9ea2d_12 rfl ?_
  refine v_get hc 1 (ci := 2) rfl (by decide +kernel) (by decide) (by decide +kernel) (fun _ h => h) dJx4a65c_add_9ea2d_13 (hL2.1) rfl ?_
  first | refine v_aload_n hc (i := 0) rfl dJx4a65c_add_9ea2d_16 rfl ?_ | refine v_aload_nN hc (i := 0) rfl dJx4a65c_add_9ea2d_16 rfl ?_
  refine v_get hc 2 (ci := 2) rfl (by decide +kernel) (by decide) (by decide +kernel) (fun _ h => h) dJx4a65c_add_9ea2d_17 (hL2.1) rfl ?_
  refine v_callVv hc (c_add3 hL2 h40 hq2) (cwV 3 hc.1.2.2.2.2 gJx4a65c_add_9ea2d_Jx4a65c_add_72be8 rfl rfl rfl (by decide +kernel) ⟨Nat.le_of_ble_eq_true rfl, Nat.le_of_ble_eq_true rfl⟩) (hL2.1) rfl rfl rfl (Nat.le_of_ble_eq_true rfl) ⟨(by first | exact Nat.le_of_ble_eq_true rfl | omega | (dsimp only; omega)), (by first | exact Nat.le_of_ble_eq_true rfl | omega | (dsimp only; omega))⟩ dJx4a65c_add_9ea2d_20 (fun w' hp => ?_)
  refine v_iconst hc (v := nI 1) dJx4a65c_add_9ea2d_23 (by decide) ?_
  exact v_zret hc hr dJx4a65c_add_9ea2d_24 (by first | exact Nat.le_of_ble_eq_true rfl | omega | (dsimp only; omega)) (by first | exact Nat.le_of_ble_eq_true rfl | omega | (dsimp only; omega)) (by first | rfl | exact bI_nar _) (⟨rfl, hp.from (fun x hx => wup_n _ _ hx) (by rw [wup_s]; exact fun z => nomatch z)⟩)
set_option maxRecDepth 100000 in
set_option maxHeartbeats 4000000 in
theorem c_rcfa (hL : ALr G w al mo ea cap f L) {i : Nat} (hi : i ≤ L.length) : Met l yJx4a65c_rangeCheckForAdd_d00df wsJx4a65c_rangeCheckForAdd_d00df ({ frames := 8, cells := 0, slots := 0, locals := 120 } : Room) (Pw G A w [.ref al, .int (nI i)]) (va_Qv (fun w' => w = w') (Bw G A) A) 0 0 A := by
  refine m_of (cc := cJx4a65c_rangeCheckForAdd_d00df) (maxL := 2) (ret := none) (by decide) rfl (Nat.le_of_ble_eq_true rfl) ?_
  intro p e s m args below meth c hc hr hmn
  refine v_loc [(0, some (.ref al)), (1, some (.int (nI i)))] rfl ?_
  have h40 := hL.2.1
  refine v_iload_n hc (i := 1) rfl dJx4a65c_rangeCheckForAdd_d00df_0 rfl ?_
  first | refine v_aload_n hc (i := 0) rfl dJx4a65c_rangeCheckForAdd_d00df_1 rfl ?_ | refine v_aload_nN hc (i := 0) rfl dJx4a65c_rangeCheckForAdd_d00df_1 rfl ?_
  refine v_get hc 2 (ci := 2) rfl (by decide +kernel) (by decide) (by decide +kernel) (fun _ h => h) dJx4a65c_rangeCheckForAdd_d00df_2 (hL.1) rfl ?_
  refine v_icmp_gtN hc (tgt := 12) dJx4a65c_rangeCheckForAdd_d00df_5 (by decide) (by omega) (by omega) (fun hb => ?_) (fun hb => ?_)
  · omega
  · refine v_iload_n hc (i := 1) rfl dJx4a65c_rangeCheckForAdd_d00df_8 rfl ?_
    refine v_if_ge hc (tgt := 25) dJx4a65c_rangeCheckForAdd_d00df_9 (by decide) (fun h2 => ?_) (fun h2 => ?_)
    · exact v_vret hc hr dJx4a65c_rangeCheckForAdd_d00df_25 (by first | exact Nat.le_of_ble_eq_true rfl | omega | (dsimp only; omega)) (by first | exact Nat.le_of_ble_eq_true rfl | omega | (dsimp only; omega)) (rfl)
    · exact absurd (nI_pos' (by omega)) h2
theorem ins_get {i : Nat} (hi : i ≤ L.length) (q0 : Nat) {j : Nat} (h : j < (L.take i ++ q0 :: L.drop i).length) : (L.take i ++ q0 :: L.drop i)[j] = if j < i then L.getD j 0 else if j = i then q0 else L.getD (j - 1) 0 := by
  have hl : (L.take i).length = i := by simp [hi]
  have h' : j < L.length + 1 := by simp at h; omega
  by_cases h1 : j < i
  · rw [if_pos h1, List.getElem_append_left (by omega), List.getElem_take]
    simp [show j < L.length by omega]
  · rw [if_neg h1, List.getElem_append_right (by omega)]
    by_cases h2 : j = i
    · subst h2
      rw [if_pos rfl]
      simp [hl]
    · rw [if_neg h2]
      have h3 : j - (L.take i).length = (j - i - 1) + 1 := by omega
      simp only [h3, List.getElem_cons_succ, List.getElem_drop]
      have h4 : i + (j - i - 1) = j - 1 := by omega
      simp only [h4]
      simp [show j - 1 < L.length by omega]
set_option maxRecDepth 100000 in
set_option maxHeartbeats 4000000 in
theorem c_add2 (hL0 : ALr G w al mo ea cap f L) (h40 : L.length < 40) {q0 : Nat} {vs : List Value} (hq0 : w q0 = some (.inr (4, vs))) {i : Nat} (hi : i ≤ L.length) : Met l yJx4a65c_add_7a177 wsJx4a65c_add_7a177 ({ frames := 12, cells := 1, slots := 60, locals := 208 } : Room) (Pw G A w [.ref al, .int (nI i), .ref q0]) (va_Qv (fun w' => ALp G w w' al ea (mo + nI 1) (L.take i ++ q0 :: L.drop i)) (Bw G A) A) 1 60 A := by
  refine m_of (cc := cJx4a65c_add_7a177) (maxL := 5) (ret := none) (by decide) rfl (Nat.le_of_ble_eq_true rfl) ?_
  intro p e s m args below meth c hc hr hmn
  refine v_loc [(0, some (.ref al)), (1, some (.int (nI i))), (2, some (.ref q0))] rfl ?_
  have hca : va_Nw (.castable RX1 "java/lang/Object") s := hc.2.1.2.2.2.2.2.1 _ (by decide +kernel)
  have key : ∀ (w1 : wd) (ea1 cap1 : Nat) (f1 : Nat → Option Nat), w1 al = some (.inr (2, [.int (mo + nI 1), .ref ea1, .int (nI L.length)])) → w1 ea1 = some (aO G cap1 f1) → L.length < cap1 → cap1 ≤ 60 → (∀ j (h : j < L.length), f1 j = some L[j]) → (∀ x, x ≠ al → x ≠ ea → x ≠ ea1 → w1 x = w x) → (ea1 = ea ∨ (w ea1 = none ∧ ea1 ≠ gE G)) → (∀ x us, w x = some (.inr (4, us)) → w1 x = some (.inr (4, us))) → V p l e ({ frames := 12, cells := 1, slots := 60, locals := 208 } : Room) s m args below meth c 5 G A (MQ below (va_Qv (fun w' => ALp G w w' al ea (mo + nI 1) (L.take i ++ q0 :: L.drop i)) (Bw G A) A) args s 1 60 A) w1 1 60 38 [(0, some (.ref al)), (1, some (.int (nI i))), (2, some (.ref q0)), (3, some (.int (nI L.length))), (4, some (.ref ea1))] [] := by
    intro w1 ea1 cap1 f1 k1 k2 k3 k4 k5 k6 k7 k8
    have hne : ea1 ≠ al := fun z => by rw [z, k1] at k2; cases k2
    have hel1 : ∀ t, t < L.length - i → ∀ y, f1 (i + t) = some y → ∃ us, w1 y = some (.inr (4, us)) := fun t ht y hy => by
      rw [k5 (i + t) (by omega)] at hy
      cases hy
      obtain ⟨us, hu⟩ := hL0.2.2.1 _ (List.getElem_mem (l := L) (n := i + t) (by omega))
      exact ⟨us, k8 _ _ hu⟩
    have hq1 : w1 q0 = some (.inr (4, vs)) := k8 _ _ hq0
    first | refine v_aload hc dJx4a65c_add_7a177_38 rfl ?_ | refine v_aloadN hc dJx4a65c_add_7a177_38 rfl ?_
    refine v_iload_n hc (i := 1) rfl dJx4a65c_add_7a177_40 rfl ?_
    first | refine v_aload hc dJx4a65c_add_7a177_41 rfl ?_ | refine v_aloadN hc dJx4a65c_add_7a177_41 rfl ?_
    refine v_iload_n hc (i := 1) rfl dJx4a65c_add_7a177_43 rfl ?_
    refine v_iconst hc (v := nI 1) dJx4a65c_add_7a177_44 (by decide) ?_
    first | refine v_iaddN hc dJx4a65c_add_7a177_45 ?_ | refine v_iadd hc dJx4a65c_add_7a177_45 ?_
    refine v_iload_n hc (i := 3) rfl dJx4a65c_add_7a177_46 rfl ?_
    refine v_iload_n hc (i := 1) rfl dJx4a65c_add_7a177_47 rfl ?_
    first | refine v_isubN hc (by omega) dJx4a65c_add_7a177_48 ?_ | refine v_isub hc dJx4a65c_add_7a177_48 ?_
    refine v_copy hc (sp := i) (dp := i + 1) (nn := L.length - i) rfl rfl rfl (by omega) (by omega) (by omega) (k2) (k2) (by omega) (by omega) (hel1) (by decide +kernel) (by decide +kernel) (by decide +kernel) (by decide +kernel) (Nat.le_of_ble_eq_true rfl) (by decide +kernel) dJx4a65c_add_7a177_49 ?_
    first | refine v_aload hc dJx4a65c_add_7a177_52 rfl ?_ | refine v_aloadN hc dJx4a65c_add_7a177_52 rfl ?_
    refine v_iload_n hc (i := 1) rfl dJx4a65c_add_7a177_54 rfl ?_
    first | refine v_aload_n hc (i := 2) rfl dJx4a65c_add_7a177_55 rfl ?_ | refine v_aload_nN hc (i := 2) rfl dJx4a65c_add_7a177_55 rfl ?_
    refine v_aast hc (ci := 4) i dJx4a65c_add_7a177_56 (wup_s _ _ _) rfl (by omega) (by omega) ((wup_n _ _ (fun z => by rw [z, k2] at hq1; cases hq1)).trans hq1) rfl hca ?_
    rw [wup_up]
    first | refine v_aload_n hc (i := 0) rfl dJx4a65c_add_7a177_57 rfl ?_ | refine v_aload_nN hc (i := 0) rfl dJx4a65c_add_7a177_57 rfl ?_
    refine v_iload_n hc (i := 3) rfl dJx4a65c_add_7a177_58 rfl ?_
    refine v_iconst hc (v := nI 1) dJx4a65c_add_7a177_59 (by decide) ?_
    first | refine v_iaddN hc dJx4a65c_add_7a177_60 ?_ | refine v_iadd hc dJx4a65c_add_7a177_60 ?_
    refine v_put hc 2 (ci := 2) rfl tyJx4a65c tyJx4a65c_ok nmJx4a65c (by decide +kernel) (by decide) (by decide +kernel) (fun _ h => h) rfl (tyJx4a65c_ok 2 (by decide)) rfl rfl (Nat.le_of_ble_eq_true rfl) dJx4a65c_add_7a177_61 ((wup_n _ _ hne.symm).trans k1) ?_
    refine v_vret hc hr dJx4a65c_add_7a177_64 (Nat.le_refl _) (Nat.le_refl _) ⟨ea1, cap1, _, ALr.put hne k2 (by simp; omega) k3 k4 h40 (fun x hx => ?_) ⟨_, k1⟩ (fun j h => ?_), fun x g1 g2 g3 => ?_, k7⟩
    · have : x ∈ L ∨ x = q0 := by
        rcases List.mem_append.mp hx with hx | hx
        · exact Or.inl (List.mem_of_mem_take hx)
        · rcases List.mem_cons.mp hx with hx | hx
          · exact Or.inr hx
          · exact Or.inl (List.mem_of_mem_drop hx)
      rcases this with hx | rfl
      · obtain ⟨us, hu⟩ := hL0.2.2.1 x hx
        exact ⟨us, k8 _ _ hu⟩
      · exact ⟨vs, hq1⟩
    · rw [ins_get hi q0 h]
      have h' : j < L.length + 1 := by simp at h; omega
      by_cases h1 : j < i
      · rw [if_pos h1, up_n (by omega), pk_cpy_out (Or.inl (by omega)), k5 j (by omega)]
        simp [show j < L.length by omega]
      · rw [if_neg h1]
        by_cases h2 : j = i
        · rw [if_pos h2, h2, va_up_self]
        · rw [if_neg h2, up_n h2, pk_cpy_in (by omega) (by omega), show i + (j - (i + 1)) = j - 1 by omega, k5 (j - 1) (by omega)]
          simp [show j - 1 < L.length by omega]
    · rw [wup_n _ _ g1, wup_n _ _ g3]
      exact k6 x g1 g2 g3
  have hL := hL0.cnt (mo + nI 1)
  first | refine v_aload_n hc (i := 0) rfl dJx4a65c_add_7a177_0 rfl ?_ | refine v_aload_nN hc (i := 0) rfl dJx4a65c_add_7a177_0 rfl ?_
  refine v_iload_n hc (i := 1) rfl dJx4a65c_add_7a177_1 rfl ?_
  refine v_callVv hc (c_rcfa hL0 hi) (cwV 1 hc.1.2.2.2.2 gJx4a65c_add_7a177_Jx4a65c_rangeCheckForAdd_d00df rfl rfl rfl (by decide +kernel) ⟨Nat.le_of_ble_eq_true rfl, Nat.le_of_ble_eq_true rfl⟩) (hL0.1) rfl rfl rfl (Nat.le_of_ble_eq_true rfl) ⟨(by first | exact Nat.le_of_ble_eq_true rfl | omega | (dsimp only; omega)), (by first | exact Nat.le_of_ble_eq_true rfl | omega | (dsimp only; omega))⟩ dJx4a65c_add_7a177_2 (fun w' hp => ?_)
  subst hp
  first | refine v_aload_n hc (i := 0) rfl dJx4a65c_add_7a177_5 rfl ?_ | refine v_aload_nN hc (i := 0) rfl dJx4a65c_add_7a177_5 rfl ?_
  refine v_dup hc dJx4a65c_add_7a177_6 rfl ?_
  refine v_get hc 0 (ci := 2) rfl (by decide +kernel) (by decide) (by decide +kernel) (u_same (hc.1.2.2.2.2 (.sameField "java/util/ArrayList" "java/util/AbstractList" "modCount" "I") (by decide +kernel))) dJx4a65c_add_7a177_7 (hL0.1) rfl ?_
  refine v_iconst hc (v := nI 1) dJx4a65c_add_7a177_10 (by decide) ?_
  refine v_iadd hc dJx4a65c_add_7a177_11 ?_
  refine v_put hc 0 (ci := 2) rfl tyJx4a65c tyJx4a65c_ok nmJx4a65c (by decide +kernel) (by decide) (by decide +kernel) (u_same (hc.1.2.2.2.2 (.sameField "java/util/ArrayList" "java/util/AbstractList" "modCount" "I") (by decide +kernel))) rfl (tyJx4a65c_ok 0 (by decide)) rfl rfl (Nat.le_of_ble_eq_true rfl) dJx4a65c_add_7a177_12 (hL0.1) ?_
  have kk8 : ∀ x us, w x = some (.inr (4, us)) → wup w al (.inr (2, [.int (mo + nI 1), .ref ea, .int (nI L.length)])) x = some (.inr (4, us)) := fun x us hu => (wup_n _ _ (fun z => by rw [z, hL0.1] at hu; cases hu)).trans hu
  have hz1 : wup w al (.inr (2, [.int (mo + nI 1), .ref ea, .int (nI L.length)])) al ≠ none := by rw [wup_s]; exact fun z => nomatch z
  have hz2 : ∀ x, x ≠ al → wup w al (.inr (2, [.int (mo + nI 1), .ref ea, .int (nI L.length)])) x = w x := fun x hx => wup_n _ _ hx
  revert hL kk8 hz1 hz2
  show ∀ hL, ∀ kk8, ∀ hz1, ∀ hz2, V _ _ _ _ _ _ _ _ _ _ _ _ _ _ (wup w al (.inr (2, [.int (mo + nI 1), .ref ea, .int (nI L.length)]))) _ _ _ _ _
  generalize wup w al (.inr (2, [.int (mo + nI 1), .ref ea, .int (nI L.length)])) = w2
  intro hL kk8 hz1 hz2
  obtain ⟨h1, h2, hel, h4⟩ := id hL
  have grw : L.length = cap → V p l e ({ frames := 12, cells := 1, slots := 60, locals := 208 } : Room) s m args below meth c 5 G A (MQ below (va_Qv (fun w' => ALp G w w' al ea (mo + nI 1) (L.take i ++ q0 :: L.drop i)) (Bw G A) A) args s 1 60 A) w2 0 0 32 [(0, some (.ref al)), (1, some (.int (nI i))), (2, some (.ref q0)), (3, some (.int (nI L.length))), (4, some (.ref ea))] [] := by
    intro hfull
    first | refine v_aload_n hc (i := 0) rfl dJx4a65c_add_7a177_32 rfl ?_ | refine v_aload_nN hc (i := 0) rfl dJx4a65c_add_7a177_32 rfl ?_
    refine v_callVq hc (c_grow0 hL hfull h40) (cwV 0 hc.1.2.2.2.2 gJx4a65c_add_7a177_Jx4a65c_grow_d5877 rfl rfl rfl (by decide +kernel) ⟨Nat.le_of_ble_eq_true rfl, Nat.le_of_ble_eq_true rfl⟩) (h1) rfl rfl rfl (Nat.le_of_ble_eq_true rfl) ⟨(by first | exact Nat.le_of_ble_eq_true rfl | omega | (dsimp only; omega)), (by first | exact Nat.le_of_ble_eq_true rfl | omega | (dsimp only; omega))⟩ dJx4a65c_add_7a177_33 (fun r w' hp => ?_)
    obtain ⟨q, cap', f', hq, hqE, rfl, rfl, g1, g2, g3⟩ := hp
    have hqa : q ≠ al := fun z => by rw [← z, hq] at h1; cases h1
    first | refine v_astore hc dJx4a65c_add_7a177_36 (by decide) rfl ?_ | refine v_astoreN hc dJx4a65c_add_7a177_36 (by decide) rfl ?_
    refine v_loc [(0, some (.ref al)), (1, some (.int (nI i))), (2, some (.ref q0)), (3, some (.int (nI L.length))), (4, some (.ref q))] rfl (key _ q cap' f' (wup_s _ _ _) ((wup_n _ _ hqa).trans (wup_s _ _ _)) g1 g2 g3 (fun x a1 a2 a3 => by rw [wup_n _ _ a1, wup_n _ _ a3]; exact hz2 x a1) (Or.inr ⟨by rw [← hz2 q hqa]; exact hq, hqE⟩) (fun x us hu => ?_))
    have hu2 := kk8 x us hu
    rw [wup_n _ _ (fun z => by rw [z, h1] at hu2; cases hu2), wup_n _ _ (fun z => by rw [z, hq] at hu2; cases hu2)]
    exact hu2
  rcases h4 with ⟨rfl, rfl, rfl⟩ | ⟨h4, h5, h6, h7, h8⟩
  · first | refine v_aload_n hc (i := 0) rfl dJx4a65c_add_7a177_15 rfl ?_ | refine v_aload_nN hc (i := 0) rfl dJx4a65c_add_7a177_15 rfl ?_
    refine v_get hc 2 (ci := 2) rfl (by decide +kernel) (by decide) (by decide +kernel) (fun _ h => h) dJx4a65c_add_7a177_16 (h1) rfl ?_
    refine v_dup hc dJx4a65c_add_7a177_19 rfl ?_
    refine v_istore_n hc (i := 3) rfl dJx4a65c_add_7a177_20 (by decide) rfl ?_
    first | refine v_aload_n hc (i := 0) rfl dJx4a65c_add_7a177_21 rfl ?_ | refine v_aload_nN hc (i := 0) rfl dJx4a65c_add_7a177_21 rfl ?_
    refine v_get hc 1 (ci := 2) rfl (by decide +kernel) (by decide) (by decide +kernel) (fun _ h => h) dJx4a65c_add_7a177_22 (h1) rfl ?_
    refine v_dup hc dJx4a65c_add_7a177_25 rfl ?_
    first | refine v_astore hc dJx4a65c_add_7a177_26 (by decide) rfl ?_ | refine v_astoreN hc dJx4a65c_add_7a177_26 (by decide) rfl ?_
    refine v_alenE hc dJx4a65c_add_7a177_28 ?_
    refine v_icmp_neN hc (tgt := 38) dJx4a65c_add_7a177_29 (by decide) (by omega) (by omega) (fun hb => ?_) (fun hb => ?_)
    · exact absurd rfl hb
    · exact v_loc _ rfl (grw rfl)
  · first | refine v_aload_n hc (i := 0) rfl dJx4a65c_add_7a177_15 rfl ?_ | refine v_aload_nN hc (i := 0) rfl dJx4a65c_add_7a177_15 rfl ?_
    refine v_get hc 2 (ci := 2) rfl (by decide +kernel) (by decide) (by decide +kernel) (fun _ h => h) dJx4a65c_add_7a177_16 (h1) rfl ?_
    refine v_dup hc dJx4a65c_add_7a177_19 rfl ?_
    refine v_istore_n hc (i := 3) rfl dJx4a65c_add_7a177_20 (by decide) rfl ?_
    first | refine v_aload_n hc (i := 0) rfl dJx4a65c_add_7a177_21 rfl ?_ | refine v_aload_nN hc (i := 0) rfl dJx4a65c_add_7a177_21 rfl ?_
    refine v_get hc 1 (ci := 2) rfl (by decide +kernel) (by decide) (by decide +kernel) (fun _ h => h) dJx4a65c_add_7a177_22 (h1) rfl ?_
    refine v_dup hc dJx4a65c_add_7a177_25 rfl ?_
    first | refine v_astore hc dJx4a65c_add_7a177_26 (by decide) rfl ?_ | refine v_astoreN hc dJx4a65c_add_7a177_26 (by decide) rfl ?_
    refine v_alen hc (t0 := 3) (x := (cap, .inr (.inr (.inr (.inr f))))) dJx4a65c_add_7a177_28 h4 rfl ?_
    dsimp only
    refine v_icmp_neN hc (tgt := 38) dJx4a65c_add_7a177_29 (by decide) (by omega) (by omega) (fun hb => ?_) (fun hb => ?_)
    · exact v_widen (Nat.zero_le _) (Nat.zero_le _) (v_loc _ rfl (key w2 ea cap f h1 h4 (by omega) h7 h8 (fun x a1 _ _ => hz2 x a1) (Or.inl rfl) kk8))
    · exact v_loc _ rfl (grw hb)
set_option maxRecDepth 100000 in
set_option maxHeartbeats 4000000 in
theorem c_clear (hL : ALr G w al mo ea cap f L) : Met l yJx4a65c_clear_da8c8 wsJx4a65c_clear_da8c8 ({ frames := 8, cells := 0, slots := 0, locals := 120 } : Room) (Pw G A w [.ref al]) (va_Qv (fun w' => ALp G w w' al ea (mo + nI 1) []) (Bw G A) A) 0 0 A := by
  refine m_of (cc := cJx4a65c_clear_da8c8) (maxL := 4) (ret := none) (by decide) rfl (Nat.le_of_ble_eq_true rfl) ?_
  intro p e s m args below meth c hc hr hmn
  refine v_loc [(0, some (.ref al))] rfl ?_
  obtain ⟨h1, h2, hel, h4⟩ := id hL
  first | refine v_aload_n hc (i := 0) rfl dJx4a65c_clear_da8c8_0 rfl ?_ | refine v_aload_nN hc (i := 0) rfl dJx4a65c_clear_da8c8_0 rfl ?_
  refine v_dup hc dJx4a65c_clear_da8c8_1 rfl ?_
  refine v_get hc 0 (ci := 2) rfl (by decide +kernel) (by decide) (by decide +kernel) (u_same (hc.1.2.2.2.2 (.sameField "java/util/ArrayList" "java/util/AbstractList" "modCount" "I") (by decide +kernel))) dJx4a65c_clear_da8c8_2 (h1) rfl ?_
  refine v_iconst hc (v := nI 1) dJx4a65c_clear_da8c8_5 (by decide) ?_
  refine v_iadd hc dJx4a65c_clear_da8c8_6 ?_
  refine v_put hc 0 (ci := 2) rfl tyJx4a65c tyJx4a65c_ok nmJx4a65c (by decide +kernel) (by decide) (by decide +kernel) (u_same (hc.1.2.2.2.2 (.sameField "java/util/ArrayList" "java/util/AbstractList" "modCount" "I") (by decide +kernel))) rfl (tyJx4a65c_ok 0 (by decide)) rfl rfl (Nat.le_of_ble_eq_true rfl) dJx4a65c_clear_da8c8_7 (h1) ?_
  first | refine v_aload_n hc (i := 0) rfl dJx4a65c_clear_da8c8_10 rfl ?_ | refine v_aload_nN hc (i := 0) rfl dJx4a65c_clear_da8c8_10 rfl ?_
  refine v_get hc 1 (ci := 2) rfl (by decide +kernel) (by decide) (by decide +kernel) (fun _ h => h) dJx4a65c_clear_da8c8_11 (wup_s _ _ _) rfl ?_
  first | refine v_astore_n hc (i := 1) rfl dJx4a65c_clear_da8c8_14 (by decide) rfl ?_ | refine v_astore_nN hc (i := 1) rfl dJx4a65c_clear_da8c8_14 (by decide) rfl ?_
  first | refine v_aload_n hc (i := 0) rfl dJx4a65c_clear_da8c8_15 rfl ?_ | refine v_aload_nN hc (i := 0) rfl dJx4a65c_clear_da8c8_15 rfl ?_
  refine v_get hc 2 (ci := 2) rfl (by decide +kernel) (by decide) (by decide +kernel) (fun _ h => h) dJx4a65c_clear_da8c8_16 (wup_s _ _ _) rfl ?_
  refine v_istore_n hc (i := 2) rfl dJx4a65c_clear_da8c8_19 (by decide) rfl ?_
  first | refine v_aload_n hc (i := 0) rfl dJx4a65c_clear_da8c8_20 rfl ?_ | refine v_aload_nN hc (i := 0) rfl dJx4a65c_clear_da8c8_20 rfl ?_
  refine v_iconst hc (v := nI 0) dJx4a65c_clear_da8c8_21 (by decide) ?_
  refine v_dup_x1 hc dJx4a65c_clear_da8c8_22 rfl rfl ?_
  refine v_put hc 2 (ci := 2) rfl tyJx4a65c tyJx4a65c_ok nmJx4a65c (by decide +kernel) (by decide) (by decide +kernel) (fun _ h => h) rfl (tyJx4a65c_ok 2 (by decide)) rfl rfl (Nat.le_of_ble_eq_true rfl) dJx4a65c_clear_da8c8_23 (wup_s _ _ _) ?_
  rw [wup_up]
  refine v_istore_n hc (i := 3) rfl dJx4a65c_clear_da8c8_26 (by decide) rfl ?_
  rcases h4 with ⟨rfl, rfl, rfl⟩ | ⟨h4, h5, h6, h7, h8⟩
  · refine v_iload_n hc (i := 3) rfl dJx4a65c_clear_da8c8_27 rfl ?_
    refine v_iload_n hc (i := 2) rfl dJx4a65c_clear_da8c8_28 rfl ?_
    refine v_icmp_geN hc (tgt := 42) dJx4a65c_clear_da8c8_29 (by decide) (by omega) (by omega) (fun hb => ?_) (fun hb => ?_)
    · exact v_vret hc hr dJx4a65c_clear_da8c8_42 (by first | exact Nat.le_of_ble_eq_true rfl | omega | (dsimp only; omega)) (by first | exact Nat.le_of_ble_eq_true rfl | omega | (dsimp only; omega)) (⟨gE G, 0, f, ⟨wup_s _ _ _, by decide, fun x hx => (nomatch hx), Or.inl ⟨rfl, rfl, rfl⟩⟩, fun x a1 a2 a3 => wup_n _ _ a1, Or.inl rfl⟩)
    · exact absurd hb (by decide)
  · have hne : ea ≠ al := fun z => by rw [z, h1] at h4; cases h4
    refine v_loop (σ := Nat × wd × (Nat → Option Nat)) (fun a => a.1 ≤ L.length ∧ a.2.1 al = some (.inr (2, [.int (mo + nI 1), .ref ea, .int (nI 0)])) ∧ a.2.1 ea = some (aO G cap a.2.2) ∧ ∀ x, x ≠ al → x ≠ ea → a.2.1 x = w x) (fun a => L.length - a.1) (fun a => a.2.1) (fun _ => 0) (fun _ => 0) (fun a => [(1, some (.ref ea)), (2, some (.int (nI L.length))), (3, some (.int (nI a.1)))]) (0, _, f) rfl ⟨Nat.zero_le _, wup_s _ _ _, (wup_n _ _ hne).trans h4, fun x a1 _ => wup_n _ _ a1⟩ ?_
    rintro ⟨i, w1, f1⟩ ⟨hi, k1, k2, k3⟩ ih
    dsimp only at hi k1 k2 k3 ih ⊢
    refine v_iload_n hc (i := 3) rfl dJx4a65c_clear_da8c8_27 rfl ?_
    refine v_iload_n hc (i := 2) rfl dJx4a65c_clear_da8c8_28 rfl ?_
    refine v_icmp_geN hc (tgt := 42) dJx4a65c_clear_da8c8_29 (by decide) (by omega) (by omega) (fun hb => ?_) (fun hb => ?_)
    · exact v_vret hc hr dJx4a65c_clear_da8c8_42 (by first | exact Nat.le_of_ble_eq_true rfl | omega | (dsimp only; omega)) (by first | exact Nat.le_of_ble_eq_true rfl | omega | (dsimp only; omega)) (⟨ea, cap, f1, ⟨k1, by decide, fun x hx => (nomatch hx), Or.inr ⟨k2, Nat.zero_le _, h6, h7, fun j h => absurd h (Nat.not_lt_zero _)⟩⟩, fun x a1 a2 a3 => k3 x a1 a2, Or.inl rfl⟩)
    · first | refine v_aload_n hc (i := 1) rfl dJx4a65c_clear_da8c8_32 rfl ?_ | refine v_aload_nN hc (i := 1) rfl dJx4a65c_clear_da8c8_32 rfl ?_
      refine v_iload_n hc (i := 3) rfl dJx4a65c_clear_da8c8_33 rfl ?_
      refine v_null hc dJx4a65c_clear_da8c8_34 ?_
      refine v_aastN hc i dJx4a65c_clear_da8c8_35 k2 rfl (by omega) (by omega) ?_
      first | refine v_iinc1 hc dJx4a65c_clear_da8c8_36 rfl (by decide) rfl ?_ | refine v_iinc hc dJx4a65c_clear_da8c8_36 rfl rfl (by decide) rfl ?_
      refine v_goto hc (tgt := 27) dJx4a65c_clear_da8c8_39 (by decide) ?_
      exact ih (i + 1, wup w1 ea (aO G cap (va_up f1 i none)), va_up f1 i none) _ rfl ⟨hb, (wup_n _ _ hne.symm).trans k1, wup_s _ _ _, fun x a1 a2 => (wup_n _ _ a2).trans (k3 x a1 a2)⟩ (by dsimp only; omega)
end LST

