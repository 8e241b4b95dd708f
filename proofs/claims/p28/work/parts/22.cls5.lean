/-! ===== the class: the orders that a pack lays ===== -/
def k3 (w w' : wd) : Prop := ∀ x vs, w x = some (.inr (3, vs)) → w' x = some (.inr (3, vs))
theorem k3.rfl' {w : wd} : k3 w w := fun _ _ h => h
theorem k3.tr {w w' w'' : wd} (h : k3 w w') (h' : k3 w' w'') : k3 w w'' := fun x vs hx => h' x vs (h x vs hx)
theorem i32_nlt {a b : Int32} (h : ¬ b ≤ a) : a < b := by rw [Int32.le_iff_toInt_le] at h; rw [Int32.lt_iff_toInt_lt]; omega
section CL5
variable {l : Launch} {G : cG} {A : Nat → Prop} {w : wd} {px pI pO pX n : Nat} {ia : Nat → Nat} {nm : Nat → Int32} {ct : Nat → Int64} {lv lo : Nat → Bool} {fa fb : Nat → Option Nat} {fm : Nat → Option Frm} {O X : List Nat} {cp ru : Int32}
theorem FW.k3 {w' : wd} (h : k3 w w') (hF : FW w n ia fa fm) : FW w' n ia fa fm := hF.kp h
theorem PC.opO (hP : PC G w px pI pO pX n ia nm ct lv lo fa fb O X cp ru) : ∃ mo ea cap f, ALr G w pO mo ea cap f (O.map ia) ∧ ∀ w' mo' O', w (gE G) = none → ALp G w w' pO ea mo' (O'.map ia) → (∀ i ∈ O', i < n) → PC G w' px pI pO pX n ia nm ct lv lo fa fb O' X cp ru ∧ k3 w w' := by
  obtain ⟨vs, haO⟩ := hP.alO
  obtain ⟨mo, ea, cap, f, h1, hop⟩ := hP.2.2.1.opO
  refine ⟨mo, ea, cap, f, h1, fun w' mo' O' hE hp hO' => ?_⟩
  obtain ⟨hL, hobj⟩ := hop w' mo' (O'.map ia) hE hp
  refine ⟨⟨hobj _ _ _ (fun z => ?_) hP.1, fun i hi => hobj _ _ _ (fun z => ?_) (hP.2.1 i hi), hL, hO', hP.2.2.2.2⟩, fun x vs' hx => hobj _ _ _ (fun z => ?_) hx⟩
  · have h9 := hP.1; rw [z, haO] at h9; cases h9
  · have h9 := hP.2.1 i hi; rw [z, haO] at h9; cases h9
  · rw [z, haO] at hx; cases hx
theorem PC.opX (hP : PC G w px pI pO pX n ia nm ct lv lo fa fb O X cp ru) : ∃ mo ea cap f, ALr G w pX mo ea cap f (X.map ia) ∧ ∀ w' mo' X', w (gE G) = none → ALp G w w' pX ea mo' (X'.map ia) → (∀ i ∈ X', i < n) → PC G w' px pI pO pX n ia nm ct lv lo fa fb O X' cp ru ∧ k3 w w' := by
  obtain ⟨vs, haX⟩ := hP.alX
  obtain ⟨mo, ea, cap, f, h1, hop⟩ := hP.2.2.1.opX
  refine ⟨mo, ea, cap, f, h1, fun w' mo' X' hE hp hX' => ?_⟩
  obtain ⟨hL, hobj⟩ := hop w' mo' (X'.map ia) hE hp
  refine ⟨⟨hobj _ _ _ (fun z => ?_) hP.1, fun i hi => hobj _ _ _ (fun z => ?_) (hP.2.1 i hi), hL, hP.2.2.2.1, hX'⟩, fun x vs' hx => hobj _ _ _ (fun z => ?_) hx⟩
  · have h9 := hP.1; rw [z, haX] at h9; cases h9
  · have h9 := hP.2.1 i hi; rw [z, haX] at h9; cases h9
  · rw [z, haX] at hx; cases hx
set_option maxRecDepth 100000 in
set_option maxHeartbeats 4000000 in
theorem c_X3_isPackedAhead (hI : IW w n ia nm ct lv lo fa fb) {i j : Nat} (hi : i < n) (hj : j < n) (hn : n ≤ 40) : Met l yX3_isPackedAhead wsX3_isPackedAhead ({ frames := 8, cells := 0, slots := 0, locals := 120 } : Room) (Pw G A w [.ref (ia i), .ref (ia j)]) (va_Qi (fun r w' => w = w' ∧ r = bI (ahd nm ct i j)) (Bw G A) A) 0 0 A := by
  refine m_of (cc := cX3_isPackedAhead) (maxL := 2) (ret := (some .boolean)) (by decide) rfl (Nat.le_of_ble_eq_true rfl) ?_
  intro p e s m args below meth c hc hr hmn
  refine v_loc [(0, some (.ref (ia i))), (1, some (.ref (ia j)))] rfl ?_
  have hA : hxn (xN (ct i)) ≤ 16 := hxl_le 16 _
  have hB : hxn (xN (ct j)) ≤ 16 := hxl_le 16 _
  first | refine v_aload_n hc (i := 0) rfl dX3_isPackedAhead_0 rfl ?_ | refine v_aload_nN hc (i := 0) rfl dX3_isPackedAhead_0 rfl ?_
  refine v_get hc 1 (ci := 4) rfl (by decide +kernel) (by decide) (by decide +kernel) (fun _ h => h) dX3_isPackedAhead_1 (hI i hi) rfl ?_
  first | refine v_aload_n hc (i := 1) rfl dX3_isPackedAhead_4 rfl ?_ | refine v_aload_nN hc (i := 1) rfl dX3_isPackedAhead_4 rfl ?_
  refine v_get hc 1 (ci := 4) rfl (by decide +kernel) (by decide) (by decide +kernel) (fun _ h => h) dX3_isPackedAhead_5 (hI j hj) rfl ?_
  refine v_icmp_eq hc (tgt := 28) dX3_isPackedAhead_8 (by decide) (fun h1 => ?_) (fun h1 => ?_)
  · first | refine v_aload_n hc (i := 0) rfl dX3_isPackedAhead_28 rfl ?_ | refine v_aload_nN hc (i := 0) rfl dX3_isPackedAhead_28 rfl ?_
    refine v_get hc 3 (ci := 4) rfl (by decide +kernel) (by decide) (by decide +kernel) (fun _ h => h) dX3_isPackedAhead_29 (hI i hi) rfl ?_
    first | refine v_aload_n hc (i := 1) rfl dX3_isPackedAhead_32 rfl ?_ | refine v_aload_nN hc (i := 1) rfl dX3_isPackedAhead_32 rfl ?_
    refine v_get hc 3 (ci := 4) rfl (by decide +kernel) (by decide) (by decide +kernel) (fun _ h => h) dX3_isPackedAhead_33 (hI j hj) rfl ?_
    refine v_icmp_eqN hc (tgt := 56) dX3_isPackedAhead_36 (by decide) (by omega) (by omega) (fun h2 => ?_) (fun h2 => ?_)
    · first | refine v_aload_n hc (i := 0) rfl dX3_isPackedAhead_56 rfl ?_ | refine v_aload_nN hc (i := 0) rfl dX3_isPackedAhead_56 rfl ?_
      refine v_get hc 0 (ci := 4) rfl (by decide +kernel) (by decide) (by decide +kernel) (fun _ h => h) dX3_isPackedAhead_57 (hI i hi) rfl ?_
      first | refine v_aload_n hc (i := 1) rfl dX3_isPackedAhead_60 rfl ?_ | refine v_aload_nN hc (i := 1) rfl dX3_isPackedAhead_60 rfl ?_
      refine v_get hc 0 (ci := 4) rfl (by decide +kernel) (by decide) (by decide +kernel) (fun _ h => h) dX3_isPackedAhead_61 (hI j hj) rfl ?_
      refine v_icmp_geN hc (tgt := 71) dX3_isPackedAhead_64 (by decide) (by omega) (by omega) (fun h3 => ?_) (fun h3 => ?_)
      · refine v_iconst hc (v := nI 0) dX3_isPackedAhead_71 (by decide) ?_
        exact v_zret hc hr dX3_isPackedAhead_72 (by first | exact Nat.le_of_ble_eq_true rfl | omega | (dsimp only; omega)) (by first | exact Nat.le_of_ble_eq_true rfl | omega | (dsimp only; omega)) (by first | rfl | exact bI_nar _) (⟨rfl, by unfold ahd; rw [if_pos h1, if_pos h2, decide_eq_false (by omega)]; rfl⟩)
      · refine v_iconst hc (v := nI 1) dX3_isPackedAhead_67 (by decide) ?_
        refine v_goto hc (tgt := 72) dX3_isPackedAhead_68 (by decide) ?_
        exact v_zret hc hr dX3_isPackedAhead_72 (by first | exact Nat.le_of_ble_eq_true rfl | omega | (dsimp only; omega)) (by first | exact Nat.le_of_ble_eq_true rfl | omega | (dsimp only; omega)) (by first | rfl | exact bI_nar _) (⟨rfl, by unfold ahd; rw [if_pos h1, if_pos h2, decide_eq_true (by omega)]; rfl⟩)
    · first | refine v_aload_n hc (i := 0) rfl dX3_isPackedAhead_39 rfl ?_ | refine v_aload_nN hc (i := 0) rfl dX3_isPackedAhead_39 rfl ?_
      refine v_get hc 3 (ci := 4) rfl (by decide +kernel) (by decide) (by decide +kernel) (fun _ h => h) dX3_isPackedAhead_40 (hI i hi) rfl ?_
      first | refine v_aload_n hc (i := 1) rfl dX3_isPackedAhead_43 rfl ?_ | refine v_aload_nN hc (i := 1) rfl dX3_isPackedAhead_43 rfl ?_
      refine v_get hc 3 (ci := 4) rfl (by decide +kernel) (by decide) (by decide +kernel) (fun _ h => h) dX3_isPackedAhead_44 (hI j hj) rfl ?_
      refine v_icmp_leN hc (tgt := 54) dX3_isPackedAhead_47 (by decide) (by omega) (by omega) (fun h3 => ?_) (fun h3 => ?_)
      · refine v_iconst hc (v := nI 0) dX3_isPackedAhead_54 (by decide) ?_
        exact v_zret hc hr dX3_isPackedAhead_55 (by first | exact Nat.le_of_ble_eq_true rfl | omega | (dsimp only; omega)) (by first | exact Nat.le_of_ble_eq_true rfl | omega | (dsimp only; omega)) (by first | rfl | exact bI_nar _) (⟨rfl, by unfold ahd; rw [if_pos h1, if_neg h2, decide_eq_false (by omega)]; rfl⟩)
      · refine v_iconst hc (v := nI 1) dX3_isPackedAhead_50 (by decide) ?_
        refine v_goto hc (tgt := 55) dX3_isPackedAhead_51 (by decide) ?_
        exact v_zret hc hr dX3_isPackedAhead_55 (by first | exact Nat.le_of_ble_eq_true rfl | omega | (dsimp only; omega)) (by first | exact Nat.le_of_ble_eq_true rfl | omega | (dsimp only; omega)) (by first | rfl | exact bI_nar _) (⟨rfl, by unfold ahd; rw [if_pos h1, if_neg h2, decide_eq_true (by omega)]; rfl⟩)
  · first | refine v_aload_n hc (i := 0) rfl dX3_isPackedAhead_11 rfl ?_ | refine v_aload_nN hc (i := 0) rfl dX3_isPackedAhead_11 rfl ?_
    refine v_get hc 1 (ci := 4) rfl (by decide +kernel) (by decide) (by decide +kernel) (fun _ h => h) dX3_isPackedAhead_12 (hI i hi) rfl ?_
    first | refine v_aload_n hc (i := 1) rfl dX3_isPackedAhead_15 rfl ?_ | refine v_aload_nN hc (i := 1) rfl dX3_isPackedAhead_15 rfl ?_
    refine v_get hc 1 (ci := 4) rfl (by decide +kernel) (by decide) (by decide +kernel) (fun _ h => h) dX3_isPackedAhead_16 (hI j hj) rfl ?_
    refine v_icmp_ge hc (tgt := 26) dX3_isPackedAhead_19 (by decide) (fun h3 => ?_) (fun h3 => ?_)
    · refine v_iconst hc (v := nI 0) dX3_isPackedAhead_26 (by decide) ?_
      exact v_zret hc hr dX3_isPackedAhead_27 (by first | exact Nat.le_of_ble_eq_true rfl | omega | (dsimp only; omega)) (by first | exact Nat.le_of_ble_eq_true rfl | omega | (dsimp only; omega)) (by first | rfl | exact bI_nar _) (⟨rfl, by unfold ahd; rw [if_neg h1, decide_eq_false (fun z => i32_nle z h3)]; rfl⟩)
    · refine v_iconst hc (v := nI 1) dX3_isPackedAhead_22 (by decide) ?_
      refine v_goto hc (tgt := 27) dX3_isPackedAhead_23 (by decide) ?_
      exact v_zret hc hr dX3_isPackedAhead_27 (by first | exact Nat.le_of_ble_eq_true rfl | omega | (dsimp only; omega)) (by first | exact Nat.le_of_ble_eq_true rfl | omega | (dsimp only; omega)) (by first | rfl | exact bI_nar _) (⟨rfl, by unfold ahd; rw [if_neg h1, decide_eq_true (i32_nlt h3)]; rfl⟩)
set_option maxRecDepth 100000 in
set_option maxHeartbeats 4000000 in
theorem c_X3_isIndexedAhead (hI : IW w n ia nm ct lv lo fa fb) {i j : Nat} (hi : i < n) (hj : j < n) (hn : n ≤ 40) : Met l yX3_isIndexedAhead wsX3_isIndexedAhead ({ frames := 8, cells := 0, slots := 0, locals := 120 } : Room) (Pw G A w [.ref (ia i), .ref (ia j)]) (va_Qi (fun r w' => w = w' ∧ r = bI (ihd ct i j)) (Bw G A) A) 0 0 A := by
  refine m_of (cc := cX3_isIndexedAhead) (maxL := 2) (ret := (some .boolean)) (by decide) rfl (Nat.le_of_ble_eq_true rfl) ?_
  intro p e s m args below meth c hc hr hmn
  refine v_loc [(0, some (.ref (ia i))), (1, some (.ref (ia j)))] rfl ?_
  have hA : hsh (xN (ct i)) < 4096 := hsh_lt _
  have hB : hsh (xN (ct j)) < 4096 := hsh_lt _
  first | refine v_aload_n hc (i := 0) rfl dX3_isIndexedAhead_0 rfl ?_ | refine v_aload_nN hc (i := 0) rfl dX3_isIndexedAhead_0 rfl ?_
  refine v_get hc 4 (ci := 4) rfl (by decide +kernel) (by decide) (by decide +kernel) (fun _ h => h) dX3_isIndexedAhead_1 (hI i hi) rfl ?_
  first | refine v_aload_n hc (i := 1) rfl dX3_isIndexedAhead_4 rfl ?_ | refine v_aload_nN hc (i := 1) rfl dX3_isIndexedAhead_4 rfl ?_
  refine v_get hc 4 (ci := 4) rfl (by decide +kernel) (by decide) (by decide +kernel) (fun _ h => h) dX3_isIndexedAhead_5 (hI j hj) rfl ?_
  refine v_icmp_eqN hc (tgt := 28) dX3_isIndexedAhead_8 (by decide) (by omega) (by omega) (fun h1 => ?_) (fun h1 => ?_)
  · first | refine v_aload_n hc (i := 0) rfl dX3_isIndexedAhead_28 rfl ?_ | refine v_aload_nN hc (i := 0) rfl dX3_isIndexedAhead_28 rfl ?_
    refine v_get hc 0 (ci := 4) rfl (by decide +kernel) (by decide) (by decide +kernel) (fun _ h => h) dX3_isIndexedAhead_29 (hI i hi) rfl ?_
    first | refine v_aload_n hc (i := 1) rfl dX3_isIndexedAhead_32 rfl ?_ | refine v_aload_nN hc (i := 1) rfl dX3_isIndexedAhead_32 rfl ?_
    refine v_get hc 0 (ci := 4) rfl (by decide +kernel) (by decide) (by decide +kernel) (fun _ h => h) dX3_isIndexedAhead_33 (hI j hj) rfl ?_
    refine v_icmp_geN hc (tgt := 43) dX3_isIndexedAhead_36 (by decide) (by omega) (by omega) (fun h3 => ?_) (fun h3 => ?_)
    · refine v_iconst hc (v := nI 0) dX3_isIndexedAhead_43 (by decide) ?_
      exact v_zret hc hr dX3_isIndexedAhead_44 (by first | exact Nat.le_of_ble_eq_true rfl | omega | (dsimp only; omega)) (by first | exact Nat.le_of_ble_eq_true rfl | omega | (dsimp only; omega)) (by first | rfl | exact bI_nar _) (⟨rfl, by unfold ihd; rw [if_pos (show hso ct i = hso ct j from h1), decide_eq_false (by omega)]; rfl⟩)
    · refine v_iconst hc (v := nI 1) dX3_isIndexedAhead_39 (by decide) ?_
      refine v_goto hc (tgt := 44) dX3_isIndexedAhead_40 (by decide) ?_
      exact v_zret hc hr dX3_isIndexedAhead_44 (by first | exact Nat.le_of_ble_eq_true rfl | omega | (dsimp only; omega)) (by first | exact Nat.le_of_ble_eq_true rfl | omega | (dsimp only; omega)) (by first | rfl | exact bI_nar _) (⟨rfl, by unfold ihd; rw [if_pos (show hso ct i = hso ct j from h1), decide_eq_true (by omega)]; rfl⟩)
  · first | refine v_aload_n hc (i := 0) rfl dX3_isIndexedAhead_11 rfl ?_ | refine v_aload_nN hc (i := 0) rfl dX3_isIndexedAhead_11 rfl ?_
    refine v_get hc 4 (ci := 4) rfl (by decide +kernel) (by decide) (by decide +kernel) (fun _ h => h) dX3_isIndexedAhead_12 (hI i hi) rfl ?_
    first | refine v_aload_n hc (i := 1) rfl dX3_isIndexedAhead_15 rfl ?_ | refine v_aload_nN hc (i := 1) rfl dX3_isIndexedAhead_15 rfl ?_
    refine v_get hc 4 (ci := 4) rfl (by decide +kernel) (by decide) (by decide +kernel) (fun _ h => h) dX3_isIndexedAhead_16 (hI j hj) rfl ?_
    refine v_icmp_geN hc (tgt := 26) dX3_isIndexedAhead_19 (by decide) (by omega) (by omega) (fun h3 => ?_) (fun h3 => ?_)
    · refine v_iconst hc (v := nI 0) dX3_isIndexedAhead_26 (by decide) ?_
      exact v_zret hc hr dX3_isIndexedAhead_27 (by first | exact Nat.le_of_ble_eq_true rfl | omega | (dsimp only; omega)) (by first | exact Nat.le_of_ble_eq_true rfl | omega | (dsimp only; omega)) (by first | rfl | exact bI_nar _) (⟨rfl, by unfold ihd; rw [if_neg (show ¬ hso ct i = hso ct j from h1), decide_eq_false (show ¬ hso ct i < hso ct j from Nat.not_lt.mpr h3)]; rfl⟩)
    · refine v_iconst hc (v := nI 1) dX3_isIndexedAhead_22 (by decide) ?_
      refine v_goto hc (tgt := 27) dX3_isIndexedAhead_23 (by decide) ?_
      exact v_zret hc hr dX3_isIndexedAhead_27 (by first | exact Nat.le_of_ble_eq_true rfl | omega | (dsimp only; omega)) (by first | exact Nat.le_of_ble_eq_true rfl | omega | (dsimp only; omega)) (by first | rfl | exact bI_nar _) (⟨rfl, by unfold ihd; rw [if_neg (show ¬ hso ct i = hso ct j from h1), decide_eq_true (show hso ct i < hso ct j from h3)]; rfl⟩)
theorem map_ins {L : List Nat} {x i : Nat} : (L.map ia).take i ++ ia x :: (L.map ia).drop i = (L.take i ++ x :: L.drop i).map ia := by rw [List.map_append, List.map_cons, List.map_take, List.map_drop]
theorem ins_mem {L : List Nat} {x i : Nat} {P : Nat → Prop} (h : ∀ j ∈ L, P j) (hx : P x) : ∀ j ∈ L.take i ++ x :: L.drop i, P j := by
  intro j hj
  rcases List.mem_append.mp hj with hj | hj
  · exact h j (List.mem_of_mem_take hj)
  · rcases List.mem_cons.mp hj with rfl | hj
    · exact hx
    · exact h j (List.mem_of_mem_drop hj)
set_option maxRecDepth 100000 in
set_option maxHeartbeats 4000000 in
theorem c_X3_insertInOrder (hP : PC G w px pI pO pX n ia nm ct lv lo fa fb O X cp ru) {q : Nat → Prop} (hS : srtd (ahd nm ct) q O) {x : Nat} (hx : x < n) (hnq : ¬ q x) : Met l yX3_insertInOrder wsX3_insertInOrder ({ frames := 13, cells := 1, slots := 60, locals := 232 } : Room) (Pw G A w [.ref px, .ref (ia x)]) (va_Qv (fun w' => ∃ O', srtd (ahd nm ct) (fun i => q i ∨ i = x) O' ∧ PC G w' px pI pO pX n ia nm ct lv lo fa fb O' X cp ru ∧ k3 w w') (Bw G A) A) 1 60 A := by
  refine m_of (cc := cX3_insertInOrder) (maxL := 3) (ret := none) (by decide) rfl (Nat.le_of_ble_eq_true rfl) ?_
  intro p e s m args below meth c hc hr hmn
  refine v_loc [(0, some (.ref px)), (1, some (.ref (ia x)))] rfl ?_
  obtain ⟨vs, haO⟩ := hP.alO
  have hn := hP.n40
  have hso := so_ahd nm ct
  have hxO : x ∉ O := fun h => hnq ((hS.2 x).mp h)
  have hlen : O.length + 1 ≤ n := nd_len (n := n) (L := x :: O) (List.nodup_cons.mpr ⟨hxO, hS.nodup hso⟩) (fun i hi => by
    rcases List.mem_cons.mp hi with rfl | hi
    · exact hx
    · exact hP.2.2.2.1 i hi)
  refine v_iconst hc (v := nI 0) dX3_insertInOrder_0 (by decide) ?_
  refine v_istore_n hc (i := 2) rfl dX3_insertInOrder_1 (by decide) rfl ?_
  refine v_loop (σ := Nat) (fun i => i ≤ O.length ∧ ∀ y ∈ O.take i, ahd nm ct y x = true) (fun i => O.length - i) (fun _ => w) (fun _ => 0) (fun _ => 0) (fun i => [(0, some (.ref px)), (1, some (.ref (ia x))), (2, some (.int (nI i)))]) 0 rfl ⟨Nat.zero_le _, fun y hy => by rw [List.take_zero] at hy; cases hy⟩ ?_
  rintro i ⟨hi, hi1⟩ ih
  refine v_iload_n hc (i := 2) rfl dX3_insertInOrder_2 rfl ?_
  first | refine v_aload_n hc (i := 0) rfl dX3_insertInOrder_3 rfl ?_ | refine v_aload_nN hc (i := 0) rfl dX3_insertInOrder_3 rfl ?_
  refine v_get hc 1 (ci := 6) rfl (by decide +kernel) (by decide) (by decide +kernel) (fun _ h => h) dX3_insertInOrder_4 (hP.1) rfl ?_
  refine v_callVi hc (hP.szO) (cwV 0 hc.1.2.2.2.2 gX3_insertInOrder_Jx4a65c_size_8abf5 rfl rfl rfl (by decide +kernel) ⟨Nat.le_of_ble_eq_true rfl, Nat.le_of_ble_eq_true rfl⟩) (haO) rfl rfl rfl (Nat.le_of_ble_eq_true rfl) ⟨(by first | exact Nat.le_of_ble_eq_true rfl | omega | (dsimp only; omega)), (by first | exact Nat.le_of_ble_eq_true rfl | omega | (dsimp only; omega))⟩ dX3_insertInOrder_7 (fun r w' hp => ?_)
  obtain ⟨rfl, rfl⟩ := hp
  refine v_icmp_geN hc (tgt := 37) dX3_insertInOrder_10 (by decide) (by omega) (by omega) (fun h2 => ?_) (fun h2 => ?_)
  · have hi2 : ∀ y ∈ O.drop i, ahd nm ct x y = true := fun y hy => by rw [List.drop_eq_nil_of_le h2] at hy; cases hy
    first | refine v_aload_n hc (i := 0) rfl dX3_insertInOrder_37 rfl ?_ | refine v_aload_nN hc (i := 0) rfl dX3_insertInOrder_37 rfl ?_
    refine v_get hc 1 (ci := 6) rfl (by decide +kernel) (by decide) (by decide +kernel) (fun _ h => h) dX3_insertInOrder_38 (hP.1) rfl ?_
    refine v_iload_n hc (i := 2) rfl dX3_insertInOrder_41 rfl ?_
    first | refine v_aload_n hc (i := 1) rfl dX3_insertInOrder_42 rfl ?_ | refine v_aload_nN hc (i := 1) rfl dX3_insertInOrder_42 rfl ?_
    have e40 : (O.map ia).length < 40 := by rw [List.length_map]; omega
    have ei : i ≤ (O.map ia).length := by rw [List.length_map]; omega
    refine v_noE hc (fun hE => ?_)
    obtain ⟨mo, ea, cap, f, hL, hop⟩ := hP.opO
    refine v_callVv hc (c_add2 hL e40 (hP.2.1 x hx) (i := i) ei) (cwV 2 hc.1.2.2.2.2 gX3_insertInOrder_Jx4a65c_add_7a177 rfl rfl rfl (by decide +kernel) ⟨Nat.le_of_ble_eq_true rfl, Nat.le_of_ble_eq_true rfl⟩) (hL.1) rfl rfl rfl (Nat.le_of_ble_eq_true rfl) ⟨(by first | exact Nat.le_of_ble_eq_true rfl | omega | (dsimp only; omega)), (by first | exact Nat.le_of_ble_eq_true rfl | omega | (dsimp only; omega))⟩ dX3_insertInOrder_43 (fun w' hp => ?_)
    rw [map_ins] at hp
    obtain ⟨hP2, hk⟩ := hop _ _ _ hE hp (ins_mem hP.2.2.2.1 hx)
    exact v_vret hc hr dX3_insertInOrder_46 (by first | exact Nat.le_of_ble_eq_true rfl | omega | (dsimp only; omega)) (by first | exact Nat.le_of_ble_eq_true rfl | omega | (dsimp only; omega)) (⟨_, hS.ins hi1 hi2, hP2, hk⟩)
  · have hm := hP.2.2.2.1 _ (getD_mem h2)
    first | refine v_aload_n hc (i := 0) rfl dX3_insertInOrder_13 rfl ?_ | refine v_aload_nN hc (i := 0) rfl dX3_insertInOrder_13 rfl ?_
    refine v_get hc 1 (ci := 6) rfl (by decide +kernel) (by decide) (by decide +kernel) (fun _ h => h) dX3_insertInOrder_14 (hP.1) rfl ?_
    refine v_iload_n hc (i := 2) rfl dX3_insertInOrder_17 rfl ?_
    refine v_callVq hc (hP.gtO h2) (cwV 1 hc.1.2.2.2.2 gX3_insertInOrder_Jx4a65c_get_915e3 rfl rfl rfl (by decide +kernel) ⟨Nat.le_of_ble_eq_true rfl, Nat.le_of_ble_eq_true rfl⟩) (haO) rfl rfl rfl (Nat.le_of_ble_eq_true rfl) ⟨(by first | exact Nat.le_of_ble_eq_true rfl | omega | (dsimp only; omega)), (by first | exact Nat.le_of_ble_eq_true rfl | omega | (dsimp only; omega))⟩ dX3_insertInOrder_18 (fun r w' hp => ?_)
    obtain ⟨rfl, rfl⟩ := hp
    refine v_cast hc (ci := 4) rfl (by decide +kernel) (hP.2.1 _ hm) dX3_insertInOrder_21 ?_
    first | refine v_aload_n hc (i := 1) rfl dX3_insertInOrder_24 rfl ?_ | refine v_aload_nN hc (i := 1) rfl dX3_insertInOrder_24 rfl ?_
    refine v_callSi hc (c_X3_isPackedAhead hP.2.1 hm hx hn) (va_cwS 2 hc.1.2.2.2.2 gX3_insertInOrder_X3_isPackedAhead rfl rfl rfl (by decide +kernel) ⟨Nat.le_of_ble_eq_true rfl, Nat.le_of_ble_eq_true rfl⟩) rfl rfl (Nat.le_of_ble_eq_true rfl) ⟨(by first | exact Nat.le_of_ble_eq_true rfl | omega | (dsimp only; omega)), (by first | exact Nat.le_of_ble_eq_true rfl | omega | (dsimp only; omega))⟩ dX3_insertInOrder_25 (fun r w' hp => ?_)
    obtain ⟨rfl, rfl⟩ := hp
    refine v_ifB_eq hc (tgt := 37) dX3_insertInOrder_28 (by decide) (fun h3 => ?_) (fun h3 => ?_)
    · have hi2 := drop_gt hso hS.1 h2 (hso.2.2 _ _ (fun z => hxO (by rw [← z]; exact getD_mem h2)) h3)
      first | refine v_aload_n hc (i := 0) rfl dX3_insertInOrder_37 rfl ?_ | refine v_aload_nN hc (i := 0) rfl dX3_insertInOrder_37 rfl ?_
      refine v_get hc 1 (ci := 6) rfl (by decide +kernel) (by decide) (by decide +kernel) (fun _ h => h) dX3_insertInOrder_38 (hP.1) rfl ?_
      refine v_iload_n hc (i := 2) rfl dX3_insertInOrder_41 rfl ?_
      first | refine v_aload_n hc (i := 1) rfl dX3_insertInOrder_42 rfl ?_ | refine v_aload_nN hc (i := 1) rfl dX3_insertInOrder_42 rfl ?_
      have e40 : (O.map ia).length < 40 := by rw [List.length_map]; omega
      have ei : i ≤ (O.map ia).length := by rw [List.length_map]; omega
      refine v_noE hc (fun hE => ?_)
      obtain ⟨mo, ea, cap, f, hL, hop⟩ := hP.opO
      refine v_callVv hc (c_add2 hL e40 (hP.2.1 x hx) (i := i) ei) (cwV 2 hc.1.2.2.2.2 gX3_insertInOrder_Jx4a65c_add_7a177 rfl rfl rfl (by decide +kernel) ⟨Nat.le_of_ble_eq_true rfl, Nat.le_of_ble_eq_true rfl⟩) (hL.1) rfl rfl rfl (Nat.le_of_ble_eq_true rfl) ⟨(by first | exact Nat.le_of_ble_eq_true rfl | omega | (dsimp only; omega)), (by first | exact Nat.le_of_ble_eq_true rfl | omega | (dsimp only; omega))⟩ dX3_insertInOrder_43 (fun w' hp => ?_)
      rw [map_ins] at hp
      obtain ⟨hP2, hk⟩ := hop _ _ _ hE hp (ins_mem hP.2.2.2.1 hx)
      exact v_vret hc hr dX3_insertInOrder_46 (by first | exact Nat.le_of_ble_eq_true rfl | omega | (dsimp only; omega)) (by first | exact Nat.le_of_ble_eq_true rfl | omega | (dsimp only; omega)) (⟨_, hS.ins hi1 hi2, hP2, hk⟩)
    · first | refine v_iinc1 hc dX3_insertInOrder_31 rfl (by decide) rfl ?_ | refine v_iinc hc dX3_insertInOrder_31 rfl rfl (by decide) rfl ?_
      refine v_goto hc (tgt := 2) dX3_insertInOrder_34 (by decide) ?_
      exact ih (i + 1) _ rfl ⟨h2, take_lt hso hS.1 h2 h3⟩ (by omega)
set_option maxRecDepth 100000 in
set_option maxHeartbeats 4000000 in
theorem c_X3_insertInIndex (hP : PC G w px pI pO pX n ia nm ct lv lo fa fb O X cp ru) {q : Nat → Prop} (hS : srtd (ihd ct) q X) {x : Nat} (hx : x < n) (hnq : ¬ q x) : Met l yX3_insertInIndex wsX3_insertInIndex ({ frames := 13, cells := 1, slots := 60, locals := 232 } : Room) (Pw G A w [.ref px, .ref (ia x)]) (va_Qv (fun w' => ∃ X', srtd (ihd ct) (fun i => q i ∨ i = x) X' ∧ PC G w' px pI pO pX n ia nm ct lv lo fa fb O X' cp ru ∧ k3 w w') (Bw G A) A) 1 60 A := by
  refine m_of (cc := cX3_insertInIndex) (maxL := 3) (ret := none) (by decide) rfl (Nat.le_of_ble_eq_true rfl) ?_
  intro p e s m args below meth c hc hr hmn
  refine v_loc [(0, some (.ref px)), (1, some (.ref (ia x)))] rfl ?_
  obtain ⟨vs, haX⟩ := hP.alX
  have hn := hP.n40
  have hso := so_ihd ct
  have hxO : x ∉ X := fun h => hnq ((hS.2 x).mp h)
  have hlen : X.length + 1 ≤ n := nd_len (n := n) (L := x :: X) (List.nodup_cons.mpr ⟨hxO, hS.nodup hso⟩) (fun i hi => by
    rcases List.mem_cons.mp hi with rfl | hi
    · exact hx
    · exact hP.2.2.2.2 i hi)
  refine v_iconst hc (v := nI 0) dX3_insertInIndex_0 (by decide) ?_
  refine v_istore_n hc (i := 2) rfl dX3_insertInIndex_1 (by decide) rfl ?_
  refine v_loop (σ := Nat) (fun i => i ≤ X.length ∧ ∀ y ∈ X.take i, ihd ct y x = true) (fun i => X.length - i) (fun _ => w) (fun _ => 0) (fun _ => 0) (fun i => [(0, some (.ref px)), (1, some (.ref (ia x))), (2, some (.int (nI i)))]) 0 rfl ⟨Nat.zero_le _, fun y hy => by rw [List.take_zero] at hy; cases hy⟩ ?_
  rintro i ⟨hi, hi1⟩ ih
  refine v_iload_n hc (i := 2) rfl dX3_insertInIndex_2 rfl ?_
  first | refine v_aload_n hc (i := 0) rfl dX3_insertInIndex_3 rfl ?_ | refine v_aload_nN hc (i := 0) rfl dX3_insertInIndex_3 rfl ?_
  refine v_get hc 2 (ci := 6) rfl (by decide +kernel) (by decide) (by decide +kernel) (fun _ h => h) dX3_insertInIndex_4 (hP.1) rfl ?_
  refine v_callVi hc (hP.szX) (cwV 0 hc.1.2.2.2.2 gX3_insertInIndex_Jx4a65c_size_8abf5 rfl rfl rfl (by decide +kernel) ⟨Nat.le_of_ble_eq_true rfl, Nat.le_of_ble_eq_true rfl⟩) (haX) rfl rfl rfl (Nat.le_of_ble_eq_true rfl) ⟨(by first | exact Nat.le_of_ble_eq_true rfl | omega | (dsimp only; omega)), (by first | exact Nat.le_of_ble_eq_true rfl | omega | (dsimp only; omega))⟩ dX3_insertInIndex_7 (fun r w' hp => ?_)
  obtain ⟨rfl, rfl⟩ := hp
  refine v_icmp_geN hc (tgt := 37) dX3_insertInIndex_10 (by decide) (by omega) (by omega) (fun h2 => ?_) (fun h2 => ?_)
  · have hi2 : ∀ y ∈ X.drop i, ihd ct x y = true := fun y hy => by rw [List.drop_eq_nil_of_le h2] at hy; cases hy
    first | refine v_aload_n hc (i := 0) rfl dX3_insertInIndex_37 rfl ?_ | refine v_aload_nN hc (i := 0) rfl dX3_insertInIndex_37 rfl ?_
    refine v_get hc 2 (ci := 6) rfl (by decide +kernel) (by decide) (by decide +kernel) (fun _ h => h) dX3_insertInIndex_38 (hP.1) rfl ?_
    refine v_iload_n hc (i := 2) rfl dX3_insertInIndex_41 rfl ?_
    first | refine v_aload_n hc (i := 1) rfl dX3_insertInIndex_42 rfl ?_ | refine v_aload_nN hc (i := 1) rfl dX3_insertInIndex_42 rfl ?_
    have e40 : (X.map ia).length < 40 := by rw [List.length_map]; omega
    have ei : i ≤ (X.map ia).length := by rw [List.length_map]; omega
    refine v_noE hc (fun hE => ?_)
    obtain ⟨mo, ea, cap, f, hL, hop⟩ := hP.opX
    refine v_callVv hc (c_add2 hL e40 (hP.2.1 x hx) (i := i) ei) (cwV 2 hc.1.2.2.2.2 gX3_insertInIndex_Jx4a65c_add_7a177 rfl rfl rfl (by decide +kernel) ⟨Nat.le_of_ble_eq_true rfl, Nat.le_of_ble_eq_true rfl⟩) (hL.1) rfl rfl rfl (Nat.le_of_ble_eq_true rfl) ⟨(by first | exact Nat.le_of_ble_eq_true rfl | omega | (dsimp only; omega)), (by first | exact Nat.le_of_ble_eq_true rfl | omega | (dsimp only; omega))⟩ dX3_insertInIndex_43 (fun w' hp => ?_)
    rw [map_ins] at hp
    obtain ⟨hP2, hk⟩ := hop _ _ _ hE hp (ins_mem hP.2.2.2.2 hx)
    exact v_vret hc hr dX3_insertInIndex_46 (by first | exact Nat.le_of_ble_eq_true rfl | omega | (dsimp only; omega)) (by first | exact Nat.le_of_ble_eq_true rfl | omega | (dsimp only; omega)) (⟨_, hS.ins hi1 hi2, hP2, hk⟩)
  · have hm := hP.2.2.2.2 _ (getD_mem h2)
    first | refine v_aload_n hc (i := 0) rfl dX3_insertInIndex_13 rfl ?_ | refine v_aload_nN hc (i := 0) rfl dX3_insertInIndex_13 rfl ?_
    refine v_get hc 2 (ci := 6) rfl (by decide +kernel) (by decide) (by decide +kernel) (fun _ h => h) dX3_insertInIndex_14 (hP.1) rfl ?_
    refine v_iload_n hc (i := 2) rfl dX3_insertInIndex_17 rfl ?_
    refine v_callVq hc (hP.gtX h2) (cwV 1 hc.1.2.2.2.2 gX3_insertInIndex_Jx4a65c_get_915e3 rfl rfl rfl (by decide +kernel) ⟨Nat.le_of_ble_eq_true rfl, Nat.le_of_ble_eq_true rfl⟩) (haX) rfl rfl rfl (Nat.le_of_ble_eq_true rfl) ⟨(by first | exact Nat.le_of_ble_eq_true rfl | omega | (dsimp only; omega)), (by first | exact Nat.le_of_ble_eq_true rfl | omega | (dsimp only; omega))⟩ dX3_insertInIndex_18 (fun r w' hp => ?_)
    obtain ⟨rfl, rfl⟩ := hp
    refine v_cast hc (ci := 4) rfl (by decide +kernel) (hP.2.1 _ hm) dX3_insertInIndex_21 ?_
    first | refine v_aload_n hc (i := 1) rfl dX3_insertInIndex_24 rfl ?_ | refine v_aload_nN hc (i := 1) rfl dX3_insertInIndex_24 rfl ?_
    refine v_callSi hc (c_X3_isIndexedAhead hP.2.1 hm hx hn) (va_cwS 2 hc.1.2.2.2.2 gX3_insertInIndex_X3_isIndexedAhead rfl rfl rfl (by decide +kernel) ⟨Nat.le_of_ble_eq_true rfl, Nat.le_of_ble_eq_true rfl⟩) rfl rfl (Nat.le_of_ble_eq_true rfl) ⟨(by first | exact Nat.le_of_ble_eq_true rfl | omega | (dsimp only; omega)), (by first | exact Nat.le_of_ble_eq_true rfl | omega | (dsimp only; omega))⟩ dX3_insertInIndex_25 (fun r w' hp => ?_)
    obtain ⟨rfl, rfl⟩ := hp
    refine v_ifB_eq hc (tgt := 37) dX3_insertInIndex_28 (by decide) (fun h3 => ?_) (fun h3 => ?_)
    · have hi2 := drop_gt hso hS.1 h2 (hso.2.2 _ _ (fun z => hxO (by rw [← z]; exact getD_mem h2)) h3)
      first | refine v_aload_n hc (i := 0) rfl dX3_insertInIndex_37 rfl ?_ | refine v_aload_nN hc (i := 0) rfl dX3_insertInIndex_37 rfl ?_
      refine v_get hc 2 (ci := 6) rfl (by decide +kernel) (by decide) (by decide +kernel) (fun _ h => h) dX3_insertInIndex_38 (hP.1) rfl ?_
      refine v_iload_n hc (i := 2) rfl dX3_insertInIndex_41 rfl ?_
      first | refine v_aload_n hc (i := 1) rfl dX3_insertInIndex_42 rfl ?_ | refine v_aload_nN hc (i := 1) rfl dX3_insertInIndex_42 rfl ?_
      have e40 : (X.map ia).length < 40 := by rw [List.length_map]; omega
      have ei : i ≤ (X.map ia).length := by rw [List.length_map]; omega
      refine v_noE hc (fun hE => ?_)
      obtain ⟨mo, ea, cap, f, hL, hop⟩ := hP.opX
      refine v_callVv hc (c_add2 hL e40 (hP.2.1 x hx) (i := i) ei) (cwV 2 hc.1.2.2.2.2 gX3_insertInIndex_Jx4a65c_add_7a177 rfl rfl rfl (by decide +kernel) ⟨Nat.le_of_ble_eq_true rfl, Nat.le_of_ble_eq_true rfl⟩) (hL.1) rfl rfl rfl (Nat.le_of_ble_eq_true rfl) ⟨(by first | exact Nat.le_of_ble_eq_true rfl | omega | (dsimp only; omega)), (by first | exact Nat.le_of_ble_eq_true rfl | omega | (dsimp only; omega))⟩ dX3_insertInIndex_43 (fun w' hp => ?_)
      rw [map_ins] at hp
      obtain ⟨hP2, hk⟩ := hop _ _ _ hE hp (ins_mem hP.2.2.2.2 hx)
      exact v_vret hc hr dX3_insertInIndex_46 (by first | exact Nat.le_of_ble_eq_true rfl | omega | (dsimp only; omega)) (by first | exact Nat.le_of_ble_eq_true rfl | omega | (dsimp only; omega)) (⟨_, hS.ins hi1 hi2, hP2, hk⟩)
    · first | refine v_iinc1 hc dX3_insertInIndex_31 rfl (by decide) rfl ?_ | refine v_iinc hc dX3_insertInIndex_31 rfl rfl (by decide) rfl ?_
      refine v_goto hc (tgt := 2) dX3_insertInIndex_34 (by decide) ?_
      exact ih (i + 1) _ rfl ⟨h2, take_lt hso hS.1 h2 h3⟩ (by omega)
set_option maxRecDepth 100000 in
set_option maxHeartbeats 4000000 in
theorem c_X3_fillOrder (hP : PC G w px pI pO pX n ia nm ct lv lo fa fb O X cp ru) (hF : FW w n ia fa fm) (hC : CH n fm) : Met l yX3_fillOrder wsX3_fillOrder ({ frames := 14, cells := 40, slots := 2400, locals := 254 } : Room) (Pw G A w [.ref px]) (va_Qv (fun w' => ∃ O', srtd (ahd nm ct) (fun i => i < n ∧ rdb lv lo fm i = true) O' ∧ PC G w' px pI pO pX n ia nm ct lv lo fa fb O' X cp ru ∧ k3 w w') (Bw G A) A) 40 2400 A := by
  refine m_of (cc := cX3_fillOrder) (maxL := 3) (ret := none) (by decide) rfl (Nat.le_of_ble_eq_true rfl) ?_
  intro p e s m args below meth c hc hr hmn
  refine v_loc [(0, some (.ref px))] rfl ?_
  have hn := hP.n40
  first | refine v_aload_n hc (i := 0) rfl dX3_fillOrder_0 rfl ?_ | refine v_aload_nN hc (i := 0) rfl dX3_fillOrder_0 rfl ?_
  refine v_get hc 1 (ci := 6) rfl (by decide +kernel) (by decide) (by decide +kernel) (fun _ h => h) dX3_fillOrder_1 (hP.1) rfl ?_
  refine v_noE hc (fun hE => ?_)
  obtain ⟨mo, ea, cap, f, hL, hop⟩ := hP.opO
  refine v_callVv hc (c_clear hL) (cwV 0 hc.1.2.2.2.2 gX3_fillOrder_Jx4a65c_clear_da8c8 rfl rfl rfl (by decide +kernel) ⟨Nat.le_of_ble_eq_true rfl, Nat.le_of_ble_eq_true rfl⟩) (hL.1) rfl rfl rfl (Nat.le_of_ble_eq_true rfl) ⟨(by first | exact Nat.le_of_ble_eq_true rfl | omega | (dsimp only; omega)), (by first | exact Nat.le_of_ble_eq_true rfl | omega | (dsimp only; omega))⟩ dX3_fillOrder_4 (fun w1 hp => ?_)
  obtain ⟨hP2, hk⟩ := hop _ _ [] hE hp (fun i hi => (nomatch hi))
  refine v_iconst hc (v := nI 0) dX3_fillOrder_7 (by decide) ?_
  refine v_istore_n hc (i := 1) rfl dX3_fillOrder_8 (by decide) rfl ?_
  refine v_loop (σ := Nat × wd × List Nat) (fun a => a.1 ≤ n ∧ PC G a.2.1 px pI pO pX n ia nm ct lv lo fa fb a.2.2 X cp ru ∧ k3 w a.2.1 ∧ srtd (ahd nm ct) (fun i => i < a.1 ∧ rdb lv lo fm i = true) a.2.2) (fun a => n - a.1) (fun a => a.2.1) (fun a => a.1) (fun a => a.1 * 60) (fun a => [(0, some (.ref px)), (1, some (.int (nI a.1)))]) (0, w1, []) rfl ⟨Nat.zero_le _, hP2, hk, srtd.nil (fun i h => absurd h.1 (Nat.not_lt_zero _))⟩ ?_
  rintro ⟨i, w2, O2⟩ ⟨hi, hP, hk, hS⟩ ih
  dsimp only at hi hP hk hS ih ⊢
  obtain ⟨vs, haI⟩ := hP.alI
  refine v_iload_n hc (i := 1) rfl dX3_fillOrder_9 rfl ?_
  first | refine v_aload_n hc (i := 0) rfl dX3_fillOrder_10 rfl ?_ | refine v_aload_nN hc (i := 0) rfl dX3_fillOrder_10 rfl ?_
  refine v_get hc 0 (ci := 6) rfl (by decide +kernel) (by decide) (by decide +kernel) (fun _ h => h) dX3_fillOrder_11 (hP.1) rfl ?_
  refine v_callVi hc (hP.szI) (cwV 0 hc.1.2.2.2.2 gX3_fillOrder_Jx4a65c_size_8abf5 rfl rfl rfl (by decide +kernel) ⟨Nat.le_of_ble_eq_true rfl, Nat.le_of_ble_eq_true rfl⟩) (haI) rfl rfl rfl (Nat.le_of_ble_eq_true rfl) ⟨(by first | exact Nat.le_of_ble_eq_true rfl | omega | (dsimp only; omega)), (by first | exact Nat.le_of_ble_eq_true rfl | omega | (dsimp only; omega))⟩ dX3_fillOrder_14 (fun r w' hp => ?_)
  obtain ⟨rfl, rfl⟩ := hp
  refine v_icmp_geN hc (tgt := 50) dX3_fillOrder_17 (by decide) (by omega) (by omega) (fun h1 => ?_) (fun h1 => ?_)
  · have e : i = n := by omega
    subst e
    exact v_vret hc hr dX3_fillOrder_50 (by first | exact Nat.le_of_ble_eq_true rfl | omega | (dsimp only; omega)) (by first | exact Nat.le_of_ble_eq_true rfl | omega | (dsimp only; omega)) (⟨O2, hS, hP, hk⟩)
  · have hit := hP.2.1 i h1
    first | refine v_aload_n hc (i := 0) rfl dX3_fillOrder_20 rfl ?_ | refine v_aload_nN hc (i := 0) rfl dX3_fillOrder_20 rfl ?_
    refine v_get hc 0 (ci := 6) rfl (by decide +kernel) (by decide) (by decide +kernel) (fun _ h => h) dX3_fillOrder_21 (hP.1) rfl ?_
    refine v_iload_n hc (i := 1) rfl dX3_fillOrder_24 rfl ?_
    refine v_callVq hc (hP.gtI h1) (cwV 1 hc.1.2.2.2.2 gX3_fillOrder_Jx4a65c_get_915e3 rfl rfl rfl (by decide +kernel) ⟨Nat.le_of_ble_eq_true rfl, Nat.le_of_ble_eq_true rfl⟩) (haI) rfl rfl rfl (Nat.le_of_ble_eq_true rfl) ⟨(by first | exact Nat.le_of_ble_eq_true rfl | omega | (dsimp only; omega)), (by first | exact Nat.le_of_ble_eq_true rfl | omega | (dsimp only; omega))⟩ dX3_fillOrder_25 (fun r w' hp => ?_)
    obtain ⟨rfl, rfl⟩ := hp
    refine v_cast hc (ci := 4) rfl (by decide +kernel) (hit) dX3_fillOrder_28 ?_
    first | refine v_astore_n hc (i := 2) rfl dX3_fillOrder_31 (by decide) rfl ?_ | refine v_astore_nN hc (i := 2) rfl dX3_fillOrder_31 (by decide) rfl ?_
    first | refine v_aload_n hc (i := 2) rfl dX3_fillOrder_32 rfl ?_ | refine v_aload_nN hc (i := 2) rfl dX3_fillOrder_32 rfl ?_
    refine v_callVi hc (c_X1_isReadable hP.2.1 (hF.k3 hk) hC h1) (cwV 0 hc.1.2.2.2.2 gX3_fillOrder_X1_isReadable rfl rfl rfl (by decide +kernel) ⟨Nat.le_of_ble_eq_true rfl, Nat.le_of_ble_eq_true rfl⟩) (hit) rfl rfl rfl (Nat.le_of_ble_eq_true rfl) ⟨(by first | exact Nat.le_of_ble_eq_true rfl | omega | (dsimp only; omega)), (by first | exact Nat.le_of_ble_eq_true rfl | omega | (dsimp only; omega))⟩ dX3_fillOrder_33 (fun r w' hp => ?_)
    obtain ⟨rfl, rfl⟩ := hp
    refine v_ifB_eq hc (tgt := 44) dX3_fillOrder_36 (by decide) (fun h2 => ?_) (fun h2 => ?_)
    · first | refine v_iinc1 hc dX3_fillOrder_44 rfl (by decide) rfl ?_ | refine v_iinc hc dX3_fillOrder_44 rfl rfl (by decide) rfl ?_
      refine v_goto hc (tgt := 9) dX3_fillOrder_47 (by decide) ?_
      refine v_widen (k' := i + 1) (n' := (i + 1) * 60) (by omega) (by omega) ?_
      refine ih (i + 1, w2, O2) _ rfl ⟨h1, hP, hk, hS.congr (fun j => ?_)⟩ (by dsimp only; omega)
      dsimp only
      constructor
      · rintro ⟨a, b⟩; exact ⟨by omega, b⟩
      · rintro ⟨a, b⟩
        refine ⟨?_, b⟩
        by_cases hj : j = i
        · subst hj; rw [show rdb lv lo fm j = false from h2] at b; cases b
        · omega
    · first | refine v_aload_n hc (i := 0) rfl dX3_fillOrder_39 rfl ?_ | refine v_aload_nN hc (i := 0) rfl dX3_fillOrder_39 rfl ?_
      first | refine v_aload_n hc (i := 2) rfl dX3_fillOrder_40 rfl ?_ | refine v_aload_nN hc (i := 2) rfl dX3_fillOrder_40 rfl ?_
      refine v_callVv hc (c_X3_insertInOrder hP hS h1 (fun z => absurd z.1 (Nat.lt_irrefl _))) (cwV 1 hc.1.2.2.2.2 gX3_fillOrder_X3_insertInOrder rfl rfl rfl (by decide +kernel) ⟨Nat.le_of_ble_eq_true rfl, Nat.le_of_ble_eq_true rfl⟩) (hP.1) rfl rfl rfl (Nat.le_of_ble_eq_true rfl) ⟨(by first | exact Nat.le_of_ble_eq_true rfl | omega | (dsimp only; omega)), (by first | exact Nat.le_of_ble_eq_true rfl | omega | (dsimp only; omega))⟩ dX3_fillOrder_41 (fun w3 hp => ?_)
      obtain ⟨O3, hS3, hP3, hk3⟩ := hp
      first | refine v_iinc1 hc dX3_fillOrder_44 rfl (by decide) rfl ?_ | refine v_iinc hc dX3_fillOrder_44 rfl rfl (by decide) rfl ?_
      refine v_goto hc (tgt := 9) dX3_fillOrder_47 (by decide) ?_
      refine v_widen (k' := i + 1) (n' := (i + 1) * 60) (by omega) (by omega) ?_
      refine ih (i + 1, w3, O3) _ rfl ⟨h1, hP3, hk.tr hk3, hS3.congr (fun j => ?_)⟩ (by dsimp only; omega)
      dsimp only
      constructor
      · rintro (⟨a, b⟩ | rfl)
        · exact ⟨by omega, b⟩
        · exact ⟨by omega, h2⟩
      · rintro ⟨a, b⟩
        by_cases hj : j = i
        · exact Or.inr hj
        · exact Or.inl ⟨by omega, b⟩
set_option maxRecDepth 100000 in
set_option maxHeartbeats 4000000 in
theorem c_X3_fillIndex (hP : PC G w px pI pO pX n ia nm ct lv lo fa fb O X cp ru) (hd : O.Nodup) : Met l yX3_fillIndex wsX3_fillIndex ({ frames := 14, cells := 40, slots := 2400, locals := 254 } : Room) (Pw G A w [.ref px]) (va_Qv (fun w' => ∃ X', srtd (ihd ct) (fun i => i ∈ O) X' ∧ PC G w' px pI pO pX n ia nm ct lv lo fa fb O X' cp ru ∧ k3 w w') (Bw G A) A) 40 2400 A := by
  refine m_of (cc := cX3_fillIndex) (maxL := 2) (ret := none) (by decide) rfl (Nat.le_of_ble_eq_true rfl) ?_
  intro p e s m args below meth c hc hr hmn
  refine v_loc [(0, some (.ref px))] rfl ?_
  have ho := hP.o40
  first | refine v_aload_n hc (i := 0) rfl dX3_fillIndex_0 rfl ?_ | refine v_aload_nN hc (i := 0) rfl dX3_fillIndex_0 rfl ?_
  refine v_get hc 2 (ci := 6) rfl (by decide +kernel) (by decide) (by decide +kernel) (fun _ h => h) dX3_fillIndex_1 (hP.1) rfl ?_
  refine v_noE hc (fun hE => ?_)
  obtain ⟨mo, ea, cap, f, hL, hop⟩ := hP.opX
  refine v_callVv hc (c_clear hL) (cwV 0 hc.1.2.2.2.2 gX3_fillIndex_Jx4a65c_clear_da8c8 rfl rfl rfl (by decide +kernel) ⟨Nat.le_of_ble_eq_true rfl, Nat.le_of_ble_eq_true rfl⟩) (hL.1) rfl rfl rfl (Nat.le_of_ble_eq_true rfl) ⟨(by first | exact Nat.le_of_ble_eq_true rfl | omega | (dsimp only; omega)), (by first | exact Nat.le_of_ble_eq_true rfl | omega | (dsimp only; omega))⟩ dX3_fillIndex_4 (fun w1 hp => ?_)
  obtain ⟨hP2, hk⟩ := hop _ _ [] hE hp (fun i hi => (nomatch hi))
  refine v_iconst hc (v := nI 0) dX3_fillIndex_7 (by decide) ?_
  refine v_istore_n hc (i := 1) rfl dX3_fillIndex_8 (by decide) rfl ?_
  refine v_loop (σ := Nat × wd × List Nat) (fun a => a.1 ≤ O.length ∧ PC G a.2.1 px pI pO pX n ia nm ct lv lo fa fb O a.2.2 cp ru ∧ k3 w a.2.1 ∧ srtd (ihd ct) (fun i => ∃ j, j < a.1 ∧ O.getD j 0 = i) a.2.2) (fun a => O.length - a.1) (fun a => a.2.1) (fun a => a.1) (fun a => a.1 * 60) (fun a => [(0, some (.ref px)), (1, some (.int (nI a.1)))]) (0, w1, []) rfl ⟨Nat.zero_le _, hP2, hk, srtd.nil (fun i ⟨j, h, _⟩ => absurd h (Nat.not_lt_zero _))⟩ ?_
  rintro ⟨i, w2, X2⟩ ⟨hi, hP, hk, hS⟩ ih
  dsimp only at hi hP hk hS ih ⊢
  obtain ⟨vs, haO⟩ := hP.alO
  refine v_iload_n hc (i := 1) rfl dX3_fillIndex_9 rfl ?_
  first | refine v_aload_n hc (i := 0) rfl dX3_fillIndex_10 rfl ?_ | refine v_aload_nN hc (i := 0) rfl dX3_fillIndex_10 rfl ?_
  refine v_get hc 1 (ci := 6) rfl (by decide +kernel) (by decide) (by decide +kernel) (fun _ h => h) dX3_fillIndex_11 (hP.1) rfl ?_
  refine v_callVi hc (hP.szO) (cwV 0 hc.1.2.2.2.2 gX3_fillIndex_Jx4a65c_size_8abf5 rfl rfl rfl (by decide +kernel) ⟨Nat.le_of_ble_eq_true rfl, Nat.le_of_ble_eq_true rfl⟩) (haO) rfl rfl rfl (Nat.le_of_ble_eq_true rfl) ⟨(by first | exact Nat.le_of_ble_eq_true rfl | omega | (dsimp only; omega)), (by first | exact Nat.le_of_ble_eq_true rfl | omega | (dsimp only; omega))⟩ dX3_fillIndex_14 (fun r w' hp => ?_)
  obtain ⟨rfl, rfl⟩ := hp
  refine v_icmp_geN hc (tgt := 41) dX3_fillIndex_17 (by decide) (by omega) (by omega) (fun h1 => ?_) (fun h1 => ?_)
  · have e : i = O.length := by omega
    subst e
    have hS2 : srtd (ihd ct) (fun i => i ∈ O) X2 := hS.congr (fun j => by
      constructor
      · rintro ⟨z, hz, rfl⟩; exact getD_mem hz
      · intro hj
        obtain ⟨z, hz, e⟩ := List.getElem_of_mem hj
        exact ⟨z, hz, by rw [← e]; simp [hz]⟩)
    exact v_vret hc hr dX3_fillIndex_41 (by first | exact Nat.le_of_ble_eq_true rfl | omega | (dsimp only; omega)) (by first | exact Nat.le_of_ble_eq_true rfl | omega | (dsimp only; omega)) (⟨X2, hS2, hP, hk⟩)
  · have hm := hP.2.2.2.1 _ (getD_mem h1)
    first | refine v_aload_n hc (i := 0) rfl dX3_fillIndex_20 rfl ?_ | refine v_aload_nN hc (i := 0) rfl dX3_fillIndex_20 rfl ?_
    first | refine v_aload_n hc (i := 0) rfl dX3_fillIndex_21 rfl ?_ | refine v_aload_nN hc (i := 0) rfl dX3_fillIndex_21 rfl ?_
    refine v_get hc 1 (ci := 6) rfl (by decide +kernel) (by decide) (by decide +kernel) (fun _ h => h) dX3_fillIndex_22 (hP.1) rfl ?_
    refine v_iload_n hc (i := 1) rfl dX3_fillIndex_25 rfl ?_
    refine v_callVq hc (hP.gtO h1) (cwV 1 hc.1.2.2.2.2 gX3_fillIndex_Jx4a65c_get_915e3 rfl rfl rfl (by decide +kernel) ⟨Nat.le_of_ble_eq_true rfl, Nat.le_of_ble_eq_true rfl⟩) (haO) rfl rfl rfl (Nat.le_of_ble_eq_true rfl) ⟨(by first | exact Nat.le_of_ble_eq_true rfl | omega | (dsimp only; omega)), (by first | exact Nat.le_of_ble_eq_true rfl | omega | (dsimp only; omega))⟩ dX3_fillIndex_26 (fun r w' hp => ?_)
    obtain ⟨rfl, rfl⟩ := hp
    refine v_cast hc (ci := 4) rfl (by decide +kernel) (hP.2.1 _ hm) dX3_fillIndex_29 ?_
    refine v_callVv hc (c_X3_insertInIndex hP hS hm (fun ⟨j, hj, e⟩ => absurd (nd_getD hd (by omega) h1 e) (by omega))) (cwV 1 hc.1.2.2.2.2 gX3_fillIndex_X3_insertInIndex rfl rfl rfl (by decide +kernel) ⟨Nat.le_of_ble_eq_true rfl, Nat.le_of_ble_eq_true rfl⟩) (hP.1) rfl rfl rfl (Nat.le_of_ble_eq_true rfl) ⟨(by first | exact Nat.le_of_ble_eq_true rfl | omega | (dsimp only; omega)), (by first | exact Nat.le_of_ble_eq_true rfl | omega | (dsimp only; omega))⟩ dX3_fillIndex_32 (fun w3 hp => ?_)
    obtain ⟨X3, hS3, hP3, hk3⟩ := hp
    first | refine v_iinc1 hc dX3_fillIndex_35 rfl (by decide) rfl ?_ | refine v_iinc hc dX3_fillIndex_35 rfl rfl (by decide) rfl ?_
    refine v_goto hc (tgt := 9) dX3_fillIndex_38 (by decide) ?_
    refine v_widen (k' := i + 1) (n' := (i + 1) * 60) (by omega) (by omega) ?_
    refine ih (i + 1, w3, X3) _ rfl ⟨h1, hP3, hk.tr hk3, hS3.congr (fun j => ?_)⟩ (by dsimp only; omega)
    dsimp only
    constructor
    · rintro (⟨z, a, b⟩ | rfl)
      · exact ⟨z, by omega, b⟩
      · exact ⟨i, by omega, rfl⟩
    · rintro ⟨z, a, b⟩
      by_cases hj : z = i
      · exact Or.inr (by rw [← b, hj])
      · exact Or.inl ⟨z, by omega, b⟩
theorem PC.congr {fa' fb' : Nat → Option Nat} (hP : PC G w px pI pO pX n ia nm ct lv lo fa fb O X cp ru) (h : ∀ i, i < n → fa' i = fa i ∧ fb' i = fb i) : PC G w px pI pO pX n ia nm ct lv lo fa' fb' O X cp ru := ⟨hP.1, fun i hi => by rw [(h i hi).1, (h i hi).2]; exact hP.2.1 i hi, hP.2.2⟩
theorem PC.itF (hP : PC G w px pI pO pX n ia nm ct lv lo fa fb O X cp ru) {i : Nat} (hi : i < n) (f g : Option Nat) : PC G (wup w (ia i) (.inr (4, itf i (nm i) (ct i) (lv i) (lo i) f g))) px pI pO pX n ia nm ct lv lo (va_up fa i f) (va_up fb i g) O X cp ru := by
  have h := hP.item hi (lv i) (lo i) f g
  rw [up_id (f := lv) rfl, up_id (f := lo) rfl] at h
  exact h
set_option maxRecDepth 100000 in
set_option maxHeartbeats 4000000 in
theorem c_X3_putFormsAside (hP : PC G w px pI pO pX n ia nm ct lv lo fa fb O X cp ru) : Met l yX3_putFormsAside wsX3_putFormsAside ({ frames := 11, cells := 0, slots := 0, locals := 184 } : Room) (Pw G A w [.ref px]) (va_Qv (fun w' => PC G w' px pI pO pX n ia nm ct lv lo (fun _ => none) fa O X cp ru ∧ k3 w w') (Bw G A) A) 0 0 A := by
  refine m_of (cc := cX3_putFormsAside) (maxL := 3) (ret := none) (by decide) rfl (Nat.le_of_ble_eq_true rfl) ?_
  intro p e s m args below meth c hc hr hmn
  refine v_loc [(0, some (.ref px))] rfl ?_
  have hn := hP.n40
  refine v_iconst hc (v := nI 0) dX3_putFormsAside_0 (by decide) ?_
  refine v_istore_n hc (i := 1) rfl dX3_putFormsAside_1 (by decide) rfl ?_
  refine v_loop (σ := Nat × wd × (Nat → Option Nat) × (Nat → Option Nat)) (fun a => a.1 ≤ n ∧ PC G a.2.1 px pI pO pX n ia nm ct lv lo a.2.2.1 a.2.2.2 O X cp ru ∧ k3 w a.2.1 ∧ (∀ j, j < a.1 → a.2.2.1 j = none ∧ a.2.2.2 j = fa j) ∧ ∀ j, a.1 ≤ j → a.2.2.1 j = fa j) (fun a => n - a.1) (fun a => a.2.1) (fun _ => 0) (fun _ => 0) (fun a => [(0, some (.ref px)), (1, some (.int (nI a.1)))]) (0, w, fa, fb) rfl ⟨Nat.zero_le _, hP, k3.rfl', fun j hj => absurd hj (Nat.not_lt_zero _), fun _ _ => rfl⟩ ?_
  rintro ⟨i, w2, fa2, fb2⟩ ⟨hi, hP, hk, h3, h4⟩ ih
  dsimp only at hi hP hk h3 h4 ih ⊢
  obtain ⟨vs, haI⟩ := hP.alI
  refine v_iload_n hc (i := 1) rfl dX3_putFormsAside_2 rfl ?_
  first | refine v_aload_n hc (i := 0) rfl dX3_putFormsAside_3 rfl ?_ | refine v_aload_nN hc (i := 0) rfl dX3_putFormsAside_3 rfl ?_
  refine v_get hc 0 (ci := 6) rfl (by decide +kernel) (by decide) (by decide +kernel) (fun _ h => h) dX3_putFormsAside_4 (hP.1) rfl ?_
  refine v_callVi hc (hP.szI) (cwV 0 hc.1.2.2.2.2 gX3_putFormsAside_Jx4a65c_size_8abf5 rfl rfl rfl (by decide +kernel) ⟨Nat.le_of_ble_eq_true rfl, Nat.le_of_ble_eq_true rfl⟩) (haI) rfl rfl rfl (Nat.le_of_ble_eq_true rfl) ⟨(by first | exact Nat.le_of_ble_eq_true rfl | omega | (dsimp only; omega)), (by first | exact Nat.le_of_ble_eq_true rfl | omega | (dsimp only; omega))⟩ dX3_putFormsAside_7 (fun r w' hp => ?_)
  obtain ⟨rfl, rfl⟩ := hp
  refine v_icmp_geN hc (tgt := 44) dX3_putFormsAside_10 (by decide) (by omega) (by omega) (fun h1 => ?_) (fun h1 => ?_)
  · have e : i = n := by omega
    subst e
    exact v_vret hc hr dX3_putFormsAside_44 (by first | exact Nat.le_of_ble_eq_true rfl | omega | (dsimp only; omega)) (by first | exact Nat.le_of_ble_eq_true rfl | omega | (dsimp only; omega)) (⟨hP.congr (fun j hj => ⟨(h3 j hj).1.symm, (h3 j hj).2.symm⟩), hk⟩)
  · have hit := hP.2.1 i h1
    first | refine v_aload_n hc (i := 0) rfl dX3_putFormsAside_13 rfl ?_ | refine v_aload_nN hc (i := 0) rfl dX3_putFormsAside_13 rfl ?_
    refine v_get hc 0 (ci := 6) rfl (by decide +kernel) (by decide) (by decide +kernel) (fun _ h => h) dX3_putFormsAside_14 (hP.1) rfl ?_
    refine v_iload_n hc (i := 1) rfl dX3_putFormsAside_17 rfl ?_
    refine v_callVq hc (hP.gtI h1) (cwV 1 hc.1.2.2.2.2 gX3_putFormsAside_Jx4a65c_get_915e3 rfl rfl rfl (by decide +kernel) ⟨Nat.le_of_ble_eq_true rfl, Nat.le_of_ble_eq_true rfl⟩) (haI) rfl rfl rfl (Nat.le_of_ble_eq_true rfl) ⟨(by first | exact Nat.le_of_ble_eq_true rfl | omega | (dsimp only; omega)), (by first | exact Nat.le_of_ble_eq_true rfl | omega | (dsimp only; omega))⟩ dX3_putFormsAside_18 (fun r w' hp => ?_)
    obtain ⟨rfl, rfl⟩ := hp
    refine v_cast hc (ci := 4) rfl (by decide +kernel) (hit) dX3_putFormsAside_21 ?_
    first | refine v_astore_n hc (i := 2) rfl dX3_putFormsAside_24 (by decide) rfl ?_ | refine v_astore_nN hc (i := 2) rfl dX3_putFormsAside_24 (by decide) rfl ?_
    first | refine v_aload_n hc (i := 2) rfl dX3_putFormsAside_25 rfl ?_ | refine v_aload_nN hc (i := 2) rfl dX3_putFormsAside_25 rfl ?_
    first | refine v_aload_n hc (i := 2) rfl dX3_putFormsAside_26 rfl ?_ | refine v_aload_nN hc (i := 2) rfl dX3_putFormsAside_26 rfl ?_
    refine v_get hc 7 (ci := 4) rfl (by decide +kernel) (by decide) (by decide +kernel) (fun _ h => h) dX3_putFormsAside_27 (hit) rfl ?_
    refine v_put hc 8 (ci := 4) rfl tyX1 tyX1_ok nmX1 (by decide +kernel) (by decide) (by decide +kernel) (fun _ h => h) rfl (tyX1_ok 8 (by decide)) rfl (by cases fa2 i <;> rfl) (Nat.le_of_ble_eq_true rfl) dX3_putFormsAside_30 (hit) ?_
    refine v_w (show _ = wup w2 (ia i) (.inr (4, itf i (nm i) (ct i) (lv i) (lo i) (fa2 i) (fa2 i))) from rfl) ?_
    first | refine v_aload_n hc (i := 2) rfl dX3_putFormsAside_33 rfl ?_ | refine v_aload_nN hc (i := 2) rfl dX3_putFormsAside_33 rfl ?_
    refine v_null hc dX3_putFormsAside_34 ?_
    refine v_put hc 7 (ci := 4) rfl tyX1 tyX1_ok nmX1 (by decide +kernel) (by decide) (by decide +kernel) (fun _ h => h) rfl (tyX1_ok 7 (by decide)) rfl rfl (Nat.le_of_ble_eq_true rfl) dX3_putFormsAside_35 (wup_s _ _ _) ?_
    rw [wup_up]
    refine v_w (show _ = wup w2 (ia i) (.inr (4, itf i (nm i) (ct i) (lv i) (lo i) none (fa2 i))) from rfl) ?_
    have hP2 := hP.itF h1 none (fa2 i)
    first | refine v_iinc1 hc dX3_putFormsAside_38 rfl (by decide) rfl ?_ | refine v_iinc hc dX3_putFormsAside_38 rfl rfl (by decide) rfl ?_
    refine v_goto hc (tgt := 2) dX3_putFormsAside_41 (by decide) ?_
    refine ih (i + 1, wup w2 (ia i) (.inr (4, itf i (nm i) (ct i) (lv i) (lo i) none (fa2 i))), va_up fa2 i none, va_up fb2 i (fa2 i)) _ rfl ⟨h1, hP2, hk.tr (k3_of hit (by decide)), fun j hj => ?_, fun j hj => ?_⟩ (by dsimp only; omega)
    · dsimp only at hj ⊢
      by_cases hji : j = i
      · subst hji; rw [va_up_self, va_up_self]; exact ⟨rfl, h4 j (Nat.le_refl _)⟩
      · rw [up_n hji, up_n hji]; exact h3 j (by omega)
    · dsimp only at hj ⊢
      rw [up_n (by omega)]; exact h4 j (by omega)
end CL5

