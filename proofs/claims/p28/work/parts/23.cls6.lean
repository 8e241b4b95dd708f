/-! ===== the class: forms, pack ===== -/
theorem wup_id {w : wd} {a : Nat} {e : va_E} (h : w a = some e) : wup w a e = w := by
  funext x
  by_cases hx : x = a
  · subst hx; rw [wup_s, h]
  · rw [wup_n _ _ hx]
theorem dco_le {c d : Nat} (h : hxn c ≤ 15) : dco c d ≤ 31 := by
  have := dpr_le c d (hxn c - 0) 0
  show 1 + 2 * cpr c d (hxn c - 0) 0 + adr c d (hxn c - 0) 0 ≤ 31
  omega
theorem frc_mk {ia : Nat → Nat} {ct : Nat → Int64} {nf : Nat → Option Frm} {o b : Nat} : frc ia (mkF ct nf o (some b)) = .inr (3, [va_rf (some (ia b)), .int (nI (dep nf b + 1)), .int (nI (dpa (xN (ct o)) (xN (ct b)))), .int (nI (dco (xN (ct o)) (xN (ct b)))), .int (bI false)]) := rfl
theorem frc_mk0 {ia : Nat → Nat} {ct : Nat → Int64} {nf : Nat → Option Frm} {o : Nat} : frc ia (mkF ct nf o none) = .inr (3, [va_rf none, .int (nI 0), .int (nI 1), .int (nI (hxn (xN (ct o)))), .int (bI false)]) := rfl
section CL6
variable {l : Launch} {G : cG} {A : Nat → Prop} {w : wd} {px pI pO pX n : Nat} {ia : Nat → Nat} {nm : Nat → Int32} {ct : Nat → Int64} {lv lo : Nat → Bool} {fa fb : Nat → Option Nat} {fm nf : Nat → Option Frm} {O X : List Nat} {cp ru : Int32}
theorem PC.cnt (hP : PC G w px pI pO pX n ia nm ct lv lo fa fb O X cp ru) (cp' ru' : Int32) : PC G (wup w px (.inr (6, [.ref pI, .ref pO, .ref pX, .int cp', .int ru']))) px pI pO pX n ia nm ct lv lo fa fb O X cp' ru' := by
  refine ⟨wup_s _ _ _, fun j hj => ?_, hP.2.2.1.kp (wkp_o hP.1 (by decide) (by decide)), hP.2.2.2⟩
  rw [wup_n _ _ (fun z => by have h9 := hP.2.1 j hj; rw [z, hP.1] at h9; cases h9)]; exact hP.2.1 j hj
theorem k3_cnt (hP : PC G w px pI pO pX n ia nm ct lv lo fa fb O X cp ru) (e : va_E) : k3 w (wup w px e) := k3_of hP.1 (by decide)
set_option maxRecDepth 100000 in
set_option maxHeartbeats 4000000 in
theorem c_X3_reuseForm (hP : PC G w px pI pO pX n ia nm ct lv lo fa fb O X cp ru) (hB : FW w n ia fb fm) (hF : FW w n ia fa nf) (hC : CH n fm) (hCn : CH n nf) (hT : FCt n ct fm) {o bd : Nat} (ho : o < n) (hbd : bd ≤ 6) : Met l yX3_reuseForm wsX3_reuseForm ({ frames := 9, cells := 1, slots := 5, locals := 144 } : Room) (Pw G A w [.ref px, .ref (ia o), .int (nI bd)]) (va_Qq (fun r w' => (reu fm nf bd o = none ∧ w = w' ∧ r = none) ∨ ∃ b q, reu fm nf bd o = some b ∧ r = some q ∧ w q = none ∧ PC G w' px pI pO pX n ia nm ct lv lo fa fb O X cp (ru + nI 1) ∧ k3 w w' ∧ w' q = some (frc ia (mkF ct nf o (some b)))) (Bw G A) A) 1 5 A := by
  refine m_of (cc := cX3_reuseForm) (maxL := 5) (ret := (some (.object "Packstack$Form"))) (by decide) rfl (Nat.le_of_ble_eq_true rfl) ?_
  intro p e s m args below meth c hc hr hmn
  refine v_loc [(0, some (.ref px)), (1, some (.ref (ia o))), (2, some (.int (nI bd)))] rfl ?_
  first | refine v_aload_n hc (i := 1) rfl dX3_reuseForm_0 rfl ?_ | refine v_aload_nN hc (i := 1) rfl dX3_reuseForm_0 rfl ?_
  refine v_get hc 8 (ci := 4) rfl (by decide +kernel) (by decide) (by decide +kernel) (fun _ h => h) dX3_reuseForm_1 (hP.2.1 o ho) rfl ?_
  cases hfm : fm o with
  | none =>
    rw [(hB o ho).1 hfm]
    first | refine v_astore_n hc (i := 3) rfl dX3_reuseForm_4 (by decide) rfl ?_ | refine v_astore_nN hc (i := 3) rfl dX3_reuseForm_4 (by decide) rfl ?_
    first | refine v_aload_n hc (i := 3) rfl dX3_reuseForm_5 rfl ?_ | refine v_aload_nN hc (i := 3) rfl dX3_reuseForm_5 rfl ?_
    refine v_ifnull_N hc (tgt := 23) dX3_reuseForm_6 (by decide) ?_
    refine v_null hc dX3_reuseForm_23 ?_
    exact v_aret hc (none) hr (by first | exact Or.inl ⟨_, rfl⟩ | exact Or.inr ⟨_, rfl⟩) rfl dX3_reuseForm_24 (by first | exact Nat.le_of_ble_eq_true rfl | omega | (dsimp only; omega)) (by first | exact Nat.le_of_ble_eq_true rfl | omega | (dsimp only; omega)) (Or.inl ⟨by unfold reu; rw [hfm], rfl, rfl⟩)
  | some g =>
    obtain ⟨f, hfb, hfw⟩ := (hB o ho).2 g hfm
    rw [hfb]
    obtain ⟨gb, gd, gp, gc, gx⟩ := g
    first | refine v_astore_n hc (i := 3) rfl dX3_reuseForm_4 (by decide) rfl ?_ | refine v_astore_nN hc (i := 3) rfl dX3_reuseForm_4 (by decide) rfl ?_
    first | refine v_aload_n hc (i := 3) rfl dX3_reuseForm_5 rfl ?_ | refine v_aload_nN hc (i := 3) rfl dX3_reuseForm_5 rfl ?_
    refine v_ifnull_R hc dX3_reuseForm_6 ?_
    first | refine v_aload_n hc (i := 3) rfl dX3_reuseForm_9 rfl ?_ | refine v_aload_nN hc (i := 3) rfl dX3_reuseForm_9 rfl ?_
    refine v_get hc 0 (ci := 3) rfl (by decide +kernel) (by decide) (by decide +kernel) (fun _ h => h) dX3_reuseForm_10 (hfw) rfl ?_
    cases gb with
    | none =>
      refine v_ifnull_N hc (tgt := 23) dX3_reuseForm_13 (by decide) ?_
      refine v_null hc dX3_reuseForm_23 ?_
      exact v_aret hc (none) hr (by first | exact Or.inl ⟨_, rfl⟩ | exact Or.inr ⟨_, rfl⟩) rfl dX3_reuseForm_24 (by first | exact Nat.le_of_ble_eq_true rfl | omega | (dsimp only; omega)) (by first | exact Nat.le_of_ble_eq_true rfl | omega | (dsimp only; omega)) (Or.inl ⟨by unfold reu; rw [hfm]; cases gx <;> rfl, rfl, rfl⟩)
    | some b =>
      have hb := (hC o ho _ hfm).2 b rfl
      have hTo := (hT o ho _ hfm).2 b rfl
      refine v_ifnull_R hc dX3_reuseForm_13 ?_
      first | refine v_aload_n hc (i := 3) rfl dX3_reuseForm_16 rfl ?_ | refine v_aload_nN hc (i := 3) rfl dX3_reuseForm_16 rfl ?_
      refine v_get hc 4 (ci := 3) rfl (by decide +kernel) (by decide) (by decide +kernel) (fun _ h => h) dX3_reuseForm_17 (hfw) rfl ?_
      refine v_ifB_eq hc (tgt := 25) dX3_reuseForm_20 (by decide) (fun h5 => ?_) (fun h5 => ?_)
      · have h5 : gx = false := h5
        subst h5
        first | refine v_aload_n hc (i := 3) rfl dX3_reuseForm_25 rfl ?_ | refine v_aload_nN hc (i := 3) rfl dX3_reuseForm_25 rfl ?_
        refine v_get hc 0 (ci := 3) rfl (by decide +kernel) (by decide) (by decide +kernel) (fun _ h => h) dX3_reuseForm_26 (hfw) rfl ?_
        refine v_get hc 7 (ci := 4) rfl (by decide +kernel) (by decide) (by decide +kernel) (fun _ h => h) dX3_reuseForm_29 (hP.2.1 b hb.1) rfl ?_
        cases hnf : nf b with
        | none =>
          rw [(hF b hb.1).1 hnf]
          first | refine v_astore hc dX3_reuseForm_32 (by decide) rfl ?_ | refine v_astoreN hc dX3_reuseForm_32 (by decide) rfl ?_
          first | refine v_aload hc dX3_reuseForm_34 rfl ?_ | refine v_aloadN hc dX3_reuseForm_34 rfl ?_
          refine v_ifnull_N hc (tgt := 48) dX3_reuseForm_36 (by decide) ?_
          refine v_null hc dX3_reuseForm_48 ?_
          exact v_aret hc (none) hr (by first | exact Or.inl ⟨_, rfl⟩ | exact Or.inr ⟨_, rfl⟩) rfl dX3_reuseForm_49 (by first | exact Nat.le_of_ble_eq_true rfl | omega | (dsimp only; omega)) (by first | exact Nat.le_of_ble_eq_true rfl | omega | (dsimp only; omega)) (Or.inl ⟨by unfold reu; rw [hfm]; simp [hnf], rfl, rfl⟩)
        | some g' =>
          obtain ⟨f', hfa, hfw'⟩ := (hF b hb.1).2 g' hnf
          have hd' := (hCn b hb.1 g' hnf).1
          rw [hfa]
          first | refine v_astore hc dX3_reuseForm_32 (by decide) rfl ?_ | refine v_astoreN hc dX3_reuseForm_32 (by decide) rfl ?_
          first | refine v_aload hc dX3_reuseForm_34 rfl ?_ | refine v_aloadN hc dX3_reuseForm_34 rfl ?_
          refine v_ifnull_R hc dX3_reuseForm_36 ?_
          first | refine v_aload hc dX3_reuseForm_39 rfl ?_ | refine v_aloadN hc dX3_reuseForm_39 rfl ?_
          refine v_get hc 1 (ci := 3) rfl (by decide +kernel) (by decide) (by decide +kernel) (fun _ h => h) dX3_reuseForm_41 (hfw') rfl ?_
          refine v_iload_n hc (i := 2) rfl dX3_reuseForm_44 rfl ?_
          refine v_icmp_ltN hc (tgt := 50) dX3_reuseForm_45 (by decide) (by omega) (by omega) (fun h6 => ?_) (fun h6 => ?_)
          · have hreu : reu fm nf bd o = some b := by unfold reu; rw [hfm]; simp [hnf, h6]
            have hdep : dep nf b = g'.2.1 := by unfold dep; rw [hnf]
            have hTo1 : gp = dpa (xN (ct o)) (xN (ct b)) := hTo.1
            have hTo2 : gc = dco (xN (ct o)) (xN (ct b)) := hTo.2
            first | refine v_aload_n hc (i := 0) rfl dX3_reuseForm_50 rfl ?_ | refine v_aload_nN hc (i := 0) rfl dX3_reuseForm_50 rfl ?_
            refine v_dup hc dX3_reuseForm_51 rfl ?_
            refine v_get hc 4 (ci := 6) rfl (by decide +kernel) (by decide) (by decide +kernel) (fun _ h => h) dX3_reuseForm_52 (hP.1) rfl ?_
            refine v_iconst hc (v := nI 1) dX3_reuseForm_55 (by decide) ?_
            refine v_iadd hc dX3_reuseForm_56 ?_
            refine v_put hc 4 (ci := 6) rfl tyX3 tyX3_ok nmX3 (by decide +kernel) (by decide) (by decide +kernel) (fun _ h => h) rfl (tyX3_ok 4 (by decide)) rfl rfl (Nat.le_of_ble_eq_true rfl) dX3_reuseForm_57 (hP.1) ?_
            refine v_w (show _ = wup w px (.inr (6, [.ref pI, .ref pO, .ref pX, .int cp, .int (ru + nI 1)])) from rfl) ?_
            have hP1 := hP.cnt cp (ru + nI 1)
            have hk1 := k3_cnt hP (.inr (6, [.ref pI, .ref pO, .ref pX, .int cp, .int (ru + nI 1)]))
            refine v_new hc (ci := 3) (fs := [.null, .int 0, .int 0, .int 0, .int 0]) rfl tyX0 tyX0_ok (by decide +kernel) (by decide +kernel) (by decide +kernel) (by decide +kernel) (fun j hj => by rcases (show j = 0 ∨ j = 1 ∨ j = 2 ∨ j = 3 ∨ j = 4 by omega) with rfl | rfl | rfl | rfl | rfl <;> rfl) (by first | exact Nat.le_of_ble_eq_true rfl | omega | (dsimp only; omega)) (by first | exact Nat.le_of_ble_eq_true rfl | omega | (dsimp only; omega)) dX3_reuseForm_60 (fun q hq hqA => ?_)
            have hwl := wle_new hq (.inr (3, [.null, .int 0, .int 0, .int 0, .int 0]))
            have hq0 : w q = none := by
              have h8 := hq
              rw [wup_n _ _ (fun z => by rw [z, wup_s] at hq; cases hq)] at h8
              exact h8
            refine v_dup hc dX3_reuseForm_63 rfl ?_
            first | refine v_aload_n hc (i := 3) rfl dX3_reuseForm_64 rfl ?_ | refine v_aload_nN hc (i := 3) rfl dX3_reuseForm_64 rfl ?_
            refine v_get hc 0 (ci := 3) rfl (by decide +kernel) (by decide) (by decide +kernel) (fun _ h => h) dX3_reuseForm_65 (hwl _ _ (hk1 _ _ hfw)) rfl ?_
            first | refine v_aload hc dX3_reuseForm_68 rfl ?_ | refine v_aloadN hc dX3_reuseForm_68 rfl ?_
            refine v_get hc 1 (ci := 3) rfl (by decide +kernel) (by decide) (by decide +kernel) (fun _ h => h) dX3_reuseForm_70 (hwl _ _ (hk1 _ _ hfw')) rfl ?_
            refine v_iconst hc (v := nI 1) dX3_reuseForm_73 (by decide) ?_
            first | refine v_iaddN hc dX3_reuseForm_74 ?_ | refine v_iadd hc dX3_reuseForm_74 ?_
            first | refine v_aload_n hc (i := 3) rfl dX3_reuseForm_75 rfl ?_ | refine v_aload_nN hc (i := 3) rfl dX3_reuseForm_75 rfl ?_
            refine v_get hc 2 (ci := 3) rfl (by decide +kernel) (by decide) (by decide +kernel) (fun _ h => h) dX3_reuseForm_76 (hwl _ _ (hk1 _ _ hfw)) rfl ?_
            first | refine v_aload_n hc (i := 3) rfl dX3_reuseForm_79 rfl ?_ | refine v_aload_nN hc (i := 3) rfl dX3_reuseForm_79 rfl ?_
            refine v_get hc 3 (ci := 3) rfl (by decide +kernel) (by decide) (by decide +kernel) (fun _ h => h) dX3_reuseForm_80 (hwl _ _ (hk1 _ _ hfw)) rfl ?_
            refine v_callIv hc (c_X0_init (wup_s _ _ _) (some (ia b)) (nI (g'.2.1 + 1)) (nI gp) (nI gc)) (cwI 4 hc.1.2.2.2.2 gX3_reuseForm_X0_init rfl rfl rfl (hc.1.2.2.2.2 (.initialized yX0_init.cls) (by decide +kernel)) (hc.1.2.2.2.2 (.methodLink RX3 212 yX0_init) (by decide +kernel)) (hc.1.2.2.2.2 (.instanceMethod yX0_init) (by decide +kernel)) rfl (by decide +kernel) ⟨Nat.le_of_ble_eq_true rfl, Nat.le_of_ble_eq_true rfl⟩) rfl rfl (Nat.le_of_ble_eq_true rfl) ⟨(by first | exact Nat.le_of_ble_eq_true rfl | omega | (dsimp only; omega)), (by first | exact Nat.le_of_ble_eq_true rfl | omega | (dsimp only; omega))⟩ dX3_reuseForm_83 (fun w' hp => ?_)
            subst hp
            rw [wup_up]
            exact v_aret hc (some q) hr (by first | exact Or.inl ⟨_, rfl⟩ | exact Or.inr ⟨_, rfl⟩) rfl dX3_reuseForm_86 (by first | exact Nat.le_of_ble_eq_true rfl | omega | (dsimp only; omega)) (by first | exact Nat.le_of_ble_eq_true rfl | omega | (dsimp only; omega)) (Or.inr ⟨b, q, hreu, rfl, hq0, hP1.le (wle_new hq _), fun x vs hx => wle_new hq _ _ _ (hk1 x vs hx), by rw [wup_s, frc_mk, hdep, ← hTo1, ← hTo2]; rfl⟩)
          · refine v_null hc dX3_reuseForm_48 ?_
            exact v_aret hc (none) hr (by first | exact Or.inl ⟨_, rfl⟩ | exact Or.inr ⟨_, rfl⟩) rfl dX3_reuseForm_49 (by first | exact Nat.le_of_ble_eq_true rfl | omega | (dsimp only; omega)) (by first | exact Nat.le_of_ble_eq_true rfl | omega | (dsimp only; omega)) (Or.inl ⟨by unfold reu; rw [hfm]; simp [hnf]; omega, rfl, rfl⟩)
      · refine v_null hc dX3_reuseForm_23 ?_
        exact v_aret hc (none) hr (by first | exact Or.inl ⟨_, rfl⟩ | exact Or.inr ⟨_, rfl⟩) rfl dX3_reuseForm_24 (by first | exact Nat.le_of_ble_eq_true rfl | omega | (dsimp only; omega)) (by first | exact Nat.le_of_ble_eq_true rfl | omega | (dsimp only; omega)) (Or.inl ⟨by unfold reu; rw [hfm]; simp only [show gx = true from h5, if_true], rfl, rfl⟩)
def bdp (nf : Nat → Option Frm) (b : Option Nat) : Nat := match b with
  | none => 0
  | some b => dep nf b + 1
set_option maxRecDepth 100000 in
set_option maxHeartbeats 4000000 in
theorem c_X3_findForm (hP : PC G w px pI pO pX n ia nm ct lv lo fa fb O X cp ru) (hF : FW w n ia fa nf) (hCn : CH n nf) (hct : ∀ i, i < n → isC (ct i) = true) {p : Nat} (hp : p < O.length) (hpl : ∀ j, j < p → ∃ g, nf (O.getD j 0) = some g) {o W bd c0 : Nat} (ho : o < n) (hW : W ≤ 8) (hbd : bd ≤ 6) (hcp : cp = nI c0) : Met l yX3_findForm wsX3_findForm ({ frames := 14, cells := 1, slots := 5, locals := 259 } : Room) (Pw G A w [.ref px, .ref (ia o), .int (nI p), .int (nI W), .int (nI bd)]) (va_Qq (fun r w' => ∃ q, r = some q ∧ w q = none ∧ PC G w' px pI pO pX n ia nm ct lv lo fa fb O X (nI (bst ct nf bd W O p o c0).2.2) ru ∧ k3 w w' ∧ w' q = some (frc ia (mkF ct nf o (bst ct nf bd W O p o c0).1))) (Bw G A) A) 1 5 A := by
  refine m_of (cc := cX3_findForm) (maxL := 12) (ret := (some (.object "Packstack$Form"))) (by decide) rfl (Nat.le_of_ble_eq_true rfl) ?_
  intro pp e s m args below meth c hc hr hmn

  refine v_loc [(0, some (.ref px)), (1, some (.ref (ia o))), (2, some (.int (nI p))), (3, some (.int (nI W))), (4, some (.int (nI bd)))] rfl ?_
  obtain ⟨vs, haO⟩ := hP.alO
  have ho40 := hP.o40
  have hPc : ∀ x, PC G (wup w px (.inr (6, [.ref pI, .ref pO, .ref pX, .int (nI x), .int ru]))) px pI pO pX n ia nm ct lv lo fa fb O X (nI x) ru := fun x => hP.cnt (nI x) ru
  have hqw : ∀ {q x}, wup w px x q = none → w q = none := fun {q x} hq => by
    have h8 := hq
    rw [wup_n _ _ (fun z => by rw [z, wup_s] at hq; cases hq)] at h8
    exact h8
  have hqw : ∀ (x : va_E) {q : Nat}, wup w px x q = none → w q = none := fun x {q} hq => hqw hq
  have hlO := isC_15 (hct o ho)
  refine v_null hc dX3_findForm_0 ?_
  first | refine v_astore hc dX3_findForm_1 (by decide) rfl ?_ | refine v_astoreN hc dX3_findForm_1 (by decide) rfl ?_
  first | refine v_aload_n hc (i := 1) rfl dX3_findForm_3 rfl ?_ | refine v_aload_nN hc (i := 1) rfl dX3_findForm_3 rfl ?_
  refine v_get hc 3 (ci := 4) rfl (by decide +kernel) (by decide) (by decide +kernel) (fun _ h => h) dX3_findForm_4 (hP.2.1 o ho) rfl ?_
  refine v_istore hc dX3_findForm_7 (by decide) rfl ?_
  refine v_iconst hc (v := nI 0) dX3_findForm_9 (by decide) ?_
  refine v_istore hc dX3_findForm_10 (by decide) rfl ?_
  refine v_iload_n hc (i := 2) rfl dX3_findForm_12 rfl ?_
  first | refine v_aload_n hc (i := 0) rfl dX3_findForm_13 rfl ?_ | refine v_aload_nN hc (i := 0) rfl dX3_findForm_13 rfl ?_
  refine v_get hc 1 (ci := 6) rfl (by decide +kernel) (by decide) (by decide +kernel) (fun _ h => h) dX3_findForm_14 (hP.1) rfl ?_
  refine v_callVi hc (hP.szO) (cwV 0 hc.1.2.2.2.2 gX3_findForm_Jx4a65c_size_8abf5 rfl rfl rfl (by decide +kernel) ⟨Nat.le_of_ble_eq_true rfl, Nat.le_of_ble_eq_true rfl⟩) (haO) rfl rfl rfl (Nat.le_of_ble_eq_true rfl) ⟨(by first | exact Nat.le_of_ble_eq_true rfl | omega | (dsimp only; omega)), (by first | exact Nat.le_of_ble_eq_true rfl | omega | (dsimp only; omega))⟩ dX3_findForm_17 (fun r w' hp => ?_)
  obtain ⟨rfl, rfl⟩ := hp
  refine v_mmin hc (by decide +kernel) (by decide +kernel) (by decide +kernel) (by decide +kernel) (Nat.le_of_ble_eq_true rfl) (Nat.le_of_ble_eq_true rfl) (by first | exact Nat.le_of_ble_eq_true rfl | omega | (dsimp only; omega)) (by first | exact Nat.le_of_ble_eq_true rfl | omega | (dsimp only; omega)) dX3_findForm_20 ?_
  refine v_ti (show _ = nI p by rw [if_neg (nI_nlt (by omega) (by omega))]) ?_
  refine v_iconst hc (v := nI 1) dX3_findForm_23 (by decide) ?_
  refine v_isub hc dX3_findForm_24 ?_
  refine v_istore hc dX3_findForm_25 (by decide) rfl ?_
  refine v_w (show w = wup w px (.inr (6, [.ref pI, .ref pO, .ref pX, .int (nI c0), .int ru])) by rw [wup_id (by rw [← hcp]; exact hP.1)]) ?_
  refine v_loop (σ := Nat × Acc) (fun a => (1 ≤ a.1 ∧ a.1 ≤ min W p + 1 ∧ a.2.2.1 ≤ 31) ∧ aok ct nf bd O p o a.2 ∧ bsr ct nf bd O p o (min W p + 1 - a.1) a.1 a.2 = bst ct nf bd W O p o c0) (fun a => p + 1 - a.1) (fun a => wup w px (.inr (6, [.ref pI, .ref pO, .ref pX, .int (nI a.2.2.2), .int ru]))) (fun _ => 0) (fun _ => 0) (fun a => [(0, some (.ref px)), (1, some (.ref (ia o))), (2, some (.int (nI p))), (3, some (.int (nI W))), (4, some (.int (nI bd))), (5, some (va_rf (a.2.1.map ia))), (6, some (.int (nI a.2.2.1))), (7, some (.int (nI (bdp nf a.2.1)))), (8, some (.int (nI (p + 1 - a.1) - nI 1)))]) (1, none, hxn (xN (ct o)), c0) rfl ⟨⟨Nat.le_refl _, by dsimp only; omega, by dsimp only; omega⟩, ⟨fun _ => rfl, fun b hb => (nomatch hb)⟩, rfl⟩ ?_
  rintro ⟨kk, a⟩ ⟨⟨hk1, hk2, ha31⟩, hok, hI⟩ ih
  dsimp only at hk1 hk2 ha31 hok hI ih ⊢
  have hP2 := hPc a.2.2
  by_cases hkp : kk = p + 1
  · have e : nI (p + 1 - kk) - nI 1 = nI 0 - nI 1 := by rw [show p + 1 - kk = 0 by omega]
    rw [e]
    refine v_iload hc dX3_findForm_27 rfl ?_
    refine v_if_lt hc (tgt := 124) dX3_findForm_29 (by decide) (fun h1 => ?_) (fun h1 => ?_)
    · have hab : bst ct nf bd W O p o c0 = a := by
        rw [← hI, show min W p + 1 - kk = 0 by omega]; rfl
      cases hbest : a.1 with
      | none =>
        first | refine v_aload hc dX3_findForm_124 rfl ?_ | refine v_aloadN hc dX3_findForm_124 rfl ?_
        refine v_ifnonnull_N hc dX3_findForm_126 ?_
        refine v_iconst hc (v := nI 1) dX3_findForm_129 (by decide) ?_
        refine v_goto hc (tgt := 140) dX3_findForm_130 (by decide) ?_
        refine v_istore hc dX3_findForm_140 (by decide) rfl ?_
        refine v_new hc (ci := 3) (fs := [.null, .int 0, .int 0, .int 0, .int 0]) rfl tyX0 tyX0_ok (by decide +kernel) (by decide +kernel) (by decide +kernel) (by decide +kernel) (fun j hj => by rcases (show j = 0 ∨ j = 1 ∨ j = 2 ∨ j = 3 ∨ j = 4 by omega) with rfl | rfl | rfl | rfl | rfl <;> rfl) (by first | exact Nat.le_of_ble_eq_true rfl | omega | (dsimp only; omega)) (by first | exact Nat.le_of_ble_eq_true rfl | omega | (dsimp only; omega)) dX3_findForm_142 (fun q hq hqA => ?_)
        refine v_dup hc dX3_findForm_145 rfl ?_
        first | refine v_aload hc dX3_findForm_146 rfl ?_ | refine v_aloadN hc dX3_findForm_146 rfl ?_
        refine v_iload hc dX3_findForm_148 rfl ?_
        refine v_iload hc dX3_findForm_150 rfl ?_
        refine v_iload hc dX3_findForm_152 rfl ?_
        have ha1 := hok.1 hbest
        refine v_callIv hc (c_X0_init (wup_s _ _ _) none (nI 0) (nI 1) (nI a.2.1)) (cwI 4 hc.1.2.2.2.2 gX3_findForm_X0_init rfl rfl rfl (hc.1.2.2.2.2 (.initialized yX0_init.cls) (by decide +kernel)) (hc.1.2.2.2.2 (.methodLink RX3 212 yX0_init) (by decide +kernel)) (hc.1.2.2.2.2 (.instanceMethod yX0_init) (by decide +kernel)) rfl (by decide +kernel) ⟨Nat.le_of_ble_eq_true rfl, Nat.le_of_ble_eq_true rfl⟩) rfl rfl (Nat.le_of_ble_eq_true rfl) ⟨(by first | exact Nat.le_of_ble_eq_true rfl | omega | (dsimp only; omega)), (by first | exact Nat.le_of_ble_eq_true rfl | omega | (dsimp only; omega))⟩ dX3_findForm_154 (fun w' hp => ?_)
        subst hp
        rw [wup_up]
        exact v_aret hc (some q) hr (by first | exact Or.inl ⟨_, rfl⟩ | exact Or.inr ⟨_, rfl⟩) rfl dX3_findForm_157 (by first | exact Nat.le_of_ble_eq_true rfl | omega | (dsimp only; omega)) (by first | exact Nat.le_of_ble_eq_true rfl | omega | (dsimp only; omega)) (⟨q, rfl, hqw _ hq, by rw [hab]; exact (hPc a.2.2).le (wle_new hq _), fun x vs hx => wle_new hq _ _ _ (k3_cnt hP _ x vs hx), by rw [wup_s, hab, hbest, frc_mk0, ← ha1]; rfl⟩)
      | some b =>
        obtain ⟨hb1, ⟨jb, hjb, hjb2⟩, hb3⟩ := hok.2 b hbest
        have hbn : b < n := by rw [← hjb2]; exact hP.2.2.2.1 _ (getD_mem (by omega))
        first | refine v_aload hc dX3_findForm_124 rfl ?_ | refine v_aloadN hc dX3_findForm_124 rfl ?_
        refine v_ifnonnull_R hc (tgt := 133) dX3_findForm_126 (by decide) ?_
        first | refine v_aload_n hc (i := 1) rfl dX3_findForm_133 rfl ?_ | refine v_aload_nN hc (i := 1) rfl dX3_findForm_133 rfl ?_
        first | refine v_aload hc dX3_findForm_134 rfl ?_ | refine v_aloadN hc dX3_findForm_134 rfl ?_
        refine v_iconst hc (v := nI 1) dX3_findForm_136 (by decide) ?_
        refine v_callSi hc (c_X3_weighParts ((hPc a.2.2).2.1 o ho) ((hPc a.2.2).2.1 b hbn) (hct o ho) (hct b hbn) 1 (by decide)) (va_cwS 3 hc.1.2.2.2.2 gX3_findForm_X3_weighParts rfl rfl rfl (by decide +kernel) ⟨Nat.le_of_ble_eq_true rfl, Nat.le_of_ble_eq_true rfl⟩) rfl rfl (Nat.le_of_ble_eq_true rfl) ⟨(by first | exact Nat.le_of_ble_eq_true rfl | omega | (dsimp only; omega)), (by first | exact Nat.le_of_ble_eq_true rfl | omega | (dsimp only; omega))⟩ dX3_findForm_137 (fun r w' hp => ?_)
        obtain ⟨rfl, rfl⟩ := hp
        refine v_istore hc dX3_findForm_140 (by decide) rfl ?_
        refine v_new hc (ci := 3) (fs := [.null, .int 0, .int 0, .int 0, .int 0]) rfl tyX0 tyX0_ok (by decide +kernel) (by decide +kernel) (by decide +kernel) (by decide +kernel) (fun j hj => by rcases (show j = 0 ∨ j = 1 ∨ j = 2 ∨ j = 3 ∨ j = 4 by omega) with rfl | rfl | rfl | rfl | rfl <;> rfl) (by first | exact Nat.le_of_ble_eq_true rfl | omega | (dsimp only; omega)) (by first | exact Nat.le_of_ble_eq_true rfl | omega | (dsimp only; omega)) dX3_findForm_142 (fun q hq hqA => ?_)
        refine v_dup hc dX3_findForm_145 rfl ?_
        first | refine v_aload hc dX3_findForm_146 rfl ?_ | refine v_aloadN hc dX3_findForm_146 rfl ?_
        refine v_iload hc dX3_findForm_148 rfl ?_
        refine v_iload hc dX3_findForm_150 rfl ?_
        refine v_iload hc dX3_findForm_152 rfl ?_
        refine v_callIv hc (c_X0_init (wup_s _ _ _) (some (ia b)) (nI (dep nf b + 1)) (nI (1 * cpt (xN (ct o)) (xN (ct b)) 0 + adt (xN (ct o)) (xN (ct b)) 0)) (nI a.2.1)) (cwI 4 hc.1.2.2.2.2 gX3_findForm_X0_init rfl rfl rfl (hc.1.2.2.2.2 (.initialized yX0_init.cls) (by decide +kernel)) (hc.1.2.2.2.2 (.methodLink RX3 212 yX0_init) (by decide +kernel)) (hc.1.2.2.2.2 (.instanceMethod yX0_init) (by decide +kernel)) rfl (by decide +kernel) ⟨Nat.le_of_ble_eq_true rfl, Nat.le_of_ble_eq_true rfl⟩) rfl rfl (Nat.le_of_ble_eq_true rfl) ⟨(by first | exact Nat.le_of_ble_eq_true rfl | omega | (dsimp only; omega)), (by first | exact Nat.le_of_ble_eq_true rfl | omega | (dsimp only; omega))⟩ dX3_findForm_154 (fun w' hp => ?_)
        subst hp
        rw [wup_up]
        exact v_aret hc (some q) hr (by first | exact Or.inl ⟨_, rfl⟩ | exact Or.inr ⟨_, rfl⟩) rfl dX3_findForm_157 (by first | exact Nat.le_of_ble_eq_true rfl | omega | (dsimp only; omega)) (by first | exact Nat.le_of_ble_eq_true rfl | omega | (dsimp only; omega)) (⟨q, rfl, hqw _ hq, by rw [hab]; exact (hPc a.2.2).le (wle_new hq _), fun x vs hx => wle_new hq _ _ _ (k3_cnt hP _ x vs hx), by rw [wup_s, hab, hbest, frc_mk, ← hb3, Nat.one_mul]; rfl⟩)
    · exact absurd (by decide) h1
  · have e : nI (p + 1 - kk) - nI 1 = nI (p - kk) := by rw [pk_sub (by omega), show p + 1 - kk - 1 = p - kk by omega]
    have e2 : nI (p - kk) - nI 1 = nI (p + 1 - (kk + 1)) - nI 1 := by rw [show p + 1 - (kk + 1) = p - kk by omega]
    rw [e]
    refine v_iload hc dX3_findForm_27 rfl ?_
    refine v_if_lt hc (tgt := 124) dX3_findForm_29 (by decide) (fun h1 => ?_) (fun h1 => ?_)
    · exact absurd h1 (nI_pos (by omega))
    · refine v_iload hc dX3_findForm_32 rfl ?_
      refine v_iload_n hc (i := 2) rfl dX3_findForm_34 rfl ?_
      refine v_iload_n hc (i := 3) rfl dX3_findForm_35 rfl ?_
      refine v_isub hc dX3_findForm_36 ?_
      refine v_icmp_lt hc (tgt := 124) dX3_findForm_37 (by decide) (fun h2 => ?_) (fun h2 => ?_)
      · rw [Int32.lt_iff_toInt_lt, nI_toInt (by omega), pk_sub_toInt (by omega) (by omega)] at h2
        have hkW : kk = min W p + 1 := by omega
        have hab : bst ct nf bd W O p o c0 = a := by
          rw [← hI, show min W p + 1 - kk = 0 by omega]; rfl
        cases hbest : a.1 with
        | none =>
          first | refine v_aload hc dX3_findForm_124 rfl ?_ | refine v_aloadN hc dX3_findForm_124 rfl ?_
          refine v_ifnonnull_N hc dX3_findForm_126 ?_
          refine v_iconst hc (v := nI 1) dX3_findForm_129 (by decide) ?_
          refine v_goto hc (tgt := 140) dX3_findForm_130 (by decide) ?_
          refine v_istore hc dX3_findForm_140 (by decide) rfl ?_
          refine v_new hc (ci := 3) (fs := [.null, .int 0, .int 0, .int 0, .int 0]) rfl tyX0 tyX0_ok (by decide +kernel) (by decide +kernel) (by decide +kernel) (by decide +kernel) (fun j hj => by rcases (show j = 0 ∨ j = 1 ∨ j = 2 ∨ j = 3 ∨ j = 4 by omega) with rfl | rfl | rfl | rfl | rfl <;> rfl) (by first | exact Nat.le_of_ble_eq_true rfl | omega | (dsimp only; omega)) (by first | exact Nat.le_of_ble_eq_true rfl | omega | (dsimp only; omega)) dX3_findForm_142 (fun q hq hqA => ?_)
          refine v_dup hc dX3_findForm_145 rfl ?_
          first | refine v_aload hc dX3_findForm_146 rfl ?_ | refine v_aloadN hc dX3_findForm_146 rfl ?_
          refine v_iload hc dX3_findForm_148 rfl ?_
          refine v_iload hc dX3_findForm_150 rfl ?_
          refine v_iload hc dX3_findForm_152 rfl ?_
          have ha1 := hok.1 hbest
          refine v_callIv hc (c_X0_init (wup_s _ _ _) none (nI 0) (nI 1) (nI a.2.1)) (cwI 4 hc.1.2.2.2.2 gX3_findForm_X0_init rfl rfl rfl (hc.1.2.2.2.2 (.initialized yX0_init.cls) (by decide +kernel)) (hc.1.2.2.2.2 (.methodLink RX3 212 yX0_init) (by decide +kernel)) (hc.1.2.2.2.2 (.instanceMethod yX0_init) (by decide +kernel)) rfl (by decide +kernel) ⟨Nat.le_of_ble_eq_true rfl, Nat.le_of_ble_eq_true rfl⟩) rfl rfl (Nat.le_of_ble_eq_true rfl) ⟨(by first | exact Nat.le_of_ble_eq_true rfl | omega | (dsimp only; omega)), (by first | exact Nat.le_of_ble_eq_true rfl | omega | (dsimp only; omega))⟩ dX3_findForm_154 (fun w' hp => ?_)
          subst hp
          rw [wup_up]
          exact v_aret hc (some q) hr (by first | exact Or.inl ⟨_, rfl⟩ | exact Or.inr ⟨_, rfl⟩) rfl dX3_findForm_157 (by first | exact Nat.le_of_ble_eq_true rfl | omega | (dsimp only; omega)) (by first | exact Nat.le_of_ble_eq_true rfl | omega | (dsimp only; omega)) (⟨q, rfl, hqw _ hq, by rw [hab]; exact (hPc a.2.2).le (wle_new hq _), fun x vs hx => wle_new hq _ _ _ (k3_cnt hP _ x vs hx), by rw [wup_s, hab, hbest, frc_mk0, ← ha1]; rfl⟩)
        | some b =>
          obtain ⟨hb1, ⟨jb, hjb, hjb2⟩, hb3⟩ := hok.2 b hbest
          have hbn : b < n := by rw [← hjb2]; exact hP.2.2.2.1 _ (getD_mem (by omega))
          first | refine v_aload hc dX3_findForm_124 rfl ?_ | refine v_aloadN hc dX3_findForm_124 rfl ?_
          refine v_ifnonnull_R hc (tgt := 133) dX3_findForm_126 (by decide) ?_
          first | refine v_aload_n hc (i := 1) rfl dX3_findForm_133 rfl ?_ | refine v_aload_nN hc (i := 1) rfl dX3_findForm_133 rfl ?_
          first | refine v_aload hc dX3_findForm_134 rfl ?_ | refine v_aloadN hc dX3_findForm_134 rfl ?_
          refine v_iconst hc (v := nI 1) dX3_findForm_136 (by decide) ?_
          refine v_callSi hc (c_X3_weighParts ((hPc a.2.2).2.1 o ho) ((hPc a.2.2).2.1 b hbn) (hct o ho) (hct b hbn) 1 (by decide)) (va_cwS 3 hc.1.2.2.2.2 gX3_findForm_X3_weighParts rfl rfl rfl (by decide +kernel) ⟨Nat.le_of_ble_eq_true rfl, Nat.le_of_ble_eq_true rfl⟩) rfl rfl (Nat.le_of_ble_eq_true rfl) ⟨(by first | exact Nat.le_of_ble_eq_true rfl | omega | (dsimp only; omega)), (by first | exact Nat.le_of_ble_eq_true rfl | omega | (dsimp only; omega))⟩ dX3_findForm_137 (fun r w' hp => ?_)
          obtain ⟨rfl, rfl⟩ := hp
          refine v_istore hc dX3_findForm_140 (by decide) rfl ?_
          refine v_new hc (ci := 3) (fs := [.null, .int 0, .int 0, .int 0, .int 0]) rfl tyX0 tyX0_ok (by decide +kernel) (by decide +kernel) (by decide +kernel) (by decide +kernel) (fun j hj => by rcases (show j = 0 ∨ j = 1 ∨ j = 2 ∨ j = 3 ∨ j = 4 by omega) with rfl | rfl | rfl | rfl | rfl <;> rfl) (by first | exact Nat.le_of_ble_eq_true rfl | omega | (dsimp only; omega)) (by first | exact Nat.le_of_ble_eq_true rfl | omega | (dsimp only; omega)) dX3_findForm_142 (fun q hq hqA => ?_)
          refine v_dup hc dX3_findForm_145 rfl ?_
          first | refine v_aload hc dX3_findForm_146 rfl ?_ | refine v_aloadN hc dX3_findForm_146 rfl ?_
          refine v_iload hc dX3_findForm_148 rfl ?_
          refine v_iload hc dX3_findForm_150 rfl ?_
          refine v_iload hc dX3_findForm_152 rfl ?_
          refine v_callIv hc (c_X0_init (wup_s _ _ _) (some (ia b)) (nI (dep nf b + 1)) (nI (1 * cpt (xN (ct o)) (xN (ct b)) 0 + adt (xN (ct o)) (xN (ct b)) 0)) (nI a.2.1)) (cwI 4 hc.1.2.2.2.2 gX3_findForm_X0_init rfl rfl rfl (hc.1.2.2.2.2 (.initialized yX0_init.cls) (by decide +kernel)) (hc.1.2.2.2.2 (.methodLink RX3 212 yX0_init) (by decide +kernel)) (hc.1.2.2.2.2 (.instanceMethod yX0_init) (by decide +kernel)) rfl (by decide +kernel) ⟨Nat.le_of_ble_eq_true rfl, Nat.le_of_ble_eq_true rfl⟩) rfl rfl (Nat.le_of_ble_eq_true rfl) ⟨(by first | exact Nat.le_of_ble_eq_true rfl | omega | (dsimp only; omega)), (by first | exact Nat.le_of_ble_eq_true rfl | omega | (dsimp only; omega))⟩ dX3_findForm_154 (fun w' hp => ?_)
          subst hp
          rw [wup_up]
          exact v_aret hc (some q) hr (by first | exact Or.inl ⟨_, rfl⟩ | exact Or.inr ⟨_, rfl⟩) rfl dX3_findForm_157 (by first | exact Nat.le_of_ble_eq_true rfl | omega | (dsimp only; omega)) (by first | exact Nat.le_of_ble_eq_true rfl | omega | (dsimp only; omega)) (⟨q, rfl, hqw _ hq, by rw [hab]; exact (hPc a.2.2).le (wle_new hq _), fun x vs hx => wle_new hq _ _ _ (k3_cnt hP _ x vs hx), by rw [wup_s, hab, hbest, frc_mk, ← hb3, Nat.one_mul]; rfl⟩)
      · rw [Int32.lt_iff_toInt_lt, nI_toInt (by omega), pk_sub_toInt (by omega) (by omega)] at h2
        have hkW : kk ≤ min W p := by omega
        have hjl : p - kk < O.length := by omega
        have hm := hP.2.2.2.1 _ (getD_mem hjl)
        obtain ⟨g, hg⟩ := hpl (p - kk) (by omega)
        obtain ⟨f, hfa, hfw⟩ := (hF _ hm).2 g hg
        have hgd := (hCn _ hm g hg).1
        have hdep : dep nf (O.getD (p - kk) 0) = g.2.1 := by unfold dep; rw [hg]
        have hstep : bsr ct nf bd O p o (min W p + 1 - (kk + 1)) (kk + 1) (cdd ct nf bd o (O.getD (p - kk) 0) a) = bst ct nf bd W O p o c0 := by
          rw [← hI, show min W p + 1 - kk = (min W p + 1 - (kk + 1)) + 1 by omega]; rfl
        have hok2 := cdd_ok hok (k := kk) (by omega) (by omega)
        have hfw2 := k3_cnt hP (.inr (6, [.ref pI, .ref pO, .ref pX, .int (nI a.2.2), .int ru])) _ _ hfw
        first | refine v_aload_n hc (i := 0) rfl dX3_findForm_40 rfl ?_ | refine v_aload_nN hc (i := 0) rfl dX3_findForm_40 rfl ?_
        refine v_get hc 1 (ci := 6) rfl (by decide +kernel) (by decide) (by decide +kernel) (fun _ h => h) dX3_findForm_41 (hP2.1) rfl ?_
        refine v_iload hc dX3_findForm_44 rfl ?_
        refine v_callVq hc (hP2.gtO hjl) (cwV 1 hc.1.2.2.2.2 gX3_findForm_Jx4a65c_get_915e3 rfl rfl rfl (by decide +kernel) ⟨Nat.le_of_ble_eq_true rfl, Nat.le_of_ble_eq_true rfl⟩) (hP2.alO.choose_spec) rfl rfl rfl (Nat.le_of_ble_eq_true rfl) ⟨(by first | exact Nat.le_of_ble_eq_true rfl | omega | (dsimp only; omega)), (by first | exact Nat.le_of_ble_eq_true rfl | omega | (dsimp only; omega))⟩ dX3_findForm_46 (fun r w' hp => ?_)
        obtain ⟨rfl, rfl⟩ := hp
        refine v_cast hc (ci := 4) rfl (by decide +kernel) (hP2.2.1 _ hm) dX3_findForm_49 ?_
        first | refine v_astore hc dX3_findForm_52 (by decide) rfl ?_ | refine v_astoreN hc dX3_findForm_52 (by decide) rfl ?_
        first | refine v_aload hc dX3_findForm_54 rfl ?_ | refine v_aloadN hc dX3_findForm_54 rfl ?_
        refine v_get hc 7 (ci := 4) rfl (by decide +kernel) (by decide) (by decide +kernel) (fun _ h => h) dX3_findForm_56 (hP2.2.1 _ hm) rfl ?_
        rw [hfa]
        first | refine v_astore hc dX3_findForm_59 (by decide) rfl ?_ | refine v_astoreN hc dX3_findForm_59 (by decide) rfl ?_
        first | refine v_aload hc dX3_findForm_61 rfl ?_ | refine v_aloadN hc dX3_findForm_61 rfl ?_
        refine v_ifnull_R hc dX3_findForm_63 ?_
        first | refine v_aload hc dX3_findForm_66 rfl ?_ | refine v_aloadN hc dX3_findForm_66 rfl ?_
        refine v_get hc 1 (ci := 3) rfl (by decide +kernel) (by decide) (by decide +kernel) (fun _ h => h) dX3_findForm_68 (hfw2) rfl ?_
        refine v_iload hc dX3_findForm_71 rfl ?_
        refine v_icmp_geN hc (tgt := 118) dX3_findForm_73 (by decide) (by omega) (by omega) (fun h3 => ?_) (fun h3 => ?_)
        · have hcd : cdd ct nf bd o (O.getD (p - kk) 0) a = a := by unfold cdd; rw [if_neg (by rw [hdep]; omega)]
          rw [hcd] at hstep hok2
          refine v_iinc hc (v := nI (p - kk) - nI 1) dX3_findForm_118 rfl (i32_dec _) (by decide) rfl ?_
          rw [e2]
          refine v_goto hc (tgt := 27) dX3_findForm_121 (by decide) ?_
          exact ih (kk + 1, a) _ rfl ⟨⟨by dsimp only; omega, by dsimp only; omega, ha31⟩, hok2, hstep⟩ (by dsimp only; omega)
        · first | refine v_aload_n hc (i := 0) rfl dX3_findForm_76 rfl ?_ | refine v_aload_nN hc (i := 0) rfl dX3_findForm_76 rfl ?_
          refine v_dup hc dX3_findForm_77 rfl ?_
          refine v_get hc 3 (ci := 6) rfl (by decide +kernel) (by decide) (by decide +kernel) (fun _ h => h) dX3_findForm_78 (hP2.1) rfl ?_
          refine v_iconst hc (v := nI 1) dX3_findForm_81 (by decide) ?_
          first | refine v_iaddN hc dX3_findForm_82 ?_ | refine v_iadd hc dX3_findForm_82 ?_
          refine v_put hc 3 (ci := 6) rfl tyX3 tyX3_ok nmX3 (by decide +kernel) (by decide) (by decide +kernel) (fun _ h => h) rfl (tyX3_ok 3 (by decide)) rfl rfl (Nat.le_of_ble_eq_true rfl) dX3_findForm_83 (hP2.1) ?_
          rw [wup_up]
          refine v_w (show _ = wup w px (.inr (6, [.ref pI, .ref pO, .ref pX, .int (nI (a.2.2 + 1)), .int ru])) from rfl) ?_
          have hP3 := hPc (a.2.2 + 1)
          have hd31 := dco_le (d := xN (ct (O.getD (p - kk) 0))) hlO
          first | refine v_aload_n hc (i := 1) rfl dX3_findForm_86 rfl ?_ | refine v_aload_nN hc (i := 1) rfl dX3_findForm_86 rfl ?_
          first | refine v_aload hc dX3_findForm_87 rfl ?_ | refine v_aloadN hc dX3_findForm_87 rfl ?_
          refine v_callSi hc (c_X3_costAgainst (hP3.2.1 o ho) (hP3.2.1 _ hm) (hct o ho) (hct _ hm)) (va_cwS 2 hc.1.2.2.2.2 gX3_findForm_X3_costAgainst rfl rfl rfl (by decide +kernel) ⟨Nat.le_of_ble_eq_true rfl, Nat.le_of_ble_eq_true rfl⟩) rfl rfl (Nat.le_of_ble_eq_true rfl) ⟨(by first | exact Nat.le_of_ble_eq_true rfl | omega | (dsimp only; omega)), (by first | exact Nat.le_of_ble_eq_true rfl | omega | (dsimp only; omega))⟩ dX3_findForm_89 (fun r w' hp => ?_)
          obtain ⟨rfl, rfl⟩ := hp
          refine v_istore hc dX3_findForm_92 (by decide) rfl ?_
          refine v_iload hc dX3_findForm_94 rfl ?_
          refine v_iload hc dX3_findForm_96 rfl ?_
          refine v_icmp_geN hc (tgt := 118) dX3_findForm_98 (by decide) (by omega) (by omega) (fun h4 => ?_) (fun h4 => ?_)
          · have hcd : cdd ct nf bd o (O.getD (p - kk) 0) a = (a.1, a.2.1, a.2.2 + 1) := by unfold cdd; rw [if_pos (by rw [hdep]; omega), if_neg (by omega)]
            rw [hcd] at hstep hok2
            refine v_iinc hc (v := nI (p - kk) - nI 1) dX3_findForm_118 rfl (i32_dec _) (by decide) rfl ?_
            rw [e2]
            refine v_goto hc (tgt := 27) dX3_findForm_121 (by decide) ?_
            exact ih (kk + 1, (a.1, a.2.1, a.2.2 + 1)) _ rfl ⟨⟨by dsimp only; omega, by dsimp only; omega, ha31⟩, hok2, hstep⟩ (by dsimp only; omega)
          · have hcd : cdd ct nf bd o (O.getD (p - kk) 0) a = (some (O.getD (p - kk) 0), dco (xN (ct o)) (xN (ct (O.getD (p - kk) 0))), a.2.2 + 1) := by unfold cdd; rw [if_pos (by rw [hdep]; omega), if_pos (by omega)]
            rw [hcd] at hstep hok2
            have hfw3 := k3_cnt hP (.inr (6, [.ref pI, .ref pO, .ref pX, .int (nI (a.2.2 + 1)), .int ru])) _ _ hfw
            first | refine v_aload hc dX3_findForm_101 rfl ?_ | refine v_aloadN hc dX3_findForm_101 rfl ?_
            first | refine v_astore hc dX3_findForm_103 (by decide) rfl ?_ | refine v_astoreN hc dX3_findForm_103 (by decide) rfl ?_
            refine v_iload hc dX3_findForm_105 rfl ?_
            refine v_istore hc dX3_findForm_107 (by decide) rfl ?_
            first | refine v_aload hc dX3_findForm_109 rfl ?_ | refine v_aloadN hc dX3_findForm_109 rfl ?_
            refine v_get hc 1 (ci := 3) rfl (by decide +kernel) (by decide) (by decide +kernel) (fun _ h => h) dX3_findForm_111 (hfw3) rfl ?_
            refine v_iconst hc (v := nI 1) dX3_findForm_114 (by decide) ?_
            first | refine v_iaddN hc dX3_findForm_115 ?_ | refine v_iadd hc dX3_findForm_115 ?_
            refine v_istore hc dX3_findForm_116 (by decide) rfl ?_
            refine v_iinc hc (v := nI (p - kk) - nI 1) dX3_findForm_118 rfl (i32_dec _) (by decide) rfl ?_
            rw [e2]
            refine v_goto hc (tgt := 27) dX3_findForm_121 (by decide) ?_
            exact ih (kk + 1, (some (O.getD (p - kk) 0), dco (xN (ct o)) (xN (ct (O.getD (p - kk) 0))), a.2.2 + 1)) _ (by dsimp only [List.map, bdp]; rw [hdep]; rfl) ⟨⟨by dsimp only; omega, by dsimp only; omega, by dsimp only; omega⟩, hok2, hstep⟩ (by dsimp only; omega)
end CL6

