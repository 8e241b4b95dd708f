/-! ===== the class: items, forms, chains ===== -/
abbrev Frm : Type := Option Nat × Nat × Nat × Nat × Bool
def IW (w : wd) (n : Nat) (ia : Nat → Nat) (nm : Nat → Int32) (ct : Nat → Int64) (lv lo : Nat → Bool) (fa fb : Nat → Option Nat) : Prop := ∀ i, i < n → w (ia i) = some (.inr (4, itf i (nm i) (ct i) (lv i) (lo i) (fa i) (fb i)))
def frc (ia : Nat → Nat) (g : Frm) : va_E := .inr (3, fof (g.1.map ia) g.2.1 g.2.2.1 g.2.2.2.1 g.2.2.2.2)
def FW (w : wd) (n : Nat) (ia : Nat → Nat) (fa : Nat → Option Nat) (fm : Nat → Option Frm) : Prop := ∀ i, i < n → (fm i = none → fa i = none) ∧ ∀ g, fm i = some g → ∃ f, fa i = some f ∧ w f = some (frc ia g)
def CH (n : Nat) (fm : Nat → Option Frm) : Prop := ∀ i, i < n → ∀ g, fm i = some g → g.2.1 ≤ 6 ∧ ∀ b, g.1 = some b → b < n ∧ ∃ g', fm b = some g' ∧ g.2.1 = g'.2.1 + 1
def bas (fm : Nat → Option Frm) (i : Nat) : Option Nat := (fm i).bind (fun g => g.1)
def rp (fm : Nat → Option Frm) : Nat → Nat → Bool
  | 0, _ => false
  | f + 1, i => match fm i with
    | none => false
    | some g => !g.2.2.2.2 && (match g.1 with
      | none => true
      | some b => rp fm f b)
/-- can be read from the pack -/
def rpk (fm : Nat → Option Frm) (i : Nat) : Bool := rp fm 8 i
def dpr (fm : Nat → Option Frm) (t : Nat) : Nat → Nat → Bool
  | 0, _ => false
  | f + 1, i => match bas fm i with
    | none => false
    | some b => decide (b = t) || dpr fm t f b
/-- the chain of bases of i has t -/
def dpk (fm : Nat → Option Frm) (i t : Nat) : Bool := dpr fm t 8 i
theorem IW.inj {w : wd} {n : Nat} {ia : Nat → Nat} {nm : Nat → Int32} {ct : Nat → Int64} {lv lo : Nat → Bool} {fa fb : Nat → Option Nat} (hI : IW w n ia nm ct lv lo fa fb) (hn : n ≤ 40) {i j : Nat} (hi : i < n) (hj : j < n) (e : ia i = ia j) : i = j := by
  have h1 := hI i hi
  rw [e, hI j hj] at h1
  have h2 : nI j = nI i := by
    have := congrArg (fun x : Option va_E => match x with | some (.inr (_, .int v :: _)) => v | _ => 0) h1
    exact this
  exact ((nI_eq (by omega) (by omega)).mp h2).symm
section CL2
variable {l : Launch} {G : cG} {A : Nat → Prop} {w : wd} {n : Nat} {ia : Nat → Nat} {nm : Nat → Int32} {ct : Nat → Int64} {lv lo : Nat → Bool} {fa fb : Nat → Option Nat} {fm : Nat → Option Frm}
set_option maxRecDepth 100000 in
set_option maxHeartbeats 4000000 in
theorem c_X1_baseItem (hI : IW w n ia nm ct lv lo fa fb) (hF : FW w n ia fa fm) {i : Nat} (hi : i < n) : Met l yX1_baseItem wsX1_baseItem ({ frames := 8, cells := 0, slots := 0, locals := 120 } : Room) (Pw G A w [.ref (ia i)]) (va_Qq (fun r w' => w = w' ∧ r = (bas fm i).map ia) (Bw G A) A) 0 0 A := by
  refine m_of (cc := cX1_baseItem) (maxL := 1) (ret := (some (.object "Packstack$Item"))) (by decide) rfl (Nat.le_of_ble_eq_true rfl) ?_
  intro p e s m args below meth c hc hr hmn
  refine v_loc [(0, some (.ref (ia i)))] rfl ?_
  first | refine v_aload_n hc (i := 0) rfl dX1_baseItem_0 rfl ?_ | refine v_aload_nN hc (i := 0) rfl dX1_baseItem_0 rfl ?_
  refine v_get hc 7 (ci := 4) rfl (by decide +kernel) (by decide) (by decide +kernel) (fun _ h => h) dX1_baseItem_1 (hI i hi) rfl ?_
  cases hfm : fm i with
  | none =>
    rw [(hF i hi).1 hfm]
    refine v_ifnonnull_N hc dX1_baseItem_4 ?_
    refine v_null hc dX1_baseItem_7 ?_
    refine v_goto hc (tgt := 18) dX1_baseItem_8 (by decide) ?_
    exact v_aret hc (none) hr (by first | exact Or.inl ⟨_, rfl⟩ | exact Or.inr ⟨_, rfl⟩) rfl dX1_baseItem_18 (by first | exact Nat.le_of_ble_eq_true rfl | omega | (dsimp only; omega)) (by first | exact Nat.le_of_ble_eq_true rfl | omega | (dsimp only; omega)) (⟨rfl, by unfold bas; rw [hfm]; rfl⟩)
  | some g =>
    obtain ⟨f, hfa, hfw⟩ := (hF i hi).2 g hfm
    rw [hfa]
    refine v_ifnonnull_R hc (tgt := 11) dX1_baseItem_4 (by decide) ?_
    first | refine v_aload_n hc (i := 0) rfl dX1_baseItem_11 rfl ?_ | refine v_aload_nN hc (i := 0) rfl dX1_baseItem_11 rfl ?_
    refine v_get hc 7 (ci := 4) rfl (by decide +kernel) (by decide) (by decide +kernel) (fun _ h => h) dX1_baseItem_12 (hI i hi) rfl ?_
    rw [hfa]
    refine v_get hc 0 (ci := 3) rfl (by decide +kernel) (by decide) (by decide +kernel) (fun _ h => h) dX1_baseItem_15 (hfw) rfl ?_
    exact v_aret hc (g.1.map ia) hr (by first | exact Or.inl ⟨_, rfl⟩ | exact Or.inr ⟨_, rfl⟩) rfl dX1_baseItem_18 (by first | exact Nat.le_of_ble_eq_true rfl | omega | (dsimp only; omega)) (by first | exact Nat.le_of_ble_eq_true rfl | omega | (dsimp only; omega)) (⟨rfl, by unfold bas; rw [hfm]; rfl⟩)
set_option maxRecDepth 100000 in
set_option maxHeartbeats 4000000 in
theorem c_X1_isReadableFromPack (hI : IW w n ia nm ct lv lo fa fb) (hF : FW w n ia fa fm) (hC : CH n fm) {i : Nat} (hi : i < n) : Met l yX1_isReadableFromPack wsX1_isReadableFromPack ({ frames := 9, cells := 0, slots := 0, locals := 140 } : Room) (Pw G A w [.ref (ia i)]) (va_Qi (fun r w' => w = w' ∧ r = bI (rpk fm i)) (Bw G A) A) 0 0 A := by
  refine m_of (cc := cX1_isReadableFromPack) (maxL := 2) (ret := (some .boolean)) (by decide) rfl (Nat.le_of_ble_eq_true rfl) ?_
  intro p e s m args below meth c hc hr hmn
  refine v_loc [(0, some (.ref (ia i)))] rfl ?_
  first | refine v_aload_n hc (i := 0) rfl dX1_isReadableFromPack_0 rfl ?_ | refine v_aload_nN hc (i := 0) rfl dX1_isReadableFromPack_0 rfl ?_
  first | refine v_astore_n hc (i := 1) rfl dX1_isReadableFromPack_1 (by decide) rfl ?_ | refine v_astore_nN hc (i := 1) rfl dX1_isReadableFromPack_1 (by decide) rfl ?_
  refine v_loop (σ := Option Nat × Nat) (fun a => match a.1 with | none => rpk fm i = true | some j => j < n ∧ rp fm a.2 j = rpk fm i ∧ ∀ f, fm j = some f → f.2.1 < a.2) (fun a => match a.1 with | none => 0 | some _ => a.2 + 1) (fun _ => w) (fun _ => 0) (fun _ => 0) (fun a => [(1, some (va_rf (a.1.map ia)))]) (some i, 8) rfl ⟨hi, rfl, fun f hf => by have := (hC i hi f hf).1; dsimp only; omega⟩ ?_
  rintro ⟨o, g⟩ hI2 ih
  cases o with
  | none =>
    have hI2 : rpk fm i = true := hI2
    first | refine v_aload_n hc (i := 1) rfl dX1_isReadableFromPack_2 rfl ?_ | refine v_aload_nN hc (i := 1) rfl dX1_isReadableFromPack_2 rfl ?_
    refine v_ifnull_N hc (tgt := 33) dX1_isReadableFromPack_3 (by decide) ?_
    refine v_iconst hc (v := nI 1) dX1_isReadableFromPack_33 (by decide) ?_
    exact v_zret hc hr dX1_isReadableFromPack_34 (by first | exact Nat.le_of_ble_eq_true rfl | omega | (dsimp only; omega)) (by first | exact Nat.le_of_ble_eq_true rfl | omega | (dsimp only; omega)) (by first | rfl | exact bI_nar _) (⟨rfl, by rw [hI2]; rfl⟩)
  | some j =>
    obtain ⟨hj, hrp, hdep⟩ := hI2
    dsimp only at hj hrp hdep ih
    first | refine v_aload_n hc (i := 1) rfl dX1_isReadableFromPack_2 rfl ?_ | refine v_aload_nN hc (i := 1) rfl dX1_isReadableFromPack_2 rfl ?_
    refine v_ifnull_R hc dX1_isReadableFromPack_3 ?_
    first | refine v_aload_n hc (i := 1) rfl dX1_isReadableFromPack_6 rfl ?_ | refine v_aload_nN hc (i := 1) rfl dX1_isReadableFromPack_6 rfl ?_
    refine v_get hc 7 (ci := 4) rfl (by decide +kernel) (by decide) (by decide +kernel) (fun _ h => h) dX1_isReadableFromPack_7 (hI j hj) rfl ?_
    cases hfm : fm j with
    | none =>
      rw [(hF j hj).1 hfm]
      refine v_ifnull_N hc (tgt := 23) dX1_isReadableFromPack_10 (by decide) ?_
      refine v_iconst hc (v := nI 0) dX1_isReadableFromPack_23 (by decide) ?_
      exact v_zret hc hr dX1_isReadableFromPack_24 (by first | exact Nat.le_of_ble_eq_true rfl | omega | (dsimp only; omega)) (by first | exact Nat.le_of_ble_eq_true rfl | omega | (dsimp only; omega)) (by first | rfl | exact bI_nar _) (⟨rfl, by rw [← hrp]; cases g <;> simp [rp, hfm, bI] <;> rfl⟩)
    | some fr =>
      obtain ⟨f, hfa, hfw⟩ := (hF j hj).2 fr hfm
      rw [hfa]
      refine v_ifnull_R hc dX1_isReadableFromPack_10 ?_
      first | refine v_aload_n hc (i := 1) rfl dX1_isReadableFromPack_13 rfl ?_ | refine v_aload_nN hc (i := 1) rfl dX1_isReadableFromPack_13 rfl ?_
      refine v_get hc 7 (ci := 4) rfl (by decide +kernel) (by decide) (by decide +kernel) (fun _ h => h) dX1_isReadableFromPack_14 (hI j hj) rfl ?_
      rw [hfa]
      refine v_get hc 4 (ci := 3) rfl (by decide +kernel) (by decide) (by decide +kernel) (fun _ h => h) dX1_isReadableFromPack_17 (hfw) rfl ?_
      have hg := hdep fr hfm
      obtain ⟨g', rfl⟩ : ∃ g', g = g' + 1 := ⟨g - 1, by omega⟩
      have hst : rp fm (g' + 1) j = (!fr.2.2.2.2 && (match fr.1 with | none => true | some b => rp fm g' b)) := by
        show (match fm j with | none => false | some g => _) = _
        rw [hfm]
      refine v_ifB_eq hc (tgt := 25) dX1_isReadableFromPack_20 (by decide) (fun hd => ?_) (fun hd => ?_)
      · rw [hd] at hst
        first | refine v_aload_n hc (i := 1) rfl dX1_isReadableFromPack_25 rfl ?_ | refine v_aload_nN hc (i := 1) rfl dX1_isReadableFromPack_25 rfl ?_
        refine v_callVq hc (c_X1_baseItem hI hF hj) (cwV 0 hc.1.2.2.2.2 gX1_isReadableFromPack_X1_baseItem rfl rfl rfl (by decide +kernel) ⟨Nat.le_of_ble_eq_true rfl, Nat.le_of_ble_eq_true rfl⟩) (hI j hj) rfl rfl rfl (Nat.le_of_ble_eq_true rfl) ⟨(by first | exact Nat.le_of_ble_eq_true rfl | omega | (dsimp only; omega)), (by first | exact Nat.le_of_ble_eq_true rfl | omega | (dsimp only; omega))⟩ dX1_isReadableFromPack_26 (fun r w' hp => ?_)
        obtain ⟨rfl, rfl⟩ := hp
        have hb2 : bas fm j = fr.1 := by unfold bas; rw [hfm]; rfl
        rw [hb2]
        cases hb3 : fr.1 with
        | none =>
          rw [hb3] at hst
          first | refine v_astore_n hc (i := 1) rfl dX1_isReadableFromPack_29 (by decide) rfl ?_ | refine v_astore_nN hc (i := 1) rfl dX1_isReadableFromPack_29 (by decide) rfl ?_
          refine v_goto hc (tgt := 2) dX1_isReadableFromPack_30 (by decide) ?_
          exact ih (none, g') _ rfl (by show rpk fm i = true; rw [← hrp, hst]; rfl) (by dsimp only; omega)
        | some b =>
          rw [hb3] at hst
          obtain ⟨hbn, g2, hg2, hdd⟩ := (hC j hj fr hfm).2 b hb3
          first | refine v_astore_n hc (i := 1) rfl dX1_isReadableFromPack_29 (by decide) rfl ?_ | refine v_astore_nN hc (i := 1) rfl dX1_isReadableFromPack_29 (by decide) rfl ?_
          refine v_goto hc (tgt := 2) dX1_isReadableFromPack_30 (by decide) ?_
          exact ih (some b, g') _ rfl ⟨hbn, by dsimp only; rw [← hrp, hst]; rfl, fun f hf => by rw [hg2] at hf; cases hf; dsimp only; omega⟩ (by dsimp only; omega)
      · rw [hd] at hst
        refine v_iconst hc (v := nI 0) dX1_isReadableFromPack_23 (by decide) ?_
        exact v_zret hc hr dX1_isReadableFromPack_24 (by first | exact Nat.le_of_ble_eq_true rfl | omega | (dsimp only; omega)) (by first | exact Nat.le_of_ble_eq_true rfl | omega | (dsimp only; omega)) (by first | rfl | exact bI_nar _) (⟨rfl, by rw [← hrp, hst]; rfl⟩)
set_option maxRecDepth 100000 in
set_option maxHeartbeats 4000000 in
theorem c_X1_isReadable (hI : IW w n ia nm ct lv lo fa fb) (hF : FW w n ia fa fm) (hC : CH n fm) {i : Nat} (hi : i < n) : Met l yX1_isReadable wsX1_isReadable ({ frames := 10, cells := 0, slots := 0, locals := 161 } : Room) (Pw G A w [.ref (ia i)]) (va_Qi (fun r w' => w = w' ∧ r = bI (lv i && (lo i || rpk fm i))) (Bw G A) A) 0 0 A := by
  refine m_of (cc := cX1_isReadable) (maxL := 1) (ret := (some .boolean)) (by decide) rfl (Nat.le_of_ble_eq_true rfl) ?_
  intro p e s m args below meth c hc hr hmn
  refine v_loc [(0, some (.ref (ia i)))] rfl ?_
  first | refine v_aload_n hc (i := 0) rfl dX1_isReadable_0 rfl ?_ | refine v_aload_nN hc (i := 0) rfl dX1_isReadable_0 rfl ?_
  refine v_get hc 5 (ci := 4) rfl (by decide +kernel) (by decide) (by decide +kernel) (fun _ h => h) dX1_isReadable_1 (hI i hi) rfl ?_
  refine v_ifB_eq hc (tgt := 25) dX1_isReadable_4 (by decide) (fun h1 => ?_) (fun h1 => ?_)
  · refine v_iconst hc (v := nI 0) dX1_isReadable_25 (by decide) ?_
    exact v_zret hc hr dX1_isReadable_26 (by first | exact Nat.le_of_ble_eq_true rfl | omega | (dsimp only; omega)) (by first | exact Nat.le_of_ble_eq_true rfl | omega | (dsimp only; omega)) (by first | rfl | exact bI_nar _) (⟨rfl, by rw [h1]; rfl⟩)
  · first | refine v_aload_n hc (i := 0) rfl dX1_isReadable_7 rfl ?_ | refine v_aload_nN hc (i := 0) rfl dX1_isReadable_7 rfl ?_
    refine v_get hc 6 (ci := 4) rfl (by decide +kernel) (by decide) (by decide +kernel) (fun _ h => h) dX1_isReadable_8 (hI i hi) rfl ?_
    refine v_ifB_ne hc (tgt := 21) dX1_isReadable_11 (by decide) (fun h2 => ?_) (fun h2 => ?_)
    · refine v_iconst hc (v := nI 1) dX1_isReadable_21 (by decide) ?_
      refine v_goto hc (tgt := 26) dX1_isReadable_22 (by decide) ?_
      exact v_zret hc hr dX1_isReadable_26 (by first | exact Nat.le_of_ble_eq_true rfl | omega | (dsimp only; omega)) (by first | exact Nat.le_of_ble_eq_true rfl | omega | (dsimp only; omega)) (by first | rfl | exact bI_nar _) (⟨rfl, by rw [h1, h2]; rfl⟩)
    · first | refine v_aload_n hc (i := 0) rfl dX1_isReadable_14 rfl ?_ | refine v_aload_nN hc (i := 0) rfl dX1_isReadable_14 rfl ?_
      refine v_callVi hc (c_X1_isReadableFromPack hI hF hC hi) (cwV 0 hc.1.2.2.2.2 gX1_isReadable_X1_isReadableFromPack rfl rfl rfl (by decide +kernel) ⟨Nat.le_of_ble_eq_true rfl, Nat.le_of_ble_eq_true rfl⟩) (hI i hi) rfl rfl rfl (Nat.le_of_ble_eq_true rfl) ⟨(by first | exact Nat.le_of_ble_eq_true rfl | omega | (dsimp only; omega)), (by first | exact Nat.le_of_ble_eq_true rfl | omega | (dsimp only; omega))⟩ dX1_isReadable_15 (fun r w' hp => ?_)
      obtain ⟨rfl, rfl⟩ := hp
      refine v_ifB_eq hc (tgt := 25) dX1_isReadable_18 (by decide) (fun h3 => ?_) (fun h3 => ?_)
      · refine v_iconst hc (v := nI 0) dX1_isReadable_25 (by decide) ?_
        exact v_zret hc hr dX1_isReadable_26 (by first | exact Nat.le_of_ble_eq_true rfl | omega | (dsimp only; omega)) (by first | exact Nat.le_of_ble_eq_true rfl | omega | (dsimp only; omega)) (by first | rfl | exact bI_nar _) (⟨rfl, by rw [h1, h2, h3]; rfl⟩)
      · refine v_iconst hc (v := nI 1) dX1_isReadable_21 (by decide) ?_
        refine v_goto hc (tgt := 26) dX1_isReadable_22 (by decide) ?_
        exact v_zret hc hr dX1_isReadable_26 (by first | exact Nat.le_of_ble_eq_true rfl | omega | (dsimp only; omega)) (by first | exact Nat.le_of_ble_eq_true rfl | omega | (dsimp only; omega)) (by first | rfl | exact bI_nar _) (⟨rfl, by rw [h1, h2, h3]; rfl⟩)
set_option maxRecDepth 100000 in
set_option maxHeartbeats 4000000 in
theorem c_X1_dependsOn (hI : IW w n ia nm ct lv lo fa fb) (hF : FW w n ia fa fm) (hC : CH n fm) (hn : n ≤ 40) {i t : Nat} (hi : i < n) (ht : t < n) : Met l yX1_dependsOn wsX1_dependsOn ({ frames := 9, cells := 0, slots := 0, locals := 140 } : Room) (Pw G A w [.ref (ia i), .ref (ia t)]) (va_Qi (fun r w' => w = w' ∧ r = bI (dpk fm i t)) (Bw G A) A) 0 0 A := by
  refine m_of (cc := cX1_dependsOn) (maxL := 3) (ret := (some .boolean)) (by decide) rfl (Nat.le_of_ble_eq_true rfl) ?_
  intro p e s m args below meth c hc hr hmn
  refine v_loc [(0, some (.ref (ia i))), (1, some (.ref (ia t)))] rfl ?_
  have key : ∀ (o : Option Nat), (match o with | none => dpk fm i t = false | some j => j < n ∧ (decide (j = t) || dpr fm t 7 j) = dpk fm i t ∧ ∀ f, fm j = some f → f.2.1 < 7) → V p l e ({ frames := 9, cells := 0, slots := 0, locals := 140 } : Room) s m args below meth c 3 G A (MQ below (va_Qi (fun r w' => w = w' ∧ r = bI (dpk fm i t)) (Bw G A) A) args s 0 0 A) w 0 0 5 [(1, some (.ref (ia t))), (2, some (va_rf (o.map ia)))] [] := by
    intro o0 ho
    refine v_loop (σ := Option Nat × Nat) (fun a => match a.1 with | none => dpk fm i t = false | some j => j < n ∧ (decide (j = t) || dpr fm t a.2 j) = dpk fm i t ∧ ∀ f, fm j = some f → f.2.1 < a.2) (fun a => match a.1 with | none => 0 | some _ => a.2 + 1) (fun _ => w) (fun _ => 0) (fun _ => 0) (fun a => [(1, some (.ref (ia t))), (2, some (va_rf (a.1.map ia)))]) (o0, 7) rfl ho ?_
    rintro ⟨o, g⟩ hI2 ih
    cases o with
    | none =>
      have hI2 : dpk fm i t = false := hI2
      first | refine v_aload_n hc (i := 2) rfl dX1_dependsOn_5 rfl ?_ | refine v_aload_nN hc (i := 2) rfl dX1_dependsOn_5 rfl ?_
      refine v_ifnull_N hc (tgt := 24) dX1_dependsOn_6 (by decide) ?_
      refine v_iconst hc (v := nI 0) dX1_dependsOn_24 (by decide) ?_
      exact v_zret hc hr dX1_dependsOn_25 (by first | exact Nat.le_of_ble_eq_true rfl | omega | (dsimp only; omega)) (by first | exact Nat.le_of_ble_eq_true rfl | omega | (dsimp only; omega)) (by first | rfl | exact bI_nar _) (⟨rfl, by rw [hI2]; rfl⟩)
    | some j =>
      obtain ⟨hj, hdp, hdep⟩ := hI2
      dsimp only at hj hdp hdep ih
      first | refine v_aload_n hc (i := 2) rfl dX1_dependsOn_5 rfl ?_ | refine v_aload_nN hc (i := 2) rfl dX1_dependsOn_5 rfl ?_
      refine v_ifnull_R hc dX1_dependsOn_6 ?_
      first | refine v_aload_n hc (i := 2) rfl dX1_dependsOn_9 rfl ?_ | refine v_aload_nN hc (i := 2) rfl dX1_dependsOn_9 rfl ?_
      first | refine v_aload_n hc (i := 1) rfl dX1_dependsOn_10 rfl ?_ | refine v_aload_nN hc (i := 1) rfl dX1_dependsOn_10 rfl ?_
      refine v_acmp_ne hc (rx := some (ia j)) (ry := some (ia t)) (tgt := 16) dX1_dependsOn_11 (by decide) (fun hne => ?_) (fun heq => ?_)
      · have hjt : j ≠ t := fun z => hne (by rw [z])
        rw [decide_eq_false hjt, Bool.false_or] at hdp
        first | refine v_aload_n hc (i := 2) rfl dX1_dependsOn_16 rfl ?_ | refine v_aload_nN hc (i := 2) rfl dX1_dependsOn_16 rfl ?_
        refine v_callVq hc (c_X1_baseItem hI hF hj) (cwV 0 hc.1.2.2.2.2 gX1_dependsOn_X1_baseItem rfl rfl rfl (by decide +kernel) ⟨Nat.le_of_ble_eq_true rfl, Nat.le_of_ble_eq_true rfl⟩) (hI j hj) rfl rfl rfl (Nat.le_of_ble_eq_true rfl) ⟨(by first | exact Nat.le_of_ble_eq_true rfl | omega | (dsimp only; omega)), (by first | exact Nat.le_of_ble_eq_true rfl | omega | (dsimp only; omega))⟩ dX1_dependsOn_17 (fun r w' hp => ?_)
        obtain ⟨rfl, rfl⟩ := hp
        cases hb3 : bas fm j with
        | none =>
          first | refine v_astore_n hc (i := 2) rfl dX1_dependsOn_20 (by decide) rfl ?_ | refine v_astore_nN hc (i := 2) rfl dX1_dependsOn_20 (by decide) rfl ?_
          refine v_goto hc (tgt := 5) dX1_dependsOn_21 (by decide) ?_
          refine ih (none, g) _ rfl ?_ (by dsimp only; omega)
          show dpk fm i t = false
          rw [← hdp]
          cases g with
          | zero => rfl
          | succ g => show (match bas fm j with | none => false | some b => _) = _; rw [hb3]
        | some b =>
          obtain ⟨fr, hfr⟩ : ∃ fr, fm j = some fr := by
            cases hq : fm j with
            | none => unfold bas at hb3; rw [hq] at hb3; cases hb3
            | some fr => exact ⟨fr, rfl⟩
          have hb4 : fr.1 = some b := by unfold bas at hb3; rw [hfr] at hb3; exact hb3
          have hg := hdep fr hfr
          obtain ⟨hbn, g2, hg2, hdd⟩ := (hC j hj fr hfr).2 b hb4
          obtain ⟨g', rfl⟩ : ∃ g', g = g' + 1 := ⟨g - 1, by omega⟩
          have hst : dpr fm t (g' + 1) j = (decide (b = t) || dpr fm t g' b) := by
            show (match bas fm j with | none => false | some b => _) = _
            rw [hb3]
          first | refine v_astore_n hc (i := 2) rfl dX1_dependsOn_20 (by decide) rfl ?_ | refine v_astore_nN hc (i := 2) rfl dX1_dependsOn_20 (by decide) rfl ?_
          refine v_goto hc (tgt := 5) dX1_dependsOn_21 (by decide) ?_
          exact ih (some b, g') _ rfl ⟨hbn, by dsimp only; rw [← hdp, hst], fun f hf => by rw [hg2] at hf; cases hf; dsimp only; omega⟩ (by dsimp only; omega)
      · have hjt : j = t := hI.inj hn hj ht (Option.some.inj heq)
        refine v_iconst hc (v := nI 1) dX1_dependsOn_14 (by decide) ?_
        exact v_zret hc hr dX1_dependsOn_15 (by first | exact Nat.le_of_ble_eq_true rfl | omega | (dsimp only; omega)) (by first | exact Nat.le_of_ble_eq_true rfl | omega | (dsimp only; omega)) (by first | rfl | exact bI_nar _) (⟨rfl, by rw [← hdp, decide_eq_true hjt]; rfl⟩)
  first | refine v_aload_n hc (i := 0) rfl dX1_dependsOn_0 rfl ?_ | refine v_aload_nN hc (i := 0) rfl dX1_dependsOn_0 rfl ?_
  refine v_callVq hc (c_X1_baseItem hI hF hi) (cwV 0 hc.1.2.2.2.2 gX1_dependsOn_X1_baseItem rfl rfl rfl (by decide +kernel) ⟨Nat.le_of_ble_eq_true rfl, Nat.le_of_ble_eq_true rfl⟩) (hI i hi) rfl rfl rfl (Nat.le_of_ble_eq_true rfl) ⟨(by first | exact Nat.le_of_ble_eq_true rfl | omega | (dsimp only; omega)), (by first | exact Nat.le_of_ble_eq_true rfl | omega | (dsimp only; omega))⟩ dX1_dependsOn_1 (fun r w' hp => ?_)
  obtain ⟨rfl, rfl⟩ := hp
  cases hb3 : bas fm i with
  | none =>
    first | refine v_astore_n hc (i := 2) rfl dX1_dependsOn_4 (by decide) rfl ?_ | refine v_astore_nN hc (i := 2) rfl dX1_dependsOn_4 (by decide) rfl ?_
    refine v_loc [(1, some (.ref (ia t))), (2, some (va_rf ((none : Option Nat).map ia)))] rfl (key none ?_)
    show dpk fm i t = false
    unfold dpk
    show (match bas fm i with | none => false | some b => _) = _
    rw [hb3]
  | some b =>
    obtain ⟨fr, hfr⟩ : ∃ fr, fm i = some fr := by
      cases hq : fm i with
      | none => unfold bas at hb3; rw [hq] at hb3; cases hb3
      | some fr => exact ⟨fr, rfl⟩
    have hb4 : fr.1 = some b := by unfold bas at hb3; rw [hfr] at hb3; exact hb3
    obtain ⟨hd6, hcc⟩ := hC i hi fr hfr
    obtain ⟨hbn, g2, hg2, hdd⟩ := hcc b hb4
    first | refine v_astore_n hc (i := 2) rfl dX1_dependsOn_4 (by decide) rfl ?_ | refine v_astore_nN hc (i := 2) rfl dX1_dependsOn_4 (by decide) rfl ?_
    refine v_loc [(1, some (.ref (ia t))), (2, some (va_rf ((some b : Option Nat).map ia)))] rfl (key (some b) ⟨hbn, ?_, fun f hf => by rw [hg2] at hf; cases hf; omega⟩)
    unfold dpk
    show _ = (match bas fm i with | none => false | some b => _)
    rw [hb3]
end CL2

