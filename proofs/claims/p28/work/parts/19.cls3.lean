/-! ===== the class: its lists, its questions ===== -/
def sumN : Nat → (Nat → Nat) → Nat
  | 0, _ => 0
  | n + 1, f => sumN n f + f n
def sumL (f : Nat → Nat) : List Nat → Nat
  | [] => 0
  | x :: t => f x + sumL f t
def b1 (b : Bool) : Nat := cond b 1 0
theorem sumL_take (f : Nat → Nat) : ∀ (L : List Nat) (i : Nat), i < L.length → sumL f (L.take (i + 1)) = sumL f (L.take i) + f (L.getD i 0)
  | [], i, h => absurd h (Nat.not_lt_zero _)
  | x :: t, 0, _ => by simp [sumL]
  | x :: t, i + 1, h => by
    have := sumL_take f t i (by simpa using h)
    simp only [List.take_succ_cons, sumL, List.getD_cons_succ]
    omega
theorem sumL_all (f : Nat → Nat) (L : List Nat) : sumL f (L.take L.length) = sumL f L := by rw [List.take_length]
theorem sumL_b1_le (P : Nat → Bool) : ∀ (L : List Nat), sumL (fun i => b1 (P i)) L ≤ L.length
  | [] => Nat.le_refl _
  | x :: t => by
    have := sumL_b1_le P t
    simp only [sumL, List.length_cons]
    have : b1 (P x) ≤ 1 := by cases P x <;> decide
    omega
theorem sumN_b1_le (P : Nat → Bool) : ∀ (n : Nat), sumN n (fun i => b1 (P i)) ≤ n
  | 0 => Nat.le_refl _
  | n + 1 => by
    have := sumN_b1_le P n
    simp only [sumN]
    have : b1 (P n) ≤ 1 := by cases P n <;> decide
    omega
def LS3 (G : cG) (w : wd) (pI pO pX : Nat) (LI LO LX : List Nat) : Prop := pI ≠ pO ∧ pI ≠ pX ∧ pO ≠ pX ∧ ∃ mI eI kI fI mO eO kO fO mX eX kX fX, ALr G w pI mI eI kI fI LI ∧ ALr G w pO mO eO kO fO LO ∧ ALr G w pX mX eX kX fX LX ∧ (eI = eO → eI = gE G) ∧ (eI = eX → eI = gE G) ∧ (eO = eX → eO = gE G)
def PC (G : cG) (w : wd) (px pI pO pX n : Nat) (ia : Nat → Nat) (nm : Nat → Int32) (ct : Nat → Int64) (lv lo : Nat → Bool) (fa fb : Nat → Option Nat) (O X : List Nat) (cp ru : Int32) : Prop :=
  w px = some (.inr (6, [.ref pI, .ref pO, .ref pX, .int cp, .int ru])) ∧ IW w n ia nm ct lv lo fa fb ∧ LS3 G w pI pO pX ((List.range n).map ia) (O.map ia) (X.map ia) ∧ (∀ i ∈ O, i < n) ∧ (∀ i ∈ X, i < n)
def wle (w w' : wd) : Prop := ∀ x e, w x = some e → w' x = some e
theorem wle.rfl' {w : wd} : wle w w := fun _ _ h => h
theorem wle_new {w : wd} {q : Nat} (hq : w q = none) (e : va_E) : wle w (wup w q e) := fun x e' hx => by rw [wup_n _ _ (fun z => by rw [z, hq] at hx; cases hx)]; exact hx
theorem ALr.le {G : cG} {w w' : wd} {al ea cap : Nat} {mo : Int32} {f : Nat → Option Nat} {L : List Nat} (h : wle w w') (hL : ALr G w al mo ea cap f L) : ALr G w' al mo ea cap f L := by
  obtain ⟨h1, h2, h3, h4⟩ := hL
  refine ⟨h _ _ h1, h2, fun x hx => ?_, ?_⟩
  · obtain ⟨vs, hv⟩ := h3 x hx
    exact ⟨vs, h _ _ hv⟩
  · rcases h4 with h4 | ⟨h4, h5⟩
    · exact Or.inl h4
    · exact Or.inr ⟨h _ _ h4, h5⟩
theorem LS3.le {G : cG} {w w' : wd} {pI pO pX : Nat} {LI LO LX : List Nat} (h : wle w w') (hL : LS3 G w pI pO pX LI LO LX) : LS3 G w' pI pO pX LI LO LX := by
  obtain ⟨a1, a2, a3, mI, eI, kI, fI, mO, eO, kO, fO, mX, eX, kX, fX, h1, h2, h3, h4⟩ := hL
  exact ⟨a1, a2, a3, mI, eI, kI, fI, mO, eO, kO, fO, mX, eX, kX, fX, h1.le h, h2.le h, h3.le h, h4⟩
theorem IW.le {w w' : wd} {n : Nat} {ia : Nat → Nat} {nm : Nat → Int32} {ct : Nat → Int64} {lv lo : Nat → Bool} {fa fb : Nat → Option Nat} (h : wle w w') (hI : IW w n ia nm ct lv lo fa fb) : IW w' n ia nm ct lv lo fa fb := fun i hi => h _ _ (hI i hi)
theorem FW.le {w w' : wd} {n : Nat} {ia : Nat → Nat} {fa : Nat → Option Nat} {fm : Nat → Option Frm} (h : wle w w') (hF : FW w n ia fa fm) : FW w' n ia fa fm := fun i hi => ⟨(hF i hi).1, fun g hg => by
  obtain ⟨f, h1, h2⟩ := (hF i hi).2 g hg
  exact ⟨f, h1, h _ _ h2⟩⟩
section CL3
variable {l : Launch} {G : cG} {A : Nat → Prop} {w : wd} {px pI pO pX n : Nat} {ia : Nat → Nat} {nm : Nat → Int32} {ct : Nat → Int64} {lv lo : Nat → Bool} {fa fb : Nat → Option Nat} {fm : Nat → Option Frm} {O X : List Nat} {cp ru : Int32}
theorem PC.le {w' : wd} (h : wle w w') (hP : PC G w px pI pO pX n ia nm ct lv lo fa fb O X cp ru) : PC G w' px pI pO pX n ia nm ct lv lo fa fb O X cp ru := ⟨h _ _ hP.1, hP.2.1.le h, hP.2.2.1.le h, hP.2.2.2⟩
theorem PC.lI (hP : PC G w px pI pO pX n ia nm ct lv lo fa fb O X cp ru) : ∃ mo ea cap f, ALr G w pI mo ea cap f ((List.range n).map ia) := by
  obtain ⟨-, -, ⟨-, -, -, mI, eI, kI, fI, mO, eO, kO, fO, mX, eX, kX, fX, h1, h2, h3, -⟩, -⟩ := hP
  exact ⟨_, _, _, _, h1⟩
theorem PC.lO (hP : PC G w px pI pO pX n ia nm ct lv lo fa fb O X cp ru) : ∃ mo ea cap f, ALr G w pO mo ea cap f (O.map ia) := by
  obtain ⟨-, -, ⟨-, -, -, mI, eI, kI, fI, mO, eO, kO, fO, mX, eX, kX, fX, h1, h2, h3, -⟩, -⟩ := hP
  exact ⟨_, _, _, _, h2⟩
theorem PC.lX (hP : PC G w px pI pO pX n ia nm ct lv lo fa fb O X cp ru) : ∃ mo ea cap f, ALr G w pX mo ea cap f (X.map ia) := by
  obtain ⟨-, -, ⟨-, -, -, mI, eI, kI, fI, mO, eO, kO, fO, mX, eX, kX, fX, h1, h2, h3, -⟩, -⟩ := hP
  exact ⟨_, _, _, _, h3⟩
theorem PC.n40 (hP : PC G w px pI pO pX n ia nm ct lv lo fa fb O X cp ru) : n ≤ 40 := by
  obtain ⟨_, _, _, _, h⟩ := hP.lI
  have := h.2.1
  simpa using this
theorem PC.o40 (hP : PC G w px pI pO pX n ia nm ct lv lo fa fb O X cp ru) : O.length ≤ 40 := by
  obtain ⟨_, _, _, _, h⟩ := hP.lO
  have := h.2.1
  simpa using this
theorem PC.x40 (hP : PC G w px pI pO pX n ia nm ct lv lo fa fb O X cp ru) : X.length ≤ 40 := by
  obtain ⟨_, _, _, _, h⟩ := hP.lX
  have := h.2.1
  simpa using this
theorem getD_rng {i : Nat} (hi : i < n) : ((List.range n).map ia).getD i 0 = ia i := by simp [hi]
theorem getD_map {L : List Nat} {i : Nat} (hi : i < L.length) : (L.map ia).getD i 0 = ia (L.getD i 0) := by simp [hi]
theorem getD_mem {L : List Nat} {i : Nat} (hi : i < L.length) : L.getD i 0 ∈ L := by simp [hi]
theorem PC.szI (hP : PC G w px pI pO pX n ia nm ct lv lo fa fb O X cp ru) : Met l yJx4a65c_size_8abf5 wsJx4a65c_size_8abf5 ({ frames := 8, cells := 0, slots := 0, locals := 120 } : Room) (Pw G A w [.ref pI]) (va_Qi (fun r w' => w = w' ∧ r = nI n) (Bw G A) A) 0 0 A := by
  obtain ⟨_, _, _, _, h⟩ := hP.lI
  have := c_size (l := l) (A := A) h
  rw [List.length_map, List.length_range] at this
  exact this
theorem PC.szO (hP : PC G w px pI pO pX n ia nm ct lv lo fa fb O X cp ru) : Met l yJx4a65c_size_8abf5 wsJx4a65c_size_8abf5 ({ frames := 8, cells := 0, slots := 0, locals := 120 } : Room) (Pw G A w [.ref pO]) (va_Qi (fun r w' => w = w' ∧ r = nI O.length) (Bw G A) A) 0 0 A := by
  obtain ⟨_, _, _, _, h⟩ := hP.lO
  have := c_size (l := l) (A := A) h
  rw [List.length_map] at this
  exact this
theorem PC.szX (hP : PC G w px pI pO pX n ia nm ct lv lo fa fb O X cp ru) : Met l yJx4a65c_size_8abf5 wsJx4a65c_size_8abf5 ({ frames := 8, cells := 0, slots := 0, locals := 120 } : Room) (Pw G A w [.ref pX]) (va_Qi (fun r w' => w = w' ∧ r = nI X.length) (Bw G A) A) 0 0 A := by
  obtain ⟨_, _, _, _, h⟩ := hP.lX
  have := c_size (l := l) (A := A) h
  rw [List.length_map] at this
  exact this
theorem PC.gtI (hP : PC G w px pI pO pX n ia nm ct lv lo fa fb O X cp ru) {i : Nat} (hi : i < n) : Met l yJx4a65c_get_915e3 wsJx4a65c_get_915e3 ({ frames := 10, cells := 0, slots := 0, locals := 163 } : Room) (Pw G A w [.ref pI, .int (nI i)]) (va_Qq (fun r w' => w = w' ∧ r = some (ia i)) (Bw G A) A) 0 0 A := by
  obtain ⟨_, _, _, _, h⟩ := hP.lI
  have := c_get (l := l) (A := A) h (i := i) (by simpa using hi)
  rw [getD_rng hi] at this
  exact this
theorem PC.gtO (hP : PC G w px pI pO pX n ia nm ct lv lo fa fb O X cp ru) {i : Nat} (hi : i < O.length) : Met l yJx4a65c_get_915e3 wsJx4a65c_get_915e3 ({ frames := 10, cells := 0, slots := 0, locals := 163 } : Room) (Pw G A w [.ref pO, .int (nI i)]) (va_Qq (fun r w' => w = w' ∧ r = some (ia (O.getD i 0))) (Bw G A) A) 0 0 A := by
  obtain ⟨_, _, _, _, h⟩ := hP.lO
  have := c_get (l := l) (A := A) h (i := i) (by simpa using hi)
  rw [getD_map hi] at this
  exact this
theorem PC.gtX (hP : PC G w px pI pO pX n ia nm ct lv lo fa fb O X cp ru) {i : Nat} (hi : i < X.length) : Met l yJx4a65c_get_915e3 wsJx4a65c_get_915e3 ({ frames := 10, cells := 0, slots := 0, locals := 163 } : Room) (Pw G A w [.ref pX, .int (nI i)]) (va_Qq (fun r w' => w = w' ∧ r = some (ia (X.getD i 0))) (Bw G A) A) 0 0 A := by
  obtain ⟨_, _, _, _, h⟩ := hP.lX
  have := c_get (l := l) (A := A) h (i := i) (by simpa using hi)
  rw [getD_map hi] at this
  exact this
theorem PC.alI (hP : PC G w px pI pO pX n ia nm ct lv lo fa fb O X cp ru) : ∃ vs, w pI = some (.inr (2, vs)) := by
  obtain ⟨_, _, _, _, h⟩ := hP.lI; exact ⟨_, h.1⟩
theorem PC.alO (hP : PC G w px pI pO pX n ia nm ct lv lo fa fb O X cp ru) : ∃ vs, w pO = some (.inr (2, vs)) := by
  obtain ⟨_, _, _, _, h⟩ := hP.lO; exact ⟨_, h.1⟩
theorem PC.alX (hP : PC G w px pI pO pX n ia nm ct lv lo fa fb O X cp ru) : ∃ vs, w pX = some (.inr (2, vs)) := by
  obtain ⟨_, _, _, _, h⟩ := hP.lX; exact ⟨_, h.1⟩
abbrev xIO : String := "java/lang/IndexOutOfBoundsException"
abbrev xIA : String := "java/lang/IllegalArgumentException"
abbrev xIS : String := "java/lang/IllegalStateException"
theorem isO_ne {o : Int32} (h : ¬ ∃ i, i < n ∧ o = nI i) (hn : n ≤ 40) : isO n o = false := by
  cases hc : isO n o with
  | false => rfl
  | true => exact absurd (isO_of hc hn) h
set_option maxRecDepth 100000 in
set_option maxHeartbeats 4000000 in
theorem c_X3_itemOf (hl : l.stackTraces = false) (hP : PC G w px pI pO pX n ia nm ct lv lo fa fb O X cp ru) (o : Int32) : vx_Met l yX3_itemOf wsX3_itemOf ({ frames := 11, cells := 1, slots := 6, locals := 184 } : Room) (Pw G A w [.ref px, .int o]) (va_Qq (fun r w' => w = w' ∧ ∃ i, i < n ∧ o = nI i ∧ r = some (ia i)) (Bw G A) A) (XW G A (fun E w' => w = w' ∧ E = xIO ∧ isO n o = false)) 1 6 A := by
  refine m_ofX (cc := cX3_itemOf) (maxL := 2) (ret := (some (.object "Packstack$Item"))) (by decide) rfl (Nat.le_of_ble_eq_true rfl) ?_
  intro p e s m args below meth c hc hr hout
  refine v_loc [(0, some (.ref px)), (1, some (.int o))] rfl ?_
  obtain ⟨vs, haI⟩ := hP.alI
  have hn := hP.n40
  have thr : isO n o = false → V p l e ({ frames := 11, cells := 1, slots := 6, locals := 184 } : Room) s m args below meth c 2 G A (vx_MQ below (va_Qq (fun r w' => w = w' ∧ ∃ i, i < n ∧ o = nI i ∧ r = some (ia i)) (Bw G A) A) (XW G A (fun E w' => w = w' ∧ E = xIO ∧ isO n o = false)) args s 1 6 A) w 0 0 15 [(0, some (.ref px)), (1, some (.int o))] [] := by
    intro h0
    exact v_throw hc hl hout (cls := "java/lang/IndexOutOfBoundsException") (text := "no such object") (by decide +kernel) (by decide +kernel) (by decide +kernel) (by decide +kernel) (by decide +kernel) (by decide +kernel) (by decide +kernel) dX3_itemOf_15 dX3_itemOf_18 dX3_itemOf_19 dX3_itemOf_21 dX3_itemOf_24 (Nat.le_of_ble_eq_true rfl) (Nat.le_of_ble_eq_true rfl) (by first | exact Nat.le_of_ble_eq_true rfl | omega | (dsimp only; omega)) (by first | exact Nat.le_of_ble_eq_true rfl | omega | (dsimp only; omega)) (by first | exact Nat.le_of_ble_eq_true rfl | omega | (dsimp only; omega)) (by first | exact Nat.le_of_ble_eq_true rfl | omega | (dsimp only; omega)) (⟨rfl, rfl, h0⟩)
  refine v_iload_n hc (i := 1) rfl dX3_itemOf_0 rfl ?_
  refine v_if_lt hc (tgt := 15) dX3_itemOf_1 (by decide) (fun hb => ?_) (fun hb => ?_)
  · refine thr (isO_ne (fun ⟨i, hi, e⟩ => ?_) hn)
    subst e
    exact nI_pos (by omega) hb
  · obtain ⟨j, hj, rfl⟩ := nI_of hb
    refine v_iload_n hc (i := 1) rfl dX3_itemOf_4 rfl ?_
    first | refine v_aload_n hc (i := 0) rfl dX3_itemOf_5 rfl ?_ | refine v_aload_nN hc (i := 0) rfl dX3_itemOf_5 rfl ?_
    refine v_get hc 0 (ci := 6) rfl (by decide +kernel) (by decide) (by decide +kernel) (fun _ h => h) dX3_itemOf_6 (hP.1) rfl ?_
    refine v_callVi hc (hP.szI) (cwV 0 hc.1.2.2.2.2 gX3_itemOf_Jx4a65c_size_8abf5 rfl rfl rfl (by decide +kernel) ⟨Nat.le_of_ble_eq_true rfl, Nat.le_of_ble_eq_true rfl⟩) (haI) rfl rfl rfl (Nat.le_of_ble_eq_true rfl) ⟨(by first | exact Nat.le_of_ble_eq_true rfl | omega | (dsimp only; omega)), (by first | exact Nat.le_of_ble_eq_true rfl | omega | (dsimp only; omega))⟩ dX3_itemOf_9 (fun r w' hp => ?_)
    obtain ⟨rfl, rfl⟩ := hp
    refine v_icmp_ltN hc (tgt := 25) dX3_itemOf_12 (by decide) (by omega) (by omega) (fun h2 => ?_) (fun h2 => ?_)
    · first | refine v_aload_n hc (i := 0) rfl dX3_itemOf_25 rfl ?_ | refine v_aload_nN hc (i := 0) rfl dX3_itemOf_25 rfl ?_
      refine v_get hc 0 (ci := 6) rfl (by decide +kernel) (by decide) (by decide +kernel) (fun _ h => h) dX3_itemOf_26 (hP.1) rfl ?_
      refine v_iload_n hc (i := 1) rfl dX3_itemOf_29 rfl ?_
      refine v_callVq hc (hP.gtI h2) (cwV 1 hc.1.2.2.2.2 gX3_itemOf_Jx4a65c_get_915e3 rfl rfl rfl (by decide +kernel) ⟨Nat.le_of_ble_eq_true rfl, Nat.le_of_ble_eq_true rfl⟩) (haI) rfl rfl rfl (Nat.le_of_ble_eq_true rfl) ⟨(by first | exact Nat.le_of_ble_eq_true rfl | omega | (dsimp only; omega)), (by first | exact Nat.le_of_ble_eq_true rfl | omega | (dsimp only; omega))⟩ dX3_itemOf_30 (fun r w' hp => ?_)
      obtain ⟨rfl, rfl⟩ := hp
      refine v_cast hc (ci := 4) rfl (by decide +kernel) (hP.2.1 j h2) dX3_itemOf_33 ?_
      refine v_xret ?_
      exact v_aret hc (some (ia j)) hr (by first | exact Or.inl ⟨_, rfl⟩ | exact Or.inr ⟨_, rfl⟩) rfl dX3_itemOf_36 (by first | exact Nat.le_of_ble_eq_true rfl | omega | (dsimp only; omega)) (by first | exact Nat.le_of_ble_eq_true rfl | omega | (dsimp only; omega)) (⟨rfl, j, h2, rfl, rfl⟩)
    · refine thr (isO_ne (fun ⟨i, hi, e⟩ => ?_) hn)
      have := (nI_eq (by omega) (by omega)).mp e
      omega
set_option maxRecDepth 100000 in
set_option maxHeartbeats 4000000 in
theorem c_X3_formOf (hl : l.stackTraces = false) (hP : PC G w px pI pO pX n ia nm ct lv lo fa fb O X cp ru) (hF : FW w n ia fa fm) (o : Int32) : vx_Met l yX3_formOf wsX3_formOf ({ frames := 12, cells := 2, slots := 12, locals := 205 } : Room) (Pw G A w [.ref px, .int o]) (va_Qq (fun r w' => w = w' ∧ ∃ i g f, i < n ∧ o = nI i ∧ fm i = some g ∧ fa i = some f ∧ w f = some (frc ia g) ∧ r = some f) (Bw G A) A) (XW G A (fun E w' => w = w' ∧ (E = xIO ∧ isO n o = false ∨ E = xIS ∧ ∃ i, i < n ∧ o = nI i ∧ fm i = none))) 2 12 A := by
  refine m_ofX (cc := cX3_formOf) (maxL := 3) (ret := (some (.object "Packstack$Form"))) (by decide) rfl (Nat.le_of_ble_eq_true rfl) ?_
  intro p e s m args below meth c hc hr hout
  refine v_loc [(0, some (.ref px)), (1, some (.int o))] rfl ?_
  first | refine v_aload_n hc (i := 0) rfl dX3_formOf_0 rfl ?_ | refine v_aload_nN hc (i := 0) rfl dX3_formOf_0 rfl ?_
  refine v_iload_n hc (i := 1) rfl dX3_formOf_1 rfl ?_
  refine v_xcallVq hc (c_X3_itemOf hl hP o) (cwV 1 hc.1.2.2.2.2 gX3_formOf_X3_itemOf rfl rfl rfl (by decide +kernel) ⟨Nat.le_of_ble_eq_true rfl, Nat.le_of_ble_eq_true rfl⟩) (hP.1) rfl rfl rfl (Nat.le_of_ble_eq_true rfl) ⟨(by first | exact Nat.le_of_ble_eq_true rfl | omega | (dsimp only; omega)), (by first | exact Nat.le_of_ble_eq_true rfl | omega | (dsimp only; omega))⟩ dX3_formOf_2 (fun E w' hp => v_out hc hout (Nat.le_of_ble_eq_true rfl) (Nat.le_of_ble_eq_true rfl) ⟨hp.1, Or.inl hp.2⟩) (fun r w' hp => ?_)
  obtain ⟨rfl, i, hi, rfl, rfl⟩ := hp
  refine v_get hc 7 (ci := 4) rfl (by decide +kernel) (by decide) (by decide +kernel) (fun _ h => h) dX3_formOf_5 (hP.2.1 i hi) rfl ?_
  cases hfm : fm i with
  | none =>
    rw [(hF i hi).1 hfm]
    first | refine v_astore_n hc (i := 2) rfl dX3_formOf_8 (by decide) rfl ?_ | refine v_astore_nN hc (i := 2) rfl dX3_formOf_8 (by decide) rfl ?_
    first | refine v_aload_n hc (i := 2) rfl dX3_formOf_9 rfl ?_ | refine v_aload_nN hc (i := 2) rfl dX3_formOf_9 rfl ?_
    refine v_ifnonnull_N hc dX3_formOf_10 ?_
    exact v_throw hc hl hout (cls := "java/lang/IllegalStateException") (text := "the object has no form") (by decide +kernel) (by decide +kernel) (by decide +kernel) (by decide +kernel) (by decide +kernel) (by decide +kernel) (by decide +kernel) dX3_formOf_13 dX3_formOf_16 dX3_formOf_17 dX3_formOf_19 dX3_formOf_22 (Nat.le_of_ble_eq_true rfl) (Nat.le_of_ble_eq_true rfl) (by first | exact Nat.le_of_ble_eq_true rfl | omega | (dsimp only; omega)) (by first | exact Nat.le_of_ble_eq_true rfl | omega | (dsimp only; omega)) (by first | exact Nat.le_of_ble_eq_true rfl | omega | (dsimp only; omega)) (by first | exact Nat.le_of_ble_eq_true rfl | omega | (dsimp only; omega)) (⟨rfl, Or.inr ⟨rfl, i, hi, rfl, hfm⟩⟩)
  | some g =>
    obtain ⟨f, hfa, hfw⟩ := (hF i hi).2 g hfm
    rw [hfa]
    first | refine v_astore_n hc (i := 2) rfl dX3_formOf_8 (by decide) rfl ?_ | refine v_astore_nN hc (i := 2) rfl dX3_formOf_8 (by decide) rfl ?_
    first | refine v_aload_n hc (i := 2) rfl dX3_formOf_9 rfl ?_ | refine v_aload_nN hc (i := 2) rfl dX3_formOf_9 rfl ?_
    refine v_ifnonnull_R hc (tgt := 23) dX3_formOf_10 (by decide) ?_
    first | refine v_aload_n hc (i := 2) rfl dX3_formOf_23 rfl ?_ | refine v_aload_nN hc (i := 2) rfl dX3_formOf_23 rfl ?_
    refine v_xret ?_
    exact v_aret hc (some f) hr (by first | exact Or.inl ⟨_, rfl⟩ | exact Or.inr ⟨_, rfl⟩) rfl dX3_formOf_24 (by first | exact Nat.le_of_ble_eq_true rfl | omega | (dsimp only; omega)) (by first | exact Nat.le_of_ble_eq_true rfl | omega | (dsimp only; omega)) (⟨rfl, i, g, f, hi, rfl, hfm, hfa, hfw, rfl⟩)
set_option maxRecDepth 100000 in
set_option maxHeartbeats 4000000 in
theorem c_X3_countLive (hP : PC G w px pI pO pX n ia nm ct lv lo fa fb O X cp ru) : Met l yX3_countLive wsX3_countLive ({ frames := 11, cells := 0, slots := 0, locals := 184 } : Room) (Pw G A w [.ref px]) (va_Qi (fun r w' => w = w' ∧ r = nI (sumN n (fun i => b1 (lv i)))) (Bw G A) A) 0 0 A := by
  refine m_of (cc := cX3_countLive) (maxL := 3) (ret := (some .int)) (by decide) rfl (Nat.le_of_ble_eq_true rfl) ?_
  intro p e s m args below meth c hc hr hmn
  refine v_loc [(0, some (.ref px))] rfl ?_
  obtain ⟨vs, haI⟩ := hP.alI
  have hn := hP.n40
  refine v_iconst hc (v := nI 0) dX3_countLive_0 (by decide) ?_
  refine v_istore_n hc (i := 1) rfl dX3_countLive_1 (by decide) rfl ?_
  refine v_iconst hc (v := nI 0) dX3_countLive_2 (by decide) ?_
  refine v_istore_n hc (i := 2) rfl dX3_countLive_3 (by decide) rfl ?_
  refine v_loop (σ := Nat) (fun i => i ≤ n) (fun i => n - i) (fun _ => w) (fun _ => 0) (fun _ => 0) (fun i => [(0, some (.ref px)), (1, some (.int (nI (sumN i (fun i => b1 (lv i)))))), (2, some (.int (nI i)))]) 0 rfl (Nat.zero_le _) ?_
  intro i hi ih
  refine v_iload_n hc (i := 2) rfl dX3_countLive_4 rfl ?_
  first | refine v_aload_n hc (i := 0) rfl dX3_countLive_5 rfl ?_ | refine v_aload_nN hc (i := 0) rfl dX3_countLive_5 rfl ?_
  refine v_get hc 0 (ci := 6) rfl (by decide +kernel) (by decide) (by decide +kernel) (fun _ h => h) dX3_countLive_6 (hP.1) rfl ?_
  refine v_callVi hc (hP.szI) (cwV 0 hc.1.2.2.2.2 gX3_countLive_Jx4a65c_size_8abf5 rfl rfl rfl (by decide +kernel) ⟨Nat.le_of_ble_eq_true rfl, Nat.le_of_ble_eq_true rfl⟩) (haI) rfl rfl rfl (Nat.le_of_ble_eq_true rfl) ⟨(by first | exact Nat.le_of_ble_eq_true rfl | omega | (dsimp only; omega)), (by first | exact Nat.le_of_ble_eq_true rfl | omega | (dsimp only; omega))⟩ dX3_countLive_9 (fun r w' hp => ?_)
  obtain ⟨rfl, rfl⟩ := hp
  refine v_icmp_geN hc (tgt := 41) dX3_countLive_12 (by decide) (by omega) (by omega) (fun h1 => ?_) (fun h1 => ?_)
  · have e : i = n := by omega
    subst e
    refine v_iload_n hc (i := 1) rfl dX3_countLive_41 rfl ?_
    exact v_iret hc hr dX3_countLive_42 (by first | exact Nat.le_of_ble_eq_true rfl | omega | (dsimp only; omega)) (by first | exact Nat.le_of_ble_eq_true rfl | omega | (dsimp only; omega)) (⟨rfl, rfl⟩)
  · first | refine v_aload_n hc (i := 0) rfl dX3_countLive_15 rfl ?_ | refine v_aload_nN hc (i := 0) rfl dX3_countLive_15 rfl ?_
    refine v_get hc 0 (ci := 6) rfl (by decide +kernel) (by decide) (by decide +kernel) (fun _ h => h) dX3_countLive_16 (hP.1) rfl ?_
    refine v_iload_n hc (i := 2) rfl dX3_countLive_19 rfl ?_
    refine v_callVq hc (hP.gtI h1) (cwV 1 hc.1.2.2.2.2 gX3_countLive_Jx4a65c_get_915e3 rfl rfl rfl (by decide +kernel) ⟨Nat.le_of_ble_eq_true rfl, Nat.le_of_ble_eq_true rfl⟩) (haI) rfl rfl rfl (Nat.le_of_ble_eq_true rfl) ⟨(by first | exact Nat.le_of_ble_eq_true rfl | omega | (dsimp only; omega)), (by first | exact Nat.le_of_ble_eq_true rfl | omega | (dsimp only; omega))⟩ dX3_countLive_20 (fun r w' hp => ?_)
    obtain ⟨rfl, rfl⟩ := hp
    refine v_cast hc (ci := 4) rfl (by decide +kernel) (hP.2.1 i h1) dX3_countLive_23 ?_
    refine v_get hc 5 (ci := 4) rfl (by decide +kernel) (by decide) (by decide +kernel) (fun _ h => h) dX3_countLive_26 (hP.2.1 i h1) rfl ?_
    refine v_ifB_eq hc (tgt := 35) dX3_countLive_29 (by decide) (fun h2 => ?_) (fun h2 => ?_)
    · first | refine v_iinc1 hc dX3_countLive_35 rfl (by decide) rfl ?_ | refine v_iinc hc dX3_countLive_35 rfl rfl (by decide) rfl ?_
      refine v_goto hc (tgt := 4) dX3_countLive_38 (by decide) ?_
      exact ih (i + 1) _ (by show _ = [_, some (Value.int (nI (sumN i _ + b1 (lv i)))), _]; rw [h2]; rfl) h1 (by omega)
    · first | refine v_iinc1 hc dX3_countLive_32 rfl (by decide) rfl ?_ | refine v_iinc hc dX3_countLive_32 rfl rfl (by decide) rfl ?_
      first | refine v_iinc1 hc dX3_countLive_35 rfl (by decide) rfl ?_ | refine v_iinc hc dX3_countLive_35 rfl rfl (by decide) rfl ?_
      refine v_goto hc (tgt := 4) dX3_countLive_38 (by decide) ?_
      exact ih (i + 1) _ (by show _ = [_, some (Value.int (nI (sumN i _ + b1 (lv i)))), _]; rw [h2]; rfl) h1 (by omega)
set_option maxRecDepth 100000 in
set_option maxHeartbeats 4000000 in
theorem c_X3_countReadableFromPack (hP : PC G w px pI pO pX n ia nm ct lv lo fa fb O X cp ru) (hF : FW w n ia fa fm) (hC : CH n fm) : Met l yX3_countReadableFromPack wsX3_countReadableFromPack ({ frames := 11, cells := 0, slots := 0, locals := 184 } : Room) (Pw G A w [.ref px]) (va_Qi (fun r w' => w = w' ∧ r = nI (sumL (fun i => b1 (rpk fm i)) O)) (Bw G A) A) 0 0 A := by
  refine m_of (cc := cX3_countReadableFromPack) (maxL := 3) (ret := (some .int)) (by decide) rfl (Nat.le_of_ble_eq_true rfl) ?_
  intro p e s m args below meth c hc hr hmn
  refine v_loc [(0, some (.ref px))] rfl ?_
  obtain ⟨vs, haO⟩ := hP.alO
  have hn := hP.o40
  refine v_iconst hc (v := nI 0) dX3_countReadableFromPack_0 (by decide) ?_
  refine v_istore_n hc (i := 1) rfl dX3_countReadableFromPack_1 (by decide) rfl ?_
  refine v_iconst hc (v := nI 0) dX3_countReadableFromPack_2 (by decide) ?_
  refine v_istore_n hc (i := 2) rfl dX3_countReadableFromPack_3 (by decide) rfl ?_
  refine v_loop (σ := Nat) (fun i => i ≤ O.length) (fun i => O.length - i) (fun _ => w) (fun _ => 0) (fun _ => 0) (fun i => [(0, some (.ref px)), (1, some (.int (nI (sumL (fun i => b1 (rpk fm i)) (O.take i))))), (2, some (.int (nI i)))]) 0 rfl (Nat.zero_le _) ?_
  intro i hi ih
  refine v_iload_n hc (i := 2) rfl dX3_countReadableFromPack_4 rfl ?_
  first | refine v_aload_n hc (i := 0) rfl dX3_countReadableFromPack_5 rfl ?_ | refine v_aload_nN hc (i := 0) rfl dX3_countReadableFromPack_5 rfl ?_
  refine v_get hc 1 (ci := 6) rfl (by decide +kernel) (by decide) (by decide +kernel) (fun _ h => h) dX3_countReadableFromPack_6 (hP.1) rfl ?_
  refine v_callVi hc (hP.szO) (cwV 0 hc.1.2.2.2.2 gX3_countReadableFromPack_Jx4a65c_size_8abf5 rfl rfl rfl (by decide +kernel) ⟨Nat.le_of_ble_eq_true rfl, Nat.le_of_ble_eq_true rfl⟩) (haO) rfl rfl rfl (Nat.le_of_ble_eq_true rfl) ⟨(by first | exact Nat.le_of_ble_eq_true rfl | omega | (dsimp only; omega)), (by first | exact Nat.le_of_ble_eq_true rfl | omega | (dsimp only; omega))⟩ dX3_countReadableFromPack_9 (fun r w' hp => ?_)
  obtain ⟨rfl, rfl⟩ := hp
  refine v_icmp_geN hc (tgt := 41) dX3_countReadableFromPack_12 (by decide) (by omega) (by omega) (fun h1 => ?_) (fun h1 => ?_)
  · have e : i = O.length := by omega
    refine v_iload_n hc (i := 1) rfl dX3_countReadableFromPack_41 rfl ?_
    exact v_iret hc hr dX3_countReadableFromPack_42 (by first | exact Nat.le_of_ble_eq_true rfl | omega | (dsimp only; omega)) (by first | exact Nat.le_of_ble_eq_true rfl | omega | (dsimp only; omega)) (⟨rfl, by rw [e, sumL_all]⟩)
  · have hm := hP.2.2.2.1 _ (getD_mem h1)
    have hs := sumL_take (fun i => b1 (rpk fm i)) O i h1
    first | refine v_aload_n hc (i := 0) rfl dX3_countReadableFromPack_15 rfl ?_ | refine v_aload_nN hc (i := 0) rfl dX3_countReadableFromPack_15 rfl ?_
    refine v_get hc 1 (ci := 6) rfl (by decide +kernel) (by decide) (by decide +kernel) (fun _ h => h) dX3_countReadableFromPack_16 (hP.1) rfl ?_
    refine v_iload_n hc (i := 2) rfl dX3_countReadableFromPack_19 rfl ?_
    refine v_callVq hc (hP.gtO h1) (cwV 1 hc.1.2.2.2.2 gX3_countReadableFromPack_Jx4a65c_get_915e3 rfl rfl rfl (by decide +kernel) ⟨Nat.le_of_ble_eq_true rfl, Nat.le_of_ble_eq_true rfl⟩) (haO) rfl rfl rfl (Nat.le_of_ble_eq_true rfl) ⟨(by first | exact Nat.le_of_ble_eq_true rfl | omega | (dsimp only; omega)), (by first | exact Nat.le_of_ble_eq_true rfl | omega | (dsimp only; omega))⟩ dX3_countReadableFromPack_20 (fun r w' hp => ?_)
    obtain ⟨rfl, rfl⟩ := hp
    refine v_cast hc (ci := 4) rfl (by decide +kernel) (hP.2.1 _ hm) dX3_countReadableFromPack_23 ?_
    refine v_callVi hc (c_X1_isReadableFromPack hP.2.1 hF hC hm) (cwV 0 hc.1.2.2.2.2 gX3_countReadableFromPack_X1_isReadableFromPack rfl rfl rfl (by decide +kernel) ⟨Nat.le_of_ble_eq_true rfl, Nat.le_of_ble_eq_true rfl⟩) (hP.2.1 _ hm) rfl rfl rfl (Nat.le_of_ble_eq_true rfl) ⟨(by first | exact Nat.le_of_ble_eq_true rfl | omega | (dsimp only; omega)), (by first | exact Nat.le_of_ble_eq_true rfl | omega | (dsimp only; omega))⟩ dX3_countReadableFromPack_26 (fun r w' hp => ?_)
    obtain ⟨rfl, rfl⟩ := hp
    refine v_ifB_eq hc (tgt := 35) dX3_countReadableFromPack_29 (by decide) (fun h2 => ?_) (fun h2 => ?_)
    · first | refine v_iinc1 hc dX3_countReadableFromPack_35 rfl (by decide) rfl ?_ | refine v_iinc hc dX3_countReadableFromPack_35 rfl rfl (by decide) rfl ?_
      refine v_goto hc (tgt := 4) dX3_countReadableFromPack_38 (by decide) ?_
      exact ih (i + 1) _ (by dsimp only [List.map]; rw [hs, h2]; rfl) h1 (by omega)
    · first | refine v_iinc1 hc dX3_countReadableFromPack_32 rfl (by decide) rfl ?_ | refine v_iinc hc dX3_countReadableFromPack_32 rfl rfl (by decide) rfl ?_
      first | refine v_iinc1 hc dX3_countReadableFromPack_35 rfl (by decide) rfl ?_ | refine v_iinc hc dX3_countReadableFromPack_35 rfl rfl (by decide) rfl ?_
      refine v_goto hc (tgt := 4) dX3_countReadableFromPack_38 (by decide) ?_
      exact ih (i + 1) _ (by dsimp only [List.map]; rw [hs, h2]; rfl) h1 (by omega)
set_option maxRecDepth 100000 in
set_option maxHeartbeats 4000000 in
theorem c_X3_objects (hP : PC G w px pI pO pX n ia nm ct lv lo fa fb O X cp ru) : Met l yX3_objects wsX3_objects ({ frames := 9, cells := 0, slots := 0, locals := 140 } : Room) (Pw G A w [.ref px]) (va_Qi (fun r w' => w = w' ∧ r = nI n) (Bw G A) A) 0 0 A := by
  refine m_of (cc := cX3_objects) (maxL := 1) (ret := (some .int)) (by decide) rfl (Nat.le_of_ble_eq_true rfl) ?_
  intro p e s m args below meth c hc hr hmn
  refine v_loc [(0, some (.ref px))] rfl ?_
  obtain ⟨vs, haI⟩ := hP.alI
  first | refine v_aload_n hc (i := 0) rfl dX3_objects_0 rfl ?_ | refine v_aload_nN hc (i := 0) rfl dX3_objects_0 rfl ?_
  refine v_get hc 0 (ci := 6) rfl (by decide +kernel) (by decide) (by decide +kernel) (fun _ h => h) dX3_objects_1 (hP.1) rfl ?_
  refine v_callVi hc (hP.szI) (cwV 0 hc.1.2.2.2.2 gX3_objects_Jx4a65c_size_8abf5 rfl rfl rfl (by decide +kernel) ⟨Nat.le_of_ble_eq_true rfl, Nat.le_of_ble_eq_true rfl⟩) (haI) rfl rfl rfl (Nat.le_of_ble_eq_true rfl) ⟨(by first | exact Nat.le_of_ble_eq_true rfl | omega | (dsimp only; omega)), (by first | exact Nat.le_of_ble_eq_true rfl | omega | (dsimp only; omega))⟩ dX3_objects_4 (fun r w' hp => ?_)
  obtain ⟨rfl, rfl⟩ := hp
  exact v_iret hc hr dX3_objects_7 (by first | exact Nat.le_of_ble_eq_true rfl | omega | (dsimp only; omega)) (by first | exact Nat.le_of_ble_eq_true rfl | omega | (dsimp only; omega)) (⟨rfl, rfl⟩)
set_option maxRecDepth 100000 in
set_option maxHeartbeats 4000000 in
theorem c_X3_isLive (hl : l.stackTraces = false) (hP : PC G w px pI pO pX n ia nm ct lv lo fa fb O X cp ru) (o : Int32) : vx_Met l yX3_isLive wsX3_isLive ({ frames := 12, cells := 1, slots := 6, locals := 205 } : Room) (Pw G A w [.ref px, .int o]) (va_Qi (fun r w' => w = w' ∧ ∃ i, i < n ∧ o = nI i ∧ r = bI (lv i)) (Bw G A) A) (XW G A (fun E w' => w = w' ∧ E = xIO ∧ isO n o = false)) 1 6 A := by
  refine m_ofX (cc := cX3_isLive) (maxL := 2) (ret := (some .boolean)) (by decide) rfl (Nat.le_of_ble_eq_true rfl) ?_
  intro p e s m args below meth c hc hr hout
  refine v_loc [(0, some (.ref px)), (1, some (.int o))] rfl ?_
  first | refine v_aload_n hc (i := 0) rfl dX3_isLive_0 rfl ?_ | refine v_aload_nN hc (i := 0) rfl dX3_isLive_0 rfl ?_
  refine v_iload_n hc (i := 1) rfl dX3_isLive_1 rfl ?_
  refine v_xcallVq hc (c_X3_itemOf hl hP o) (cwV 1 hc.1.2.2.2.2 gX3_isLive_X3_itemOf rfl rfl rfl (by decide +kernel) ⟨Nat.le_of_ble_eq_true rfl, Nat.le_of_ble_eq_true rfl⟩) (hP.1) rfl rfl rfl (Nat.le_of_ble_eq_true rfl) ⟨(by first | exact Nat.le_of_ble_eq_true rfl | omega | (dsimp only; omega)), (by first | exact Nat.le_of_ble_eq_true rfl | omega | (dsimp only; omega))⟩ dX3_isLive_2 (fun E w' hp => v_out hc hout (Nat.le_of_ble_eq_true rfl) (Nat.le_of_ble_eq_true rfl) hp) (fun r w' hp => ?_)
  obtain ⟨rfl, i, hi, rfl, rfl⟩ := hp
  refine v_get hc 5 (ci := 4) rfl (by decide +kernel) (by decide) (by decide +kernel) (fun _ h => h) dX3_isLive_5 (hP.2.1 i hi) rfl ?_
  refine v_xret ?_
  exact v_zret hc hr dX3_isLive_8 (by first | exact Nat.le_of_ble_eq_true rfl | omega | (dsimp only; omega)) (by first | exact Nat.le_of_ble_eq_true rfl | omega | (dsimp only; omega)) (by first | rfl | exact bI_nar _) (⟨rfl, i, hi, rfl, rfl⟩)
set_option maxRecDepth 100000 in
set_option maxHeartbeats 4000000 in
theorem c_X3_isLoose (hl : l.stackTraces = false) (hP : PC G w px pI pO pX n ia nm ct lv lo fa fb O X cp ru) (o : Int32) : vx_Met l yX3_isLoose wsX3_isLoose ({ frames := 12, cells := 1, slots := 6, locals := 205 } : Room) (Pw G A w [.ref px, .int o]) (va_Qi (fun r w' => w = w' ∧ ∃ i, i < n ∧ o = nI i ∧ r = bI (lo i)) (Bw G A) A) (XW G A (fun E w' => w = w' ∧ E = xIO ∧ isO n o = false)) 1 6 A := by
  refine m_ofX (cc := cX3_isLoose) (maxL := 2) (ret := (some .boolean)) (by decide) rfl (Nat.le_of_ble_eq_true rfl) ?_
  intro p e s m args below meth c hc hr hout
  refine v_loc [(0, some (.ref px)), (1, some (.int o))] rfl ?_
  first | refine v_aload_n hc (i := 0) rfl dX3_isLoose_0 rfl ?_ | refine v_aload_nN hc (i := 0) rfl dX3_isLoose_0 rfl ?_
  refine v_iload_n hc (i := 1) rfl dX3_isLoose_1 rfl ?_
  refine v_xcallVq hc (c_X3_itemOf hl hP o) (cwV 1 hc.1.2.2.2.2 gX3_isLoose_X3_itemOf rfl rfl rfl (by decide +kernel) ⟨Nat.le_of_ble_eq_true rfl, Nat.le_of_ble_eq_true rfl⟩) (hP.1) rfl rfl rfl (Nat.le_of_ble_eq_true rfl) ⟨(by first | exact Nat.le_of_ble_eq_true rfl | omega | (dsimp only; omega)), (by first | exact Nat.le_of_ble_eq_true rfl | omega | (dsimp only; omega))⟩ dX3_isLoose_2 (fun E w' hp => v_out hc hout (Nat.le_of_ble_eq_true rfl) (Nat.le_of_ble_eq_true rfl) hp) (fun r w' hp => ?_)
  obtain ⟨rfl, i, hi, rfl, rfl⟩ := hp
  refine v_get hc 6 (ci := 4) rfl (by decide +kernel) (by decide) (by decide +kernel) (fun _ h => h) dX3_isLoose_5 (hP.2.1 i hi) rfl ?_
  refine v_xret ?_
  exact v_zret hc hr dX3_isLoose_8 (by first | exact Nat.le_of_ble_eq_true rfl | omega | (dsimp only; omega)) (by first | exact Nat.le_of_ble_eq_true rfl | omega | (dsimp only; omega)) (by first | rfl | exact bI_nar _) (⟨rfl, i, hi, rfl, rfl⟩)
/-- readable: live, and loose or out of the pack -/
def rdb (lv lo : Nat → Bool) (fm : Nat → Option Frm) (i : Nat) : Bool := lv i && (lo i || rpk fm i)
set_option maxRecDepth 100000 in
set_option maxHeartbeats 4000000 in
theorem c_X3_canRead (hl : l.stackTraces = false) (hP : PC G w px pI pO pX n ia nm ct lv lo fa fb O X cp ru) (hF : FW w n ia fa fm) (hC : CH n fm) (o : Int32) : vx_Met l yX3_canRead wsX3_canRead ({ frames := 12, cells := 1, slots := 6, locals := 205 } : Room) (Pw G A w [.ref px, .int o]) (va_Qi (fun r w' => w = w' ∧ ∃ i, i < n ∧ o = nI i ∧ r = bI (rdb lv lo fm i)) (Bw G A) A) (XW G A (fun E w' => w = w' ∧ E = xIO ∧ isO n o = false)) 1 6 A := by
  refine m_ofX (cc := cX3_canRead) (maxL := 2) (ret := (some .boolean)) (by decide) rfl (Nat.le_of_ble_eq_true rfl) ?_
  intro p e s m args below meth c hc hr hout
  refine v_loc [(0, some (.ref px)), (1, some (.int o))] rfl ?_
  first | refine v_aload_n hc (i := 0) rfl dX3_canRead_0 rfl ?_ | refine v_aload_nN hc (i := 0) rfl dX3_canRead_0 rfl ?_
  refine v_iload_n hc (i := 1) rfl dX3_canRead_1 rfl ?_
  refine v_xcallVq hc (c_X3_itemOf hl hP o) (cwV 1 hc.1.2.2.2.2 gX3_canRead_X3_itemOf rfl rfl rfl (by decide +kernel) ⟨Nat.le_of_ble_eq_true rfl, Nat.le_of_ble_eq_true rfl⟩) (hP.1) rfl rfl rfl (Nat.le_of_ble_eq_true rfl) ⟨(by first | exact Nat.le_of_ble_eq_true rfl | omega | (dsimp only; omega)), (by first | exact Nat.le_of_ble_eq_true rfl | omega | (dsimp only; omega))⟩ dX3_canRead_2 (fun E w' hp => v_out hc hout (Nat.le_of_ble_eq_true rfl) (Nat.le_of_ble_eq_true rfl) hp) (fun r w' hp => ?_)
  obtain ⟨rfl, i, hi, rfl, rfl⟩ := hp
  refine v_callVi hc (c_X1_isReadable hP.2.1 hF hC hi) (cwV 0 hc.1.2.2.2.2 gX3_canRead_X1_isReadable rfl rfl rfl (by decide +kernel) ⟨Nat.le_of_ble_eq_true rfl, Nat.le_of_ble_eq_true rfl⟩) (hP.2.1 i hi) rfl rfl rfl (Nat.le_of_ble_eq_true rfl) ⟨(by first | exact Nat.le_of_ble_eq_true rfl | omega | (dsimp only; omega)), (by first | exact Nat.le_of_ble_eq_true rfl | omega | (dsimp only; omega))⟩ dX3_canRead_5 (fun r w' hp => ?_)
  obtain ⟨rfl, rfl⟩ := hp
  refine v_xret ?_
  exact v_zret hc hr dX3_canRead_8 (by first | exact Nat.le_of_ble_eq_true rfl | omega | (dsimp only; omega)) (by first | exact Nat.le_of_ble_eq_true rfl | omega | (dsimp only; omega)) (by first | rfl | exact bI_nar _) (⟨rfl, i, hi, rfl, rfl⟩)
set_option maxRecDepth 100000 in
set_option maxHeartbeats 4000000 in
theorem c_X3_read (hl : l.stackTraces = false) (hP : PC G w px pI pO pX n ia nm ct lv lo fa fb O X cp ru) (hF : FW w n ia fa fm) (hC : CH n fm) (o : Int32) : vx_Met l yX3_read wsX3_read ({ frames := 12, cells := 2, slots := 12, locals := 205 } : Room) (Pw G A w [.ref px, .int o]) (va_Ql (fun r w' => w = w' ∧ ∃ i, i < n ∧ o = nI i ∧ rdb lv lo fm i = true ∧ r = ct i) (Bw G A) A) (XW G A (fun E w' => w = w' ∧ (E = xIO ∧ isO n o = false ∨ E = xIS ∧ ∃ i, i < n ∧ o = nI i ∧ rdb lv lo fm i = false))) 2 12 A := by
  refine m_ofX (cc := cX3_read) (maxL := 3) (ret := (some .long)) (by decide) rfl (Nat.le_of_ble_eq_true rfl) ?_
  intro p e s m args below meth c hc hr hout
  refine v_loc [(0, some (.ref px)), (1, some (.int o))] rfl ?_
  first | refine v_aload_n hc (i := 0) rfl dX3_read_0 rfl ?_ | refine v_aload_nN hc (i := 0) rfl dX3_read_0 rfl ?_
  refine v_iload_n hc (i := 1) rfl dX3_read_1 rfl ?_
  refine v_xcallVq hc (c_X3_itemOf hl hP o) (cwV 1 hc.1.2.2.2.2 gX3_read_X3_itemOf rfl rfl rfl (by decide +kernel) ⟨Nat.le_of_ble_eq_true rfl, Nat.le_of_ble_eq_true rfl⟩) (hP.1) rfl rfl rfl (Nat.le_of_ble_eq_true rfl) ⟨(by first | exact Nat.le_of_ble_eq_true rfl | omega | (dsimp only; omega)), (by first | exact Nat.le_of_ble_eq_true rfl | omega | (dsimp only; omega))⟩ dX3_read_2 (fun E w' hp => v_out hc hout (Nat.le_of_ble_eq_true rfl) (Nat.le_of_ble_eq_true rfl) ⟨hp.1, Or.inl hp.2⟩) (fun r w' hp => ?_)
  obtain ⟨rfl, i, hi, rfl, rfl⟩ := hp
  first | refine v_astore_n hc (i := 2) rfl dX3_read_5 (by decide) rfl ?_ | refine v_astore_nN hc (i := 2) rfl dX3_read_5 (by decide) rfl ?_
  first | refine v_aload_n hc (i := 2) rfl dX3_read_6 rfl ?_ | refine v_aload_nN hc (i := 2) rfl dX3_read_6 rfl ?_
  refine v_callVi hc (c_X1_isReadable hP.2.1 hF hC hi) (cwV 0 hc.1.2.2.2.2 gX3_read_X1_isReadable rfl rfl rfl (by decide +kernel) ⟨Nat.le_of_ble_eq_true rfl, Nat.le_of_ble_eq_true rfl⟩) (hP.2.1 i hi) rfl rfl rfl (Nat.le_of_ble_eq_true rfl) ⟨(by first | exact Nat.le_of_ble_eq_true rfl | omega | (dsimp only; omega)), (by first | exact Nat.le_of_ble_eq_true rfl | omega | (dsimp only; omega))⟩ dX3_read_7 (fun r w' hp => ?_)
  obtain ⟨rfl, rfl⟩ := hp
  refine v_ifB_ne hc (tgt := 23) dX3_read_10 (by decide) (fun h1 => ?_) (fun h1 => ?_)
  · first | refine v_aload_n hc (i := 2) rfl dX3_read_23 rfl ?_ | refine v_aload_nN hc (i := 2) rfl dX3_read_23 rfl ?_
    refine v_get hc 2 (ci := 4) rfl (by decide +kernel) (by decide) (by decide +kernel) (fun _ h => h) dX3_read_24 (hP.2.1 i hi) rfl ?_
    refine v_xret ?_
    exact v_lret hc hr dX3_read_27 (by first | exact Nat.le_of_ble_eq_true rfl | omega | (dsimp only; omega)) (by first | exact Nat.le_of_ble_eq_true rfl | omega | (dsimp only; omega)) (⟨rfl, i, hi, rfl, h1, rfl⟩)
  · exact v_throw hc hl hout (cls := "java/lang/IllegalStateException") (text := "the object cannot be read") (by decide +kernel) (by decide +kernel) (by decide +kernel) (by decide +kernel) (by decide +kernel) (by decide +kernel) (by decide +kernel) dX3_read_13 dX3_read_16 dX3_read_17 dX3_read_19 dX3_read_22 (Nat.le_of_ble_eq_true rfl) (Nat.le_of_ble_eq_true rfl) (by first | exact Nat.le_of_ble_eq_true rfl | omega | (dsimp only; omega)) (by first | exact Nat.le_of_ble_eq_true rfl | omega | (dsimp only; omega)) (by first | exact Nat.le_of_ble_eq_true rfl | omega | (dsimp only; omega)) (by first | exact Nat.le_of_ble_eq_true rfl | omega | (dsimp only; omega)) (⟨rfl, Or.inr ⟨rfl, i, hi, rfl, h1⟩⟩)
set_option maxRecDepth 100000 in
set_option maxHeartbeats 4000000 in
theorem c_X3_compared (hP : PC G w px pI pO pX n ia nm ct lv lo fa fb O X cp ru) : Met l yX3_compared wsX3_compared ({ frames := 8, cells := 0, slots := 0, locals := 120 } : Room) (Pw G A w [.ref px]) (va_Qi (fun r w' => w = w' ∧ r = cp) (Bw G A) A) 0 0 A := by
  refine m_of (cc := cX3_compared) (maxL := 1) (ret := (some .int)) (by decide) rfl (Nat.le_of_ble_eq_true rfl) ?_
  intro p e s m args below meth c hc hr hmn
  refine v_loc [(0, some (.ref px))] rfl ?_
  first | refine v_aload_n hc (i := 0) rfl dX3_compared_0 rfl ?_ | refine v_aload_nN hc (i := 0) rfl dX3_compared_0 rfl ?_
  refine v_get hc 3 (ci := 6) rfl (by decide +kernel) (by decide) (by decide +kernel) (fun _ h => h) dX3_compared_1 (hP.1) rfl ?_
  exact v_iret hc hr dX3_compared_4 (by first | exact Nat.le_of_ble_eq_true rfl | omega | (dsimp only; omega)) (by first | exact Nat.le_of_ble_eq_true rfl | omega | (dsimp only; omega)) (⟨rfl, rfl⟩)
set_option maxRecDepth 100000 in
set_option maxHeartbeats 4000000 in
theorem c_X3_reused (hP : PC G w px pI pO pX n ia nm ct lv lo fa fb O X cp ru) : Met l yX3_reused wsX3_reused ({ frames := 8, cells := 0, slots := 0, locals := 120 } : Room) (Pw G A w [.ref px]) (va_Qi (fun r w' => w = w' ∧ r = ru) (Bw G A) A) 0 0 A := by
  refine m_of (cc := cX3_reused) (maxL := 1) (ret := (some .int)) (by decide) rfl (Nat.le_of_ble_eq_true rfl) ?_
  intro p e s m args below meth c hc hr hmn
  refine v_loc [(0, some (.ref px))] rfl ?_
  first | refine v_aload_n hc (i := 0) rfl dX3_reused_0 rfl ?_ | refine v_aload_nN hc (i := 0) rfl dX3_reused_0 rfl ?_
  refine v_get hc 4 (ci := 6) rfl (by decide +kernel) (by decide) (by decide +kernel) (fun _ h => h) dX3_reused_1 (hP.1) rfl ?_
  exact v_iret hc hr dX3_reused_4 (by first | exact Nat.le_of_ble_eq_true rfl | omega | (dsimp only; omega)) (by first | exact Nat.le_of_ble_eq_true rfl | omega | (dsimp only; omega)) (⟨rfl, rfl⟩)
set_option maxRecDepth 100000 in
set_option maxHeartbeats 4000000 in
theorem c_X3_forms (hP : PC G w px pI pO pX n ia nm ct lv lo fa fb O X cp ru) : Met l yX3_forms wsX3_forms ({ frames := 9, cells := 0, slots := 0, locals := 140 } : Room) (Pw G A w [.ref px]) (va_Qi (fun r w' => w = w' ∧ r = nI O.length) (Bw G A) A) 0 0 A := by
  refine m_of (cc := cX3_forms) (maxL := 1) (ret := (some .int)) (by decide) rfl (Nat.le_of_ble_eq_true rfl) ?_
  intro p e s m args below meth c hc hr hmn
  refine v_loc [(0, some (.ref px))] rfl ?_
  obtain ⟨vs, haO⟩ := hP.alO
  first | refine v_aload_n hc (i := 0) rfl dX3_forms_0 rfl ?_ | refine v_aload_nN hc (i := 0) rfl dX3_forms_0 rfl ?_
  refine v_get hc 1 (ci := 6) rfl (by decide +kernel) (by decide) (by decide +kernel) (fun _ h => h) dX3_forms_1 (hP.1) rfl ?_
  refine v_callVi hc (hP.szO) (cwV 0 hc.1.2.2.2.2 gX3_forms_Jx4a65c_size_8abf5 rfl rfl rfl (by decide +kernel) ⟨Nat.le_of_ble_eq_true rfl, Nat.le_of_ble_eq_true rfl⟩) (haO) rfl rfl rfl (Nat.le_of_ble_eq_true rfl) ⟨(by first | exact Nat.le_of_ble_eq_true rfl | omega | (dsimp only; omega)), (by first | exact Nat.le_of_ble_eq_true rfl | omega | (dsimp only; omega))⟩ dX3_forms_4 (fun r w' hp => ?_)
  obtain ⟨rfl, rfl⟩ := hp
  exact v_iret hc hr dX3_forms_7 (by first | exact Nat.le_of_ble_eq_true rfl | omega | (dsimp only; omega)) (by first | exact Nat.le_of_ble_eq_true rfl | omega | (dsimp only; omega)) (⟨rfl, rfl⟩)
def cst (fm : Nat → Option Frm) (i : Nat) : Nat := match fm i with
  | none => 0
  | some g => g.2.2.2.1
set_option maxRecDepth 100000 in
set_option maxHeartbeats 4000000 in
theorem c_X3_cost (hP : PC G w px pI pO pX n ia nm ct lv lo fa fb O X cp ru) (hF : FW w n ia fa fm) : Met l yX3_cost wsX3_cost ({ frames := 11, cells := 0, slots := 0, locals := 184 } : Room) (Pw G A w [.ref px]) (va_Qi (fun r w' => w = w' ∧ r = nI (sumL (cst fm) O)) (Bw G A) A) 0 0 A := by
  refine m_of (cc := cX3_cost) (maxL := 4) (ret := (some .int)) (by decide) rfl (Nat.le_of_ble_eq_true rfl) ?_
  intro p e s m args below meth c hc hr hmn
  refine v_loc [(0, some (.ref px))] rfl ?_
  obtain ⟨vs, haO⟩ := hP.alO
  have hn := hP.o40
  refine v_iconst hc (v := nI 0) dX3_cost_0 (by decide) ?_
  refine v_istore_n hc (i := 1) rfl dX3_cost_1 (by decide) rfl ?_
  refine v_iconst hc (v := nI 0) dX3_cost_2 (by decide) ?_
  refine v_istore_n hc (i := 2) rfl dX3_cost_3 (by decide) rfl ?_
  refine v_loop (σ := Nat) (fun i => i ≤ O.length) (fun i => O.length - i) (fun _ => w) (fun _ => 0) (fun _ => 0) (fun i => [(0, some (.ref px)), (1, some (.int (nI (sumL (cst fm) (O.take i))))), (2, some (.int (nI i)))]) 0 rfl (Nat.zero_le _) ?_
  intro i hi ih
  refine v_iload_n hc (i := 2) rfl dX3_cost_4 rfl ?_
  first | refine v_aload_n hc (i := 0) rfl dX3_cost_5 rfl ?_ | refine v_aload_nN hc (i := 0) rfl dX3_cost_5 rfl ?_
  refine v_get hc 1 (ci := 6) rfl (by decide +kernel) (by decide) (by decide +kernel) (fun _ h => h) dX3_cost_6 (hP.1) rfl ?_
  refine v_callVi hc (hP.szO) (cwV 0 hc.1.2.2.2.2 gX3_cost_Jx4a65c_size_8abf5 rfl rfl rfl (by decide +kernel) ⟨Nat.le_of_ble_eq_true rfl, Nat.le_of_ble_eq_true rfl⟩) (haO) rfl rfl rfl (Nat.le_of_ble_eq_true rfl) ⟨(by first | exact Nat.le_of_ble_eq_true rfl | omega | (dsimp only; omega)), (by first | exact Nat.le_of_ble_eq_true rfl | omega | (dsimp only; omega))⟩ dX3_cost_9 (fun r w' hp => ?_)
  obtain ⟨rfl, rfl⟩ := hp
  refine v_icmp_geN hc (tgt := 47) dX3_cost_12 (by decide) (by omega) (by omega) (fun h1 => ?_) (fun h1 => ?_)
  · have e : i = O.length := by omega
    refine v_iload_n hc (i := 1) rfl dX3_cost_47 rfl ?_
    exact v_iret hc hr dX3_cost_48 (by first | exact Nat.le_of_ble_eq_true rfl | omega | (dsimp only; omega)) (by first | exact Nat.le_of_ble_eq_true rfl | omega | (dsimp only; omega)) (⟨rfl, by rw [e, sumL_all]⟩)
  · have hm := hP.2.2.2.1 _ (getD_mem h1)
    have hs := sumL_take (cst fm) O i h1
    first | refine v_aload_n hc (i := 0) rfl dX3_cost_15 rfl ?_ | refine v_aload_nN hc (i := 0) rfl dX3_cost_15 rfl ?_
    refine v_get hc 1 (ci := 6) rfl (by decide +kernel) (by decide) (by decide +kernel) (fun _ h => h) dX3_cost_16 (hP.1) rfl ?_
    refine v_iload_n hc (i := 2) rfl dX3_cost_19 rfl ?_
    refine v_callVq hc (hP.gtO h1) (cwV 1 hc.1.2.2.2.2 gX3_cost_Jx4a65c_get_915e3 rfl rfl rfl (by decide +kernel) ⟨Nat.le_of_ble_eq_true rfl, Nat.le_of_ble_eq_true rfl⟩) (haO) rfl rfl rfl (Nat.le_of_ble_eq_true rfl) ⟨(by first | exact Nat.le_of_ble_eq_true rfl | omega | (dsimp only; omega)), (by first | exact Nat.le_of_ble_eq_true rfl | omega | (dsimp only; omega))⟩ dX3_cost_20 (fun r w' hp => ?_)
    obtain ⟨rfl, rfl⟩ := hp
    refine v_cast hc (ci := 4) rfl (by decide +kernel) (hP.2.1 _ hm) dX3_cost_23 ?_
    refine v_get hc 7 (ci := 4) rfl (by decide +kernel) (by decide) (by decide +kernel) (fun _ h => h) dX3_cost_26 (hP.2.1 _ hm) rfl ?_
    cases hfm : fm (O.getD i 0) with
    | none =>
      have hc0 : cst fm (O.getD i 0) = 0 := by unfold cst; rw [hfm]
      rw [hc0] at hs
      rw [(hF _ hm).1 hfm]
      first | refine v_astore_n hc (i := 3) rfl dX3_cost_29 (by decide) rfl ?_ | refine v_astore_nN hc (i := 3) rfl dX3_cost_29 (by decide) rfl ?_
      first | refine v_aload_n hc (i := 3) rfl dX3_cost_30 rfl ?_ | refine v_aload_nN hc (i := 3) rfl dX3_cost_30 rfl ?_
      refine v_ifnull_N hc (tgt := 41) dX3_cost_31 (by decide) ?_
      first | refine v_iinc1 hc dX3_cost_41 rfl (by decide) rfl ?_ | refine v_iinc hc dX3_cost_41 rfl rfl (by decide) rfl ?_
      refine v_goto hc (tgt := 4) dX3_cost_44 (by decide) ?_
      exact ih (i + 1) _ (by dsimp only [List.map]; rw [hs]; rfl) h1 (by omega)
    | some g =>
      obtain ⟨f, hfa, hfw⟩ := (hF _ hm).2 g hfm
      have hc0 : cst fm (O.getD i 0) = g.2.2.2.1 := by unfold cst; rw [hfm]
      rw [hc0] at hs
      rw [hfa]
      first | refine v_astore_n hc (i := 3) rfl dX3_cost_29 (by decide) rfl ?_ | refine v_astore_nN hc (i := 3) rfl dX3_cost_29 (by decide) rfl ?_
      first | refine v_aload_n hc (i := 3) rfl dX3_cost_30 rfl ?_ | refine v_aload_nN hc (i := 3) rfl dX3_cost_30 rfl ?_
      refine v_ifnull_R hc dX3_cost_31 ?_
      refine v_iload_n hc (i := 1) rfl dX3_cost_34 rfl ?_
      first | refine v_aload_n hc (i := 3) rfl dX3_cost_35 rfl ?_ | refine v_aload_nN hc (i := 3) rfl dX3_cost_35 rfl ?_
      refine v_get hc 3 (ci := 3) rfl (by decide +kernel) (by decide) (by decide +kernel) (fun _ h => h) dX3_cost_36 (hfw) rfl ?_
      first | refine v_iaddN hc dX3_cost_39 ?_ | refine v_iadd hc dX3_cost_39 ?_
      refine v_istore_n hc (i := 1) rfl dX3_cost_40 (by decide) rfl ?_
      first | refine v_iinc1 hc dX3_cost_41 rfl (by decide) rfl ?_ | refine v_iinc hc dX3_cost_41 rfl rfl (by decide) rfl ?_
      refine v_goto hc (tgt := 4) dX3_cost_44 (by decide) ?_
      exact ih (i + 1) _ (by dsimp only [List.map]; rw [hs]; rfl) h1 (by omega)
set_option maxRecDepth 100000 in
set_option maxHeartbeats 4000000 in
theorem c_X3_costOf (hl : l.stackTraces = false) (hP : PC G w px pI pO pX n ia nm ct lv lo fa fb O X cp ru) (hF : FW w n ia fa fm) (o : Int32) : vx_Met l yX3_costOf wsX3_costOf ({ frames := 13, cells := 2, slots := 12, locals := 227 } : Room) (Pw G A w [.ref px, .int o]) (va_Qi (fun r w' => w = w' ∧ ∃ i g, i < n ∧ o = nI i ∧ fm i = some g ∧ r = nI g.2.2.2.1) (Bw G A) A) (XW G A (fun E w' => w = w' ∧ (E = xIO ∧ isO n o = false ∨ E = xIS ∧ ∃ i, i < n ∧ o = nI i ∧ fm i = none))) 2 12 A := by
  refine m_ofX (cc := cX3_costOf) (maxL := 2) (ret := (some .int)) (by decide) rfl (Nat.le_of_ble_eq_true rfl) ?_
  intro p e s m args below meth c hc hr hout
  refine v_loc [(0, some (.ref px)), (1, some (.int o))] rfl ?_
  first | refine v_aload_n hc (i := 0) rfl dX3_costOf_0 rfl ?_ | refine v_aload_nN hc (i := 0) rfl dX3_costOf_0 rfl ?_
  refine v_iload_n hc (i := 1) rfl dX3_costOf_1 rfl ?_
  refine v_xcallVq hc (c_X3_formOf hl hP hF o) (cwV 1 hc.1.2.2.2.2 gX3_costOf_X3_formOf rfl rfl rfl (by decide +kernel) ⟨Nat.le_of_ble_eq_true rfl, Nat.le_of_ble_eq_true rfl⟩) (hP.1) rfl rfl rfl (Nat.le_of_ble_eq_true rfl) ⟨(by first | exact Nat.le_of_ble_eq_true rfl | omega | (dsimp only; omega)), (by first | exact Nat.le_of_ble_eq_true rfl | omega | (dsimp only; omega))⟩ dX3_costOf_2 (fun E w' hp => v_out hc hout (Nat.le_of_ble_eq_true rfl) (Nat.le_of_ble_eq_true rfl) hp) (fun r w' hp => ?_)
  obtain ⟨rfl, i, g, f, hi, rfl, hfm, hfa, hfw, rfl⟩ := hp
  refine v_get hc 3 (ci := 3) rfl (by decide +kernel) (by decide) (by decide +kernel) (fun _ h => h) dX3_costOf_5 (hfw) rfl ?_
  refine v_xret ?_
  exact v_iret hc hr dX3_costOf_8 (by first | exact Nat.le_of_ble_eq_true rfl | omega | (dsimp only; omega)) (by first | exact Nat.le_of_ble_eq_true rfl | omega | (dsimp only; omega)) (⟨rfl, i, g, hi, rfl, hfm, rfl⟩)
set_option maxRecDepth 100000 in
set_option maxHeartbeats 4000000 in
theorem c_X3_depth (hl : l.stackTraces = false) (hP : PC G w px pI pO pX n ia nm ct lv lo fa fb O X cp ru) (hF : FW w n ia fa fm) (o : Int32) : vx_Met l yX3_depth wsX3_depth ({ frames := 13, cells := 2, slots := 12, locals := 227 } : Room) (Pw G A w [.ref px, .int o]) (va_Qi (fun r w' => w = w' ∧ ∃ i g, i < n ∧ o = nI i ∧ fm i = some g ∧ r = nI g.2.1) (Bw G A) A) (XW G A (fun E w' => w = w' ∧ (E = xIO ∧ isO n o = false ∨ E = xIS ∧ ∃ i, i < n ∧ o = nI i ∧ fm i = none))) 2 12 A := by
  refine m_ofX (cc := cX3_depth) (maxL := 2) (ret := (some .int)) (by decide) rfl (Nat.le_of_ble_eq_true rfl) ?_
  intro p e s m args below meth c hc hr hout
  refine v_loc [(0, some (.ref px)), (1, some (.int o))] rfl ?_
  first | refine v_aload_n hc (i := 0) rfl dX3_depth_0 rfl ?_ | refine v_aload_nN hc (i := 0) rfl dX3_depth_0 rfl ?_
  refine v_iload_n hc (i := 1) rfl dX3_depth_1 rfl ?_
  refine v_xcallVq hc (c_X3_formOf hl hP hF o) (cwV 1 hc.1.2.2.2.2 gX3_depth_X3_formOf rfl rfl rfl (by decide +kernel) ⟨Nat.le_of_ble_eq_true rfl, Nat.le_of_ble_eq_true rfl⟩) (hP.1) rfl rfl rfl (Nat.le_of_ble_eq_true rfl) ⟨(by first | exact Nat.le_of_ble_eq_true rfl | omega | (dsimp only; omega)), (by first | exact Nat.le_of_ble_eq_true rfl | omega | (dsimp only; omega))⟩ dX3_depth_2 (fun E w' hp => v_out hc hout (Nat.le_of_ble_eq_true rfl) (Nat.le_of_ble_eq_true rfl) hp) (fun r w' hp => ?_)
  obtain ⟨rfl, i, g, f, hi, rfl, hfm, hfa, hfw, rfl⟩ := hp
  refine v_get hc 1 (ci := 3) rfl (by decide +kernel) (by decide) (by decide +kernel) (fun _ h => h) dX3_depth_5 (hfw) rfl ?_
  refine v_xret ?_
  exact v_iret hc hr dX3_depth_8 (by first | exact Nat.le_of_ble_eq_true rfl | omega | (dsimp only; omega)) (by first | exact Nat.le_of_ble_eq_true rfl | omega | (dsimp only; omega)) (⟨rfl, i, g, hi, rfl, hfm, rfl⟩)
set_option maxRecDepth 100000 in
set_option maxHeartbeats 4000000 in
theorem c_X3_parts (hl : l.stackTraces = false) (hP : PC G w px pI pO pX n ia nm ct lv lo fa fb O X cp ru) (hF : FW w n ia fa fm) (o : Int32) : vx_Met l yX3_parts wsX3_parts ({ frames := 13, cells := 2, slots := 12, locals := 227 } : Room) (Pw G A w [.ref px, .int o]) (va_Qi (fun r w' => w = w' ∧ ∃ i g, i < n ∧ o = nI i ∧ fm i = some g ∧ r = nI g.2.2.1) (Bw G A) A) (XW G A (fun E w' => w = w' ∧ (E = xIO ∧ isO n o = false ∨ E = xIS ∧ ∃ i, i < n ∧ o = nI i ∧ fm i = none))) 2 12 A := by
  refine m_ofX (cc := cX3_parts) (maxL := 2) (ret := (some .int)) (by decide) rfl (Nat.le_of_ble_eq_true rfl) ?_
  intro p e s m args below meth c hc hr hout
  refine v_loc [(0, some (.ref px)), (1, some (.int o))] rfl ?_
  first | refine v_aload_n hc (i := 0) rfl dX3_parts_0 rfl ?_ | refine v_aload_nN hc (i := 0) rfl dX3_parts_0 rfl ?_
  refine v_iload_n hc (i := 1) rfl dX3_parts_1 rfl ?_
  refine v_xcallVq hc (c_X3_formOf hl hP hF o) (cwV 1 hc.1.2.2.2.2 gX3_parts_X3_formOf rfl rfl rfl (by decide +kernel) ⟨Nat.le_of_ble_eq_true rfl, Nat.le_of_ble_eq_true rfl⟩) (hP.1) rfl rfl rfl (Nat.le_of_ble_eq_true rfl) ⟨(by first | exact Nat.le_of_ble_eq_true rfl | omega | (dsimp only; omega)), (by first | exact Nat.le_of_ble_eq_true rfl | omega | (dsimp only; omega))⟩ dX3_parts_2 (fun E w' hp => v_out hc hout (Nat.le_of_ble_eq_true rfl) (Nat.le_of_ble_eq_true rfl) hp) (fun r w' hp => ?_)
  obtain ⟨rfl, i, g, f, hi, rfl, hfm, hfa, hfw, rfl⟩ := hp
  refine v_get hc 2 (ci := 3) rfl (by decide +kernel) (by decide) (by decide +kernel) (fun _ h => h) dX3_parts_5 (hfw) rfl ?_
  refine v_xret ?_
  exact v_iret hc hr dX3_parts_8 (by first | exact Nat.le_of_ble_eq_true rfl | omega | (dsimp only; omega)) (by first | exact Nat.le_of_ble_eq_true rfl | omega | (dsimp only; omega)) (⟨rfl, i, g, hi, rfl, hfm, rfl⟩)
def nIo (b : Option Nat) : Int32 := match b with
  | none => -1
  | some b => nI b
set_option maxRecDepth 100000 in
set_option maxHeartbeats 4000000 in
theorem c_X3_base (hl : l.stackTraces = false) (hP : PC G w px pI pO pX n ia nm ct lv lo fa fb O X cp ru) (hF : FW w n ia fa fm) (hC : CH n fm) (o : Int32) : vx_Met l yX3_base wsX3_base ({ frames := 13, cells := 2, slots := 12, locals := 227 } : Room) (Pw G A w [.ref px, .int o]) (va_Qi (fun r w' => w = w' ∧ ∃ i g, i < n ∧ o = nI i ∧ fm i = some g ∧ r = nIo g.1) (Bw G A) A) (XW G A (fun E w' => w = w' ∧ (E = xIO ∧ isO n o = false ∨ E = xIS ∧ ∃ i, i < n ∧ o = nI i ∧ fm i = none))) 2 12 A := by
  refine m_ofX (cc := cX3_base) (maxL := 3) (ret := (some .int)) (by decide) rfl (Nat.le_of_ble_eq_true rfl) ?_
  intro p e s m args below meth c hc hr hout
  refine v_loc [(0, some (.ref px)), (1, some (.int o))] rfl ?_
  first | refine v_aload_n hc (i := 0) rfl dX3_base_0 rfl ?_ | refine v_aload_nN hc (i := 0) rfl dX3_base_0 rfl ?_
  refine v_iload_n hc (i := 1) rfl dX3_base_1 rfl ?_
  refine v_xcallVq hc (c_X3_formOf hl hP hF o) (cwV 1 hc.1.2.2.2.2 gX3_base_X3_formOf rfl rfl rfl (by decide +kernel) ⟨Nat.le_of_ble_eq_true rfl, Nat.le_of_ble_eq_true rfl⟩) (hP.1) rfl rfl rfl (Nat.le_of_ble_eq_true rfl) ⟨(by first | exact Nat.le_of_ble_eq_true rfl | omega | (dsimp only; omega)), (by first | exact Nat.le_of_ble_eq_true rfl | omega | (dsimp only; omega))⟩ dX3_base_2 (fun E w' hp => v_out hc hout (Nat.le_of_ble_eq_true rfl) (Nat.le_of_ble_eq_true rfl) hp) (fun r w' hp => ?_)
  obtain ⟨rfl, i, g, f, hi, rfl, hfm, hfa, hfw, rfl⟩ := hp
  refine v_get hc 0 (ci := 3) rfl (by decide +kernel) (by decide) (by decide +kernel) (fun _ h => h) dX3_base_5 (hfw) rfl ?_
  cases hb : g.1 with
  | none =>
    first | refine v_astore_n hc (i := 2) rfl dX3_base_8 (by decide) rfl ?_ | refine v_astore_nN hc (i := 2) rfl dX3_base_8 (by decide) rfl ?_
    first | refine v_aload_n hc (i := 2) rfl dX3_base_9 rfl ?_ | refine v_aload_nN hc (i := 2) rfl dX3_base_9 rfl ?_
    refine v_ifnonnull_N hc dX3_base_10 ?_
    refine v_iconst hc (v := (-1)) dX3_base_13 (by decide) ?_
    refine v_goto hc (tgt := 21) dX3_base_14 (by decide) ?_
    refine v_xret ?_
    exact v_iret hc hr dX3_base_21 (by first | exact Nat.le_of_ble_eq_true rfl | omega | (dsimp only; omega)) (by first | exact Nat.le_of_ble_eq_true rfl | omega | (dsimp only; omega)) (⟨rfl, i, g, hi, rfl, hfm, by rw [hb]; rfl⟩)
  | some b =>
    obtain ⟨hbn, -⟩ := (hC i hi g hfm).2 b hb
    first | refine v_astore_n hc (i := 2) rfl dX3_base_8 (by decide) rfl ?_ | refine v_astore_nN hc (i := 2) rfl dX3_base_8 (by decide) rfl ?_
    first | refine v_aload_n hc (i := 2) rfl dX3_base_9 rfl ?_ | refine v_aload_nN hc (i := 2) rfl dX3_base_9 rfl ?_
    refine v_ifnonnull_R hc (tgt := 17) dX3_base_10 (by decide) ?_
    first | refine v_aload_n hc (i := 2) rfl dX3_base_17 rfl ?_ | refine v_aload_nN hc (i := 2) rfl dX3_base_17 rfl ?_
    refine v_get hc 0 (ci := 4) rfl (by decide +kernel) (by decide) (by decide +kernel) (fun _ h => h) dX3_base_18 (hP.2.1 b hbn) rfl ?_
    refine v_xret ?_
    exact v_iret hc hr dX3_base_21 (by first | exact Nat.le_of_ble_eq_true rfl | omega | (dsimp only; omega)) (by first | exact Nat.le_of_ble_eq_true rfl | omega | (dsimp only; omega)) (⟨rfl, i, g, hi, rfl, hfm, by rw [hb]; rfl⟩)
set_option maxRecDepth 100000 in
set_option maxHeartbeats 4000000 in
theorem c_X3_dependents (hl : l.stackTraces = false) (hP : PC G w px pI pO pX n ia nm ct lv lo fa fb O X cp ru) (hF : FW w n ia fa fm) (hC : CH n fm) (o : Int32) : vx_Met l yX3_dependents wsX3_dependents ({ frames := 12, cells := 2, slots := 12, locals := 205 } : Room) (Pw G A w [.ref px, .int o]) (va_Qi (fun r w' => w = w' ∧ ∃ i g, i < n ∧ o = nI i ∧ fm i = some g ∧ r = nI (sumL (fun j => b1 (dpk fm j i)) O)) (Bw G A) A) (XW G A (fun E w' => w = w' ∧ (E = xIO ∧ isO n o = false ∨ E = xIS ∧ ∃ i, i < n ∧ o = nI i ∧ fm i = none))) 2 12 A := by
  refine m_ofX (cc := cX3_dependents) (maxL := 5) (ret := (some .int)) (by decide) rfl (Nat.le_of_ble_eq_true rfl) ?_
  intro p e s m args below meth c hc hr hout
  refine v_loc [(0, some (.ref px)), (1, some (.int o))] rfl ?_
  obtain ⟨vs, haO⟩ := hP.alO
  have hn := hP.o40
  have hn40 := hP.n40
  first | refine v_aload_n hc (i := 0) rfl dX3_dependents_0 rfl ?_ | refine v_aload_nN hc (i := 0) rfl dX3_dependents_0 rfl ?_
  refine v_iload_n hc (i := 1) rfl dX3_dependents_1 rfl ?_
  refine v_xcallVq hc (c_X3_itemOf hl hP o) (cwV 1 hc.1.2.2.2.2 gX3_dependents_X3_itemOf rfl rfl rfl (by decide +kernel) ⟨Nat.le_of_ble_eq_true rfl, Nat.le_of_ble_eq_true rfl⟩) (hP.1) rfl rfl rfl (Nat.le_of_ble_eq_true rfl) ⟨(by first | exact Nat.le_of_ble_eq_true rfl | omega | (dsimp only; omega)), (by first | exact Nat.le_of_ble_eq_true rfl | omega | (dsimp only; omega))⟩ dX3_dependents_2 (fun E w' hp => v_out hc hout (Nat.le_of_ble_eq_true rfl) (Nat.le_of_ble_eq_true rfl) ⟨hp.1, Or.inl hp.2⟩) (fun r w' hp => ?_)
  obtain ⟨rfl, t, ht, rfl, rfl⟩ := hp
  first | refine v_astore_n hc (i := 2) rfl dX3_dependents_5 (by decide) rfl ?_ | refine v_astore_nN hc (i := 2) rfl dX3_dependents_5 (by decide) rfl ?_
  first | refine v_aload_n hc (i := 2) rfl dX3_dependents_6 rfl ?_ | refine v_aload_nN hc (i := 2) rfl dX3_dependents_6 rfl ?_
  refine v_get hc 7 (ci := 4) rfl (by decide +kernel) (by decide) (by decide +kernel) (fun _ h => h) dX3_dependents_7 (hP.2.1 t ht) rfl ?_
  cases hfm : fm t with
  | none =>
    rw [(hF t ht).1 hfm]
    refine v_ifnonnull_N hc dX3_dependents_10 ?_
    exact v_throw hc hl hout (cls := "java/lang/IllegalStateException") (text := "the object has no form") (by decide +kernel) (by decide +kernel) (by decide +kernel) (by decide +kernel) (by decide +kernel) (by decide +kernel) (by decide +kernel) dX3_dependents_13 dX3_dependents_16 dX3_dependents_17 dX3_dependents_19 dX3_dependents_22 (Nat.le_of_ble_eq_true rfl) (Nat.le_of_ble_eq_true rfl) (by first | exact Nat.le_of_ble_eq_true rfl | omega | (dsimp only; omega)) (by first | exact Nat.le_of_ble_eq_true rfl | omega | (dsimp only; omega)) (by first | exact Nat.le_of_ble_eq_true rfl | omega | (dsimp only; omega)) (by first | exact Nat.le_of_ble_eq_true rfl | omega | (dsimp only; omega)) (⟨rfl, Or.inr ⟨rfl, t, ht, rfl, hfm⟩⟩)
  | some g =>
    obtain ⟨f, hfa, hfw⟩ := (hF t ht).2 g hfm
    rw [hfa]
    refine v_ifnonnull_R hc (tgt := 23) dX3_dependents_10 (by decide) ?_
    refine v_iconst hc (v := nI 0) dX3_dependents_23 (by decide) ?_
    refine v_istore_n hc (i := 3) rfl dX3_dependents_24 (by decide) rfl ?_
    refine v_iconst hc (v := nI 0) dX3_dependents_25 (by decide) ?_
    refine v_istore hc dX3_dependents_26 (by decide) rfl ?_
    refine v_loop (σ := Nat) (fun i => i ≤ O.length) (fun i => O.length - i) (fun _ => w) (fun _ => 1) (fun _ => 6) (fun i => [(0, some (.ref px)), (2, some (.ref (ia t))), (3, some (.int (nI (sumL (fun j => b1 (dpk fm j t)) (O.take i))))), (4, some (.int (nI i)))]) 0 rfl (Nat.zero_le _) ?_
    intro i hi ih
    refine v_iload hc dX3_dependents_28 rfl ?_
    first | refine v_aload_n hc (i := 0) rfl dX3_dependents_30 rfl ?_ | refine v_aload_nN hc (i := 0) rfl dX3_dependents_30 rfl ?_
    refine v_get hc 1 (ci := 6) rfl (by decide +kernel) (by decide) (by decide +kernel) (fun _ h => h) dX3_dependents_31 (hP.1) rfl ?_
    refine v_callVi hc (hP.szO) (cwV 0 hc.1.2.2.2.2 gX3_dependents_Jx4a65c_size_8abf5 rfl rfl rfl (by decide +kernel) ⟨Nat.le_of_ble_eq_true rfl, Nat.le_of_ble_eq_true rfl⟩) (haO) rfl rfl rfl (Nat.le_of_ble_eq_true rfl) ⟨(by first | exact Nat.le_of_ble_eq_true rfl | omega | (dsimp only; omega)), (by first | exact Nat.le_of_ble_eq_true rfl | omega | (dsimp only; omega))⟩ dX3_dependents_34 (fun r w' hp => ?_)
    obtain ⟨rfl, rfl⟩ := hp
    refine v_icmp_geN hc (tgt := 68) dX3_dependents_37 (by decide) (by omega) (by omega) (fun h1 => ?_) (fun h1 => ?_)
    · have e : i = O.length := by omega
      refine v_iload_n hc (i := 3) rfl dX3_dependents_68 rfl ?_
      refine v_xret ?_
      exact v_iret hc hr dX3_dependents_69 (by first | exact Nat.le_of_ble_eq_true rfl | omega | (dsimp only; omega)) (by first | exact Nat.le_of_ble_eq_true rfl | omega | (dsimp only; omega)) (⟨rfl, t, g, ht, rfl, hfm, by rw [e, sumL_all]⟩)
    · have hm := hP.2.2.2.1 _ (getD_mem h1)
      have hs := sumL_take (fun j => b1 (dpk fm j t)) O i h1
      first | refine v_aload_n hc (i := 0) rfl dX3_dependents_40 rfl ?_ | refine v_aload_nN hc (i := 0) rfl dX3_dependents_40 rfl ?_
      refine v_get hc 1 (ci := 6) rfl (by decide +kernel) (by decide) (by decide +kernel) (fun _ h => h) dX3_dependents_41 (hP.1) rfl ?_
      refine v_iload hc dX3_dependents_44 rfl ?_
      refine v_callVq hc (hP.gtO h1) (cwV 1 hc.1.2.2.2.2 gX3_dependents_Jx4a65c_get_915e3 rfl rfl rfl (by decide +kernel) ⟨Nat.le_of_ble_eq_true rfl, Nat.le_of_ble_eq_true rfl⟩) (haO) rfl rfl rfl (Nat.le_of_ble_eq_true rfl) ⟨(by first | exact Nat.le_of_ble_eq_true rfl | omega | (dsimp only; omega)), (by first | exact Nat.le_of_ble_eq_true rfl | omega | (dsimp only; omega))⟩ dX3_dependents_46 (fun r w' hp => ?_)
      obtain ⟨rfl, rfl⟩ := hp
      refine v_cast hc (ci := 4) rfl (by decide +kernel) (hP.2.1 _ hm) dX3_dependents_49 ?_
      first | refine v_aload_n hc (i := 2) rfl dX3_dependents_52 rfl ?_ | refine v_aload_nN hc (i := 2) rfl dX3_dependents_52 rfl ?_
      refine v_callVi hc (c_X1_dependsOn hP.2.1 hF hC hn40 hm ht) (cwV 1 hc.1.2.2.2.2 gX3_dependents_X1_dependsOn rfl rfl rfl (by decide +kernel) ⟨Nat.le_of_ble_eq_true rfl, Nat.le_of_ble_eq_true rfl⟩) (hP.2.1 _ hm) rfl rfl rfl (Nat.le_of_ble_eq_true rfl) ⟨(by first | exact Nat.le_of_ble_eq_true rfl | omega | (dsimp only; omega)), (by first | exact Nat.le_of_ble_eq_true rfl | omega | (dsimp only; omega))⟩ dX3_dependents_53 (fun r w' hp => ?_)
      obtain ⟨rfl, rfl⟩ := hp
      refine v_ifB_eq hc (tgt := 62) dX3_dependents_56 (by decide) (fun h2 => ?_) (fun h2 => ?_)
      · first | refine v_iinc1 hc dX3_dependents_62 rfl (by decide) rfl ?_ | refine v_iinc hc dX3_dependents_62 rfl rfl (by decide) rfl ?_
        refine v_goto hc (tgt := 28) dX3_dependents_65 (by decide) ?_
        exact ih (i + 1) _ (by dsimp only [List.map]; rw [hs, h2]; rfl) h1 (by omega)
      · first | refine v_iinc1 hc dX3_dependents_59 rfl (by decide) rfl ?_ | refine v_iinc hc dX3_dependents_59 rfl rfl (by decide) rfl ?_
        first | refine v_iinc1 hc dX3_dependents_62 rfl (by decide) rfl ?_ | refine v_iinc hc dX3_dependents_62 rfl rfl (by decide) rfl ?_
        refine v_goto hc (tgt := 28) dX3_dependents_65 (by decide) ?_
        exact ih (i + 1) _ (by dsimp only [List.map]; rw [hs, h2]; rfl) h1 (by omega)
set_option maxRecDepth 100000 in
set_option maxHeartbeats 4000000 in
theorem c_X3_deltaCost (hl : l.stackTraces = false) (hP : PC G w px pI pO pX n ia nm ct lv lo fa fb O X cp ru) (hct : ∀ i, i < n → isC (ct i) = true) (o q : Int32) : vx_Met l yX3_deltaCost wsX3_deltaCost ({ frames := 14, cells := 2, slots := 12, locals := 259 } : Room) (Pw G A w [.ref px, .int o, .int q]) (va_Qi (fun r w' => w = w' ∧ ∃ i j, i < n ∧ j < n ∧ o = nI i ∧ q = nI j ∧ r = nI (dco (xN (ct i)) (xN (ct j)))) (Bw G A) A) (XW G A (fun E w' => w = w' ∧ E = xIO ∧ (isO n o && isO n q) = false)) 2 12 A := by
  refine m_ofX (cc := cX3_deltaCost) (maxL := 3) (ret := (some .int)) (by decide) rfl (Nat.le_of_ble_eq_true rfl) ?_
  intro p e s m args below meth c hc hr hout
  refine v_loc [(0, some (.ref px)), (1, some (.int o)), (2, some (.int q))] rfl ?_
  first | refine v_aload_n hc (i := 0) rfl dX3_deltaCost_0 rfl ?_ | refine v_aload_nN hc (i := 0) rfl dX3_deltaCost_0 rfl ?_
  refine v_iload_n hc (i := 1) rfl dX3_deltaCost_1 rfl ?_
  refine v_xcallVq hc (c_X3_itemOf hl hP o) (cwV 1 hc.1.2.2.2.2 gX3_deltaCost_X3_itemOf rfl rfl rfl (by decide +kernel) ⟨Nat.le_of_ble_eq_true rfl, Nat.le_of_ble_eq_true rfl⟩) (hP.1) rfl rfl rfl (Nat.le_of_ble_eq_true rfl) ⟨(by first | exact Nat.le_of_ble_eq_true rfl | omega | (dsimp only; omega)), (by first | exact Nat.le_of_ble_eq_true rfl | omega | (dsimp only; omega))⟩ dX3_deltaCost_2 (fun E w' hp => v_out hc hout (Nat.le_of_ble_eq_true rfl) (Nat.le_of_ble_eq_true rfl) ⟨hp.1, hp.2.1, by rw [hp.2.2]; rfl⟩) (fun r w' hp => ?_)
  obtain ⟨rfl, i, hi, rfl, rfl⟩ := hp
  first | refine v_aload_n hc (i := 0) rfl dX3_deltaCost_5 rfl ?_ | refine v_aload_nN hc (i := 0) rfl dX3_deltaCost_5 rfl ?_
  refine v_iload_n hc (i := 2) rfl dX3_deltaCost_6 rfl ?_
  refine v_xcallVq hc (c_X3_itemOf hl hP q) (cwV 1 hc.1.2.2.2.2 gX3_deltaCost_X3_itemOf rfl rfl rfl (by decide +kernel) ⟨Nat.le_of_ble_eq_true rfl, Nat.le_of_ble_eq_true rfl⟩) (hP.1) rfl rfl rfl (Nat.le_of_ble_eq_true rfl) ⟨(by first | exact Nat.le_of_ble_eq_true rfl | omega | (dsimp only; omega)), (by first | exact Nat.le_of_ble_eq_true rfl | omega | (dsimp only; omega))⟩ dX3_deltaCost_7 (fun E w' hp => v_out hc hout (Nat.le_of_ble_eq_true rfl) (Nat.le_of_ble_eq_true rfl) ⟨hp.1, hp.2.1, by rw [hp.2.2, Bool.and_false]⟩) (fun r w' hp => ?_)
  obtain ⟨rfl, j, hj, rfl, rfl⟩ := hp
  refine v_callSi hc (c_X3_costAgainst (hP.2.1 i hi) (hP.2.1 j hj) (hct i hi) (hct j hj)) (va_cwS 2 hc.1.2.2.2.2 gX3_deltaCost_X3_costAgainst rfl rfl rfl (by decide +kernel) ⟨Nat.le_of_ble_eq_true rfl, Nat.le_of_ble_eq_true rfl⟩) rfl rfl (Nat.le_of_ble_eq_true rfl) ⟨(by first | exact Nat.le_of_ble_eq_true rfl | omega | (dsimp only; omega)), (by first | exact Nat.le_of_ble_eq_true rfl | omega | (dsimp only; omega))⟩ dX3_deltaCost_10 (fun r w' hp => ?_)
  obtain ⟨rfl, rfl⟩ := hp
  refine v_xret ?_
  exact v_iret hc hr dX3_deltaCost_13 (by first | exact Nat.le_of_ble_eq_true rfl | omega | (dsimp only; omega)) (by first | exact Nat.le_of_ble_eq_true rfl | omega | (dsimp only; omega)) (⟨rfl, i, j, hi, hj, rfl, rfl, rfl⟩)
set_option maxRecDepth 100000 in
set_option maxHeartbeats 4000000 in
theorem c_X3_hash (hl : l.stackTraces = false) (hP : PC G w px pI pO pX n ia nm ct lv lo fa fb O X cp ru) (x : Int64) : vx_Met l yX3_hash wsX3_hash ({ frames := 10, cells := 1, slots := 6, locals := 168 } : Room) (Pw G A w [.ref px, .long x]) (va_Qi (fun r w' => w = w' ∧ isC x = true ∧ r = nI (hsh (xN x))) (Bw G A) A) (XW G A (fun E w' => w = w' ∧ E = xIA ∧ isC x = false)) 1 6 A := by
  refine m_ofX (cc := cX3_hash) (maxL := 3) (ret := (some .int)) (by decide) rfl (Nat.le_of_ble_eq_true rfl) ?_
  intro p e s m args below meth c hc hr hout
  refine v_loc [(0, some (.ref px)), (1, some (.long x))] rfl ?_
  refine v_lload_n hc (i := 1) rfl dX3_hash_0 rfl ?_
  refine v_callSi hc (c_X3_isContent x) (va_cwS 1 hc.1.2.2.2.2 gX3_hash_X3_isContent rfl rfl rfl (by decide +kernel) ⟨Nat.le_of_ble_eq_true rfl, Nat.le_of_ble_eq_true rfl⟩) rfl rfl (Nat.le_of_ble_eq_true rfl) ⟨(by first | exact Nat.le_of_ble_eq_true rfl | omega | (dsimp only; omega)), (by first | exact Nat.le_of_ble_eq_true rfl | omega | (dsimp only; omega))⟩ dX3_hash_1 (fun r w' hp => ?_)
  obtain ⟨rfl, rfl⟩ := hp
  refine v_ifB_ne hc (tgt := 17) dX3_hash_4 (by decide) (fun h1 => ?_) (fun h1 => ?_)
  · refine v_lload_n hc (i := 1) rfl dX3_hash_17 rfl ?_
    refine v_callSi hc (c_X3_hashOf x h1) (va_cwS 1 hc.1.2.2.2.2 gX3_hash_X3_hashOf rfl rfl rfl (by decide +kernel) ⟨Nat.le_of_ble_eq_true rfl, Nat.le_of_ble_eq_true rfl⟩) rfl rfl (Nat.le_of_ble_eq_true rfl) ⟨(by first | exact Nat.le_of_ble_eq_true rfl | omega | (dsimp only; omega)), (by first | exact Nat.le_of_ble_eq_true rfl | omega | (dsimp only; omega))⟩ dX3_hash_18 (fun r w' hp => ?_)
    obtain ⟨rfl, rfl⟩ := hp
    refine v_xret ?_
    exact v_iret hc hr dX3_hash_21 (by first | exact Nat.le_of_ble_eq_true rfl | omega | (dsimp only; omega)) (by first | exact Nat.le_of_ble_eq_true rfl | omega | (dsimp only; omega)) (⟨rfl, h1, rfl⟩)
  · exact v_throw hc hl hout (cls := "java/lang/IllegalArgumentException") (text := "no content") (by decide +kernel) (by decide +kernel) (by decide +kernel) (by decide +kernel) (by decide +kernel) (by decide +kernel) (by decide +kernel) dX3_hash_7 dX3_hash_10 dX3_hash_11 dX3_hash_13 dX3_hash_16 (Nat.le_of_ble_eq_true rfl) (Nat.le_of_ble_eq_true rfl) (by first | exact Nat.le_of_ble_eq_true rfl | omega | (dsimp only; omega)) (by first | exact Nat.le_of_ble_eq_true rfl | omega | (dsimp only; omega)) (by first | exact Nat.le_of_ble_eq_true rfl | omega | (dsimp only; omega)) (by first | exact Nat.le_of_ble_eq_true rfl | omega | (dsimp only; omega)) (⟨rfl, rfl, h1⟩)
set_option maxRecDepth 100000 in
set_option maxHeartbeats 4000000 in
theorem c_X3_indexAt (hl : l.stackTraces = false) (hP : PC G w px pI pO pX n ia nm ct lv lo fa fb O X cp ru) (o : Int32) : vx_Met l yX3_indexAt wsX3_indexAt ({ frames := 11, cells := 1, slots := 6, locals := 184 } : Room) (Pw G A w [.ref px, .int o]) (va_Qi (fun r w' => w = w' ∧ ∃ i, i < X.length ∧ o = nI i ∧ r = nI (X.getD i 0)) (Bw G A) A) (XW G A (fun E w' => w = w' ∧ E = xIO ∧ isO X.length o = false)) 1 6 A := by
  refine m_ofX (cc := cX3_indexAt) (maxL := 2) (ret := (some .int)) (by decide) rfl (Nat.le_of_ble_eq_true rfl) ?_
  intro p e s m args below meth c hc hr hout
  refine v_loc [(0, some (.ref px)), (1, some (.int o))] rfl ?_
  obtain ⟨vs, haX⟩ := hP.alX
  have hn := hP.x40
  have thr : isO X.length o = false → V p l e ({ frames := 11, cells := 1, slots := 6, locals := 184 } : Room) s m args below meth c 2 G A (vx_MQ below (va_Qi (fun r w' => w = w' ∧ ∃ i, i < X.length ∧ o = nI i ∧ r = nI (X.getD i 0)) (Bw G A) A) (XW G A (fun E w' => w = w' ∧ E = xIO ∧ isO X.length o = false)) args s 1 6 A) w 0 0 15 [(0, some (.ref px)), (1, some (.int o))] [] := by
    intro h0
    exact v_throw hc hl hout (cls := "java/lang/IndexOutOfBoundsException") (text := "no such place") (by decide +kernel) (by decide +kernel) (by decide +kernel) (by decide +kernel) (by decide +kernel) (by decide +kernel) (by decide +kernel) dX3_indexAt_15 dX3_indexAt_18 dX3_indexAt_19 dX3_indexAt_21 dX3_indexAt_24 (Nat.le_of_ble_eq_true rfl) (Nat.le_of_ble_eq_true rfl) (by first | exact Nat.le_of_ble_eq_true rfl | omega | (dsimp only; omega)) (by first | exact Nat.le_of_ble_eq_true rfl | omega | (dsimp only; omega)) (by first | exact Nat.le_of_ble_eq_true rfl | omega | (dsimp only; omega)) (by first | exact Nat.le_of_ble_eq_true rfl | omega | (dsimp only; omega)) (⟨rfl, rfl, h0⟩)
  refine v_iload_n hc (i := 1) rfl dX3_indexAt_0 rfl ?_
  refine v_if_lt hc (tgt := 15) dX3_indexAt_1 (by decide) (fun hb => ?_) (fun hb => ?_)
  · refine thr (isO_ne (fun ⟨i, hi, e⟩ => ?_) hn)
    subst e
    exact nI_pos (by omega) hb
  · obtain ⟨j, hj, rfl⟩ := nI_of hb
    refine v_iload_n hc (i := 1) rfl dX3_indexAt_4 rfl ?_
    first | refine v_aload_n hc (i := 0) rfl dX3_indexAt_5 rfl ?_ | refine v_aload_nN hc (i := 0) rfl dX3_indexAt_5 rfl ?_
    refine v_get hc 2 (ci := 6) rfl (by decide +kernel) (by decide) (by decide +kernel) (fun _ h => h) dX3_indexAt_6 (hP.1) rfl ?_
    refine v_callVi hc (hP.szX) (cwV 0 hc.1.2.2.2.2 gX3_indexAt_Jx4a65c_size_8abf5 rfl rfl rfl (by decide +kernel) ⟨Nat.le_of_ble_eq_true rfl, Nat.le_of_ble_eq_true rfl⟩) (haX) rfl rfl rfl (Nat.le_of_ble_eq_true rfl) ⟨(by first | exact Nat.le_of_ble_eq_true rfl | omega | (dsimp only; omega)), (by first | exact Nat.le_of_ble_eq_true rfl | omega | (dsimp only; omega))⟩ dX3_indexAt_9 (fun r w' hp => ?_)
    obtain ⟨rfl, rfl⟩ := hp
    refine v_icmp_ltN hc (tgt := 25) dX3_indexAt_12 (by decide) (by omega) (by omega) (fun h2 => ?_) (fun h2 => ?_)
    · have hm := hP.2.2.2.2 _ (getD_mem h2)
      first | refine v_aload_n hc (i := 0) rfl dX3_indexAt_25 rfl ?_ | refine v_aload_nN hc (i := 0) rfl dX3_indexAt_25 rfl ?_
      refine v_get hc 2 (ci := 6) rfl (by decide +kernel) (by decide) (by decide +kernel) (fun _ h => h) dX3_indexAt_26 (hP.1) rfl ?_
      refine v_iload_n hc (i := 1) rfl dX3_indexAt_29 rfl ?_
      refine v_callVq hc (hP.gtX h2) (cwV 1 hc.1.2.2.2.2 gX3_indexAt_Jx4a65c_get_915e3 rfl rfl rfl (by decide +kernel) ⟨Nat.le_of_ble_eq_true rfl, Nat.le_of_ble_eq_true rfl⟩) (haX) rfl rfl rfl (Nat.le_of_ble_eq_true rfl) ⟨(by first | exact Nat.le_of_ble_eq_true rfl | omega | (dsimp only; omega)), (by first | exact Nat.le_of_ble_eq_true rfl | omega | (dsimp only; omega))⟩ dX3_indexAt_30 (fun r w' hp => ?_)
      obtain ⟨rfl, rfl⟩ := hp
      refine v_cast hc (ci := 4) rfl (by decide +kernel) (hP.2.1 _ hm) dX3_indexAt_33 ?_
      refine v_get hc 0 (ci := 4) rfl (by decide +kernel) (by decide) (by decide +kernel) (fun _ h => h) dX3_indexAt_36 (hP.2.1 _ hm) rfl ?_
      refine v_xret ?_
      exact v_iret hc hr dX3_indexAt_39 (by first | exact Nat.le_of_ble_eq_true rfl | omega | (dsimp only; omega)) (by first | exact Nat.le_of_ble_eq_true rfl | omega | (dsimp only; omega)) (⟨rfl, j, h2, rfl, rfl⟩)
    · refine thr (isO_ne (fun ⟨i, hi, e⟩ => ?_) hn)
      have := (nI_eq (by omega) (by omega)).mp e
      omega
/-- the hash of object i -/
def hso (ct : Nat → Int64) (i : Nat) : Nat := hsh (xN (ct i))
set_option maxRecDepth 100000 in
set_option maxHeartbeats 4000000 in
theorem c_X3_countHashesBelow (hP : PC G w px pI pO pX n ia nm ct lv lo fa fb O X cp ru) {h : Nat} (hh : h < 2 ^ 31) : Met l yX3_countHashesBelow wsX3_countHashesBelow ({ frames := 11, cells := 0, slots := 0, locals := 184 } : Room) (Pw G A w [.ref px, .int (nI h)]) (va_Qi (fun r w' => w = w' ∧ r = nI (sumL (fun i => b1 (decide (hso ct i < h))) X)) (Bw G A) A) 0 0 A := by
  refine m_of (cc := cX3_countHashesBelow) (maxL := 4) (ret := (some .int)) (by decide) rfl (Nat.le_of_ble_eq_true rfl) ?_
  intro p e s m args below meth c hc hr hmn
  refine v_loc [(0, some (.ref px)), (1, some (.int (nI h)))] rfl ?_
  obtain ⟨vs, haX⟩ := hP.alX
  have hn := hP.x40
  refine v_iconst hc (v := nI 0) dX3_countHashesBelow_0 (by decide) ?_
  refine v_istore_n hc (i := 2) rfl dX3_countHashesBelow_1 (by decide) rfl ?_
  refine v_iconst hc (v := nI 0) dX3_countHashesBelow_2 (by decide) ?_
  refine v_istore_n hc (i := 3) rfl dX3_countHashesBelow_3 (by decide) rfl ?_
  refine v_loop (σ := Nat) (fun i => i ≤ X.length) (fun i => X.length - i) (fun _ => w) (fun _ => 0) (fun _ => 0) (fun i => [(0, some (.ref px)), (1, some (.int (nI h))), (2, some (.int (nI (sumL (fun i => b1 (decide (hso ct i < h))) (X.take i))))), (3, some (.int (nI i)))]) 0 rfl (Nat.zero_le _) ?_
  intro i hi ih
  refine v_iload_n hc (i := 3) rfl dX3_countHashesBelow_4 rfl ?_
  first | refine v_aload_n hc (i := 0) rfl dX3_countHashesBelow_5 rfl ?_ | refine v_aload_nN hc (i := 0) rfl dX3_countHashesBelow_5 rfl ?_
  refine v_get hc 2 (ci := 6) rfl (by decide +kernel) (by decide) (by decide +kernel) (fun _ h => h) dX3_countHashesBelow_6 (hP.1) rfl ?_
  refine v_callVi hc (hP.szX) (cwV 0 hc.1.2.2.2.2 gX3_countHashesBelow_Jx4a65c_size_8abf5 rfl rfl rfl (by decide +kernel) ⟨Nat.le_of_ble_eq_true rfl, Nat.le_of_ble_eq_true rfl⟩) (haX) rfl rfl rfl (Nat.le_of_ble_eq_true rfl) ⟨(by first | exact Nat.le_of_ble_eq_true rfl | omega | (dsimp only; omega)), (by first | exact Nat.le_of_ble_eq_true rfl | omega | (dsimp only; omega))⟩ dX3_countHashesBelow_9 (fun r w' hp => ?_)
  obtain ⟨rfl, rfl⟩ := hp
  refine v_icmp_geN hc (tgt := 42) dX3_countHashesBelow_12 (by decide) (by omega) (by omega) (fun h1 => ?_) (fun h1 => ?_)
  · have e : i = X.length := by omega
    refine v_iload_n hc (i := 2) rfl dX3_countHashesBelow_42 rfl ?_
    exact v_iret hc hr dX3_countHashesBelow_43 (by first | exact Nat.le_of_ble_eq_true rfl | omega | (dsimp only; omega)) (by first | exact Nat.le_of_ble_eq_true rfl | omega | (dsimp only; omega)) (⟨rfl, by rw [e, sumL_all]⟩)
  · have hm := hP.2.2.2.2 _ (getD_mem h1)
    have hs := sumL_take (fun i => b1 (decide (hso ct i < h))) X i h1
    have hh2 : hsh (xN (ct (X.getD i 0))) < 2 ^ 31 := Nat.lt_trans (hsh_lt _) (by decide)
    first | refine v_aload_n hc (i := 0) rfl dX3_countHashesBelow_15 rfl ?_ | refine v_aload_nN hc (i := 0) rfl dX3_countHashesBelow_15 rfl ?_
    refine v_get hc 2 (ci := 6) rfl (by decide +kernel) (by decide) (by decide +kernel) (fun _ h => h) dX3_countHashesBelow_16 (hP.1) rfl ?_
    refine v_iload_n hc (i := 3) rfl dX3_countHashesBelow_19 rfl ?_
    refine v_callVq hc (hP.gtX h1) (cwV 1 hc.1.2.2.2.2 gX3_countHashesBelow_Jx4a65c_get_915e3 rfl rfl rfl (by decide +kernel) ⟨Nat.le_of_ble_eq_true rfl, Nat.le_of_ble_eq_true rfl⟩) (haX) rfl rfl rfl (Nat.le_of_ble_eq_true rfl) ⟨(by first | exact Nat.le_of_ble_eq_true rfl | omega | (dsimp only; omega)), (by first | exact Nat.le_of_ble_eq_true rfl | omega | (dsimp only; omega))⟩ dX3_countHashesBelow_20 (fun r w' hp => ?_)
    obtain ⟨rfl, rfl⟩ := hp
    refine v_cast hc (ci := 4) rfl (by decide +kernel) (hP.2.1 _ hm) dX3_countHashesBelow_23 ?_
    refine v_get hc 4 (ci := 4) rfl (by decide +kernel) (by decide) (by decide +kernel) (fun _ h => h) dX3_countHashesBelow_26 (hP.2.1 _ hm) rfl ?_
    refine v_iload_n hc (i := 1) rfl dX3_countHashesBelow_29 rfl ?_
    refine v_icmp_geN hc (tgt := 36) dX3_countHashesBelow_30 (by decide) hh2 hh (fun h2 => ?_) (fun h2 => ?_)
    · have hd : decide (hso ct (X.getD i 0) < h) = false := decide_eq_false (by unfold hso; omega)
      first | refine v_iinc1 hc dX3_countHashesBelow_36 rfl (by decide) rfl ?_ | refine v_iinc hc dX3_countHashesBelow_36 rfl rfl (by decide) rfl ?_
      refine v_goto hc (tgt := 4) dX3_countHashesBelow_39 (by decide) ?_
      exact ih (i + 1) _ (by dsimp only [List.map]; rw [hs, hd]; rfl) h1 (by omega)
    · have hd : decide (hso ct (X.getD i 0) < h) = true := decide_eq_true h2
      first | refine v_iinc1 hc dX3_countHashesBelow_33 rfl (by decide) rfl ?_ | refine v_iinc hc dX3_countHashesBelow_33 rfl rfl (by decide) rfl ?_
      first | refine v_iinc1 hc dX3_countHashesBelow_36 rfl (by decide) rfl ?_ | refine v_iinc hc dX3_countHashesBelow_36 rfl rfl (by decide) rfl ?_
      refine v_goto hc (tgt := 4) dX3_countHashesBelow_39 (by decide) ?_
      exact ih (i + 1) _ (by dsimp only [List.map]; rw [hs, hd]; rfl) h1 (by omega)
/-- how many of a list have a hash below h -/
def blw (ct : Nat → Int64) (X : List Nat) (h : Nat) : Nat := sumL (fun i => b1 (decide (hso ct i < h))) X
set_option maxRecDepth 100000 in
set_option maxHeartbeats 4000000 in
theorem c_X3_fanOut (hl : l.stackTraces = false) (hP : PC G w px pI pO pX n ia nm ct lv lo fa fb O X cp ru) (o : Int32) : vx_Met l yX3_fanOut wsX3_fanOut ({ frames := 12, cells := 1, slots := 6, locals := 207 } : Room) (Pw G A w [.ref px, .int o]) (va_Qi (fun r w' => w = w' ∧ ∃ i, i < 16 ∧ o = nI i ∧ r = nI (blw ct X (256 * (i + 1)))) (Bw G A) A) (XW G A (fun E w' => w = w' ∧ E = xIA ∧ isO 16 o = false)) 1 6 A := by
  refine m_ofX (cc := cX3_fanOut) (maxL := 2) (ret := (some .int)) (by decide) rfl (Nat.le_of_ble_eq_true rfl) ?_
  intro p e s m args below meth c hc hr hout
  refine v_loc [(0, some (.ref px)), (1, some (.int o))] rfl ?_
  have thr : isO 16 o = false → V p l e ({ frames := 12, cells := 1, slots := 6, locals := 207 } : Room) s m args below meth c 2 G A (vx_MQ below (va_Qi (fun r w' => w = w' ∧ ∃ i, i < 16 ∧ o = nI i ∧ r = nI (blw ct X (256 * (i + 1)))) (Bw G A) A) (XW G A (fun E w' => w = w' ∧ E = xIA ∧ isO 16 o = false)) args s 1 6 A) w 0 0 10 [(0, some (.ref px)), (1, some (.int o))] [] := by
    intro h0
    exact v_throw hc hl hout (cls := "java/lang/IllegalArgumentException") (text := "no such number of the fan-out table") (by decide +kernel) (by decide +kernel) (by decide +kernel) (by decide +kernel) (by decide +kernel) (by decide +kernel) (by decide +kernel) dX3_fanOut_10 dX3_fanOut_13 dX3_fanOut_14 dX3_fanOut_16 dX3_fanOut_19 (Nat.le_of_ble_eq_true rfl) (Nat.le_of_ble_eq_true rfl) (by first | exact Nat.le_of_ble_eq_true rfl | omega | (dsimp only; omega)) (by first | exact Nat.le_of_ble_eq_true rfl | omega | (dsimp only; omega)) (by first | exact Nat.le_of_ble_eq_true rfl | omega | (dsimp only; omega)) (by first | exact Nat.le_of_ble_eq_true rfl | omega | (dsimp only; omega)) (⟨rfl, rfl, h0⟩)
  refine v_iload_n hc (i := 1) rfl dX3_fanOut_0 rfl ?_
  refine v_if_lt hc (tgt := 10) dX3_fanOut_1 (by decide) (fun hb => ?_) (fun hb => ?_)
  · refine thr (isO_ne (fun ⟨i, hi, e⟩ => ?_) (by decide))
    subst e
    exact nI_pos (by omega) hb
  · obtain ⟨j, hj, rfl⟩ := nI_of hb
    refine v_iload_n hc (i := 1) rfl dX3_fanOut_4 rfl ?_
    refine v_bipush hc (v := nI 16) dX3_fanOut_5 (by decide) ?_
    refine v_icmp_ltN hc (tgt := 20) dX3_fanOut_7 (by decide) (by omega) (by omega) (fun h2 => ?_) (fun h2 => ?_)
    · first | refine v_aload_n hc (i := 0) rfl dX3_fanOut_20 rfl ?_ | refine v_aload_nN hc (i := 0) rfl dX3_fanOut_20 rfl ?_
      refine v_sipush hc (v := nI 256) dX3_fanOut_21 (by decide) ?_
      refine v_iload_n hc (i := 1) rfl dX3_fanOut_24 rfl ?_
      refine v_iconst hc (v := nI 1) dX3_fanOut_25 (by decide) ?_
      first | refine v_iaddN hc dX3_fanOut_26 ?_ | refine v_iadd hc dX3_fanOut_26 ?_
      first | refine v_imulN hc dX3_fanOut_27 ?_ | refine v_imul hc dX3_fanOut_27 ?_
      refine v_callVi hc (c_X3_countHashesBelow hP (h := 256 * (j + 1)) (by omega)) (cwV 1 hc.1.2.2.2.2 gX3_fanOut_X3_countHashesBelow rfl rfl rfl (by decide +kernel) ⟨Nat.le_of_ble_eq_true rfl, Nat.le_of_ble_eq_true rfl⟩) (hP.1) rfl rfl rfl (Nat.le_of_ble_eq_true rfl) ⟨(by first | exact Nat.le_of_ble_eq_true rfl | omega | (dsimp only; omega)), (by first | exact Nat.le_of_ble_eq_true rfl | omega | (dsimp only; omega))⟩ dX3_fanOut_28 (fun r w' hp => ?_)
      obtain ⟨rfl, rfl⟩ := hp
      refine v_xret ?_
      exact v_iret hc hr dX3_fanOut_31 (by first | exact Nat.le_of_ble_eq_true rfl | omega | (dsimp only; omega)) (by first | exact Nat.le_of_ble_eq_true rfl | omega | (dsimp only; omega)) (⟨rfl, j, h2, rfl, rfl⟩)
    · refine thr (isO_ne (fun ⟨i, hi, e⟩ => ?_) (by decide))
      have := (nI_eq (by omega) (by omega)).mp e
      omega
end CL3

