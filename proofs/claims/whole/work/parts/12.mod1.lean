/-! ===== the model: numbers, contents, deltas ===== -/
theorem i32_nle {a b : Int32} (h : a < b) : ¬ b ≤ a := by rw [Int32.lt_iff_toInt_lt] at h; rw [Int32.le_iff_toInt_le]; omega
theorem i32_le {a b : Int32} (h : ¬ a < b) : b ≤ a := by rw [Int32.lt_iff_toInt_lt] at h; rw [Int32.le_iff_toInt_le]; omega
theorem i32_dec (x : Int32) : x + Int32.ofInt (-1) = x - nI 1 := by rw [Int32.sub_eq_add_neg]; rfl
def isin (a b c : Int32) : Bool := decide (b ≤ a) && decide (a ≤ c)
def isO (n : Nat) (o : Int32) : Bool := decide (0 ≤ o.toInt ∧ o.toInt < n)
theorem isO_of {n : Nat} {o : Int32} (h : isO n o = true) (hn : n ≤ 40) : ∃ j, j < n ∧ o = nI j := by
  unfold isO at h
  simp only [decide_eq_true_eq] at h
  refine ⟨o.toInt.toNat, by omega, Int32.toInt_inj.mp ?_⟩
  rw [nI_toInt (by omega)]
  omega
theorem isO_nI {n j : Nat} (hj : j < n) (hn : n ≤ 40) : isO n (nI j) = true := by
  unfold isO
  rw [nI_toInt (by omega)]
  simp only [decide_eq_true_eq]
  omega
theorem isin_O {n : Nat} {o : Int32} (hn : n ≤ 40) : isin o (nI 0) (nI n - nI 1) = isO n o := by
  unfold isin isO
  have h1 : (nI 0 ≤ o) ↔ 0 ≤ o.toInt := by rw [Int32.le_iff_toInt_le, nI_toInt (by decide)]; rfl
  have h2 : (o ≤ nI n - nI 1) ↔ o.toInt ≤ (n : Int) - 1 := by rw [Int32.le_iff_toInt_le, pk_sub_toInt (by omega) (by decide)]; rfl
  rw [← Bool.decide_and]
  refine decide_eq_decide.mpr ?_
  rw [h1, h2]
  omega
section MD1
variable {l : Launch} {G : cG} {A : Nat → Prop} {w : wd} {h : Nat} {ad : Nat → Nat} {sc : Nat → Int32} {ai : Nat → Nat → Int32} {al : Nat → Int64}
set_option maxRecDepth 100000 in
set_option maxHeartbeats 4000000 in
theorem c_X4_thrown (hM : MP G w h ad sc ai al) : Met l yX4_thrown wsX4_thrown ({ frames := 8, cells := 0, slots := 0, locals := 120 } : Room) (Pw G A w [.ref h]) (va_Qi (fun r w' => w = w' ∧ r = sc 24) (Bw G A) A) 0 0 A := by
  refine m_of (cc := cX4_thrown) (maxL := 1) (ret := (some .int)) (by decide) rfl (Nat.le_of_ble_eq_true rfl) ?_
  intro p e s m args below meth c hc hr hmn
  refine v_loc [(0, some (.ref h))] rfl ?_
  first | refine v_aload_n hc (i := 0) rfl dX4_thrown_0 rfl ?_ | refine v_aload_nN hc (i := 0) rfl dX4_thrown_0 rfl ?_
  refine v_get hc 24 (ci := 7) rfl (by decide +kernel) (by decide) (by decide +kernel) (fun _ h => h) dX4_thrown_1 hM.1 rfl ?_
  exact v_iret hc hr dX4_thrown_4 (by first | exact Nat.le_of_ble_eq_true rfl | omega | (dsimp only; omega)) (by first | exact Nat.le_of_ble_eq_true rfl | omega | (dsimp only; omega)) (⟨rfl, rfl⟩)
set_option maxRecDepth 100000 in
set_option maxHeartbeats 4000000 in
theorem c_X4_goes (hM : MP G w h ad sc ai al) (v : Int32) : Met l yX4_goes wsX4_goes ({ frames := 8, cells := 0, slots := 0, locals := 120 } : Room) (Pw G A w [.ref h, .int v]) (va_Qi (fun r w' => MP G w' h ad (va_up sc 24 v) ai al ∧ r = bI (decide (v = 0))) (Bw G A) A) 0 0 A := by
  refine m_of (cc := cX4_goes) (maxL := 2) (ret := (some .boolean)) (by decide) rfl (Nat.le_of_ble_eq_true rfl) ?_
  intro p e s m args below meth c hc hr hmn
  refine v_loc [(0, some (.ref h)), (1, some (.int v))] rfl ?_
  first | refine v_aload_n hc (i := 0) rfl dX4_goes_0 rfl ?_ | refine v_aload_nN hc (i := 0) rfl dX4_goes_0 rfl ?_
  refine v_iload_n hc (i := 1) rfl dX4_goes_1 rfl ?_
  refine m_put hc hM 24 rfl (by decide +kernel) (by decide +kernel) dX4_goes_2 (fun w hM => ?_)
  refine v_iload_n hc (i := 1) rfl dX4_goes_5 rfl ?_
  refine v_if_ne hc (tgt := 13) dX4_goes_6 (by decide) (fun hb => ?_) (fun hb => ?_)
  · refine v_iconst hc (v := nI 0) dX4_goes_13 (by decide) ?_
    exact v_zret hc hr dX4_goes_14 (by first | exact Nat.le_of_ble_eq_true rfl | omega | (dsimp only; omega)) (by first | exact Nat.le_of_ble_eq_true rfl | omega | (dsimp only; omega)) (by first | rfl | exact bI_nar _) (⟨hM, by rw [decide_eq_false hb]; rfl⟩)
  · refine v_iconst hc (v := nI 1) dX4_goes_9 (by decide) ?_
    refine v_goto hc (tgt := 14) dX4_goes_10 (by decide) ?_
    exact v_zret hc hr dX4_goes_14 (by first | exact Nat.le_of_ble_eq_true rfl | omega | (dsimp only; omega)) (by first | exact Nat.le_of_ble_eq_true rfl | omega | (dsimp only; omega)) (by first | rfl | exact bI_nar _) (⟨hM, by rw [decide_eq_true hb]; rfl⟩)
set_option maxRecDepth 100000 in
set_option maxHeartbeats 4000000 in
theorem c_X4_isIn (a b c0 : Int32) : Met l yX4_isIn wsX4_isIn ({ frames := 8, cells := 0, slots := 0, locals := 120 } : Room) (Pw G A w [.int a, .int b, .int c0]) (va_Qi (fun r w' => w = w' ∧ r = bI (isin a b c0)) (Bw G A) A) 0 0 A := by
  refine m_of (cc := cX4_isIn) (maxL := 3) (ret := (some .boolean)) (by decide) rfl (Nat.le_of_ble_eq_true rfl) ?_
  intro p e s m args below meth c hc hr hmn
  refine v_loc [(0, some (.int a)), (1, some (.int b)), (2, some (.int c0))] rfl ?_
  refine v_iload_n hc (i := 0) rfl dX4_isIn_0 rfl ?_
  refine v_iload_n hc (i := 1) rfl dX4_isIn_1 rfl ?_
  refine v_icmp_lt hc (tgt := 14) dX4_isIn_2 (by decide) (fun h1 => ?_) (fun h1 => ?_)
  · refine v_iconst hc (v := nI 0) dX4_isIn_14 (by decide) ?_
    exact v_zret hc hr dX4_isIn_15 (by first | exact Nat.le_of_ble_eq_true rfl | omega | (dsimp only; omega)) (by first | exact Nat.le_of_ble_eq_true rfl | omega | (dsimp only; omega)) (by first | rfl | exact bI_nar _) (⟨rfl, by unfold isin; rw [decide_eq_false (i32_nle h1)]; rfl⟩)
  · refine v_iload_n hc (i := 0) rfl dX4_isIn_5 rfl ?_
    refine v_iload_n hc (i := 2) rfl dX4_isIn_6 rfl ?_
    refine v_icmp_gt hc (tgt := 14) dX4_isIn_7 (by decide) (fun h2 => ?_) (fun h2 => ?_)
    · refine v_iconst hc (v := nI 0) dX4_isIn_14 (by decide) ?_
      exact v_zret hc hr dX4_isIn_15 (by first | exact Nat.le_of_ble_eq_true rfl | omega | (dsimp only; omega)) (by first | exact Nat.le_of_ble_eq_true rfl | omega | (dsimp only; omega)) (by first | rfl | exact bI_nar _) (⟨rfl, by unfold isin; rw [decide_eq_false (i32_nle h2), Bool.and_false]; rfl⟩)
    · refine v_iconst hc (v := nI 1) dX4_isIn_10 (by decide) ?_
      refine v_goto hc (tgt := 15) dX4_isIn_11 (by decide) ?_
      exact v_zret hc hr dX4_isIn_15 (by first | exact Nat.le_of_ble_eq_true rfl | omega | (dsimp only; omega)) (by first | exact Nat.le_of_ble_eq_true rfl | omega | (dsimp only; omega)) (by first | rfl | exact bI_nar _) (⟨rfl, by unfold isin; rw [decide_eq_true (i32_le h1), decide_eq_true (i32_le h2)]; rfl⟩)
set_option maxRecDepth 100000 in
set_option maxHeartbeats 4000000 in
theorem c_X4_isObject (hM : MP G w h ad sc ai al) (o : Int32) {n : Nat} (hn : sc 0 = nI n) (hn40 : n ≤ 40) : Met l yX4_isObject wsX4_isObject ({ frames := 9, cells := 0, slots := 0, locals := 142 } : Room) (Pw G A w [.ref h, .int o]) (va_Qi (fun r w' => w = w' ∧ r = bI (isO n o)) (Bw G A) A) 0 0 A := by
  refine m_of (cc := cX4_isObject) (maxL := 2) (ret := (some .boolean)) (by decide) rfl (Nat.le_of_ble_eq_true rfl) ?_
  intro p e s m args below meth c hc hr hmn
  refine v_loc [(0, some (.ref h)), (1, some (.int o))] rfl ?_
  refine v_iload_n hc (i := 1) rfl dX4_isObject_0 rfl ?_
  refine v_iconst hc (v := nI 0) dX4_isObject_1 (by decide) ?_
  first | refine v_aload_n hc (i := 0) rfl dX4_isObject_2 rfl ?_ | refine v_aload_nN hc (i := 0) rfl dX4_isObject_2 rfl ?_
  refine v_get hc 0 (ci := 7) rfl (by decide +kernel) (by decide) (by decide +kernel) (fun _ h => h) dX4_isObject_3 hM.1 rfl ?_
  rw [hn]
  refine v_iconst hc (v := nI 1) dX4_isObject_6 (by decide) ?_
  refine v_isub hc dX4_isObject_7 ?_
  refine v_callSi hc (c_X4_isIn _ _ _) (va_cwS 3 hc.1.2.2.2.2 gX4_isObject_X4_isIn rfl rfl rfl (by decide +kernel) ⟨Nat.le_of_ble_eq_true rfl, Nat.le_of_ble_eq_true rfl⟩) rfl rfl (Nat.le_of_ble_eq_true rfl) ⟨(by first | exact Nat.le_of_ble_eq_true rfl | omega | (dsimp only; omega)), (by first | exact Nat.le_of_ble_eq_true rfl | omega | (dsimp only; omega))⟩ dX4_isObject_8 (fun r w' hp => ?_)
  obtain ⟨rfl, rfl⟩ := hp
  rw [isin_O hn40]
  exact v_zret hc hr dX4_isObject_11 (by first | exact Nat.le_of_ble_eq_true rfl | omega | (dsimp only; omega)) (by first | exact Nat.le_of_ble_eq_true rfl | omega | (dsimp only; omega)) (by first | rfl | exact bI_nar _) (⟨rfl, rfl⟩)
set_option maxRecDepth 100000 in
set_option maxHeartbeats 4000000 in
theorem c_X4_size (x : Int64) : Met l yX4_size wsX4_size ({ frames := 8, cells := 0, slots := 0, locals := 120 } : Room) (Pw G A w [.long x]) (va_Qi (fun r w' => w = w' ∧ r = nI (hxn (xN x))) (Bw G A) A) 0 0 A := by
  refine m_of (cc := cX4_size) (maxL := 5) (ret := (some .int)) (by decide) rfl (Nat.le_of_ble_eq_true rfl) ?_
  intro p e s m args below meth c hc hr hmn
  refine v_loc [(0, some (.long x))] rfl ?_
  refine v_iconst hc (v := nI 0) dX4_size_0 (by decide) ?_
  refine v_istore_n hc (i := 2) rfl dX4_size_1 (by decide) rfl ?_
  refine v_lload_n hc (i := 0) rfl dX4_size_2 rfl ?_
  refine v_lstore_n hc (i := 3) rfl dX4_size_3 (by decide) rfl ?_
  refine v_loop (σ := Int64 × Nat) (fun a => a.2 + hxn (xN a.1) = hxn (xN x)) (fun a => xN a.1) (fun _ => w) (fun _ => 0) (fun _ => 0) (fun a => [(3, some (.long a.1)), (2, some (.int (nI a.2)))]) (x, 0) rfl (Nat.zero_add _) ?_
  rintro ⟨z, sz⟩ hI ih
  dsimp only at hI ih ⊢
  refine v_lload_n hc (i := 3) rfl dX4_size_4 rfl ?_
  refine v_lconst hc (v := 0) dX4_size_5 (by decide) ?_
  refine v_lcmp hc dX4_size_6 ?_
  refine v_ifL_le hc (tgt := 22) dX4_size_7 (by decide) (fun hb => ?_) (fun hb => ?_)
  · refine v_iload_n hc (i := 2) rfl dX4_size_22 rfl ?_
    exact v_iret hc hr dX4_size_23 (by first | exact Nat.le_of_ble_eq_true rfl | omega | (dsimp only; omega)) (by first | exact Nat.le_of_ble_eq_true rfl | omega | (dsimp only; omega)) (⟨rfl, by rw [xN_0 hb, hxn_0] at hI; rw [← hI]; rfl⟩)
  · first | refine v_iinc1 hc dX4_size_10 rfl (by decide) rfl ?_ | refine v_iinc hc dX4_size_10 rfl rfl (by decide) rfl ?_
    refine v_lload_n hc (i := 3) rfl dX4_size_13 rfl ?_
    refine v_ldc2 hc (v := 16) dX4_size_14 (by decide +kernel) ?_
    refine v_ldiv hc (by decide) dX4_size_17 ?_
    refine v_lstore_n hc (i := 3) rfl dX4_size_18 (by decide) rfl ?_
    refine v_goto hc (tgt := 4) dX4_size_19 (by decide) ?_
    have h1 := xN_of hb
    exact ih (z / 16, sz + 1) _ rfl (by dsimp only; rw [xN_div hb]; rw [hxn_step h1.1 h1.2.1] at hI; omega) (by dsimp only; rw [xN_div hb]; omega)
set_option maxRecDepth 100000 in
set_option maxHeartbeats 4000000 in
theorem c_X4_isContent (x : Int64) : Met l yX4_isContent wsX4_isContent ({ frames := 9, cells := 0, slots := 0, locals := 144 } : Room) (Pw G A w [.long x]) (va_Qi (fun r w' => w = w' ∧ r = bI (isC x)) (Bw G A) A) 0 0 A := by
  refine m_of (cc := cX4_isContent) (maxL := 5) (ret := (some .boolean)) (by decide) rfl (Nat.le_of_ble_eq_true rfl) ?_
  intro p e s m args below meth c hc hr hmn
  refine v_loc [(0, some (.long x))] rfl ?_
  have key : ∀ (b0 : Bool), isC x = (b0 && nzd 16 (xN x)) → V p l e ({ frames := 9, cells := 0, slots := 0, locals := 144 } : Room) s m args below meth c 5 G A (MQ below (va_Qi (fun r w' => w = w' ∧ r = bI (isC x)) (Bw G A) A) args s 0 0 A) w 0 0 20 [(0, some (.long x))] [.int (bI b0)] := by
    intro b0 hb0
    refine v_istore_n hc (i := 2) rfl dX4_isContent_20 (by decide) rfl ?_
    refine v_lload_n hc (i := 0) rfl dX4_isContent_21 rfl ?_
    refine v_lstore_n hc (i := 3) rfl dX4_isContent_22 (by decide) rfl ?_
    refine v_loop (σ := Int64 × Bool × Nat) (fun a => isC x = (a.2.1 && nzd a.2.2 (xN a.1)) ∧ xN a.1 < 16 ^ a.2.2) (fun a => xN a.1) (fun _ => w) (fun _ => 0) (fun _ => 0) (fun a => [(3, some (.long a.1)), (2, some (.int (bI a.2.1)))]) (x, b0, 16) rfl ⟨hb0, by dsimp only; rw [e1616]; have := xN_lt x; rw [e63] at this; omega⟩ ?_
    rintro ⟨z, b, f⟩ ⟨hI, hf⟩ ih
    dsimp only at hI hf ih ⊢
    refine v_lload_n hc (i := 3) rfl dX4_isContent_23 rfl ?_
    refine v_lconst hc (v := 0) dX4_isContent_24 (by decide) ?_
    refine v_lcmp hc dX4_isContent_25 ?_
    refine v_ifL_le hc (tgt := 58) dX4_isContent_26 (by decide) (fun hb => ?_) (fun hb => ?_)
    · refine v_iload_n hc (i := 2) rfl dX4_isContent_58 rfl ?_
      exact v_zret hc hr dX4_isContent_59 (by first | exact Nat.le_of_ble_eq_true rfl | omega | (dsimp only; omega)) (by first | exact Nat.le_of_ble_eq_true rfl | omega | (dsimp only; omega)) (by first | rfl | exact bI_nar _) (⟨rfl, by rw [hI, xN_0 hb]; cases f <;> simp [nzd]⟩)
    · have h1 := xN_of hb
      obtain ⟨g, rfl⟩ : ∃ g, f = g + 1 := by
        cases f with
        | zero => simp at hf; omega
        | succ g => exact ⟨g, rfl⟩
      have hg : xN z / 16 < 16 ^ g := by rw [p16] at hf; omega
      have hz : nzd (g + 1) (xN z) = (decide (xN z % 16 ≠ 0) && nzd g (xN z / 16)) := by
        show (if xN z = 0 then true else _) = _
        rw [if_neg (by omega)]
      rw [hz] at hI
      have hrem : z - z / 16 * 16 = lN (xN z % 16) := by
        obtain ⟨_, h2, h3⟩ := h1
        generalize xN z = k at h2 h3 ⊢
        subst h3
        rw [l16, pk_lRem h2 (by decide) (by decide)]
      have back : ∀ (b' : Bool), b' = (b && decide (xN z % 16 ≠ 0)) → V p l e ({ frames := 9, cells := 0, slots := 0, locals := 144 } : Room) s m args below meth c 5 G A (MQ below (va_Qi (fun r w' => w = w' ∧ r = bI (isC x)) (Bw G A) A) args s 0 0 A) w 0 0 48 [(3, some (.long z)), (2, some (.int (bI b)))] [.int (bI b')] := by
        intro b' hb'
        refine v_istore_n hc (i := 2) rfl dX4_isContent_48 (by decide) rfl ?_
        refine v_lload_n hc (i := 3) rfl dX4_isContent_49 rfl ?_
        refine v_ldc2 hc (v := 16) dX4_isContent_50 (by decide +kernel) ?_
        refine v_ldiv hc (by decide) dX4_isContent_53 ?_
        refine v_lstore_n hc (i := 3) rfl dX4_isContent_54 (by decide) rfl ?_
        refine v_goto hc (tgt := 23) dX4_isContent_55 (by decide) ?_
        exact ih (z / 16, b', g) _ rfl ⟨by dsimp only; rw [xN_div hb, hb', hI, Bool.and_assoc], by dsimp only; rw [xN_div hb]; exact hg⟩ (by dsimp only; rw [xN_div hb]; omega)
      refine v_iload_n hc (i := 2) rfl dX4_isContent_29 rfl ?_
      refine v_ifB_eq hc (tgt := 47) dX4_isContent_30 (by decide) (fun h2 => ?_) (fun h2 => ?_)
      · refine v_iconst hc (v := nI 0) dX4_isContent_47 (by decide) ?_
        exact back false (by rw [h2]; rfl)
      · refine v_lload_n hc (i := 3) rfl dX4_isContent_33 rfl ?_
        refine v_ldc2 hc (v := 16) dX4_isContent_34 (by decide +kernel) ?_
        refine v_lrem hc (by decide) dX4_isContent_37 ?_
        refine v_tl hrem ?_
        refine v_lconst hc (v := 0) dX4_isContent_38 (by decide) ?_
        refine v_lcmp hc dX4_isContent_39 ?_
        refine v_ifL_eq hc (tgt := 47) dX4_isContent_40 (by decide) (fun h3 => ?_) (fun h3 => ?_)
        · refine v_iconst hc (v := nI 0) dX4_isContent_47 (by decide) ?_
          have h4 : xN z % 16 = 0 := by rw [l0, pk_lEQ (by omega) (by decide)] at h3; exact h3
          exact back false (by rw [h4]; simp)
        · refine v_iconst hc (v := nI 1) dX4_isContent_43 (by decide) ?_
          refine v_goto hc (tgt := 48) dX4_isContent_44 (by decide) ?_
          have h4 : xN z % 16 ≠ 0 := by rw [l0, ne_eq, pk_lEQ (by omega) (by decide)] at h3; exact h3
          exact back true (by rw [h2, decide_eq_true h4]; rfl)
  refine v_lload_n hc (i := 0) rfl dX4_isContent_0 rfl ?_
  refine v_lconst hc (v := 0) dX4_isContent_1 (by decide) ?_
  refine v_lcmp hc dX4_isContent_2 ?_
  refine v_ifL_le hc (tgt := 19) dX4_isContent_3 (by decide) (fun hb => ?_) (fun hb => ?_)
  · refine v_iconst hc (v := nI 0) dX4_isContent_19 (by decide) ?_
    exact key false (by unfold isC; rw [xN_0 hb]; rfl)
  · refine v_lload_n hc (i := 0) rfl dX4_isContent_6 rfl ?_
    refine v_callSi hc (c_X4_size x) (va_cwS 1 hc.1.2.2.2.2 gX4_isContent_X4_size rfl rfl rfl (by decide +kernel) ⟨Nat.le_of_ble_eq_true rfl, Nat.le_of_ble_eq_true rfl⟩) rfl rfl (Nat.le_of_ble_eq_true rfl) ⟨(by first | exact Nat.le_of_ble_eq_true rfl | omega | (dsimp only; omega)), (by first | exact Nat.le_of_ble_eq_true rfl | omega | (dsimp only; omega))⟩ dX4_isContent_7 (fun r w' hp => ?_)
    obtain ⟨rfl, rfl⟩ := hp
    have hle := hxl_le 16 (xN x)
    have h1 := (xN_of hb).1
    have h15 : hxn (xN x) < 2 ^ 31 := by unfold hxn; omega
    refine v_bipush hc (v := nI 15) dX4_isContent_10 (by decide) ?_
    refine v_icmp_gtN hc (tgt := 19) dX4_isContent_12 (by decide) h15 (by decide) (fun h2 => ?_) (fun h2 => ?_)
    · refine v_iconst hc (v := nI 0) dX4_isContent_19 (by decide) ?_
      exact key false (by unfold isC; rw [decide_eq_false (p := hxn (xN x) ≤ 15) (by omega)]; simp)
    · refine v_iconst hc (v := nI 1) dX4_isContent_15 (by decide) ?_
      refine v_goto hc (tgt := 20) dX4_isContent_16 (by decide) ?_
      exact key true (by unfold isC; rw [decide_eq_true h2, decide_eq_true h1]; simp)
theorem dig_eq {x : Int64} (hx : isC x = true) {k : Nat} (hk : k < 15) : ((x >>> ((nI (4 * k)).toInt64 &&& 63)) &&& 15).toInt32 = nI (dgt (xN x) k) := by
  have h1 := xN_of (xN_pos.mpr (isC_pos hx))
  have h60 := isC_60 hx
  rw [e1615] at h60
  generalize xN x = c at h1 h60 ⊢
  obtain ⟨-, -, rfl⟩ := h1
  have e1 : ((nI (4 * k)).toInt64 &&& 63) = lN (4 * k) := wb_c (4 * k) (by omega)
  have e2 : ((lN (4 * k)).toBitVec.smod 64).toNat = 4 * k := by
    rw [wb_tb, wb_sm _ (by omega), BitVec.toNat_ofNat, Nat.mod_eq_of_lt (by omega)]
  rw [e1, pf_shr e2 (by omega), show (15 : Int64) = lN (16 - 1) by decide, g_mask (s := 4) (p := 16) (by decide) (by decide) (Nat.lt_of_le_of_lt (Nat.div_le_self _ _) (by omega)), lN_i]
  unfold dgt
  rw [Nat.pow_mul]
set_option maxRecDepth 100000 in
set_option maxHeartbeats 4000000 in
theorem c_X4_hashOf (x : Int64) (hx : isC x = true) : Met l yX4_hashOf wsX4_hashOf ({ frames := 9, cells := 0, slots := 0, locals := 144 } : Room) (Pw G A w [.long x]) (va_Qi (fun r w' => w = w' ∧ r = nI (hsh (xN x))) (Bw G A) A) 0 0 A := by
  refine m_of (cc := cX4_hashOf) (maxL := 4) (ret := (some .int)) (by decide) rfl (Nat.le_of_ble_eq_true rfl) ?_
  intro p e s m args below meth c hc hr hmn
  refine v_loc [(0, some (.long x))] rfl ?_
  refine v_bipush hc (v := nI 7) dX4_hashOf_0 (by decide) ?_
  refine v_istore_n hc (i := 2) rfl dX4_hashOf_2 (by decide) rfl ?_
  refine v_lload_n hc (i := 0) rfl dX4_hashOf_3 rfl ?_
  refine v_callSi hc (c_X4_size x) (va_cwS 1 hc.1.2.2.2.2 gX4_hashOf_X4_size rfl rfl rfl (by decide +kernel) ⟨Nat.le_of_ble_eq_true rfl, Nat.le_of_ble_eq_true rfl⟩) rfl rfl (Nat.le_of_ble_eq_true rfl) ⟨(by first | exact Nat.le_of_ble_eq_true rfl | omega | (dsimp only; omega)), (by first | exact Nat.le_of_ble_eq_true rfl | omega | (dsimp only; omega))⟩ dX4_hashOf_4 (fun r w' hp => ?_)
  obtain ⟨rfl, rfl⟩ := hp
  have h15 := isC_15 hx
  refine v_iconst hc (v := nI 1) dX4_hashOf_7 (by decide) ?_
  refine v_isub hc dX4_hashOf_8 ?_
  refine v_istore_n hc (i := 3) rfl dX4_hashOf_9 (by decide) rfl ?_
  refine v_loop (σ := Nat × Nat) (fun a => hsr (xN x) a.1 a.2 = hsh (xN x) ∧ a.1 ≤ 15 ∧ a.2 < 4096) (fun a => a.1) (fun _ => w) (fun _ => 0) (fun _ => 0) (fun a => [(3, some (.int (nI a.1 - nI 1))), (2, some (.int (nI a.2))), (0, some (.long x))]) (hxn (xN x), 7) rfl ⟨rfl, h15, by show 7 < 4096; decide⟩ ?_
  rintro ⟨j, hh⟩ ⟨hI, hj, hh4⟩ ih
  dsimp only at hI hj hh4 ih ⊢
  cases j with
  | zero =>
    refine v_iload_n hc (i := 3) rfl dX4_hashOf_10 rfl ?_
    refine v_if_lt hc (tgt := 40) dX4_hashOf_11 (by decide) (fun h1 => ?_) (fun h1 => ?_)
    · refine v_iload_n hc (i := 2) rfl dX4_hashOf_40 rfl ?_
      exact v_iret hc hr dX4_hashOf_41 (by first | exact Nat.le_of_ble_eq_true rfl | omega | (dsimp only; omega)) (by first | exact Nat.le_of_ble_eq_true rfl | omega | (dsimp only; omega)) (⟨rfl, by rw [← hI]; rfl⟩)
    · exact absurd (by decide) h1
  | succ k =>
    have e : nI (k + 1) - nI 1 = nI k := pk_sub (by omega)
    rw [e]
    refine v_iload_n hc (i := 3) rfl dX4_hashOf_10 rfl ?_
    refine v_if_lt hc (tgt := 40) dX4_hashOf_11 (by decide) (fun h1 => ?_) (fun h1 => ?_)
    · exact absurd h1 (nI_pos (by omega))
    · refine v_bipush hc (v := nI 33) dX4_hashOf_14 (by decide) ?_
      refine v_iload_n hc (i := 2) rfl dX4_hashOf_16 rfl ?_
      first | refine v_imulN hc dX4_hashOf_17 ?_ | refine v_imul hc dX4_hashOf_17 ?_
      refine v_lload_n hc (i := 0) rfl dX4_hashOf_18 rfl ?_
      refine v_iconst hc (v := nI 4) dX4_hashOf_19 (by decide) ?_
      refine v_iload_n hc (i := 3) rfl dX4_hashOf_20 rfl ?_
      first | refine v_imulN hc dX4_hashOf_21 ?_ | refine v_imul hc dX4_hashOf_21 ?_
      refine v_lshr hc dX4_hashOf_22 ?_
      refine v_ldc2 hc (v := 15) dX4_hashOf_23 (by decide +kernel) ?_
      refine v_land hc dX4_hashOf_26 ?_
      refine v_l2i hc dX4_hashOf_27 ?_
      refine v_ti (dig_eq hx (by omega)) ?_
      have hd := dgt_lt (xN x) k
      first | refine v_iaddN hc dX4_hashOf_28 ?_ | refine v_iadd hc dX4_hashOf_28 ?_
      refine v_sipush hc (v := nI 4096) dX4_hashOf_29 (by decide) ?_
      refine v_irem hc (by decide) dX4_hashOf_32 ?_
      refine v_ti (pk_rem (by omega) (by decide) (by decide)) ?_
      refine v_istore_n hc (i := 2) rfl dX4_hashOf_33 (by decide) rfl ?_
      refine v_iinc hc (v := nI k - nI 1) dX4_hashOf_34 rfl (i32_dec _) (by decide) rfl ?_
      refine v_goto hc (tgt := 10) dX4_hashOf_37 (by decide) ?_
      exact ih (k, (33 * hh + dgt (xN x) k) % 4096) _ rfl ⟨hI, by omega, Nat.mod_lt _ (by decide)⟩ (Nat.lt_succ_self k)
end MD1

