/-! ===== the class: contents, deltas, items ===== -/
theorem wup_up (w : wd) (a : Nat) (e e' : va_E) : wup (wup w a e) a e' = wup w a e' := by
  funext x; unfold wup; split <;> rfl
theorem shr_k {x : Int64} (hx : 0 < x) (h60 : xN x < 16 ^ 15) {k : Nat} (hk : k < 60) : x >>> ((nI k).toInt64 &&& 63) = lN (xN x / 2 ^ k) := by
  have h1 := xN_of hx
  rw [e1615] at h60
  generalize xN x = c at h1 h60 ⊢
  obtain ⟨-, -, rfl⟩ := h1
  have e1 : ((nI k).toInt64 &&& 63) = lN k := wb_c k (by omega)
  have e2 : ((lN k).toBitVec.smod 64).toNat = k := by
    rw [wb_tb, wb_sm _ (by omega), BitVec.toNat_ofNat, Nat.mod_eq_of_lt (by omega)]
  rw [e1, pf_shr e2 (by omega)]
theorem dig_eq2 {x : Int64} (hx : isC x = true) {k : Nat} (hk : k < 15) : ((x >>> ((nI (4 * k)).toInt64 &&& 63)).toInt32 &&& nI 15) = nI (dgt (xN x) k) := by
  rw [shr_k (xN_pos.mpr (isC_pos hx)) (isC_60 hx) (by omega), lN_i, pk_and _ 4 (by decide)]
  have e : (nI (xN x / 2 ^ (4 * k))).toBitVec.toNat = xN x / 2 ^ (4 * k) % 2 ^ 32 := by
    show (BitVec.ofNat 32 _).toNat = _
    rw [BitVec.toNat_ofNat]
  rw [e]
  unfold dgt
  rw [Nat.pow_mul, Nat.mod_mod_of_dvd _ (by decide)]
def itf (i : Nat) (nm : Int32) (x : Int64) (lv lo : Bool) (f g : Option Nat) : List Value := [.int (nI i), .int nm, .long x, .int (nI (hxn (xN x))), .int (nI (hsh (xN x))), .int (bI lv), .int (bI lo), va_rf f, va_rf g]
def fof (b : Option Nat) (d p c : Nat) (dm : Bool) : List Value := [va_rf b, .int (nI d), .int (nI p), .int (nI c), .int (bI dm)]
section CL1
variable {l : Launch} {G : cG} {A : Nat → Prop} {w : wd}
set_option maxRecDepth 100000 in
set_option maxHeartbeats 4000000 in
theorem c_X3_countLetters (x : Int64) (hx : isC x = true) : Met l yX3_countLetters wsX3_countLetters ({ frames := 8, cells := 0, slots := 0, locals := 120 } : Room) (Pw G A w [.long x]) (va_Qi (fun r w' => w = w' ∧ r = nI (hxn (xN x))) (Bw G A) A) 0 0 A := by
  refine m_of (cc := cX3_countLetters) (maxL := 5) (ret := (some .int)) (by decide) rfl (Nat.le_of_ble_eq_true rfl) ?_
  intro p e s m args below meth c hc hr hmn
  refine v_loc [(0, some (.long x))] rfl ?_
  have h60 := isC_60 hx
  refine v_iconst hc (v := nI 0) dX3_countLetters_0 (by decide) ?_
  refine v_istore_n hc (i := 2) rfl dX3_countLetters_1 (by decide) rfl ?_
  refine v_lload_n hc (i := 0) rfl dX3_countLetters_2 rfl ?_
  refine v_lstore_n hc (i := 3) rfl dX3_countLetters_3 (by decide) rfl ?_
  refine v_loop (σ := Int64 × Nat) (fun a => a.2 + hxn (xN a.1) = hxn (xN x) ∧ xN a.1 < 16 ^ 15) (fun a => xN a.1) (fun _ => w) (fun _ => 0) (fun _ => 0) (fun a => [(3, some (.long a.1)), (2, some (.int (nI a.2)))]) (x, 0) rfl ⟨Nat.zero_add _, h60⟩ ?_
  rintro ⟨z, sz⟩ ⟨hI, hz⟩ ih
  dsimp only at hI hz ih ⊢
  refine v_lload_n hc (i := 3) rfl dX3_countLetters_4 rfl ?_
  refine v_lconst hc (v := 0) dX3_countLetters_5 (by decide) ?_
  refine v_lcmp hc dX3_countLetters_6 ?_
  refine v_ifL_le hc (tgt := 20) dX3_countLetters_7 (by decide) (fun hb => ?_) (fun hb => ?_)
  · refine v_iload_n hc (i := 2) rfl dX3_countLetters_20 rfl ?_
    exact v_iret hc hr dX3_countLetters_21 (by first | exact Nat.le_of_ble_eq_true rfl | omega | (dsimp only; omega)) (by first | exact Nat.le_of_ble_eq_true rfl | omega | (dsimp only; omega)) (⟨rfl, by rw [xN_0 hb, hxn_0] at hI; rw [← hI]; rfl⟩)
  · have h1 := xN_of hb
    first | refine v_iinc1 hc dX3_countLetters_10 rfl (by decide) rfl ?_ | refine v_iinc hc dX3_countLetters_10 rfl rfl (by decide) rfl ?_
    refine v_lload_n hc (i := 3) rfl dX3_countLetters_13 rfl ?_
    refine v_iconst hc (v := nI 4) dX3_countLetters_14 (by decide) ?_
    refine v_lshr hc dX3_countLetters_15 ?_
    refine v_tl (shr_k hb hz (k := 4) (by decide)) ?_
    refine v_lstore_n hc (i := 3) rfl dX3_countLetters_16 (by decide) rfl ?_
    refine v_goto hc (tgt := 4) dX3_countLetters_17 (by decide) ?_
    have e : xN (lN (xN z / 2 ^ 4)) = xN z / 16 := xN_lN (by omega)
    exact ih (lN (xN z / 2 ^ 4), sz + 1) _ rfl ⟨by dsimp only; rw [e]; rw [hxn_step h1.1 h1.2.1] at hI; omega, by dsimp only; rw [e]; omega⟩ (by dsimp only; rw [e]; omega)
set_option maxRecDepth 100000 in
set_option maxHeartbeats 4000000 in
theorem c_X3_isContent (x : Int64) : Met l yX3_isContent wsX3_isContent ({ frames := 8, cells := 0, slots := 0, locals := 120 } : Room) (Pw G A w [.long x]) (va_Qi (fun r w' => w = w' ∧ r = bI (isC x)) (Bw G A) A) 0 0 A := by
  refine m_of (cc := cX3_isContent) (maxL := 4) (ret := (some .boolean)) (by decide) rfl (Nat.le_of_ble_eq_true rfl) ?_
  intro p e s m args below meth c hc hr hmn
  refine v_loc [(0, some (.long x))] rfl ?_
  have no : isC x = false → V p l e ({ frames := 8, cells := 0, slots := 0, locals := 120 } : Room) s m args below meth c 4 G A (MQ below (va_Qi (fun r w' => w = w' ∧ r = bI (isC x)) (Bw G A) A) args s 0 0 A) w 0 0 14 [(0, some (.long x))] [] := by
    intro h0
    refine v_iconst hc (v := nI 0) dX3_isContent_14 (by decide) ?_
    exact v_zret hc hr dX3_isContent_15 (by first | exact Nat.le_of_ble_eq_true rfl | omega | (dsimp only; omega)) (by first | exact Nat.le_of_ble_eq_true rfl | omega | (dsimp only; omega)) (by first | rfl | exact bI_nar _) (⟨rfl, by rw [h0]; rfl⟩)
  have k1 : (1 : Int64) = lN 1 := by decide
  have k60 : (1152921504606846976 : Int64) = lN (16 ^ 15) := by decide
  refine v_lload_n hc (i := 0) rfl dX3_isContent_0 rfl ?_
  refine v_lconst hc (v := 1) dX3_isContent_1 (by decide) ?_
  refine v_lcmp hc dX3_isContent_2 ?_
  refine v_ifL_lt hc (tgt := 14) dX3_isContent_3 (by decide) (fun h1 => ?_) (fun h1 => ?_)
  · refine no ?_
    have : xN x = 0 := by
      refine xN_0 ?_
      rw [Int64.lt_iff_toInt_lt] at h1
      rw [Int64.le_iff_toInt_le]
      have e0 : (0 : Int64).toInt = 0 := by decide
      have e1 : (1 : Int64).toInt = 1 := by decide
      omega
    unfold isC; rw [this]; rfl
  · have hpos : 0 < x := by
      rw [Int64.le_iff_toInt_le] at h1
      rw [Int64.lt_iff_toInt_lt]
      have e0 : (0 : Int64).toInt = 0 := by decide
      have e1 : (1 : Int64).toInt = 1 := by decide
      omega
    have hx3 := xN_of hpos
    have hlt : x < lN (16 ^ 15) ↔ xN x < 16 ^ 15 := by
      obtain ⟨-, h2, h3⟩ := hx3
      generalize xN x = k at h2 h3 ⊢
      subst h3
      exact pk_lLT h2 (by decide)
    refine v_lload_n hc (i := 0) rfl dX3_isContent_6 rfl ?_
    refine v_ldc2 hc (v := 1152921504606846976) dX3_isContent_7 (by decide +kernel) ?_
    refine v_lcmp hc dX3_isContent_10 ?_
    refine v_ifL_lt hc (tgt := 16) dX3_isContent_11 (by decide) (fun h2 => ?_) (fun h2 => ?_)
    · rw [k60, hlt] at h2
      have h15 : hxn (xN x) ≤ 15 := by
        have := hxl_le 15 (xN x)
        unfold hxn
        rw [hxl_more 15 16 (xN x) h2 (by decide)]
        exact this
      have hC : isC x = nzd 16 (xN x) := by
        unfold isC
        rw [decide_eq_true hx3.1, decide_eq_true h15]; rfl
      refine v_lload_n hc (i := 0) rfl dX3_isContent_16 rfl ?_
      refine v_lstore_n hc (i := 2) rfl dX3_isContent_17 (by decide) rfl ?_
      refine v_loop (σ := Int64 × Nat) (fun a => nzd a.2 (xN a.1) = isC x ∧ xN a.1 < 16 ^ a.2 ∧ xN a.1 < 16 ^ 15) (fun a => xN a.1) (fun _ => w) (fun _ => 0) (fun _ => 0) (fun a => [(2, some (.long a.1))]) (x, 16) rfl ⟨hC.symm, Nat.lt_trans h2 (by dsimp only; decide), h2⟩ ?_
      rintro ⟨z, f⟩ ⟨hI, hf, hz⟩ ih
      dsimp only at hI hf hz ih ⊢
      refine v_lload_n hc (i := 2) rfl dX3_isContent_18 rfl ?_
      refine v_lconst hc (v := 0) dX3_isContent_19 (by decide) ?_
      refine v_lcmp hc dX3_isContent_20 ?_
      refine v_ifL_le hc (tgt := 43) dX3_isContent_21 (by decide) (fun hb => ?_) (fun hb => ?_)
      · refine v_iconst hc (v := nI 1) dX3_isContent_43 (by decide) ?_
        exact v_zret hc hr dX3_isContent_44 (by first | exact Nat.le_of_ble_eq_true rfl | omega | (dsimp only; omega)) (by first | exact Nat.le_of_ble_eq_true rfl | omega | (dsimp only; omega)) (by first | rfl | exact bI_nar _) (⟨rfl, by rw [← hI, xN_0 hb]; cases f <;> simp [nzd, bI] <;> rfl⟩)
      · have h3 := xN_of hb
        obtain ⟨g, rfl⟩ : ∃ g, f = g + 1 := by
          cases f with
          | zero => simp at hf; omega
          | succ g => exact ⟨g, rfl⟩
        have hg : xN z / 16 < 16 ^ g := by rw [p16] at hf; omega
        have hzz : nzd (g + 1) (xN z) = (decide (xN z % 16 ≠ 0) && nzd g (xN z / 16)) := by
          show (if xN z = 0 then true else _) = _
          rw [if_neg (by omega)]
        rw [hzz] at hI
        have hand : z &&& 15 = lN (xN z % 16) := by
          obtain ⟨_, g2, g3⟩ := h3
          generalize xN z = k at g2 g3 ⊢
          subst g3
          rw [show (15 : Int64) = lN (16 - 1) by decide, g_mask (s := 4) (p := 16) (by decide) (by decide) (by omega)]
        refine v_lload_n hc (i := 2) rfl dX3_isContent_24 rfl ?_
        refine v_ldc2 hc (v := 15) dX3_isContent_25 (by decide +kernel) ?_
        refine v_land hc dX3_isContent_28 ?_
        refine v_tl hand ?_
        refine v_lconst hc (v := 0) dX3_isContent_29 (by decide) ?_
        refine v_lcmp hc dX3_isContent_30 ?_
        refine v_ifL_ne hc (tgt := 36) dX3_isContent_31 (by decide) (fun h4 => ?_) (fun h4 => ?_)
        · rw [l0, ne_eq, pk_lEQ (by omega) (by decide)] at h4
          refine v_lload_n hc (i := 2) rfl dX3_isContent_36 rfl ?_
          refine v_iconst hc (v := nI 4) dX3_isContent_37 (by decide) ?_
          refine v_lshr hc dX3_isContent_38 ?_
          refine v_tl (shr_k hb hz (k := 4) (by decide)) ?_
          refine v_lstore_n hc (i := 2) rfl dX3_isContent_39 (by decide) rfl ?_
          refine v_goto hc (tgt := 18) dX3_isContent_40 (by decide) ?_
          have e : xN (lN (xN z / 2 ^ 4)) = xN z / 16 := xN_lN (by omega)
          exact ih (lN (xN z / 2 ^ 4), g) _ rfl ⟨by dsimp only; rw [e, ← hI, decide_eq_true h4]; rfl, by dsimp only; rw [e]; exact hg, by dsimp only; rw [e]; omega⟩ (by dsimp only; rw [e]; omega)
        · rw [l0, pk_lEQ (by omega) (by decide)] at h4
          refine v_iconst hc (v := nI 0) dX3_isContent_34 (by decide) ?_
          exact v_zret hc hr dX3_isContent_35 (by first | exact Nat.le_of_ble_eq_true rfl | omega | (dsimp only; omega)) (by first | exact Nat.le_of_ble_eq_true rfl | omega | (dsimp only; omega)) (by first | rfl | exact bI_nar _) (⟨rfl, by rw [← hI, h4]; rfl⟩)
    · rw [k60, le64, hlt] at h2
      refine v_loc [(0, some (.long x))] rfl (no ?_)
      have : ¬ hxn (xN x) ≤ 15 := by
        have := hxl_ge 16 (xN x) 15 (by omega) (by decide)
        unfold hxn; omega
      unfold isC
      rw [decide_eq_false this]; simp
set_option maxRecDepth 100000 in
set_option maxHeartbeats 4000000 in
theorem c_X3_letterAt (x : Int64) (hx : isC x = true) {i : Nat} (hi : i < hxn (xN x)) : Met l yX3_letterAt wsX3_letterAt ({ frames := 8, cells := 0, slots := 0, locals := 120 } : Room) (Pw G A w [.long x, .int (nI (hxn (xN x))), .int (nI i)]) (va_Qi (fun r w' => w = w' ∧ r = nI (ltr (xN x) i)) (Bw G A) A) 0 0 A := by
  refine m_of (cc := cX3_letterAt) (maxL := 4) (ret := (some .int)) (by decide) rfl (Nat.le_of_ble_eq_true rfl) ?_
  intro p e s m args below meth c hc hr hmn
  refine v_loc [(0, some (.long x)), (2, some (.int (nI (hxn (xN x))))), (3, some (.int (nI i)))] rfl ?_
  have h15 := isC_15 hx
  refine v_lload_n hc (i := 0) rfl dX3_letterAt_0 rfl ?_
  refine v_iconst hc (v := nI 4) dX3_letterAt_1 (by decide) ?_
  refine v_iload_n hc (i := 2) rfl dX3_letterAt_2 rfl ?_
  refine v_iconst hc (v := nI 1) dX3_letterAt_3 (by decide) ?_
  first | refine v_isubN hc (by omega) dX3_letterAt_4 ?_ | refine v_isub hc dX3_letterAt_4 ?_
  refine v_iload_n hc (i := 3) rfl dX3_letterAt_5 rfl ?_
  first | refine v_isubN hc (by omega) dX3_letterAt_6 ?_ | refine v_isub hc dX3_letterAt_6 ?_
  first | refine v_imulN hc dX3_letterAt_7 ?_ | refine v_imul hc dX3_letterAt_7 ?_
  refine v_lshr hc dX3_letterAt_8 ?_
  refine v_l2i hc dX3_letterAt_9 ?_
  refine v_bipush hc (v := nI 15) dX3_letterAt_10 (by decide) ?_
  refine v_iand hc dX3_letterAt_12 ?_
  refine v_ti (dig_eq2 hx (by omega)) ?_
  exact v_iret hc hr dX3_letterAt_13 (by first | exact Nat.le_of_ble_eq_true rfl | omega | (dsimp only; omega)) (by first | exact Nat.le_of_ble_eq_true rfl | omega | (dsimp only; omega)) (⟨rfl, rfl⟩)
set_option maxRecDepth 100000 in
set_option maxHeartbeats 4000000 in
theorem c_X3_hashOf (x : Int64) (hx : isC x = true) : Met l yX3_hashOf wsX3_hashOf ({ frames := 9, cells := 0, slots := 0, locals := 144 } : Room) (Pw G A w [.long x]) (va_Qi (fun r w' => w = w' ∧ r = nI (hsh (xN x))) (Bw G A) A) 0 0 A := by
  refine m_of (cc := cX3_hashOf) (maxL := 5) (ret := (some .int)) (by decide) rfl (Nat.le_of_ble_eq_true rfl) ?_
  intro p e s m args below meth c hc hr hmn
  refine v_loc [(0, some (.long x))] rfl ?_
  have h15 := isC_15 hx
  refine v_lload_n hc (i := 0) rfl dX3_hashOf_0 rfl ?_
  refine v_callSi hc (c_X3_countLetters x hx) (va_cwS 1 hc.1.2.2.2.2 gX3_hashOf_X3_countLetters rfl rfl rfl (by decide +kernel) ⟨Nat.le_of_ble_eq_true rfl, Nat.le_of_ble_eq_true rfl⟩) rfl rfl (Nat.le_of_ble_eq_true rfl) ⟨(by first | exact Nat.le_of_ble_eq_true rfl | omega | (dsimp only; omega)), (by first | exact Nat.le_of_ble_eq_true rfl | omega | (dsimp only; omega))⟩ dX3_hashOf_1 (fun r w' hp => ?_)
  obtain ⟨rfl, rfl⟩ := hp
  refine v_istore_n hc (i := 2) rfl dX3_hashOf_4 (by decide) rfl ?_
  refine v_bipush hc (v := nI 7) dX3_hashOf_5 (by decide) ?_
  refine v_istore_n hc (i := 3) rfl dX3_hashOf_7 (by decide) rfl ?_
  refine v_iconst hc (v := nI 0) dX3_hashOf_8 (by decide) ?_
  refine v_istore hc dX3_hashOf_9 (by decide) rfl ?_
  refine v_loop (σ := Nat × Nat) (fun a => a.1 ≤ hxn (xN x) ∧ hsr (xN x) (hxn (xN x) - a.1) a.2 = hsh (xN x) ∧ a.2 < 4096) (fun a => hxn (xN x) - a.1) (fun _ => w) (fun _ => 0) (fun _ => 0) (fun a => [(4, some (.int (nI a.1))), (3, some (.int (nI a.2))), (2, some (.int (nI (hxn (xN x))))), (0, some (.long x))]) (0, 7) rfl ⟨Nat.zero_le _, rfl, by show 7 < 4096; decide⟩ ?_
  rintro ⟨i, hh⟩ ⟨hi, hI, hh4⟩ ih
  dsimp only at hi hI hh4 ih ⊢
  refine v_iload hc dX3_hashOf_11 rfl ?_
  refine v_iload_n hc (i := 2) rfl dX3_hashOf_13 rfl ?_
  refine v_icmp_geN hc (tgt := 40) dX3_hashOf_14 (by decide) (by omega) (by omega) (fun hb => ?_) (fun hb => ?_)
  · refine v_iload_n hc (i := 3) rfl dX3_hashOf_40 rfl ?_
    rw [show hxn (xN x) - i = 0 by omega] at hI
    exact v_iret hc hr dX3_hashOf_41 (by first | exact Nat.le_of_ble_eq_true rfl | omega | (dsimp only; omega)) (by first | exact Nat.le_of_ble_eq_true rfl | omega | (dsimp only; omega)) (⟨rfl, by rw [← hI]; rfl⟩)
  · refine v_iload_n hc (i := 3) rfl dX3_hashOf_17 rfl ?_
    refine v_bipush hc (v := nI 33) dX3_hashOf_18 (by decide) ?_
    first | refine v_imulN hc dX3_hashOf_20 ?_ | refine v_imul hc dX3_hashOf_20 ?_
    refine v_ti (show _ = nI (33 * hh) by rw [Nat.mul_comm]) ?_
    refine v_lload_n hc (i := 0) rfl dX3_hashOf_21 rfl ?_
    refine v_iload_n hc (i := 2) rfl dX3_hashOf_22 rfl ?_
    refine v_iload hc dX3_hashOf_23 rfl ?_
    refine v_callSi hc (c_X3_letterAt x hx hb) (va_cwS 3 hc.1.2.2.2.2 gX3_hashOf_X3_letterAt rfl rfl rfl (by decide +kernel) ⟨Nat.le_of_ble_eq_true rfl, Nat.le_of_ble_eq_true rfl⟩) rfl rfl (Nat.le_of_ble_eq_true rfl) ⟨(by first | exact Nat.le_of_ble_eq_true rfl | omega | (dsimp only; omega)), (by first | exact Nat.le_of_ble_eq_true rfl | omega | (dsimp only; omega))⟩ dX3_hashOf_25 (fun r w' hp => ?_)
    obtain ⟨rfl, rfl⟩ := hp
    have hd := dgt_lt (xN x) (hxn (xN x) - 1 - i)
    have hlt : ltr (xN x) i < 16 := hd
    first | refine v_iaddN hc dX3_hashOf_28 ?_ | refine v_iadd hc dX3_hashOf_28 ?_
    refine v_sipush hc (v := nI 4096) dX3_hashOf_29 (by decide) ?_
    refine v_irem hc (by decide) dX3_hashOf_32 ?_
    refine v_ti (pk_rem (by omega) (by decide) (by decide)) ?_
    refine v_istore_n hc (i := 3) rfl dX3_hashOf_33 (by decide) rfl ?_
    first | refine v_iinc1 hc dX3_hashOf_34 rfl (by decide) rfl ?_ | refine v_iinc hc dX3_hashOf_34 rfl rfl (by decide) rfl ?_
    refine v_goto hc (tgt := 11) dX3_hashOf_37 (by decide) ?_
    refine ih (i + 1, (33 * hh + ltr (xN x) i) % 4096) _ rfl ⟨hb, ?_, Nat.mod_lt _ (by decide)⟩ (by dsimp only; omega)
    dsimp only
    rw [show hxn (xN x) - i = (hxn (xN x) - (i + 1)) + 1 by omega] at hI
    rw [← hI]
    show _ = hsr _ _ ((33 * hh + dgt (xN x) (hxn (xN x) - (i + 1))) % 4096)
    unfold ltr
    rw [show hxn (xN x) - 1 - i = hxn (xN x) - (i + 1) by omega]
set_option maxRecDepth 100000 in
set_option maxHeartbeats 4000000 in
theorem c_X1_letter {a i0 : Nat} {nm : Int32} {x : Int64} {lv lo : Bool} {f g : Option Nat} (ha : w a = some (.inr (4, itf i0 nm x lv lo f g))) (hx : isC x = true) {i : Nat} (hi : i < hxn (xN x)) : Met l yX1_letter wsX1_letter ({ frames := 9, cells := 0, slots := 0, locals := 143 } : Room) (Pw G A w [.ref a, .int (nI i)]) (va_Qi (fun r w' => w = w' ∧ r = nI (ltr (xN x) i)) (Bw G A) A) 0 0 A := by
  refine m_of (cc := cX1_letter) (maxL := 2) (ret := (some .int)) (by decide) rfl (Nat.le_of_ble_eq_true rfl) ?_
  intro p e s m args below meth c hc hr hmn
  refine v_loc [(0, some (.ref a)), (1, some (.int (nI i)))] rfl ?_
  first | refine v_aload_n hc (i := 0) rfl dX1_letter_0 rfl ?_ | refine v_aload_nN hc (i := 0) rfl dX1_letter_0 rfl ?_
  refine v_get hc 2 (ci := 4) rfl (by decide +kernel) (by decide) (by decide +kernel) (fun _ h => h) dX1_letter_1 (ha) rfl ?_
  first | refine v_aload_n hc (i := 0) rfl dX1_letter_4 rfl ?_ | refine v_aload_nN hc (i := 0) rfl dX1_letter_4 rfl ?_
  refine v_get hc 3 (ci := 4) rfl (by decide +kernel) (by decide) (by decide +kernel) (fun _ h => h) dX1_letter_5 (ha) rfl ?_
  refine v_iload_n hc (i := 1) rfl dX1_letter_8 rfl ?_
  refine v_callSNi (host := RX3) hc (c_X3_letterAt x hx hi) ⟨va_cnB 3 hc.1.2.2.2.2 gX1_letter_X3_letterAt_n49 rfl rfl rfl (hc.2.1.2.2.2.2.2.1 _ (by decide +kernel)) (hc.1.2.2.2.2 (.initialized yX3_letterAt.cls) (by decide +kernel)) (by decide +kernel) ⟨Nat.le_of_ble_eq_true rfl, Nat.le_of_ble_eq_true rfl⟩, hc.1.2.2.2.2 (.static yX3_letterAt) (by decide +kernel), trivial⟩ rfl rfl (Nat.le_of_ble_eq_true rfl) ⟨(by first | exact Nat.le_of_ble_eq_true rfl | omega | (dsimp only; omega)), (by first | exact Nat.le_of_ble_eq_true rfl | omega | (dsimp only; omega))⟩ dX1_letter_9 (fun r w' hp => ?_)
  obtain ⟨rfl, rfl⟩ := hp
  exact v_iret hc hr dX1_letter_12 (by first | exact Nat.le_of_ble_eq_true rfl | omega | (dsimp only; omega)) (by first | exact Nat.le_of_ble_eq_true rfl | omega | (dsimp only; omega)) (⟨rfl, rfl⟩)
section DEL
variable {a b i0 j0 : Nat} {nm nm2 : Int32} {x y : Int64} {lv lo lv2 lo2 : Bool} {f g f2 g2 : Option Nat}
set_option maxRecDepth 100000 in
set_option maxHeartbeats 4000000 in
theorem c_X3_countAlike (ha : w a = some (.inr (4, itf i0 nm x lv lo f g))) (hbb : w b = some (.inr (4, itf j0 nm2 y lv2 lo2 f2 g2))) (hx : isC x = true) (hy : isC y = true) {i j : Nat} (hi : i ≤ hxn (xN x)) (hj : j ≤ hxn (xN y)) : Met l yX3_countAlike wsX3_countAlike ({ frames := 10, cells := 0, slots := 0, locals := 164 } : Room) (Pw G A w [.ref a, .int (nI i), .ref b, .int (nI j)]) (va_Qi (fun r w' => w = w' ∧ r = nI (cml (xN x) (xN y) i j)) (Bw G A) A) 0 0 A := by
  refine m_of (cc := cX3_countAlike) (maxL := 6) (ret := (some .int)) (by decide) rfl (Nat.le_of_ble_eq_true rfl) ?_
  intro p e s m args below meth c hc hr hmn
  refine v_loc [(0, some (.ref a)), (1, some (.int (nI i))), (2, some (.ref b)), (3, some (.int (nI j)))] rfl ?_
  have hx15 := isC_15 hx
  have hy15 := isC_15 hy
  first | refine v_aload_n hc (i := 0) rfl dX3_countAlike_0 rfl ?_ | refine v_aload_nN hc (i := 0) rfl dX3_countAlike_0 rfl ?_
  refine v_get hc 3 (ci := 4) rfl (by decide +kernel) (by decide) (by decide +kernel) (fun _ h => h) dX3_countAlike_1 (ha) rfl ?_
  refine v_iload_n hc (i := 1) rfl dX3_countAlike_4 rfl ?_
  first | refine v_isubN hc (by omega) dX3_countAlike_5 ?_ | refine v_isub hc dX3_countAlike_5 ?_
  first | refine v_aload_n hc (i := 2) rfl dX3_countAlike_6 rfl ?_ | refine v_aload_nN hc (i := 2) rfl dX3_countAlike_6 rfl ?_
  refine v_get hc 3 (ci := 4) rfl (by decide +kernel) (by decide) (by decide +kernel) (fun _ h => h) dX3_countAlike_7 (hbb) rfl ?_
  refine v_iload_n hc (i := 3) rfl dX3_countAlike_10 rfl ?_
  first | refine v_isubN hc (by omega) dX3_countAlike_11 ?_ | refine v_isub hc dX3_countAlike_11 ?_
  refine v_mmin hc (by decide +kernel) (by decide +kernel) (by decide +kernel) (by decide +kernel) (Nat.le_of_ble_eq_true rfl) (Nat.le_of_ble_eq_true rfl) (by first | exact Nat.le_of_ble_eq_true rfl | omega | (dsimp only; omega)) (by first | exact Nat.le_of_ble_eq_true rfl | omega | (dsimp only; omega)) dX3_countAlike_12 ?_
  have hmin : (if nI (hxn (xN y) - j) < nI (hxn (xN x) - i) then nI (hxn (xN y) - j) else nI (hxn (xN x) - i)) = nI (min (hxn (xN x) - i) (hxn (xN y) - j)) := by
    by_cases hc1 : hxn (xN y) - j < hxn (xN x) - i
    · rw [if_pos ((nI_ltI (by omega) (by omega)).mpr hc1)]; congr 1; omega
    · rw [if_neg (fun z => hc1 ((nI_ltI (by omega) (by omega)).mp z))]; congr 1; omega
  refine v_ti hmin ?_
  refine v_istore hc dX3_countAlike_15 (by decide) rfl ?_
  refine v_iconst hc (v := nI 0) dX3_countAlike_17 (by decide) ?_
  refine v_istore hc dX3_countAlike_18 (by decide) rfl ?_
  refine v_loop (σ := Nat) (fun t => t ≤ min (hxn (xN x) - i) (hxn (xN y) - j) ∧ t + cml (xN x) (xN y) (i + t) (j + t) = cml (xN x) (xN y) i j) (fun t => min (hxn (xN x) - i) (hxn (xN y) - j) - t) (fun _ => w) (fun _ => 0) (fun _ => 0) (fun t => [(0, some (.ref a)), (1, some (.int (nI i))), (2, some (.ref b)), (3, some (.int (nI j))), (4, some (.int (nI (min (hxn (xN x) - i) (hxn (xN y) - j))))), (5, some (.int (nI t)))]) 0 rfl ⟨Nat.zero_le _, Nat.zero_add _⟩ ?_
  rintro t ⟨ht, hI⟩ ih
  have fin : cml (xN x) (xN y) (i + t) (j + t) = 0 → V p l e ({ frames := 10, cells := 0, slots := 0, locals := 164 } : Room) s m args below meth c 6 G A (MQ below (va_Qi (fun r w' => w = w' ∧ r = nI (cml (xN x) (xN y) i j)) (Bw G A) A) args s 0 0 A) w 0 0 52 [(0, some (.ref a)), (1, some (.int (nI i))), (2, some (.ref b)), (3, some (.int (nI j))), (4, some (.int (nI (min (hxn (xN x) - i) (hxn (xN y) - j))))), (5, some (.int (nI t)))] [] := by
    intro h0
    refine v_iload hc dX3_countAlike_52 rfl ?_
    exact v_iret hc hr dX3_countAlike_54 (by first | exact Nat.le_of_ble_eq_true rfl | omega | (dsimp only; omega)) (by first | exact Nat.le_of_ble_eq_true rfl | omega | (dsimp only; omega)) (⟨rfl, by rw [← hI, h0]; rfl⟩)
  refine v_iload hc dX3_countAlike_20 rfl ?_
  refine v_iload hc dX3_countAlike_22 rfl ?_
  refine v_icmp_geN hc (tgt := 52) dX3_countAlike_24 (by decide) (by omega) (by omega) (fun hb => ?_) (fun hb => ?_)
  · refine fin ?_
    rcases Nat.lt_or_ge (i + t) (hxn (xN x)) with h1 | h1
    · exact cml_e2 (by omega)
    · exact cml_e1 h1
  · have hl1 : ltr (xN x) (i + t) < 2 ^ 31 := Nat.lt_trans (dgt_lt _ _) (by decide)
    have hl2 : ltr (xN y) (j + t) < 2 ^ 31 := Nat.lt_trans (dgt_lt _ _) (by decide)
    first | refine v_aload_n hc (i := 0) rfl dX3_countAlike_27 rfl ?_ | refine v_aload_nN hc (i := 0) rfl dX3_countAlike_27 rfl ?_
    refine v_iload_n hc (i := 1) rfl dX3_countAlike_28 rfl ?_
    refine v_iload hc dX3_countAlike_29 rfl ?_
    first | refine v_iaddN hc dX3_countAlike_31 ?_ | refine v_iadd hc dX3_countAlike_31 ?_
    refine v_callVi hc (c_X1_letter ha hx (i := i + t) (by omega)) (cwV 1 hc.1.2.2.2.2 gX3_countAlike_X1_letter rfl rfl rfl (by decide +kernel) ⟨Nat.le_of_ble_eq_true rfl, Nat.le_of_ble_eq_true rfl⟩) (ha) rfl rfl rfl (Nat.le_of_ble_eq_true rfl) ⟨(by first | exact Nat.le_of_ble_eq_true rfl | omega | (dsimp only; omega)), (by first | exact Nat.le_of_ble_eq_true rfl | omega | (dsimp only; omega))⟩ dX3_countAlike_32 (fun r w' hp => ?_)
    obtain ⟨rfl, rfl⟩ := hp
    first | refine v_aload_n hc (i := 2) rfl dX3_countAlike_35 rfl ?_ | refine v_aload_nN hc (i := 2) rfl dX3_countAlike_35 rfl ?_
    refine v_iload_n hc (i := 3) rfl dX3_countAlike_36 rfl ?_
    refine v_iload hc dX3_countAlike_37 rfl ?_
    first | refine v_iaddN hc dX3_countAlike_39 ?_ | refine v_iadd hc dX3_countAlike_39 ?_
    refine v_callVi hc (c_X1_letter hbb hy (i := j + t) (by omega)) (cwV 1 hc.1.2.2.2.2 gX3_countAlike_X1_letter rfl rfl rfl (by decide +kernel) ⟨Nat.le_of_ble_eq_true rfl, Nat.le_of_ble_eq_true rfl⟩) (hbb) rfl rfl rfl (Nat.le_of_ble_eq_true rfl) ⟨(by first | exact Nat.le_of_ble_eq_true rfl | omega | (dsimp only; omega)), (by first | exact Nat.le_of_ble_eq_true rfl | omega | (dsimp only; omega))⟩ dX3_countAlike_40 (fun r w' hp => ?_)
    obtain ⟨rfl, rfl⟩ := hp
    refine v_icmp_neN hc (tgt := 52) dX3_countAlike_43 (by decide) hl1 hl2 (fun hne => ?_) (fun heq => ?_)
    · exact fin (cml_ne hne)
    · first | refine v_iinc1 hc dX3_countAlike_46 rfl (by decide) rfl ?_ | refine v_iinc hc dX3_countAlike_46 rfl rfl (by decide) rfl ?_
      refine v_goto hc (tgt := 20) dX3_countAlike_49 (by decide) ?_
      exact ih (t + 1) _ rfl ⟨by omega, by rw [cml_eq (by omega) (by omega) heq] at hI; rw [← hI, ← Nat.add_assoc, ← Nat.add_assoc]; omega⟩ (by omega)
theorem max_nI {u v : Nat} (hu : u < 2 ^ 31) (hv : v < 2 ^ 31) : (if nI u < nI v then nI v else nI u) = nI (max u v) := by
  by_cases hc1 : u < v
  · rw [if_pos ((nI_ltI hu hv).mpr hc1)]; congr 1; omega
  · rw [if_neg (fun z => hc1 ((nI_ltI hu hv).mp z))]; congr 1; omega
set_option maxRecDepth 100000 in
set_option maxHeartbeats 4000000 in
theorem c_X3_longestCopy (ha : w a = some (.inr (4, itf i0 nm x lv lo f g))) (hbb : w b = some (.inr (4, itf j0 nm2 y lv2 lo2 f2 g2))) (hx : isC x = true) (hy : isC y = true) {i : Nat} (hi : i ≤ hxn (xN x)) : Met l yX3_longestCopy wsX3_longestCopy ({ frames := 11, cells := 0, slots := 0, locals := 189 } : Room) (Pw G A w [.ref a, .int (nI i), .ref b]) (va_Qi (fun r w' => w = w' ∧ r = nI (lgs (xN x) (xN y) i)) (Bw G A) A) 0 0 A := by
  refine m_of (cc := cX3_longestCopy) (maxL := 5) (ret := (some .int)) (by decide) rfl (Nat.le_of_ble_eq_true rfl) ?_
  intro p e s m args below meth c hc hr hmn
  refine v_loc [(0, some (.ref a)), (1, some (.int (nI i))), (2, some (.ref b))] rfl ?_
  have hx15 := isC_15 hx
  have hy15 := isC_15 hy
  refine v_iconst hc (v := nI 0) dX3_longestCopy_0 (by decide) ?_
  refine v_istore_n hc (i := 3) rfl dX3_longestCopy_1 (by decide) rfl ?_
  refine v_iconst hc (v := nI 0) dX3_longestCopy_2 (by decide) ?_
  refine v_istore hc dX3_longestCopy_3 (by decide) rfl ?_
  refine v_loop (σ := Nat) (fun t => t ≤ hxn (xN y)) (fun t => hxn (xN y) - t) (fun _ => w) (fun _ => 0) (fun _ => 0) (fun t => [(0, some (.ref a)), (1, some (.int (nI i))), (2, some (.ref b)), (3, some (.int (nI (lgr (xN x) (xN y) i t)))), (4, some (.int (nI t)))]) 0 rfl (Nat.zero_le _) ?_
  intro t ht ih
  refine v_iload hc dX3_longestCopy_5 rfl ?_
  first | refine v_aload_n hc (i := 2) rfl dX3_longestCopy_7 rfl ?_ | refine v_aload_nN hc (i := 2) rfl dX3_longestCopy_7 rfl ?_
  refine v_get hc 3 (ci := 4) rfl (by decide +kernel) (by decide) (by decide +kernel) (fun _ h => h) dX3_longestCopy_8 (hbb) rfl ?_
  refine v_icmp_geN hc (tgt := 33) dX3_longestCopy_11 (by decide) (by omega) (by omega) (fun hb => ?_) (fun hb => ?_)
  · have e : t = hxn (xN y) := by omega
    subst e
    refine v_iload_n hc (i := 3) rfl dX3_longestCopy_33 rfl ?_
    exact v_iret hc hr dX3_longestCopy_34 (by first | exact Nat.le_of_ble_eq_true rfl | omega | (dsimp only; omega)) (by first | exact Nat.le_of_ble_eq_true rfl | omega | (dsimp only; omega)) (⟨rfl, rfl⟩)
  · have hl1 := cml_le (xN x) (xN y) i t
    have hl2 := lgr_le (xN x) (xN y) i t
    refine v_iload_n hc (i := 3) rfl dX3_longestCopy_14 rfl ?_
    first | refine v_aload_n hc (i := 0) rfl dX3_longestCopy_15 rfl ?_ | refine v_aload_nN hc (i := 0) rfl dX3_longestCopy_15 rfl ?_
    refine v_iload_n hc (i := 1) rfl dX3_longestCopy_16 rfl ?_
    first | refine v_aload_n hc (i := 2) rfl dX3_longestCopy_17 rfl ?_ | refine v_aload_nN hc (i := 2) rfl dX3_longestCopy_17 rfl ?_
    refine v_iload hc dX3_longestCopy_18 rfl ?_
    refine v_callSi hc (c_X3_countAlike ha hbb hx hy hi ht) (va_cwS 4 hc.1.2.2.2.2 gX3_longestCopy_X3_countAlike rfl rfl rfl (by decide +kernel) ⟨Nat.le_of_ble_eq_true rfl, Nat.le_of_ble_eq_true rfl⟩) rfl rfl (Nat.le_of_ble_eq_true rfl) ⟨(by first | exact Nat.le_of_ble_eq_true rfl | omega | (dsimp only; omega)), (by first | exact Nat.le_of_ble_eq_true rfl | omega | (dsimp only; omega))⟩ dX3_longestCopy_20 (fun r w' hp => ?_)
    obtain ⟨rfl, rfl⟩ := hp
    refine v_mmax hc (by decide +kernel) (by decide +kernel) (by decide +kernel) (by decide +kernel) (Nat.le_of_ble_eq_true rfl) (Nat.le_of_ble_eq_true rfl) (by first | exact Nat.le_of_ble_eq_true rfl | omega | (dsimp only; omega)) (by first | exact Nat.le_of_ble_eq_true rfl | omega | (dsimp only; omega)) dX3_longestCopy_23 ?_
    refine v_ti (max_nI (by omega) (by omega)) ?_
    refine v_istore_n hc (i := 3) rfl dX3_longestCopy_26 (by decide) rfl ?_
    first | refine v_iinc1 hc dX3_longestCopy_27 rfl (by decide) rfl ?_ | refine v_iinc hc dX3_longestCopy_27 rfl rfl (by decide) rfl ?_
    refine v_goto hc (tgt := 5) dX3_longestCopy_30 (by decide) ?_
    exact ih (t + 1) _ rfl hb (by omega)
set_option maxRecDepth 100000 in
set_option maxHeartbeats 4000000 in
theorem c_X3_weighParts (ha : w a = some (.inr (4, itf i0 nm x lv lo f g))) (hbb : w b = some (.inr (4, itf j0 nm2 y lv2 lo2 f2 g2))) (hx : isC x = true) (hy : isC y = true) (cw : Nat) (hcw : cw ≤ 2) : Met l yX3_weighParts wsX3_weighParts ({ frames := 12, cells := 0, slots := 0, locals := 213 } : Room) (Pw G A w [.ref a, .ref b, .int (nI cw)]) (va_Qi (fun r w' => w = w' ∧ r = nI (cw * cpt (xN x) (xN y) 0 + adt (xN x) (xN y) 0)) (Bw G A) A) 0 0 A := by
  refine m_of (cc := cX3_weighParts) (maxL := 6) (ret := (some .int)) (by decide) rfl (Nat.le_of_ble_eq_true rfl) ?_
  intro p e s m args below meth c hc hr hmn
  refine v_loc [(0, some (.ref a)), (1, some (.ref b)), (2, some (.int (nI cw)))] rfl ?_
  have hx15 := isC_15 hx
  refine v_iconst hc (v := nI 0) dX3_weighParts_0 (by decide) ?_
  refine v_istore_n hc (i := 3) rfl dX3_weighParts_1 (by decide) rfl ?_
  refine v_iconst hc (v := nI 0) dX3_weighParts_2 (by decide) ?_
  refine v_istore hc dX3_weighParts_3 (by decide) rfl ?_
  refine v_loop (σ := Nat × Nat) (fun t => t.1 ≤ hxn (xN x) ∧ t.2 + (cw * cpt (xN x) (xN y) t.1 + adt (xN x) (xN y) t.1) = cw * cpt (xN x) (xN y) 0 + adt (xN x) (xN y) 0) (fun t => hxn (xN x) - t.1) (fun _ => w) (fun _ => 0) (fun _ => 0) (fun t => [(0, some (.ref a)), (1, some (.ref b)), (2, some (.int (nI cw))), (3, some (.int (nI t.2))), (4, some (.int (nI t.1)))]) (0, 0) rfl ⟨Nat.zero_le _, Nat.zero_add _⟩ ?_
  rintro ⟨i, wt⟩ ⟨hi, hI⟩ ih
  dsimp only at hi hI ih ⊢
  refine v_iload hc dX3_weighParts_5 rfl ?_
  first | refine v_aload_n hc (i := 0) rfl dX3_weighParts_7 rfl ?_ | refine v_aload_nN hc (i := 0) rfl dX3_weighParts_7 rfl ?_
  refine v_get hc 3 (ci := 4) rfl (by decide +kernel) (by decide) (by decide +kernel) (fun _ h => h) dX3_weighParts_8 (ha) rfl ?_
  refine v_icmp_geN hc (tgt := 52) dX3_weighParts_11 (by decide) (by omega) (by omega) (fun hb => ?_) (fun hb => ?_)
  · rw [cpt_end hb, adt_end hb] at hI
    refine v_iload_n hc (i := 3) rfl dX3_weighParts_52 rfl ?_
    exact v_iret hc hr dX3_weighParts_53 (by first | exact Nat.le_of_ble_eq_true rfl | omega | (dsimp only; omega)) (by first | exact Nat.le_of_ble_eq_true rfl | omega | (dsimp only; omega)) (⟨rfl, by rw [← hI]; rfl⟩)
  · have hlg := lgs_le (xN x) (xN y) i
    have hst1 := cpt_step (d := xN y) hb
    have hst2 := adt_step (d := xN y) hb
    have hnx := nxt_gt (xN x) (xN y) i
    have hnl := nxt_le (d := xN y) hb
    first | refine v_aload_n hc (i := 0) rfl dX3_weighParts_14 rfl ?_ | refine v_aload_nN hc (i := 0) rfl dX3_weighParts_14 rfl ?_
    refine v_iload hc dX3_weighParts_15 rfl ?_
    first | refine v_aload_n hc (i := 1) rfl dX3_weighParts_17 rfl ?_ | refine v_aload_nN hc (i := 1) rfl dX3_weighParts_17 rfl ?_
    refine v_callSi hc (c_X3_longestCopy ha hbb hx hy hi) (va_cwS 3 hc.1.2.2.2.2 gX3_weighParts_X3_longestCopy rfl rfl rfl (by decide +kernel) ⟨Nat.le_of_ble_eq_true rfl, Nat.le_of_ble_eq_true rfl⟩) rfl rfl (Nat.le_of_ble_eq_true rfl) ⟨(by first | exact Nat.le_of_ble_eq_true rfl | omega | (dsimp only; omega)), (by first | exact Nat.le_of_ble_eq_true rfl | omega | (dsimp only; omega))⟩ dX3_weighParts_18 (fun r w' hp => ?_)
    obtain ⟨rfl, rfl⟩ := hp
    refine v_istore hc dX3_weighParts_21 (by decide) rfl ?_
    refine v_iload hc dX3_weighParts_23 rfl ?_
    refine v_iconst hc (v := nI 2) dX3_weighParts_25 (by decide) ?_
    refine v_icmp_ltN hc (tgt := 43) dX3_weighParts_26 (by decide) (by omega) (by omega) (fun h2 => ?_) (fun h2 => ?_)
    · rw [if_neg (by omega)] at hst1 hst2
      have hnx2 : nxt (xN x) (xN y) i = i + 1 := by unfold nxt; rw [if_neg (by omega)]
      first | refine v_iinc1 hc dX3_weighParts_43 rfl (by decide) rfl ?_ | refine v_iinc hc dX3_weighParts_43 rfl rfl (by decide) rfl ?_
      first | refine v_iinc1 hc dX3_weighParts_46 rfl (by decide) rfl ?_ | refine v_iinc hc dX3_weighParts_46 rfl rfl (by decide) rfl ?_
      refine v_goto hc (tgt := 5) dX3_weighParts_49 (by decide) ?_
      rw [hst1, hst2, hnx2, Nat.zero_add] at hI
      exact ih (i + 1, wt + 1) _ rfl ⟨hb, by dsimp only; omega⟩ (by dsimp only; omega)
    · rw [if_pos (by omega)] at hst1 hst2
      have hnx2 : nxt (xN x) (xN y) i = i + lgs (xN x) (xN y) i := by unfold nxt; rw [if_pos (by omega)]
      refine v_iload_n hc (i := 3) rfl dX3_weighParts_29 rfl ?_
      refine v_iload_n hc (i := 2) rfl dX3_weighParts_30 rfl ?_
      first | refine v_iaddN hc dX3_weighParts_31 ?_ | refine v_iadd hc dX3_weighParts_31 ?_
      refine v_istore_n hc (i := 3) rfl dX3_weighParts_32 (by decide) rfl ?_
      refine v_iload hc dX3_weighParts_33 rfl ?_
      refine v_iload hc dX3_weighParts_35 rfl ?_
      first | refine v_iaddN hc dX3_weighParts_37 ?_ | refine v_iadd hc dX3_weighParts_37 ?_
      refine v_istore hc dX3_weighParts_38 (by decide) rfl ?_
      refine v_goto hc (tgt := 49) dX3_weighParts_40 (by decide) ?_
      refine v_goto hc (tgt := 5) dX3_weighParts_49 (by decide) ?_
      rw [hst1, hst2, hnx2, Nat.mul_add, Nat.mul_one, Nat.zero_add] at hI
      exact ih (i + lgs (xN x) (xN y) i, wt + cw) _ rfl ⟨by dsimp only; omega, by dsimp only; omega⟩ (by dsimp only; omega)
set_option maxRecDepth 100000 in
set_option maxHeartbeats 4000000 in
theorem c_X3_costAgainst (ha : w a = some (.inr (4, itf i0 nm x lv lo f g))) (hbb : w b = some (.inr (4, itf j0 nm2 y lv2 lo2 f2 g2))) (hx : isC x = true) (hy : isC y = true) : Met l yX3_costAgainst wsX3_costAgainst ({ frames := 13, cells := 0, slots := 0, locals := 238 } : Room) (Pw G A w [.ref a, .ref b]) (va_Qi (fun r w' => w = w' ∧ r = nI (dco (xN x) (xN y))) (Bw G A) A) 0 0 A := by
  refine m_of (cc := cX3_costAgainst) (maxL := 2) (ret := (some .int)) (by decide) rfl (Nat.le_of_ble_eq_true rfl) ?_
  intro p e s m args below meth c hc hr hmn
  refine v_loc [(0, some (.ref a)), (1, some (.ref b))] rfl ?_
  refine v_iconst hc (v := nI 1) dX3_costAgainst_0 (by decide) ?_
  first | refine v_aload_n hc (i := 0) rfl dX3_costAgainst_1 rfl ?_ | refine v_aload_nN hc (i := 0) rfl dX3_costAgainst_1 rfl ?_
  first | refine v_aload_n hc (i := 1) rfl dX3_costAgainst_2 rfl ?_ | refine v_aload_nN hc (i := 1) rfl dX3_costAgainst_2 rfl ?_
  refine v_iconst hc (v := nI 2) dX3_costAgainst_3 (by decide) ?_
  refine v_callSi hc (c_X3_weighParts ha hbb hx hy 2 (by decide)) (va_cwS 3 hc.1.2.2.2.2 gX3_costAgainst_X3_weighParts rfl rfl rfl (by decide +kernel) ⟨Nat.le_of_ble_eq_true rfl, Nat.le_of_ble_eq_true rfl⟩) rfl rfl (Nat.le_of_ble_eq_true rfl) ⟨(by first | exact Nat.le_of_ble_eq_true rfl | omega | (dsimp only; omega)), (by first | exact Nat.le_of_ble_eq_true rfl | omega | (dsimp only; omega))⟩ dX3_costAgainst_4 (fun r w' hp => ?_)
  obtain ⟨rfl, rfl⟩ := hp
  first | refine v_iaddN hc dX3_costAgainst_7 ?_ | refine v_iadd hc dX3_costAgainst_7 ?_
  exact v_iret hc hr dX3_costAgainst_8 (by first | exact Nat.le_of_ble_eq_true rfl | omega | (dsimp only; omega)) (by first | exact Nat.le_of_ble_eq_true rfl | omega | (dsimp only; omega)) (⟨rfl, by unfold dco; congr 1; omega⟩)
end DEL
set_option maxRecDepth 100000 in
set_option maxHeartbeats 4000000 in
theorem c_X1_init {a : Nat} (ha : w a = some (.inr (4, [.int 0, .int 0, .long 0, .int 0, .int 0, .int 0, .int 0, .null, .null]))) (i : Nat) (nm : Int32) (x : Int64) (hx : isC x = true) : Met l yX1_init wsX1_init ({ frames := 10, cells := 0, slots := 0, locals := 168 } : Room) (Pw G A w [.ref a, .int (nI i), .int nm, .long x]) (va_Qv (fun w' => w' = wup w a (.inr (4, itf i nm x true true none none))) (Bw G A) A) 0 0 A := by
  refine m_of (cc := cX1_init) (maxL := 5) (ret := none) (by decide) rfl (Nat.le_of_ble_eq_true rfl) ?_
  intro p e s m args below meth c hc hr hmn
  refine v_loc [(0, some (.ref a)), (1, some (.int (nI i))), (2, some (.int nm)), (3, some (.long x))] rfl ?_
  first | refine v_aload_n hc (i := 0) rfl dX1_init_0 rfl ?_ | refine v_aload_nN hc (i := 0) rfl dX1_init_0 rfl ?_
  refine v_objInit hc (by decide +kernel) (by decide +kernel) (by decide +kernel) (Nat.le_of_ble_eq_true rfl) (Nat.le_of_ble_eq_true rfl) dX1_init_1 ?_
  first | refine v_aload_n hc (i := 0) rfl dX1_init_4 rfl ?_ | refine v_aload_nN hc (i := 0) rfl dX1_init_4 rfl ?_
  refine v_iload_n hc (i := 1) rfl dX1_init_5 rfl ?_
  refine v_putF hc hmn 0 (ci := 4) rfl tyX1 tyX1_ok nmX1 (by decide +kernel) (by decide) (by decide +kernel) (fun _ h => h) rfl rfl (tyX1_ok 0 (by decide)) rfl rfl (Nat.le_of_ble_eq_true rfl) dX1_init_6 (ha) ?_
  first | refine v_aload_n hc (i := 0) rfl dX1_init_9 rfl ?_ | refine v_aload_nN hc (i := 0) rfl dX1_init_9 rfl ?_
  refine v_iload_n hc (i := 2) rfl dX1_init_10 rfl ?_
  refine v_putF hc hmn 1 (ci := 4) rfl tyX1 tyX1_ok nmX1 (by decide +kernel) (by decide) (by decide +kernel) (fun _ h => h) rfl rfl (tyX1_ok 1 (by decide)) rfl rfl (Nat.le_of_ble_eq_true rfl) dX1_init_11 (wup_s _ _ _) ?_
  rw [wup_up]
  first | refine v_aload_n hc (i := 0) rfl dX1_init_14 rfl ?_ | refine v_aload_nN hc (i := 0) rfl dX1_init_14 rfl ?_
  refine v_lload_n hc (i := 3) rfl dX1_init_15 rfl ?_
  refine v_putF hc hmn 2 (ci := 4) rfl tyX1 tyX1_ok nmX1 (by decide +kernel) (by decide) (by decide +kernel) (fun _ h => h) rfl rfl (tyX1_ok 2 (by decide)) rfl rfl (Nat.le_of_ble_eq_true rfl) dX1_init_16 (wup_s _ _ _) ?_
  rw [wup_up]
  first | refine v_aload_n hc (i := 0) rfl dX1_init_19 rfl ?_ | refine v_aload_nN hc (i := 0) rfl dX1_init_19 rfl ?_
  refine v_lload_n hc (i := 3) rfl dX1_init_20 rfl ?_
  refine v_callSNi (host := RX3) hc (c_X3_countLetters x hx) ⟨va_cnB 1 hc.1.2.2.2.2 gX1_init_X3_countLetters_n20 rfl rfl rfl (hc.2.1.2.2.2.2.2.1 _ (by decide +kernel)) (hc.1.2.2.2.2 (.initialized yX3_countLetters.cls) (by decide +kernel)) (by decide +kernel) ⟨Nat.le_of_ble_eq_true rfl, Nat.le_of_ble_eq_true rfl⟩, hc.1.2.2.2.2 (.static yX3_countLetters) (by decide +kernel), trivial⟩ rfl rfl (Nat.le_of_ble_eq_true rfl) ⟨(by first | exact Nat.le_of_ble_eq_true rfl | omega | (dsimp only; omega)), (by first | exact Nat.le_of_ble_eq_true rfl | omega | (dsimp only; omega))⟩ dX1_init_21 (fun r w' hp => ?_)
  obtain ⟨rfl, rfl⟩ := hp
  refine v_putF hc hmn 3 (ci := 4) rfl tyX1 tyX1_ok nmX1 (by decide +kernel) (by decide) (by decide +kernel) (fun _ h => h) rfl rfl (tyX1_ok 3 (by decide)) rfl rfl (Nat.le_of_ble_eq_true rfl) dX1_init_24 (wup_s _ _ _) ?_
  rw [wup_up]
  first | refine v_aload_n hc (i := 0) rfl dX1_init_27 rfl ?_ | refine v_aload_nN hc (i := 0) rfl dX1_init_27 rfl ?_
  refine v_lload_n hc (i := 3) rfl dX1_init_28 rfl ?_
  refine v_callSNi (host := RX3) hc (c_X3_hashOf x hx) ⟨va_cnB 1 hc.1.2.2.2.2 gX1_init_X3_hashOf_n29 rfl rfl rfl (hc.2.1.2.2.2.2.2.1 _ (by decide +kernel)) (hc.1.2.2.2.2 (.initialized yX3_hashOf.cls) (by decide +kernel)) (by decide +kernel) ⟨Nat.le_of_ble_eq_true rfl, Nat.le_of_ble_eq_true rfl⟩, hc.1.2.2.2.2 (.static yX3_hashOf) (by decide +kernel), trivial⟩ rfl rfl (Nat.le_of_ble_eq_true rfl) ⟨(by first | exact Nat.le_of_ble_eq_true rfl | omega | (dsimp only; omega)), (by first | exact Nat.le_of_ble_eq_true rfl | omega | (dsimp only; omega))⟩ dX1_init_29 (fun r w' hp => ?_)
  obtain ⟨rfl, rfl⟩ := hp
  refine v_putF hc hmn 4 (ci := 4) rfl tyX1 tyX1_ok nmX1 (by decide +kernel) (by decide) (by decide +kernel) (fun _ h => h) rfl rfl (tyX1_ok 4 (by decide)) rfl rfl (Nat.le_of_ble_eq_true rfl) dX1_init_32 (wup_s _ _ _) ?_
  rw [wup_up]
  first | refine v_aload_n hc (i := 0) rfl dX1_init_35 rfl ?_ | refine v_aload_nN hc (i := 0) rfl dX1_init_35 rfl ?_
  refine v_iconst hc (v := nI 1) dX1_init_36 (by decide) ?_
  refine v_put hc 5 (ci := 4) rfl tyX1 tyX1_ok nmX1 (by decide +kernel) (by decide) (by decide +kernel) (fun _ h => h) rfl (tyX1_ok 5 (by decide)) rfl rfl (Nat.le_of_ble_eq_true rfl) dX1_init_37 (wup_s _ _ _) ?_
  rw [wup_up]
  first | refine v_aload_n hc (i := 0) rfl dX1_init_40 rfl ?_ | refine v_aload_nN hc (i := 0) rfl dX1_init_40 rfl ?_
  refine v_iconst hc (v := nI 1) dX1_init_41 (by decide) ?_
  refine v_put hc 6 (ci := 4) rfl tyX1 tyX1_ok nmX1 (by decide +kernel) (by decide) (by decide +kernel) (fun _ h => h) rfl (tyX1_ok 6 (by decide)) rfl rfl (Nat.le_of_ble_eq_true rfl) dX1_init_42 (wup_s _ _ _) ?_
  rw [wup_up]
  first | refine v_aload_n hc (i := 0) rfl dX1_init_45 rfl ?_ | refine v_aload_nN hc (i := 0) rfl dX1_init_45 rfl ?_
  refine v_null hc dX1_init_46 ?_
  refine v_put hc 7 (ci := 4) rfl tyX1 tyX1_ok nmX1 (by decide +kernel) (by decide) (by decide +kernel) (fun _ h => h) rfl (tyX1_ok 7 (by decide)) rfl rfl (Nat.le_of_ble_eq_true rfl) dX1_init_47 (wup_s _ _ _) ?_
  rw [wup_up]
  first | refine v_aload_n hc (i := 0) rfl dX1_init_50 rfl ?_ | refine v_aload_nN hc (i := 0) rfl dX1_init_50 rfl ?_
  refine v_null hc dX1_init_51 ?_
  refine v_put hc 8 (ci := 4) rfl tyX1 tyX1_ok nmX1 (by decide +kernel) (by decide) (by decide +kernel) (fun _ h => h) rfl (tyX1_ok 8 (by decide)) rfl rfl (Nat.le_of_ble_eq_true rfl) dX1_init_52 (wup_s _ _ _) ?_
  rw [wup_up]
  exact v_vret hc hr dX1_init_55 (by first | exact Nat.le_of_ble_eq_true rfl | omega | (dsimp only; omega)) (by first | exact Nat.le_of_ble_eq_true rfl | omega | (dsimp only; omega)) (rfl)
set_option maxRecDepth 100000 in
set_option maxHeartbeats 4000000 in
theorem c_X0_init {a : Nat} (ha : w a = some (.inr (3, [.null, .int 0, .int 0, .int 0, .int 0]))) (b : Option Nat) (d q c0 : Int32) : Met l yX0_init wsX0_init ({ frames := 8, cells := 0, slots := 0, locals := 120 } : Room) (Pw G A w [.ref a, va_rf b, .int d, .int q, .int c0]) (va_Qv (fun w' => w' = wup w a (.inr (3, [va_rf b, .int d, .int q, .int c0, .int (nI 0)]))) (Bw G A) A) 0 0 A := by
  cases b with
  | none =>
    refine m_of (cc := cX0_init) (maxL := 5) (ret := none) (by decide) rfl (Nat.le_of_ble_eq_true rfl) ?_
    intro p e s m args below meth c hc hr hmn
    refine v_loc [(0, some (.ref a)), (1, some (.null)), (2, some (.int d)), (3, some (.int q)), (4, some (.int c0))] rfl ?_
    first | refine v_aload_n hc (i := 0) rfl dX0_init_0 rfl ?_ | refine v_aload_nN hc (i := 0) rfl dX0_init_0 rfl ?_
    refine v_objInit hc (by decide +kernel) (by decide +kernel) (by decide +kernel) (Nat.le_of_ble_eq_true rfl) (Nat.le_of_ble_eq_true rfl) dX0_init_1 ?_
    first | refine v_aload_n hc (i := 0) rfl dX0_init_4 rfl ?_ | refine v_aload_nN hc (i := 0) rfl dX0_init_4 rfl ?_
    first | refine v_aload_n hc (i := 1) rfl dX0_init_5 rfl ?_ | refine v_aload_nN hc (i := 1) rfl dX0_init_5 rfl ?_
    refine v_putF hc hmn 0 (ci := 3) rfl tyX0 tyX0_ok nmX0 (by decide +kernel) (by decide) (by decide +kernel) (fun _ h => h) rfl rfl (tyX0_ok 0 (by decide)) rfl rfl (Nat.le_of_ble_eq_true rfl) dX0_init_6 (ha) ?_
    first | refine v_aload_n hc (i := 0) rfl dX0_init_9 rfl ?_ | refine v_aload_nN hc (i := 0) rfl dX0_init_9 rfl ?_
    refine v_iload_n hc (i := 2) rfl dX0_init_10 rfl ?_
    refine v_putF hc hmn 1 (ci := 3) rfl tyX0 tyX0_ok nmX0 (by decide +kernel) (by decide) (by decide +kernel) (fun _ h => h) rfl rfl (tyX0_ok 1 (by decide)) rfl rfl (Nat.le_of_ble_eq_true rfl) dX0_init_11 (wup_s _ _ _) ?_
    rw [wup_up]
    first | refine v_aload_n hc (i := 0) rfl dX0_init_14 rfl ?_ | refine v_aload_nN hc (i := 0) rfl dX0_init_14 rfl ?_
    refine v_iload_n hc (i := 3) rfl dX0_init_15 rfl ?_
    refine v_putF hc hmn 2 (ci := 3) rfl tyX0 tyX0_ok nmX0 (by decide +kernel) (by decide) (by decide +kernel) (fun _ h => h) rfl rfl (tyX0_ok 2 (by decide)) rfl rfl (Nat.le_of_ble_eq_true rfl) dX0_init_16 (wup_s _ _ _) ?_
    rw [wup_up]
    first | refine v_aload_n hc (i := 0) rfl dX0_init_19 rfl ?_ | refine v_aload_nN hc (i := 0) rfl dX0_init_19 rfl ?_
    refine v_iload hc dX0_init_20 rfl ?_
    refine v_putF hc hmn 3 (ci := 3) rfl tyX0 tyX0_ok nmX0 (by decide +kernel) (by decide) (by decide +kernel) (fun _ h => h) rfl rfl (tyX0_ok 3 (by decide)) rfl rfl (Nat.le_of_ble_eq_true rfl) dX0_init_22 (wup_s _ _ _) ?_
    rw [wup_up]
    first | refine v_aload_n hc (i := 0) rfl dX0_init_25 rfl ?_ | refine v_aload_nN hc (i := 0) rfl dX0_init_25 rfl ?_
    refine v_iconst hc (v := nI 0) dX0_init_26 (by decide) ?_
    refine v_put hc 4 (ci := 3) rfl tyX0 tyX0_ok nmX0 (by decide +kernel) (by decide) (by decide +kernel) (fun _ h => h) rfl (tyX0_ok 4 (by decide)) rfl rfl (Nat.le_of_ble_eq_true rfl) dX0_init_27 (wup_s _ _ _) ?_
    rw [wup_up]
    exact v_vret hc hr dX0_init_30 (by first | exact Nat.le_of_ble_eq_true rfl | omega | (dsimp only; omega)) (by first | exact Nat.le_of_ble_eq_true rfl | omega | (dsimp only; omega)) (rfl)
  | some b =>
    refine m_of (cc := cX0_init) (maxL := 5) (ret := none) (by decide) rfl (Nat.le_of_ble_eq_true rfl) ?_
    intro p e s m args below meth c hc hr hmn
    refine v_loc [(0, some (.ref a)), (1, some (.ref b)), (2, some (.int d)), (3, some (.int q)), (4, some (.int c0))] rfl ?_
    first | refine v_aload_n hc (i := 0) rfl dX0_init_0 rfl ?_ | refine v_aload_nN hc (i := 0) rfl dX0_init_0 rfl ?_
    refine v_objInit hc (by decide +kernel) (by decide +kernel) (by decide +kernel) (Nat.le_of_ble_eq_true rfl) (Nat.le_of_ble_eq_true rfl) dX0_init_1 ?_
    first | refine v_aload_n hc (i := 0) rfl dX0_init_4 rfl ?_ | refine v_aload_nN hc (i := 0) rfl dX0_init_4 rfl ?_
    first | refine v_aload_n hc (i := 1) rfl dX0_init_5 rfl ?_ | refine v_aload_nN hc (i := 1) rfl dX0_init_5 rfl ?_
    refine v_putF hc hmn 0 (ci := 3) rfl tyX0 tyX0_ok nmX0 (by decide +kernel) (by decide) (by decide +kernel) (fun _ h => h) rfl rfl (tyX0_ok 0 (by decide)) rfl rfl (Nat.le_of_ble_eq_true rfl) dX0_init_6 (ha) ?_
    first | refine v_aload_n hc (i := 0) rfl dX0_init_9 rfl ?_ | refine v_aload_nN hc (i := 0) rfl dX0_init_9 rfl ?_
    refine v_iload_n hc (i := 2) rfl dX0_init_10 rfl ?_
    refine v_putF hc hmn 1 (ci := 3) rfl tyX0 tyX0_ok nmX0 (by decide +kernel) (by decide) (by decide +kernel) (fun _ h => h) rfl rfl (tyX0_ok 1 (by decide)) rfl rfl (Nat.le_of_ble_eq_true rfl) dX0_init_11 (wup_s _ _ _) ?_
    rw [wup_up]
    first | refine v_aload_n hc (i := 0) rfl dX0_init_14 rfl ?_ | refine v_aload_nN hc (i := 0) rfl dX0_init_14 rfl ?_
    refine v_iload_n hc (i := 3) rfl dX0_init_15 rfl ?_
    refine v_putF hc hmn 2 (ci := 3) rfl tyX0 tyX0_ok nmX0 (by decide +kernel) (by decide) (by decide +kernel) (fun _ h => h) rfl rfl (tyX0_ok 2 (by decide)) rfl rfl (Nat.le_of_ble_eq_true rfl) dX0_init_16 (wup_s _ _ _) ?_
    rw [wup_up]
    first | refine v_aload_n hc (i := 0) rfl dX0_init_19 rfl ?_ | refine v_aload_nN hc (i := 0) rfl dX0_init_19 rfl ?_
    refine v_iload hc dX0_init_20 rfl ?_
    refine v_putF hc hmn 3 (ci := 3) rfl tyX0 tyX0_ok nmX0 (by decide +kernel) (by decide) (by decide +kernel) (fun _ h => h) rfl rfl (tyX0_ok 3 (by decide)) rfl rfl (Nat.le_of_ble_eq_true rfl) dX0_init_22 (wup_s _ _ _) ?_
    rw [wup_up]
    first | refine v_aload_n hc (i := 0) rfl dX0_init_25 rfl ?_ | refine v_aload_nN hc (i := 0) rfl dX0_init_25 rfl ?_
    refine v_iconst hc (v := nI 0) dX0_init_26 (by decide) ?_
    refine v_put hc 4 (ci := 3) rfl tyX0 tyX0_ok nmX0 (by decide +kernel) (by decide) (by decide +kernel) (fun _ h => h) rfl (tyX0_ok 4 (by decide)) rfl rfl (Nat.le_of_ble_eq_true rfl) dX0_init_27 (wup_s _ _ _) ?_
    rw [wup_up]
    exact v_vret hc hr dX0_init_30 (by first | exact Nat.le_of_ble_eq_true rfl | omega | (dsimp only; omega)) (by first | exact Nat.le_of_ble_eq_true rfl | omega | (dsimp only; omega)) (rfl)
set_option maxRecDepth 100000 in
set_option maxHeartbeats 4000000 in
theorem c_X2_init {a : Nat} (ha : w a = some (.inr (5, [.null, .int 0]))) : Met l yX2_init wsX2_init ({ frames := 8, cells := 0, slots := 0, locals := 120 } : Room) (Pw G A w [.ref a]) (va_Qv (fun w' => w' = wup w a (.inr (5, [.null, .int (nI 0)]))) (Bw G A) A) 0 0 A := by
  refine m_of (cc := cX2_init) (maxL := 1) (ret := none) (by decide) rfl (Nat.le_of_ble_eq_true rfl) ?_
  intro p e s m args below meth c hc hr hmn
  refine v_loc [(0, some (.ref a))] rfl ?_
  first | refine v_aload_n hc (i := 0) rfl dX2_init_0 rfl ?_ | refine v_aload_nN hc (i := 0) rfl dX2_init_0 rfl ?_
  refine v_objInit hc (by decide +kernel) (by decide +kernel) (by decide +kernel) (Nat.le_of_ble_eq_true rfl) (Nat.le_of_ble_eq_true rfl) dX2_init_1 ?_
  first | refine v_aload_n hc (i := 0) rfl dX2_init_4 rfl ?_ | refine v_aload_nN hc (i := 0) rfl dX2_init_4 rfl ?_
  refine v_null hc dX2_init_5 ?_
  refine v_put hc 0 (ci := 5) rfl tyX2 tyX2_ok nmX2 (by decide +kernel) (by decide) (by decide +kernel) (fun _ h => h) rfl (tyX2_ok 0 (by decide)) rfl rfl (Nat.le_of_ble_eq_true rfl) dX2_init_6 (ha) ?_
  first | refine v_aload_n hc (i := 0) rfl dX2_init_9 rfl ?_ | refine v_aload_nN hc (i := 0) rfl dX2_init_9 rfl ?_
  refine v_iconst hc (v := nI 0) dX2_init_10 (by decide) ?_
  refine v_put hc 1 (ci := 5) rfl tyX2 tyX2_ok nmX2 (by decide +kernel) (by decide) (by decide +kernel) (fun _ h => h) rfl (tyX2_ok 1 (by decide)) rfl rfl (Nat.le_of_ble_eq_true rfl) dX2_init_11 (wup_s _ _ _) ?_
  rw [wup_up]
  exact v_vret hc hr dX2_init_14 (by first | exact Nat.le_of_ble_eq_true rfl | omega | (dsimp only; omega)) (by first | exact Nat.le_of_ble_eq_true rfl | omega | (dsimp only; omega)) (rfl)
end CL1

