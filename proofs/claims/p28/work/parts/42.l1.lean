/-! ===== the law's letters, its sum of all, its deltas ===== -/
def al0 (n : Nat) (fm : Nat → Option Frm) (O : List Nat) (cp ru : Int32) : Int64 := (nI n).toInt64 + 7 * (nI O.length).toInt64 + 101 * (nI (sumL (cst fm) O)).toInt64 + 1009 * cp.toInt64 + 10007 * ru.toInt64
def alR (n : Nat) (lv lo : Nat → Bool) (fm : Nat → Option Frm) (O : List Nat) (cp ru : Int32) : Nat → Int64
  | 0 => al0 n fm O cp ru
  | k + 1 => 1000003 * alR n lv lo fm O cp ru k + (ofr (fun g => nI g.2.2.2.1) fm k).toInt64 + 31 * (ofr (fun g => nIo g.1) fm k).toInt64 + 257 * (ofr (fun g => nI g.2.1) fm k).toInt64 + 17 * (ofr (fun _ => nI (sumL (fun j => b1 (dpk fm j k)) O)) fm k).toInt64 + cond (lv k) 5 0 + cond (lo k) 11 0 + cond (rdb lv lo fm k) 23 0
theorem p216 (k : Nat) : 1 * 2 ^ (4 * k) = 16 ^ k := by rw [Nat.pow_mul, Nat.one_mul]
section LW1
variable {l : Launch} {G : cG} {A : Nat → Prop} {w : wd} {px pI pO pX n ca : Nat} {ia : Nat → Nat} {nm : Nat → Int32} {ct fc : Nat → Int64} {lv lo : Nat → Bool} {fa fb : Nat → Option Nat} {fm : Nat → Option Frm} {O X : List Nat} {cp ru : Int32}
set_option maxRecDepth 100000 in
set_option maxHeartbeats 4000000 in
theorem c_L_letters (x : Int64) (hx : isC x = true) : Met l yL_letters wsL_letters ({ frames := 8, cells := 0, slots := 0, locals := 120 } : Room) (Pw G A w [.long x]) (va_Qi (fun r w' => w = w' ∧ r = nI (hxn (xN x))) (Bw G A) A) 0 0 A := by
  refine m_of (cc := cL_letters) (maxL := 3) (ret := (some .int)) (by decide) rfl (Nat.le_of_ble_eq_true rfl) ?_
  intro p e s m args below meth c hc hr hmn
  refine v_loc [(0, some (.long x))] rfl ?_
  have h1 := isC_ge hx
  have h15 := isC_15 hx
  obtain ⟨-, hlt, hxe⟩ := xN_of (xN_pos.mpr (isC_pos hx))
  have hcmp : ∀ k, k ≤ 15 → (x < lN (16 ^ k) ↔ xN x < 16 ^ k) := fun k hk => by
    have hp : 16 ^ k ≤ 16 ^ 15 := Nat.pow_le_pow_right (by decide) hk
    rw [e1615] at hp
    have h63 := e63
    generalize xN x = v at hlt hxe ⊢
    subst hxe
    exact pk_lLT hlt (by omega)
  refine v_iconst hc (v := nI 1) dL_letters_0 (by decide) ?_
  refine v_istore_n hc (i := 2) rfl dL_letters_1 (by decide) rfl ?_
  refine v_loop (σ := Nat) (fun k => 1 ≤ k ∧ k ≤ hxn (xN x)) (fun k => 15 - k) (fun _ => w) (fun _ => 0) (fun _ => 0) (fun k => [(0, some (.long x)), (2, some (.int (nI k)))]) 1 rfl ⟨Nat.le_refl _, h1⟩ ?_
  rintro k ⟨hk1, hk2⟩ ihQ
  refine v_lload_n hc (i := 0) rfl dL_letters_2 rfl ?_
  refine v_lconst hc (v := 1) dL_letters_3 (by decide) ?_
  refine v_iconst hc (v := nI 4) dL_letters_4 (by decide) ?_
  refine v_iload_n hc (i := 2) rfl dL_letters_5 rfl ?_
  first | refine v_imulN hc dL_letters_6 ?_ | refine v_imul hc dL_letters_6 ?_
  refine v_lshl hc dL_letters_7 ?_
  refine v_tl (show _ = lN (16 ^ k) by rw [show (1 : Int64) = lN 1 by decide, wb_shl 1 (by omega), p216]) ?_
  refine v_lcmp hc dL_letters_8 ?_
  refine v_ifL_lt hc (tgt := 24) dL_letters_9 (by decide) (fun hb => ?_) (fun hb => ?_)
  · have hb := (hcmp k (by omega)).mp hb
    have h9 := hxl_more k 16 (xN x) hb (by omega)
    have h8 := hxl_le k (xN x)
    have e : hxn (xN x) = k := by unfold hxn at hk2 ⊢; omega
    refine v_iload_n hc (i := 2) rfl dL_letters_24 rfl ?_
    exact v_iret hc hr dL_letters_25 (by first | exact Nat.le_of_ble_eq_true rfl | omega | (dsimp only; omega) | (show _ ≤ 600130; omega) | (show _ ≤ 7301080; omega)) (by first | exact Nat.le_of_ble_eq_true rfl | omega | (dsimp only; omega) | (show _ ≤ 600130; omega) | (show _ ≤ 7301080; omega)) (⟨rfl, by rw [e]⟩)
  · have hb : 16 ^ k ≤ xN x := Nat.not_lt.mp (fun z => le64.mp hb ((hcmp k (by omega)).mpr z))
    have h9 := hxl_ge 16 (xN x) k hb (by omega)
    have h8 : k < hxn (xN x) := h9
    refine v_iload_n hc (i := 2) rfl dL_letters_12 rfl ?_
    refine v_bipush hc (v := nI 15) dL_letters_13 (by decide) ?_
    refine v_icmp_geN hc (tgt := 24) dL_letters_15 (by decide) (by omega) (by omega) (fun hb => False.elim (by omega)) (fun _ => ?_)
    first | refine v_iinc1 hc dL_letters_18 rfl (by decide) rfl ?_ | refine v_iinc hc dL_letters_18 rfl rfl (by decide) rfl ?_
    refine v_goto hc (tgt := 2) dL_letters_21 (by decide) ?_
    exact ihQ (k + 1) _ rfl ⟨by omega, h8⟩ (by omega)
set_option maxRecDepth 100000 in
set_option maxHeartbeats 4000000 in
theorem c_L_all (hl : l.stackTraces = false) (hP : PC G w px pI pO pX n ia nm ct lv lo fa fb O X cp ru) (hF : FW w n ia fa fm) (hC : CH n fm) : Met l yL_all wsL_all ({ frames := 15, cells := 700, slots := 4300, locals := 273 } : Room) (Pw G A w [.ref px]) (va_Ql (fun r w' => w = w' ∧ r = alR n lv lo fm O cp ru n) (Bw G A) A) 700 4300 A := by
  refine m_of (cc := cL_all) (maxL := 4) (ret := (some .long)) (by decide) rfl (Nat.le_of_ble_eq_true rfl) ?_
  intro p e s m args below meth c hc hr hmn
  refine v_loc [(0, some (.ref px))] rfl ?_
  have hn := hP.n40
  first | refine v_aload_n hc (i := 0) rfl dL_all_0 rfl ?_ | refine v_aload_nN hc (i := 0) rfl dL_all_0 rfl ?_
  refine v_callVi hc (c_X3_objects hP) (cwV 0 hc.1.2.2.2.2 gL_all_X3_objects rfl rfl rfl (by decide +kernel) ⟨Nat.le_of_ble_eq_true rfl, Nat.le_of_ble_eq_true rfl⟩) (hP.1) rfl rfl rfl (Nat.le_of_ble_eq_true rfl) ⟨(by first | exact Nat.le_of_ble_eq_true rfl | omega | (dsimp only; omega) | (show _ ≤ 600130; omega) | (show _ ≤ 7301080; omega)), (by first | exact Nat.le_of_ble_eq_true rfl | omega | (dsimp only; omega) | (show _ ≤ 600130; omega) | (show _ ≤ 7301080; omega))⟩ dL_all_1 (fun r w' h => ?_)
  obtain ⟨rfl, rfl⟩ := h
  refine v_i2l hc dL_all_4 ?_
  refine v_ldc2 hc (v := 7) dL_all_5 (by decide +kernel) ?_
  first | refine v_aload_n hc (i := 0) rfl dL_all_8 rfl ?_ | refine v_aload_nN hc (i := 0) rfl dL_all_8 rfl ?_
  refine v_callVi hc (c_X3_forms hP) (cwV 0 hc.1.2.2.2.2 gL_all_X3_forms rfl rfl rfl (by decide +kernel) ⟨Nat.le_of_ble_eq_true rfl, Nat.le_of_ble_eq_true rfl⟩) (hP.1) rfl rfl rfl (Nat.le_of_ble_eq_true rfl) ⟨(by first | exact Nat.le_of_ble_eq_true rfl | omega | (dsimp only; omega) | (show _ ≤ 600130; omega) | (show _ ≤ 7301080; omega)), (by first | exact Nat.le_of_ble_eq_true rfl | omega | (dsimp only; omega) | (show _ ≤ 600130; omega) | (show _ ≤ 7301080; omega))⟩ dL_all_9 (fun r w' h => ?_)
  obtain ⟨rfl, rfl⟩ := h
  refine v_i2l hc dL_all_12 ?_
  refine v_lmul hc dL_all_13 ?_
  refine v_ladd hc dL_all_14 ?_
  refine v_ldc2 hc (v := 101) dL_all_15 (by decide +kernel) ?_
  first | refine v_aload_n hc (i := 0) rfl dL_all_18 rfl ?_ | refine v_aload_nN hc (i := 0) rfl dL_all_18 rfl ?_
  refine v_callVi hc (c_X3_cost hP hF) (cwV 0 hc.1.2.2.2.2 gL_all_X3_cost rfl rfl rfl (by decide +kernel) ⟨Nat.le_of_ble_eq_true rfl, Nat.le_of_ble_eq_true rfl⟩) (hP.1) rfl rfl rfl (Nat.le_of_ble_eq_true rfl) ⟨(by first | exact Nat.le_of_ble_eq_true rfl | omega | (dsimp only; omega) | (show _ ≤ 600130; omega) | (show _ ≤ 7301080; omega)), (by first | exact Nat.le_of_ble_eq_true rfl | omega | (dsimp only; omega) | (show _ ≤ 600130; omega) | (show _ ≤ 7301080; omega))⟩ dL_all_19 (fun r w' h => ?_)
  obtain ⟨rfl, rfl⟩ := h
  refine v_i2l hc dL_all_22 ?_
  refine v_lmul hc dL_all_23 ?_
  refine v_ladd hc dL_all_24 ?_
  refine v_ldc2 hc (v := 1009) dL_all_25 (by decide +kernel) ?_
  first | refine v_aload_n hc (i := 0) rfl dL_all_28 rfl ?_ | refine v_aload_nN hc (i := 0) rfl dL_all_28 rfl ?_
  refine v_callVi hc (c_X3_compared hP) (cwV 0 hc.1.2.2.2.2 gL_all_X3_compared rfl rfl rfl (by decide +kernel) ⟨Nat.le_of_ble_eq_true rfl, Nat.le_of_ble_eq_true rfl⟩) (hP.1) rfl rfl rfl (Nat.le_of_ble_eq_true rfl) ⟨(by first | exact Nat.le_of_ble_eq_true rfl | omega | (dsimp only; omega) | (show _ ≤ 600130; omega) | (show _ ≤ 7301080; omega)), (by first | exact Nat.le_of_ble_eq_true rfl | omega | (dsimp only; omega) | (show _ ≤ 600130; omega) | (show _ ≤ 7301080; omega))⟩ dL_all_29 (fun r w' h => ?_)
  obtain ⟨rfl, hr9⟩ := h
  rw [hr9]
  refine v_i2l hc dL_all_32 ?_
  refine v_lmul hc dL_all_33 ?_
  refine v_ladd hc dL_all_34 ?_
  refine v_ldc2 hc (v := 10007) dL_all_35 (by decide +kernel) ?_
  first | refine v_aload_n hc (i := 0) rfl dL_all_38 rfl ?_ | refine v_aload_nN hc (i := 0) rfl dL_all_38 rfl ?_
  refine v_callVi hc (c_X3_reused hP) (cwV 0 hc.1.2.2.2.2 gL_all_X3_reused rfl rfl rfl (by decide +kernel) ⟨Nat.le_of_ble_eq_true rfl, Nat.le_of_ble_eq_true rfl⟩) (hP.1) rfl rfl rfl (Nat.le_of_ble_eq_true rfl) ⟨(by first | exact Nat.le_of_ble_eq_true rfl | omega | (dsimp only; omega) | (show _ ≤ 600130; omega) | (show _ ≤ 7301080; omega)), (by first | exact Nat.le_of_ble_eq_true rfl | omega | (dsimp only; omega) | (show _ ≤ 600130; omega) | (show _ ≤ 7301080; omega))⟩ dL_all_39 (fun r w' h => ?_)
  obtain ⟨rfl, hr9⟩ := h
  rw [hr9]
  refine v_i2l hc dL_all_42 ?_
  refine v_lmul hc dL_all_43 ?_
  refine v_ladd hc dL_all_44 ?_
  refine v_lstore_n hc (i := 1) rfl dL_all_45 (by decide) rfl ?_
  refine v_iconst hc (v := nI 0) dL_all_46 (by decide) ?_
  refine v_istore_n hc (i := 3) rfl dL_all_47 (by decide) rfl ?_
  refine v_loop (σ := Nat) (fun k => k ≤ n) (fun k => n - k) (fun _ => w) (fun k => k * 16) (fun k => k * 96) (fun k => [(0, some (.ref px)), (1, some (.long (alR n lv lo fm O cp ru k))), (3, some (.int (nI k)))]) 0 rfl (Nat.zero_le _) ?_
  intro k hk ihQ
  refine v_iload_n hc (i := 3) rfl dL_all_48 rfl ?_
  first | refine v_aload_n hc (i := 0) rfl dL_all_49 rfl ?_ | refine v_aload_nN hc (i := 0) rfl dL_all_49 rfl ?_
  refine v_callVi hc (c_X3_objects hP) (cwV 0 hc.1.2.2.2.2 gL_all_X3_objects rfl rfl rfl (by decide +kernel) ⟨Nat.le_of_ble_eq_true rfl, Nat.le_of_ble_eq_true rfl⟩) (hP.1) rfl rfl rfl (Nat.le_of_ble_eq_true rfl) ⟨(by first | exact Nat.le_of_ble_eq_true rfl | omega | (dsimp only; omega) | (show _ ≤ 600130; omega) | (show _ ≤ 7301080; omega)), (by first | exact Nat.le_of_ble_eq_true rfl | omega | (dsimp only; omega) | (show _ ≤ 600130; omega) | (show _ ≤ 7301080; omega))⟩ dL_all_50 (fun r w' h => ?_)
  obtain ⟨rfl, rfl⟩ := h
  refine v_icmp_geN hc (tgt := 161) dL_all_53 (by decide) (by omega) (by omega) (fun h1 => ?_) (fun h1 => ?_)
  · have e : k = n := by omega
    refine v_lload_n hc (i := 1) rfl dL_all_161 rfl ?_
    exact v_lret hc hr dL_all_162 (by first | exact Nat.le_of_ble_eq_true rfl | omega | (dsimp only; omega) | (show _ ≤ 600130; omega) | (show _ ≤ 7301080; omega)) (by first | exact Nat.le_of_ble_eq_true rfl | omega | (dsimp only; omega) | (show _ ≤ 600130; omega) | (show _ ≤ 7301080; omega)) (⟨rfl, by rw [e]⟩)
  · refine v_ldc2 hc (v := 1000003) dL_all_56 (by decide +kernel) ?_
    refine v_lload_n hc (i := 1) rfl dL_all_59 rfl ?_
    refine v_lmul hc dL_all_60 ?_
    first | refine v_aload_n hc (i := 0) rfl dL_all_61 rfl ?_ | refine v_aload_nN hc (i := 0) rfl dL_all_61 rfl ?_
    refine v_iconst hc (v := nI 2) dL_all_62 (by decide) ?_
    refine v_iload_n hc (i := 3) rfl dL_all_63 rfl ?_
    refine v_callSWi hc (q_of2 hl hP hF h1) (vx_cwSW 3 hc.1.2.2.2.2 gL_all_L_of rfl rfl rfl (by decide +kernel) ⟨Nat.le_of_ble_eq_true rfl, Nat.le_of_ble_eq_true rfl⟩) rfl rfl (Nat.le_of_ble_eq_true rfl) ⟨(by first | exact Nat.le_of_ble_eq_true rfl | omega | (dsimp only; omega) | (show _ ≤ 600130; omega) | (show _ ≤ 7301080; omega)), (by first | exact Nat.le_of_ble_eq_true rfl | omega | (dsimp only; omega) | (show _ ≤ 600130; omega) | (show _ ≤ 7301080; omega))⟩ dL_all_64 (fun r w' h => ?_)
    obtain ⟨rfl, rfl⟩ := h
    refine v_i2l hc dL_all_67 ?_
    refine v_ladd hc dL_all_68 ?_
    refine v_ldc2 hc (v := 31) dL_all_69 (by decide +kernel) ?_
    first | refine v_aload_n hc (i := 0) rfl dL_all_72 rfl ?_ | refine v_aload_nN hc (i := 0) rfl dL_all_72 rfl ?_
    refine v_iconst hc (v := nI 3) dL_all_73 (by decide) ?_
    refine v_iload_n hc (i := 3) rfl dL_all_74 rfl ?_
    refine v_callSWi hc (q_of3 hl hP hF hC h1) (vx_cwSW 3 hc.1.2.2.2.2 gL_all_L_of rfl rfl rfl (by decide +kernel) ⟨Nat.le_of_ble_eq_true rfl, Nat.le_of_ble_eq_true rfl⟩) rfl rfl (Nat.le_of_ble_eq_true rfl) ⟨(by first | exact Nat.le_of_ble_eq_true rfl | omega | (dsimp only; omega) | (show _ ≤ 600130; omega) | (show _ ≤ 7301080; omega)), (by first | exact Nat.le_of_ble_eq_true rfl | omega | (dsimp only; omega) | (show _ ≤ 600130; omega) | (show _ ≤ 7301080; omega))⟩ dL_all_75 (fun r w' h => ?_)
    obtain ⟨rfl, rfl⟩ := h
    refine v_i2l hc dL_all_78 ?_
    refine v_lmul hc dL_all_79 ?_
    refine v_ladd hc dL_all_80 ?_
    refine v_ldc2 hc (v := 257) dL_all_81 (by decide +kernel) ?_
    first | refine v_aload_n hc (i := 0) rfl dL_all_84 rfl ?_ | refine v_aload_nN hc (i := 0) rfl dL_all_84 rfl ?_
    refine v_iconst hc (v := nI 4) dL_all_85 (by decide) ?_
    refine v_iload_n hc (i := 3) rfl dL_all_86 rfl ?_
    refine v_callSWi hc (q_of4 hl hP hF h1) (vx_cwSW 3 hc.1.2.2.2.2 gL_all_L_of rfl rfl rfl (by decide +kernel) ⟨Nat.le_of_ble_eq_true rfl, Nat.le_of_ble_eq_true rfl⟩) rfl rfl (Nat.le_of_ble_eq_true rfl) ⟨(by first | exact Nat.le_of_ble_eq_true rfl | omega | (dsimp only; omega) | (show _ ≤ 600130; omega) | (show _ ≤ 7301080; omega)), (by first | exact Nat.le_of_ble_eq_true rfl | omega | (dsimp only; omega) | (show _ ≤ 600130; omega) | (show _ ≤ 7301080; omega))⟩ dL_all_87 (fun r w' h => ?_)
    obtain ⟨rfl, rfl⟩ := h
    refine v_i2l hc dL_all_90 ?_
    refine v_lmul hc dL_all_91 ?_
    refine v_ladd hc dL_all_92 ?_
    refine v_ldc2 hc (v := 17) dL_all_93 (by decide +kernel) ?_
    first | refine v_aload_n hc (i := 0) rfl dL_all_96 rfl ?_ | refine v_aload_nN hc (i := 0) rfl dL_all_96 rfl ?_
    refine v_bipush hc (v := nI 6) dL_all_97 (by decide) ?_
    refine v_iload_n hc (i := 3) rfl dL_all_99 rfl ?_
    refine v_callSWi hc (q_of6 hl hP hF hC h1) (vx_cwSW 3 hc.1.2.2.2.2 gL_all_L_of rfl rfl rfl (by decide +kernel) ⟨Nat.le_of_ble_eq_true rfl, Nat.le_of_ble_eq_true rfl⟩) rfl rfl (Nat.le_of_ble_eq_true rfl) ⟨(by first | exact Nat.le_of_ble_eq_true rfl | omega | (dsimp only; omega) | (show _ ≤ 600130; omega) | (show _ ≤ 7301080; omega)), (by first | exact Nat.le_of_ble_eq_true rfl | omega | (dsimp only; omega) | (show _ ≤ 600130; omega) | (show _ ≤ 7301080; omega))⟩ dL_all_100 (fun r w' h => ?_)
    obtain ⟨rfl, rfl⟩ := h
    refine v_i2l hc dL_all_103 ?_
    refine v_lmul hc dL_all_104 ?_
    refine v_ladd hc dL_all_105 ?_
    first | refine v_aload_n hc (i := 0) rfl dL_all_106 rfl ?_ | refine v_aload_nN hc (i := 0) rfl dL_all_106 rfl ?_
    refine v_iload_n hc (i := 3) rfl dL_all_107 rfl ?_
    refine v_callVi hc (q_isLive hl hP h1) (cwV 1 hc.1.2.2.2.2 gL_all_X3_isLive rfl rfl rfl (by decide +kernel) ⟨Nat.le_of_ble_eq_true rfl, Nat.le_of_ble_eq_true rfl⟩) (hP.1) rfl rfl rfl (Nat.le_of_ble_eq_true rfl) ⟨(by first | exact Nat.le_of_ble_eq_true rfl | omega | (dsimp only; omega) | (show _ ≤ 600130; omega) | (show _ ≤ 7301080; omega)), (by first | exact Nat.le_of_ble_eq_true rfl | omega | (dsimp only; omega) | (show _ ≤ 600130; omega) | (show _ ≤ 7301080; omega))⟩ dL_all_108 (fun r w' h => ?_)
    obtain ⟨rfl, rfl⟩ := h
    refine v_selL hc (x := 5) (y := 0) (tgt := 120) 121 dL_all_111 (by decide) (fun KQ => by refine v_ldc2 hc (v := 5) dL_all_114 (by decide +kernel) ?_; exact v_goto hc (tgt := 121) dL_all_117 (by decide) KQ) (fun KQ => by exact v_lconst hc (v := 0) dL_all_120 (by decide) KQ) ?_
    refine v_ladd hc dL_all_121 ?_
    first | refine v_aload_n hc (i := 0) rfl dL_all_122 rfl ?_ | refine v_aload_nN hc (i := 0) rfl dL_all_122 rfl ?_
    refine v_iload_n hc (i := 3) rfl dL_all_123 rfl ?_
    refine v_callVi hc (q_isLoose hl hP h1) (cwV 1 hc.1.2.2.2.2 gL_all_X3_isLoose rfl rfl rfl (by decide +kernel) ⟨Nat.le_of_ble_eq_true rfl, Nat.le_of_ble_eq_true rfl⟩) (hP.1) rfl rfl rfl (Nat.le_of_ble_eq_true rfl) ⟨(by first | exact Nat.le_of_ble_eq_true rfl | omega | (dsimp only; omega) | (show _ ≤ 600130; omega) | (show _ ≤ 7301080; omega)), (by first | exact Nat.le_of_ble_eq_true rfl | omega | (dsimp only; omega) | (show _ ≤ 600130; omega) | (show _ ≤ 7301080; omega))⟩ dL_all_124 (fun r w' h => ?_)
    obtain ⟨rfl, rfl⟩ := h
    refine v_selL hc (x := 11) (y := 0) (tgt := 136) 137 dL_all_127 (by decide) (fun KQ => by refine v_ldc2 hc (v := 11) dL_all_130 (by decide +kernel) ?_; exact v_goto hc (tgt := 137) dL_all_133 (by decide) KQ) (fun KQ => by exact v_lconst hc (v := 0) dL_all_136 (by decide) KQ) ?_
    refine v_ladd hc dL_all_137 ?_
    first | refine v_aload_n hc (i := 0) rfl dL_all_138 rfl ?_ | refine v_aload_nN hc (i := 0) rfl dL_all_138 rfl ?_
    refine v_iload_n hc (i := 3) rfl dL_all_139 rfl ?_
    refine v_callVi hc (q_canRead hl hP hF hC h1) (cwV 1 hc.1.2.2.2.2 gL_all_X3_canRead rfl rfl rfl (by decide +kernel) ⟨Nat.le_of_ble_eq_true rfl, Nat.le_of_ble_eq_true rfl⟩) (hP.1) rfl rfl rfl (Nat.le_of_ble_eq_true rfl) ⟨(by first | exact Nat.le_of_ble_eq_true rfl | omega | (dsimp only; omega) | (show _ ≤ 600130; omega) | (show _ ≤ 7301080; omega)), (by first | exact Nat.le_of_ble_eq_true rfl | omega | (dsimp only; omega) | (show _ ≤ 600130; omega) | (show _ ≤ 7301080; omega))⟩ dL_all_140 (fun r w' h => ?_)
    obtain ⟨rfl, rfl⟩ := h
    refine v_selL hc (x := 23) (y := 0) (tgt := 152) 153 dL_all_143 (by decide) (fun KQ => by refine v_ldc2 hc (v := 23) dL_all_146 (by decide +kernel) ?_; exact v_goto hc (tgt := 153) dL_all_149 (by decide) KQ) (fun KQ => by exact v_lconst hc (v := 0) dL_all_152 (by decide) KQ) ?_
    refine v_ladd hc dL_all_153 ?_
    refine v_lstore_n hc (i := 1) rfl dL_all_154 (by decide) rfl ?_
    first | refine v_iinc1 hc dL_all_155 rfl (by decide) rfl ?_ | refine v_iinc hc dL_all_155 rfl rfl (by decide) rfl ?_
    refine v_goto hc (tgt := 48) dL_all_158 (by decide) ?_
    refine v_widen (k' := (k + 1) * 16) (n' := (k + 1) * 96) (by omega) (by omega) ?_
    exact ihQ (k + 1) _ rfl h1 (by omega)
set_option maxRecDepth 100000 in
set_option maxHeartbeats 4000000 in
theorem c_L_areDeltas (hl : l.stackTraces = false) (hP : PC G w px pI pO pX n ia nm ct lv lo fa fb O X cp ru) (hct : ∀ i, i < n → isC (ct i) = true) (hca : w ca = some (aL G 40 fc)) (hfc : ∀ i, i < n → fc i = ct i) {i j : Nat} (hiQ : i < n) (hj : j < n) : Met l yL_areDeltas wsL_areDeltas ({ frames := 15, cells := 6, slots := 36, locals := 281 } : Room) (Pw G A w [.ref px, .ref ca, .int (nI i), .int (nI j)]) (va_Qi (fun r w' => w = w' ∧ r = bI true) (Bw G A) A) 6 36 A := by
  refine m_of (cc := cL_areDeltas) (maxL := 6) (ret := (some .boolean)) (by decide) rfl (Nat.le_of_ble_eq_true rfl) ?_
  intro p e s m args below meth c hc hr hmn
  refine v_loc [(0, some (.ref px)), (1, some (.ref ca)), (2, some (.int (nI i))), (3, some (.int (nI j)))] rfl ?_
  have hn := hP.n40
  have hx1 := isC_ge (hct i hiQ)
  have hx15 := isC_15 (hct i hiQ)
  have hd1 := dco_ge (d := xN (ct j)) hx1
  have hd2 := dco_le1 (xN (ct i)) (xN (ct j))
  have hs1 := hsh_lt (xN (ct i))
  have hs2 := hsh_lt (xN (ct j))
  first | refine v_aload_n hc (i := 0) rfl dL_areDeltas_0 rfl ?_ | refine v_aload_nN hc (i := 0) rfl dL_areDeltas_0 rfl ?_
  refine v_iload_n hc (i := 2) rfl dL_areDeltas_1 rfl ?_
  refine v_iload_n hc (i := 3) rfl dL_areDeltas_2 rfl ?_
  refine v_callVi hc (q_deltaCost hl hP hct hiQ hj) (cwV 2 hc.1.2.2.2.2 gL_areDeltas_X3_deltaCost rfl rfl rfl (by decide +kernel) ⟨Nat.le_of_ble_eq_true rfl, Nat.le_of_ble_eq_true rfl⟩) (hP.1) rfl rfl rfl (Nat.le_of_ble_eq_true rfl) ⟨(by first | exact Nat.le_of_ble_eq_true rfl | omega | (dsimp only; omega) | (show _ ≤ 600130; omega) | (show _ ≤ 7301080; omega)), (by first | exact Nat.le_of_ble_eq_true rfl | omega | (dsimp only; omega) | (show _ ≤ 600130; omega) | (show _ ≤ 7301080; omega))⟩ dL_areDeltas_3 (fun r w' h => ?_)
  obtain ⟨rfl, rfl⟩ := h
  refine v_istore hc dL_areDeltas_6 (by decide) rfl ?_
  first | refine v_aload_n hc (i := 1) rfl dL_areDeltas_8 rfl ?_ | refine v_aload_nN hc (i := 1) rfl dL_areDeltas_8 rfl ?_
  refine v_iload_n hc (i := 2) rfl dL_areDeltas_9 rfl ?_
  refine v_lald hc (i) dL_areDeltas_10 (hca) (rfl) (by omega) (by decide) ?_
  rw [hfc i hiQ]
  refine v_callSi hc (c_L_letters _ (hct i hiQ)) (va_cwS 1 hc.1.2.2.2.2 gL_areDeltas_L_letters rfl rfl rfl (by decide +kernel) ⟨Nat.le_of_ble_eq_true rfl, Nat.le_of_ble_eq_true rfl⟩) rfl rfl (Nat.le_of_ble_eq_true rfl) ⟨(by first | exact Nat.le_of_ble_eq_true rfl | omega | (dsimp only; omega) | (show _ ≤ 600130; omega) | (show _ ≤ 7301080; omega)), (by first | exact Nat.le_of_ble_eq_true rfl | omega | (dsimp only; omega) | (show _ ≤ 600130; omega) | (show _ ≤ 7301080; omega))⟩ dL_areDeltas_11 (fun r w' h => ?_)
  obtain ⟨rfl, rfl⟩ := h
  refine v_istore hc dL_areDeltas_14 (by decide) rfl ?_
  refine v_iload hc dL_areDeltas_16 rfl ?_
  refine v_iconst hc (v := nI 2) dL_areDeltas_18 (by decide) ?_
  refine v_icmp_ltN hc (tgt := 120) dL_areDeltas_19 (by decide) (by omega) (by omega) (fun hb => False.elim (by omega)) (fun _ => ?_)
  refine v_iload hc dL_areDeltas_22 rfl ?_
  refine v_iload hc dL_areDeltas_24 rfl ?_
  refine v_iconst hc (v := nI 1) dL_areDeltas_26 (by decide) ?_
  first | refine v_iaddN hc dL_areDeltas_27 ?_ | refine v_iadd hc dL_areDeltas_27 ?_
  refine v_icmp_gtN hc (tgt := 120) dL_areDeltas_28 (by decide) (by omega) (by omega) (fun hb => False.elim (by omega)) (fun _ => ?_)
  first | refine v_aload_n hc (i := 1) rfl dL_areDeltas_31 rfl ?_ | refine v_aload_nN hc (i := 1) rfl dL_areDeltas_31 rfl ?_
  refine v_iload_n hc (i := 2) rfl dL_areDeltas_32 rfl ?_
  refine v_lald hc (i) dL_areDeltas_33 (hca) (rfl) (by omega) (by decide) ?_
  first | refine v_aload_n hc (i := 1) rfl dL_areDeltas_34 rfl ?_ | refine v_aload_nN hc (i := 1) rfl dL_areDeltas_34 rfl ?_
  refine v_iload_n hc (i := 3) rfl dL_areDeltas_35 rfl ?_
  refine v_lald hc (j) dL_areDeltas_36 (hca) (rfl) (by omega) (by decide) ?_
  rw [hfc i hiQ, hfc j hj]
  refine v_lcmp hc dL_areDeltas_37 ?_
  refine v_cut 2 12 57 [(0, some (.ref px)), (1, some (.ref ca)), (2, some (.int (nI i))), (3, some (.int (nI j))), (4, some (.int (nI (dco (xN (ct i)) (xN (ct j)))))), (5, some (.int (nI (hxn (xN (ct i))))))] [] ?_ (fun KQ => ?_)
  · first | refine v_aload_n hc (i := 0) rfl dL_areDeltas_57 rfl ?_ | refine v_aload_nN hc (i := 0) rfl dL_areDeltas_57 rfl ?_
    refine v_iload_n hc (i := 2) rfl dL_areDeltas_58 rfl ?_
    refine v_iload_n hc (i := 2) rfl dL_areDeltas_59 rfl ?_
    refine v_callVi hc (q_deltaCost hl hP hct hiQ hiQ) (cwV 2 hc.1.2.2.2.2 gL_areDeltas_X3_deltaCost rfl rfl rfl (by decide +kernel) ⟨Nat.le_of_ble_eq_true rfl, Nat.le_of_ble_eq_true rfl⟩) (hP.1) rfl rfl rfl (Nat.le_of_ble_eq_true rfl) ⟨(by first | exact Nat.le_of_ble_eq_true rfl | omega | (dsimp only; omega) | (show _ ≤ 600130; omega) | (show _ ≤ 7301080; omega)), (by first | exact Nat.le_of_ble_eq_true rfl | omega | (dsimp only; omega) | (show _ ≤ 600130; omega) | (show _ ≤ 7301080; omega))⟩ dL_areDeltas_60 (fun r w' h => ?_)
    obtain ⟨rfl, rfl⟩ := h
    rw [dco_self hx1]
    refine v_iload hc dL_areDeltas_63 rfl ?_
    refine v_iconst hc (v := nI 1) dL_areDeltas_65 (by decide) ?_
    refine v_cut 4 24 77 [(0, some (.ref px)), (1, some (.ref ca)), (2, some (.int (nI i))), (3, some (.int (nI j))), (4, some (.int (nI (dco (xN (ct i)) (xN (ct j)))))), (5, some (.int (nI (hxn (xN (ct i))))))] [] ?_ (fun KQ => ?_)
    · refine v_cut 4 24 89 [(0, some (.ref px)), (1, some (.ref ca)), (2, some (.int (nI i))), (3, some (.int (nI j)))] [] ?_ (fun KQ => ?_)
      · first | refine v_aload_n hc (i := 0) rfl dL_areDeltas_89 rfl ?_ | refine v_aload_nN hc (i := 0) rfl dL_areDeltas_89 rfl ?_
        first | refine v_aload_n hc (i := 1) rfl dL_areDeltas_90 rfl ?_ | refine v_aload_nN hc (i := 1) rfl dL_areDeltas_90 rfl ?_
        refine v_iload_n hc (i := 2) rfl dL_areDeltas_91 rfl ?_
        refine v_lald hc (i) dL_areDeltas_92 (hca) (rfl) (by omega) (by decide) ?_
        rw [hfc i hiQ]
        refine v_callVi hc (q_hash hl hP (hct i hiQ)) (cwV 1 hc.1.2.2.2.2 gL_areDeltas_X3_hash rfl rfl rfl (by decide +kernel) ⟨Nat.le_of_ble_eq_true rfl, Nat.le_of_ble_eq_true rfl⟩) (hP.1) rfl rfl rfl (Nat.le_of_ble_eq_true rfl) ⟨(by first | exact Nat.le_of_ble_eq_true rfl | omega | (dsimp only; omega) | (show _ ≤ 600130; omega) | (show _ ≤ 7301080; omega)), (by first | exact Nat.le_of_ble_eq_true rfl | omega | (dsimp only; omega) | (show _ ≤ 600130; omega) | (show _ ≤ 7301080; omega))⟩ dL_areDeltas_93 (fun r w' h => ?_)
        obtain ⟨rfl, rfl⟩ := h
        first | refine v_aload_n hc (i := 0) rfl dL_areDeltas_96 rfl ?_ | refine v_aload_nN hc (i := 0) rfl dL_areDeltas_96 rfl ?_
        first | refine v_aload_n hc (i := 1) rfl dL_areDeltas_97 rfl ?_ | refine v_aload_nN hc (i := 1) rfl dL_areDeltas_97 rfl ?_
        refine v_iload_n hc (i := 3) rfl dL_areDeltas_98 rfl ?_
        refine v_lald hc (j) dL_areDeltas_99 (hca) (rfl) (by omega) (by decide) ?_
        rw [hfc j hj]
        refine v_callVi hc (q_hash hl hP (hct j hj)) (cwV 1 hc.1.2.2.2.2 gL_areDeltas_X3_hash rfl rfl rfl (by decide +kernel) ⟨Nat.le_of_ble_eq_true rfl, Nat.le_of_ble_eq_true rfl⟩) (hP.1) rfl rfl rfl (Nat.le_of_ble_eq_true rfl) ⟨(by first | exact Nat.le_of_ble_eq_true rfl | omega | (dsimp only; omega) | (show _ ≤ 600130; omega) | (show _ ≤ 7301080; omega)), (by first | exact Nat.le_of_ble_eq_true rfl | omega | (dsimp only; omega) | (show _ ≤ 600130; omega) | (show _ ≤ 7301080; omega))⟩ dL_areDeltas_100 (fun r w' h => ?_)
        obtain ⟨rfl, rfl⟩ := h
        refine v_icmp_eqN hc (tgt := 116) dL_areDeltas_103 (by decide) (by omega) (by omega) (fun he => ?_) (fun he => ?_)
        · refine v_iconst hc (v := nI 1) dL_areDeltas_116 (by decide) ?_
          refine v_goto hc (tgt := 121) dL_areDeltas_117 (by decide) ?_
          exact v_zret hc hr dL_areDeltas_121 (by first | exact Nat.le_of_ble_eq_true rfl | omega | (dsimp only; omega) | (show _ ≤ 600130; omega) | (show _ ≤ 7301080; omega)) (by first | exact Nat.le_of_ble_eq_true rfl | omega | (dsimp only; omega) | (show _ ≤ 600130; omega) | (show _ ≤ 7301080; omega)) (by first | rfl | exact bI_nar _) (⟨rfl, rfl⟩)
        · first | refine v_aload_n hc (i := 1) rfl dL_areDeltas_106 rfl ?_ | refine v_aload_nN hc (i := 1) rfl dL_areDeltas_106 rfl ?_
          refine v_iload_n hc (i := 2) rfl dL_areDeltas_107 rfl ?_
          refine v_lald hc (i) dL_areDeltas_108 (hca) (rfl) (by omega) (by decide) ?_
          first | refine v_aload_n hc (i := 1) rfl dL_areDeltas_109 rfl ?_ | refine v_aload_nN hc (i := 1) rfl dL_areDeltas_109 rfl ?_
          refine v_iload_n hc (i := 3) rfl dL_areDeltas_110 rfl ?_
          refine v_lald hc (j) dL_areDeltas_111 (hca) (rfl) (by omega) (by decide) ?_
          rw [hfc i hiQ, hfc j hj]
          refine v_lcmp hc dL_areDeltas_112 ?_
          refine v_ifL_eq hc (tgt := 120) dL_areDeltas_113 (by decide) (fun hb => False.elim (he (by rw [hb]))) (fun _ => ?_)
          refine v_iconst hc (v := nI 1) dL_areDeltas_116 (by decide) ?_
          refine v_goto hc (tgt := 121) dL_areDeltas_117 (by decide) ?_
          exact v_zret hc hr dL_areDeltas_121 (by first | exact Nat.le_of_ble_eq_true rfl | omega | (dsimp only; omega) | (show _ ≤ 600130; omega) | (show _ ≤ 7301080; omega)) (by first | exact Nat.le_of_ble_eq_true rfl | omega | (dsimp only; omega) | (show _ ≤ 600130; omega) | (show _ ≤ 7301080; omega)) (by first | rfl | exact bI_nar _) (⟨rfl, rfl⟩)
      · refine v_iload hc dL_areDeltas_77 rfl ?_
        refine v_iconst hc (v := nI 2) dL_areDeltas_79 (by decide) ?_
        refine v_icmp_gtN hc (tgt := 89) dL_areDeltas_80 (by decide) (by omega) (by omega) (fun hg => ?_) (fun hg => ?_)
        · exact v_widen (by first | omega | exact Nat.le_of_ble_eq_true rfl | (dsimp only; omega)) (by first | omega | exact Nat.le_of_ble_eq_true rfl | (dsimp only; omega)) (v_loc _ rfl KQ)
        · have h9 : hxn (xN (ct i)) = 1 := Classical.byContradiction (fun z => by
            have := dco_gt (d := xN (ct j)) (show 1 < hxn (xN (ct i)) by omega)
            omega)
          rw [h9]
          refine v_iload hc dL_areDeltas_83 rfl ?_
          refine v_iconst hc (v := nI 1) dL_areDeltas_85 (by decide) ?_
          refine v_icmp_ne hc (tgt := 120) dL_areDeltas_86 (by decide) (fun hb => False.elim (absurd hb (by decide))) (fun _ => ?_)
          exact v_widen (by first | omega | exact Nat.le_of_ble_eq_true rfl | (dsimp only; omega)) (by first | omega | exact Nat.le_of_ble_eq_true rfl | (dsimp only; omega)) (v_loc _ rfl KQ)
    · refine v_icmp_leN hc (tgt := 73) dL_areDeltas_66 (by decide) (by omega) (by omega) (fun hg => ?_) (fun hg => ?_)
      · rw [if_neg (by omega)]
        refine v_iconst hc (v := nI 2) dL_areDeltas_73 (by decide) ?_
        refine v_icmp_ne hc (tgt := 120) dL_areDeltas_74 (by decide) (fun hb => False.elim (absurd hb (by decide))) (fun _ => ?_)
        exact v_widen (by first | omega | exact Nat.le_of_ble_eq_true rfl | (dsimp only; omega)) (by first | omega | exact Nat.le_of_ble_eq_true rfl | (dsimp only; omega)) (v_loc _ rfl KQ)
      · rw [if_pos hg]
        refine v_iconst hc (v := nI 3) dL_areDeltas_69 (by decide) ?_
        refine v_goto hc (tgt := 74) dL_areDeltas_70 (by decide) ?_
        refine v_icmp_ne hc (tgt := 120) dL_areDeltas_74 (by decide) (fun hb => False.elim (absurd hb (by decide))) (fun _ => ?_)
        exact v_widen (by first | omega | exact Nat.le_of_ble_eq_true rfl | (dsimp only; omega)) (by first | omega | exact Nat.le_of_ble_eq_true rfl | (dsimp only; omega)) (v_loc _ rfl KQ)
  · refine v_ifL_ne hc (tgt := 57) dL_areDeltas_38 (by decide) (fun he => ?_) (fun he => ?_)
    · exact v_widen (by first | omega | exact Nat.le_of_ble_eq_true rfl | (dsimp only; omega)) (by first | omega | exact Nat.le_of_ble_eq_true rfl | (dsimp only; omega)) (v_loc _ rfl KQ)
    · refine v_iload hc dL_areDeltas_41 rfl ?_
      refine v_iload hc dL_areDeltas_43 rfl ?_
      refine v_iconst hc (v := nI 1) dL_areDeltas_45 (by decide) ?_
      have hds : dco (xN (ct i)) (xN (ct j)) = if 1 < hxn (xN (ct i)) then 3 else 2 := by rw [← he]; exact dco_self hx1
      refine v_icmp_leN hc (tgt := 53) dL_areDeltas_46 (by decide) (by omega) (by omega) (fun hg => ?_) (fun hg => ?_)
      · refine v_iconst hc (v := nI 2) dL_areDeltas_53 (by decide) ?_
        rw [if_neg (by omega)] at hds
        refine v_icmp_neN hc (tgt := 120) dL_areDeltas_54 (by decide) (by omega) (by omega) (fun hb => False.elim (hb hds)) (fun _ => ?_)
        exact v_widen (by first | omega | exact Nat.le_of_ble_eq_true rfl | (dsimp only; omega)) (by first | omega | exact Nat.le_of_ble_eq_true rfl | (dsimp only; omega)) (v_loc _ rfl KQ)
      · refine v_iconst hc (v := nI 3) dL_areDeltas_49 (by decide) ?_
        refine v_goto hc (tgt := 54) dL_areDeltas_50 (by decide) ?_
        rw [if_pos hg] at hds
        refine v_icmp_neN hc (tgt := 120) dL_areDeltas_54 (by decide) (by omega) (by omega) (fun hb => False.elim (hb hds)) (fun _ => ?_)
        exact v_widen (by first | omega | exact Nat.le_of_ble_eq_true rfl | (dsimp only; omega)) (by first | omega | exact Nat.le_of_ble_eq_true rfl | (dsimp only; omega)) (v_loc _ rfl KQ)
end LW1

