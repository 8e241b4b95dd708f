/-! ===== what is refused changes nothing ===== -/
theorem nI_m1 : (-1 : Int32).toInt = -1 := by decide
theorem low_toInt {d : Nat} (hdQ : d < 70) : ((-1 : Int32) - nI d).toInt = -1 - (d : Int) := by
  have h : ∀ d : Fin 70, ((-1 : Int32) - nI d.val).toInt = -1 - (d.val : Int) := by decide +kernel
  exact h ⟨d, hdQ⟩
theorem isO_low {n d : Nat} (hdQ : d < 70) : isO n ((-1 : Int32) - nI d) = false := by
  unfold isO
  rw [low_toInt hdQ]
  exact decide_eq_false (by omega)
theorem isO_cnd {n d a : Nat} (b : Bool) (hdQ : d < 70) (h : n ≤ a) (haQ : a < 2 ^ 31) : isO n (cond b ((-1 : Int32) - nI d) (nI a)) = false := by
  cases b with
  | true => exact isO_low hdQ
  | false => exact isO_up h haQ
theorem isin_hi {a lo' hi' : Nat} (h : hi' < a) (haQ : a < 2 ^ 31) : isin (nI a) (nI lo') (nI hi') = false := by
  unfold isin
  rw [decide_eq_false (show ¬ nI a ≤ nI hi' from fun z => by have := (nI_leI haQ (by omega)).mp z; omega), Bool.and_false]
theorem isin_lo {x : Int32} {hi' : Int32} (h : x.toInt < 0) : isin x (nI 0) hi' = false := by
  unfold isin
  rw [decide_eq_false (show ¬ nI 0 ≤ x from fun z => by
    rw [Int32.le_iff_toInt_le] at z
    have : (nI 0).toInt = 0 := by decide
    omega), Bool.false_and]
theorem xN_neg {x : Int64} (h : x.toInt ≤ 0) : isC x = false := by
  unfold isC xN
  have : x.toInt.toNat = 0 := by omega
  rw [this]; rfl
theorem isC_neg {d : Nat} (hdQ : d < 70) : isC ((0 : Int64) - (nI d).toInt64) = false := by
  have h : ∀ d : Fin 70, isC ((0 : Int64) - (nI d.val).toInt64) = false := by decide +kernel
  exact h ⟨d, hdQ⟩
theorem isC_z16 {d : Nat} (hdQ : d < 70) : isC ((16 : Int64) * (nI (1 + d)).toInt64) = false := by
  have h : ∀ d : Fin 70, isC ((16 : Int64) * (nI (1 + d.val)).toInt64) = false := by decide +kernel
  exact h ⟨d, hdQ⟩
theorem i2l_nI {a : Nat} (haQ : a < 2 ^ 31) : (nI a).toInt64 = lN a := by
  refine Int64.toInt_inj.mp ?_
  rw [Int32.toInt_toInt64, nI_toInt haQ, pk_lT (by omega)]
theorem isC_big {x : Nat} (hx : x < 2 ^ 31) : isC ((1152921504606846976 : Int64) + (nI x).toInt64) = false := by
  rw [i2l_nI hx, show (1152921504606846976 : Int64) = lN 1152921504606846976 by decide, lN_add]
  have e : xN (lN (1152921504606846976 + x)) = 1152921504606846976 + x := xN_lN (by omega)
  unfold isC
  rw [e]
  have h := hxl_ge 16 (1152921504606846976 + x) 15 (by rw [e1615]; omega) (by decide)
  have : ¬ hxn (1152921504606846976 + x) ≤ 15 := by unfold hxn; omega
  rw [decide_eq_false this, Bool.false_and, Bool.and_false]
section LW4
variable {l : Launch} {G : cG} {A : Nat → Prop} {w : wd} {px pI pO pX n ca na sa : Nat} {ia : Nat → Nat} {nm : Nat → Int32} {ct fc : Nat → Int64} {fn fs : Nat → Int32} {lv lo : Nat → Bool} {fa fb : Nat → Option Nat} {fm : Nat → Option Frm} {O X : List Nat} {cp ru : Int32}
theorem q_no (hl : l.stackTraces = false) (hP : PC G w px pI pO pX n ia nm ct lv lo fa fb O X cp ru) (hF : FW w n ia fa fm) (hC : CH n fm) (hJ : FJ n fa) {a : Int32} (ho : isO n a = false) {t : Nat} (ht : t < 10) : Met l yL_of wsL_of ({ frames := 14, cells := 3, slots := 18, locals := 250 } : Room) (Pw G A w [.ref px, .int (nI t), .int a]) (va_Qi (fun r w' => w = w' ∧ r = -101) (Bw G A) A) 3 18 A := by
  rcases (show t = 0 ∨ t = 1 ∨ t = 2 ∨ t = 3 ∨ t = 4 ∨ t = 5 ∨ t = 6 ∨ t = 7 ∨ t = 8 ∨ t = 9 by omega) with rfl | rfl | rfl | rfl | rfl | rfl | rfl | rfl | rfl | rfl
  · exact q_no0 hl hP hF hC hJ ho
  · exact q_no1 hl hP hF hC hJ ho
  · exact q_no2 hl hP hF hC hJ ho
  · exact q_no3 hl hP hF hC hJ ho
  · exact q_no4 hl hP hF hC hJ ho
  · exact q_no5 hl hP hF hC hJ ho
  · exact q_no6 hl hP hF hC hJ ho
  · exact q_no7 hl hP hF hC hJ ho
  · exact q_no8 hl hP hF hC hJ ho
  · exact q_no9 hl hP hF hC hJ ho
set_option maxRecDepth 100000 in
set_option maxHeartbeats 8000000 in
theorem c_L_isRefused (hl : l.stackTraces = false) (hP : PC G w px pI pO pX n ia nm ct lv lo fa fb O X cp ru) (hF : FW w n ia fa fm) (hJ : FJ n fa) (hI : INV n ct fm O X) {x : Nat} (hx : x < 2 ^ 31) : Met l yL_isRefused wsL_isRefused ({ frames := 17, cells := 2200, slots := 22000, locals := 340 } : Room) (Pw G A w [.ref px, .int (nI x)]) (va_Qi (fun r w' => w = w' ∧ r = bI true) (Bw G A) A) 2200 22000 A := by
  refine m_of (cc := cL_isRefused) (maxL := 9) (ret := (some .boolean)) (by decide) rfl (Nat.le_of_ble_eq_true rfl) ?_
  intro p e s m args below meth c hc hr hmn
  refine v_loc [(0, some (.ref px)), (1, some (.int (nI x)))] rfl ?_
  have hn := hP.n40
  have hC := hI.2.1
  obtain ⟨d, hdQ, hde⟩ : ∃ d, d < 70 ∧ x % 70 = d := ⟨_, Nat.mod_lt _ (by decide), rfl⟩
  have r70 : nI x - nI x / nI 70 * nI 70 = nI d := by rw [pk_rem hx (by decide) (by decide), hde]
  obtain ⟨b, hb⟩ : ∃ b : Bool, b = decide (x % 2 = 0) := ⟨_, rfl⟩
  refine v_iload_n hc (i := 1) rfl dL_isRefused_0 rfl ?_
  refine v_iconst hc (v := nI 2) dL_isRefused_1 (by decide) ?_
  refine v_irem hc (by decide) dL_isRefused_2 ?_
  refine v_ti (pk_rem hx (by decide) (by decide)) ?_
  refine v_cut 0 0 11 [(0, some (.ref px)), (1, some (.int (nI x)))] [.int (bI b)] ?_ (fun KQ => ?_)
  · refine v_istore_n hc (i := 2) rfl dL_isRefused_11 (by decide) rfl ?_
    refine v_iload_n hc (i := 2) rfl dL_isRefused_12 rfl ?_
    refine v_cut 0 0 34 [(0, some (.ref px)), (1, some (.int (nI x))), (2, some (.int (bI b)))] [.int (cond b ((-1 : Int32) - nI d) (nI (n + d)))] ?_ (fun KQ => ?_)
    · have hno : isO n (cond b ((-1 : Int32) - nI d) (nI (n + d))) = false := isO_cnd b hdQ (by omega) (by omega)
      generalize cond b ((-1 : Int32) - nI d) (nI (n + d)) = no at hno ⊢
      refine v_istore_n hc (i := 3) rfl dL_isRefused_34 (by decide) rfl ?_
      refine v_iload_n hc (i := 2) rfl dL_isRefused_35 rfl ?_
      refine v_cut 0 0 56 [(0, some (.ref px)), (1, some (.int (nI x))), (2, some (.int (bI b))), (3, some (.int no))] [.int (cond b ((-1 : Int32) - nI d) (nI (4096 + d)))] ?_ (fun KQ => ?_)
      · have hho : isO 4096 (cond b ((-1 : Int32) - nI d) (nI (4096 + d))) = false := isO_cnd b hdQ (by omega) (by omega)
        generalize cond b ((-1 : Int32) - nI d) (nI (4096 + d)) = hn' at hho ⊢
        refine v_istore hc dL_isRefused_56 (by decide) rfl ?_
        first | refine v_aload_n hc (i := 0) rfl dL_isRefused_58 rfl ?_ | refine v_aload_nN hc (i := 0) rfl dL_isRefused_58 rfl ?_
        refine v_callSl hc (c_L_all hl hP hF hC) (va_cwS 1 hc.1.2.2.2.2 gL_isRefused_L_all rfl rfl rfl (by decide +kernel) ⟨Nat.le_of_ble_eq_true rfl, Nat.le_of_ble_eq_true rfl⟩) rfl rfl (Nat.le_of_ble_eq_true rfl) ⟨(by first | exact Nat.le_of_ble_eq_true rfl | omega | (dsimp only; omega) | (show _ ≤ 600130; omega) | (show _ ≤ 7301080; omega)), (by first | exact Nat.le_of_ble_eq_true rfl | omega | (dsimp only; omega) | (show _ ≤ 600130; omega) | (show _ ≤ 7301080; omega))⟩ dL_isRefused_59 (fun r w' h => ?_)
        obtain ⟨rfl, rfl⟩ := h
        refine v_lstore hc dL_isRefused_62 (by decide) rfl ?_
        first | refine v_aload_n hc (i := 0) rfl dL_isRefused_64 rfl ?_ | refine v_aload_nN hc (i := 0) rfl dL_isRefused_64 rfl ?_
        refine v_iload_n hc (i := 2) rfl dL_isRefused_65 rfl ?_
        refine v_cut 700 4300 85 [(0, some (.ref px)), (1, some (.int (nI x))), (2, some (.int (bI b))), (3, some (.int no)), (4, some (.int hn')), (5, some (.long (alR n lv lo fm O cp ru n)))] [.int (cond b ((-1 : Int32) - nI d) (nI (100 + d))), .ref px] ?_ (fun KQ => ?_)
        · have h9 : isin (cond b ((-1 : Int32) - nI d) (nI (100 + d))) (nI 0) (nI 99) = false := by
            cases b with
            | true => exact isin_lo (by show ((-1 : Int32) - nI d).toInt < 0; rw [low_toInt hdQ]; omega)
            | false => exact isin_hi (by omega) (by omega)
          generalize cond b ((-1 : Int32) - nI d) (nI (100 + d)) = nn at h9 ⊢
          refine v_ldc2 hc (v := 5) dL_isRefused_85 (by decide +kernel) ?_
          refine v_callSWi hc (q_nostore hl hP hF hC (by rw [h9, Bool.false_and])) (vx_cwSW 3 hc.1.2.2.2.2 gL_isRefused_L_store rfl rfl rfl (by decide +kernel) ⟨Nat.le_of_ble_eq_true rfl, Nat.le_of_ble_eq_true rfl⟩) rfl rfl (Nat.le_of_ble_eq_true rfl) ⟨(by first | exact Nat.le_of_ble_eq_true rfl | omega | (dsimp only; omega) | (show _ ≤ 600130; omega) | (show _ ≤ 7301080; omega)), (by first | exact Nat.le_of_ble_eq_true rfl | omega | (dsimp only; omega) | (show _ ≤ 600130; omega) | (show _ ≤ 7301080; omega))⟩ dL_isRefused_88 (fun r w' h => ?_)
          obtain ⟨rfl, rfl⟩ := h
          refine v_bipush hc (v := (-102)) dL_isRefused_91 (by decide) ?_
          refine v_icmp_ne hc (tgt := 362) dL_isRefused_93 (by decide) (fun hb => False.elim (hb rfl)) (fun _ => ?_)
          first | refine v_aload_n hc (i := 0) rfl dL_isRefused_96 rfl ?_ | refine v_aload_nN hc (i := 0) rfl dL_isRefused_96 rfl ?_
          refine v_iconst hc (v := nI 5) dL_isRefused_97 (by decide) ?_
          refine v_lconst hc (v := 0) dL_isRefused_98 (by decide) ?_
          refine v_iload_n hc (i := 1) rfl dL_isRefused_99 rfl ?_
          refine v_bipush hc (v := nI 70) dL_isRefused_100 (by decide) ?_
          refine v_irem hc (by decide) dL_isRefused_102 ?_
          refine v_ti r70 ?_
          refine v_i2l hc dL_isRefused_103 ?_
          refine v_lsub hc dL_isRefused_104 ?_
          refine v_callSWi hc (q_nostore hl hP hF hC (by rw [isC_neg hdQ, Bool.and_false])) (vx_cwSW 3 hc.1.2.2.2.2 gL_isRefused_L_store rfl rfl rfl (by decide +kernel) ⟨Nat.le_of_ble_eq_true rfl, Nat.le_of_ble_eq_true rfl⟩) rfl rfl (Nat.le_of_ble_eq_true rfl) ⟨(by first | exact Nat.le_of_ble_eq_true rfl | omega | (dsimp only; omega) | (show _ ≤ 600130; omega) | (show _ ≤ 7301080; omega)), (by first | exact Nat.le_of_ble_eq_true rfl | omega | (dsimp only; omega) | (show _ ≤ 600130; omega) | (show _ ≤ 7301080; omega))⟩ dL_isRefused_105 (fun r w' h => ?_)
          obtain ⟨rfl, rfl⟩ := h
          refine v_bipush hc (v := (-102)) dL_isRefused_108 (by decide) ?_
          refine v_icmp_ne hc (tgt := 362) dL_isRefused_110 (by decide) (fun hb => False.elim (hb rfl)) (fun _ => ?_)
          first | refine v_aload_n hc (i := 0) rfl dL_isRefused_113 rfl ?_ | refine v_aload_nN hc (i := 0) rfl dL_isRefused_113 rfl ?_
          refine v_iconst hc (v := nI 5) dL_isRefused_114 (by decide) ?_
          refine v_ldc2 hc (v := 16) dL_isRefused_115 (by decide +kernel) ?_
          refine v_iconst hc (v := nI 1) dL_isRefused_118 (by decide) ?_
          refine v_iload_n hc (i := 1) rfl dL_isRefused_119 rfl ?_
          refine v_bipush hc (v := nI 70) dL_isRefused_120 (by decide) ?_
          refine v_irem hc (by decide) dL_isRefused_122 ?_
          refine v_ti r70 ?_
          first | refine v_iaddN hc dL_isRefused_123 ?_ | refine v_iadd hc dL_isRefused_123 ?_
          refine v_i2l hc dL_isRefused_124 ?_
          refine v_lmul hc dL_isRefused_125 ?_
          refine v_callSWi hc (q_nostore hl hP hF hC (by rw [isC_z16 hdQ, Bool.and_false])) (vx_cwSW 3 hc.1.2.2.2.2 gL_isRefused_L_store rfl rfl rfl (by decide +kernel) ⟨Nat.le_of_ble_eq_true rfl, Nat.le_of_ble_eq_true rfl⟩) rfl rfl (Nat.le_of_ble_eq_true rfl) ⟨(by first | exact Nat.le_of_ble_eq_true rfl | omega | (dsimp only; omega) | (show _ ≤ 600130; omega) | (show _ ≤ 7301080; omega)), (by first | exact Nat.le_of_ble_eq_true rfl | omega | (dsimp only; omega) | (show _ ≤ 600130; omega) | (show _ ≤ 7301080; omega))⟩ dL_isRefused_126 (fun r w' h => ?_)
          obtain ⟨rfl, rfl⟩ := h
          refine v_bipush hc (v := (-102)) dL_isRefused_129 (by decide) ?_
          refine v_icmp_ne hc (tgt := 362) dL_isRefused_131 (by decide) (fun hb => False.elim (hb rfl)) (fun _ => ?_)
          first | refine v_aload_n hc (i := 0) rfl dL_isRefused_134 rfl ?_ | refine v_aload_nN hc (i := 0) rfl dL_isRefused_134 rfl ?_
          refine v_iconst hc (v := nI 5) dL_isRefused_135 (by decide) ?_
          refine v_ldc2 hc (v := 268435459) dL_isRefused_136 (by decide +kernel) ?_
          refine v_callSWi hc (q_nostore hl hP hF hC (by decide +kernel)) (vx_cwSW 3 hc.1.2.2.2.2 gL_isRefused_L_store rfl rfl rfl (by decide +kernel) ⟨Nat.le_of_ble_eq_true rfl, Nat.le_of_ble_eq_true rfl⟩) rfl rfl (Nat.le_of_ble_eq_true rfl) ⟨(by first | exact Nat.le_of_ble_eq_true rfl | omega | (dsimp only; omega) | (show _ ≤ 600130; omega) | (show _ ≤ 7301080; omega)), (by first | exact Nat.le_of_ble_eq_true rfl | omega | (dsimp only; omega) | (show _ ≤ 600130; omega) | (show _ ≤ 7301080; omega))⟩ dL_isRefused_139 (fun r w' h => ?_)
          obtain ⟨rfl, rfl⟩ := h
          refine v_bipush hc (v := (-102)) dL_isRefused_142 (by decide) ?_
          refine v_icmp_ne hc (tgt := 362) dL_isRefused_144 (by decide) (fun hb => False.elim (hb rfl)) (fun _ => ?_)
          first | refine v_aload_n hc (i := 0) rfl dL_isRefused_147 rfl ?_ | refine v_aload_nN hc (i := 0) rfl dL_isRefused_147 rfl ?_
          refine v_iconst hc (v := nI 5) dL_isRefused_148 (by decide) ?_
          refine v_ldc2 hc (v := 1152921504606846976) dL_isRefused_149 (by decide +kernel) ?_
          refine v_iload_n hc (i := 1) rfl dL_isRefused_152 rfl ?_
          refine v_i2l hc dL_isRefused_153 ?_
          refine v_ladd hc dL_isRefused_154 ?_
          refine v_callSWi hc (q_nostore hl hP hF hC (by rw [isC_big hx, Bool.and_false])) (vx_cwSW 3 hc.1.2.2.2.2 gL_isRefused_L_store rfl rfl rfl (by decide +kernel) ⟨Nat.le_of_ble_eq_true rfl, Nat.le_of_ble_eq_true rfl⟩) rfl rfl (Nat.le_of_ble_eq_true rfl) ⟨(by first | exact Nat.le_of_ble_eq_true rfl | omega | (dsimp only; omega) | (show _ ≤ 600130; omega) | (show _ ≤ 7301080; omega)), (by first | exact Nat.le_of_ble_eq_true rfl | omega | (dsimp only; omega) | (show _ ≤ 600130; omega) | (show _ ≤ 7301080; omega))⟩ dL_isRefused_155 (fun r w' h => ?_)
          obtain ⟨rfl, rfl⟩ := h
          refine v_bipush hc (v := (-102)) dL_isRefused_158 (by decide) ?_
          refine v_icmp_ne hc (tgt := 362) dL_isRefused_160 (by decide) (fun hb => False.elim (hb rfl)) (fun _ => ?_)
          first | refine v_aload_n hc (i := 0) rfl dL_isRefused_163 rfl ?_ | refine v_aload_nN hc (i := 0) rfl dL_isRefused_163 rfl ?_
          refine v_callVi hc (c_X3_objects hP) (cwV 0 hc.1.2.2.2.2 gL_isRefused_X3_objects rfl rfl rfl (by decide +kernel) ⟨Nat.le_of_ble_eq_true rfl, Nat.le_of_ble_eq_true rfl⟩) (hP.1) rfl rfl rfl (Nat.le_of_ble_eq_true rfl) ⟨(by first | exact Nat.le_of_ble_eq_true rfl | omega | (dsimp only; omega) | (show _ ≤ 600130; omega) | (show _ ≤ 7301080; omega)), (by first | exact Nat.le_of_ble_eq_true rfl | omega | (dsimp only; omega) | (show _ ≤ 600130; omega) | (show _ ≤ 7301080; omega))⟩ dL_isRefused_164 (fun r w' h => ?_)
          obtain ⟨rfl, rfl⟩ := h
          refine v_bipush hc (v := nI 40) dL_isRefused_167 (by decide) ?_
          refine v_cut 712 4714 185 [(0, some (.ref px)), (1, some (.int (nI x))), (2, some (.int (bI b))), (3, some (.int no)), (4, some (.int hn')), (5, some (.long (alR n lv lo fm O cp ru n)))] [] ?_ (fun KQ => ?_)
          · first | refine v_aload_n hc (i := 0) rfl dL_isRefused_185 rfl ?_ | refine v_aload_nN hc (i := 0) rfl dL_isRefused_185 rfl ?_
            refine v_iload_n hc (i := 2) rfl dL_isRefused_186 rfl ?_
            refine v_cut 712 4714 201 [(0, some (.ref px)), (1, some (.int (nI x))), (2, some (.int (bI b))), (3, some (.int no)), (4, some (.int hn')), (5, some (.long (alR n lv lo fm O cp ru n)))] [.int (cond b (nI 0) (nI (9 + d))), .ref px] ?_ (fun KQ => ?_)
            · have h9 : isin (cond b (nI 0) (nI (9 + d))) (nI 1) (nI 8) = false := by
                cases b with
                | true => exact (by decide : isin (nI 0) (nI 1) (nI 8) = false)
                | false => exact isin_hi (by omega) (by omega)
              generalize cond b (nI 0) (nI (9 + d)) = nn at h9 ⊢
              refine v_iconst hc (v := nI 3) dL_isRefused_201 (by decide) ?_
              refine v_iload_n hc (i := 2) rfl dL_isRefused_202 rfl ?_
              refine v_callSWi hc (q_nopack hl hP hF hI (by rw [h9, Bool.false_and])) (vx_cwSW 4 hc.1.2.2.2.2 gL_isRefused_L_pack rfl rfl rfl (by decide +kernel) ⟨Nat.le_of_ble_eq_true rfl, Nat.le_of_ble_eq_true rfl⟩) rfl rfl (Nat.le_of_ble_eq_true rfl) ⟨(by first | exact Nat.le_of_ble_eq_true rfl | omega | (dsimp only; omega) | (show _ ≤ 600130; omega) | (show _ ≤ 7301080; omega)), (by first | exact Nat.le_of_ble_eq_true rfl | omega | (dsimp only; omega) | (show _ ≤ 600130; omega) | (show _ ≤ 7301080; omega))⟩ dL_isRefused_203 (fun r w' h => ?_)
              obtain ⟨rfl, rfl⟩ := h
              refine v_bipush hc (v := (-102)) dL_isRefused_206 (by decide) ?_
              refine v_icmp_ne hc (tgt := 362) dL_isRefused_208 (by decide) (fun hb => False.elim (hb rfl)) (fun _ => ?_)
              first | refine v_aload_n hc (i := 0) rfl dL_isRefused_211 rfl ?_ | refine v_aload_nN hc (i := 0) rfl dL_isRefused_211 rfl ?_
              refine v_iconst hc (v := nI 3) dL_isRefused_212 (by decide) ?_
              refine v_iload_n hc (i := 2) rfl dL_isRefused_213 rfl ?_
              refine v_cut 872 9914 228 [(0, some (.ref px)), (1, some (.int (nI x))), (2, some (.int (bI b))), (3, some (.int no)), (4, some (.int hn')), (5, some (.long (alR n lv lo fm O cp ru n)))] [.int (cond b (-1) (nI (7 + d))), .int (nI 3), .ref px] ?_ (fun KQ => ?_)
              · have h9 : isin (cond b (-1) (nI (7 + d))) (nI 0) (nI 6) = false := by
                  cases b with
                  | true => exact (by decide : isin (-1) (nI 0) (nI 6) = false)
                  | false => exact isin_hi (by omega) (by omega)
                generalize cond b (-1) (nI (7 + d)) = nn at h9 ⊢
                refine v_iload_n hc (i := 2) rfl dL_isRefused_228 rfl ?_
                refine v_callSWi hc (q_nopack hl hP hF hI (by rw [h9, Bool.and_false])) (vx_cwSW 4 hc.1.2.2.2.2 gL_isRefused_L_pack rfl rfl rfl (by decide +kernel) ⟨Nat.le_of_ble_eq_true rfl, Nat.le_of_ble_eq_true rfl⟩) rfl rfl (Nat.le_of_ble_eq_true rfl) ⟨(by first | exact Nat.le_of_ble_eq_true rfl | omega | (dsimp only; omega) | (show _ ≤ 600130; omega) | (show _ ≤ 7301080; omega)), (by first | exact Nat.le_of_ble_eq_true rfl | omega | (dsimp only; omega) | (show _ ≤ 600130; omega) | (show _ ≤ 7301080; omega))⟩ dL_isRefused_229 (fun r w' h => ?_)
                obtain ⟨rfl, rfl⟩ := h
                refine v_bipush hc (v := (-102)) dL_isRefused_232 (by decide) ?_
                refine v_icmp_ne hc (tgt := 362) dL_isRefused_234 (by decide) (fun hb => False.elim (hb rfl)) (fun _ => ?_)
                first | refine v_aload_n hc (i := 0) rfl dL_isRefused_237 rfl ?_ | refine v_aload_nN hc (i := 0) rfl dL_isRefused_237 rfl ?_
                refine v_iload_n hc (i := 3) rfl dL_isRefused_238 rfl ?_
                refine v_callSWl hc (q_noread hl hP hF hC hno) (vx_cwSW 2 hc.1.2.2.2.2 gL_isRefused_L_read rfl rfl rfl (by decide +kernel) ⟨Nat.le_of_ble_eq_true rfl, Nat.le_of_ble_eq_true rfl⟩) rfl rfl (Nat.le_of_ble_eq_true rfl) ⟨(by first | exact Nat.le_of_ble_eq_true rfl | omega | (dsimp only; omega) | (show _ ≤ 600130; omega) | (show _ ≤ 7301080; omega)), (by first | exact Nat.le_of_ble_eq_true rfl | omega | (dsimp only; omega) | (show _ ≤ 600130; omega) | (show _ ≤ 7301080; omega))⟩ dL_isRefused_239 (fun r w' h => ?_)
                obtain ⟨rfl, rfl⟩ := h
                refine v_ldc2 hc (v := -101) dL_isRefused_242 (by decide +kernel) ?_
                refine v_lcmp hc dL_isRefused_245 ?_
                refine v_ifL_ne hc (tgt := 362) dL_isRefused_246 (by decide) (fun hb => False.elim (hb rfl)) (fun _ => ?_)
                first | refine v_aload_n hc (i := 0) rfl dL_isRefused_249 rfl ?_ | refine v_aload_nN hc (i := 0) rfl dL_isRefused_249 rfl ?_
                refine v_iload_n hc (i := 3) rfl dL_isRefused_250 rfl ?_
                refine v_iload_n hc (i := 3) rfl dL_isRefused_251 rfl ?_
                refine v_callSWi hc (q_nodelta hl hP hI.1 (by rw [hno, Bool.false_and])) (vx_cwSW 3 hc.1.2.2.2.2 gL_isRefused_L_deltaCost rfl rfl rfl (by decide +kernel) ⟨Nat.le_of_ble_eq_true rfl, Nat.le_of_ble_eq_true rfl⟩) rfl rfl (Nat.le_of_ble_eq_true rfl) ⟨(by first | exact Nat.le_of_ble_eq_true rfl | omega | (dsimp only; omega) | (show _ ≤ 600130; omega) | (show _ ≤ 7301080; omega)), (by first | exact Nat.le_of_ble_eq_true rfl | omega | (dsimp only; omega) | (show _ ≤ 600130; omega) | (show _ ≤ 7301080; omega))⟩ dL_isRefused_252 (fun r w' h => ?_)
                obtain ⟨rfl, rfl⟩ := h
                refine v_bipush hc (v := (-101)) dL_isRefused_255 (by decide) ?_
                refine v_icmp_ne hc (tgt := 362) dL_isRefused_257 (by decide) (fun hb => False.elim (hb rfl)) (fun _ => ?_)
                first | refine v_aload_n hc (i := 0) rfl dL_isRefused_260 rfl ?_ | refine v_aload_nN hc (i := 0) rfl dL_isRefused_260 rfl ?_
                refine v_iconst hc (v := nI 0) dL_isRefused_261 (by decide) ?_
                refine v_iload_n hc (i := 2) rfl dL_isRefused_262 rfl ?_
                refine v_cut 1036 15138 277 [(0, some (.ref px)), (1, some (.int (nI x))), (2, some (.int (bI b))), (3, some (.int no)), (4, some (.int hn')), (5, some (.long (alR n lv lo fm O cp ru n)))] [.int (cond b (-1) (nI (16 + d))), .int (nI 0), .ref px] ?_ (fun KQ => ?_)
                · have h9 : isO 16 (cond b (-1) (nI (16 + d))) = false := by
                    cases b with
                    | true => exact isO_m1 16
                    | false => exact isO_up (by omega) (by omega)
                  generalize cond b (-1) (nI (16 + d)) = nn at h9 ⊢
                  refine v_ldc2 hc (v := 5) dL_isRefused_277 (by decide +kernel) ?_
                  refine v_callSWi hc (q_noask0 hl hP h9) (vx_cwSW 4 hc.1.2.2.2.2 gL_isRefused_L_ask rfl rfl rfl (by decide +kernel) ⟨Nat.le_of_ble_eq_true rfl, Nat.le_of_ble_eq_true rfl⟩) rfl rfl (Nat.le_of_ble_eq_true rfl) ⟨(by first | exact Nat.le_of_ble_eq_true rfl | omega | (dsimp only; omega) | (show _ ≤ 600130; omega) | (show _ ≤ 7301080; omega)), (by first | exact Nat.le_of_ble_eq_true rfl | omega | (dsimp only; omega) | (show _ ≤ 600130; omega) | (show _ ≤ 7301080; omega))⟩ dL_isRefused_280 (fun r w' h => ?_)
                  obtain ⟨rfl, rfl⟩ := h
                  refine v_bipush hc (v := (-102)) dL_isRefused_283 (by decide) ?_
                  refine v_icmp_ne hc (tgt := 362) dL_isRefused_285 (by decide) (fun hb => False.elim (hb rfl)) (fun _ => ?_)
                  first | refine v_aload_n hc (i := 0) rfl dL_isRefused_288 rfl ?_ | refine v_aload_nN hc (i := 0) rfl dL_isRefused_288 rfl ?_
                  refine v_iconst hc (v := nI 1) dL_isRefused_289 (by decide) ?_
                  refine v_iload hc dL_isRefused_290 rfl ?_
                  refine v_ldc2 hc (v := 5) dL_isRefused_292 (by decide +kernel) ?_
                  refine v_callSWi hc (q_noask1 hl hP hho) (vx_cwSW 4 hc.1.2.2.2.2 gL_isRefused_L_ask rfl rfl rfl (by decide +kernel) ⟨Nat.le_of_ble_eq_true rfl, Nat.le_of_ble_eq_true rfl⟩) rfl rfl (Nat.le_of_ble_eq_true rfl) ⟨(by first | exact Nat.le_of_ble_eq_true rfl | omega | (dsimp only; omega) | (show _ ≤ 600130; omega) | (show _ ≤ 7301080; omega)), (by first | exact Nat.le_of_ble_eq_true rfl | omega | (dsimp only; omega) | (show _ ≤ 600130; omega) | (show _ ≤ 7301080; omega))⟩ dL_isRefused_295 (fun r w' h => ?_)
                  obtain ⟨rfl, rfl⟩ := h
                  refine v_bipush hc (v := (-102)) dL_isRefused_298 (by decide) ?_
                  refine v_icmp_ne hc (tgt := 362) dL_isRefused_300 (by decide) (fun hb => False.elim (hb rfl)) (fun _ => ?_)
                  first | refine v_aload_n hc (i := 0) rfl dL_isRefused_303 rfl ?_ | refine v_aload_nN hc (i := 0) rfl dL_isRefused_303 rfl ?_
                  refine v_iconst hc (v := nI 2) dL_isRefused_304 (by decide) ?_
                  refine v_iload hc dL_isRefused_305 rfl ?_
                  refine v_ldc2 hc (v := 5) dL_isRefused_307 (by decide +kernel) ?_
                  refine v_callSWi hc (q_noask2 hl hP hho) (vx_cwSW 4 hc.1.2.2.2.2 gL_isRefused_L_ask rfl rfl rfl (by decide +kernel) ⟨Nat.le_of_ble_eq_true rfl, Nat.le_of_ble_eq_true rfl⟩) rfl rfl (Nat.le_of_ble_eq_true rfl) ⟨(by first | exact Nat.le_of_ble_eq_true rfl | omega | (dsimp only; omega) | (show _ ≤ 600130; omega) | (show _ ≤ 7301080; omega)), (by first | exact Nat.le_of_ble_eq_true rfl | omega | (dsimp only; omega) | (show _ ≤ 600130; omega) | (show _ ≤ 7301080; omega))⟩ dL_isRefused_310 (fun r w' h => ?_)
                  obtain ⟨rfl, rfl⟩ := h
                  refine v_bipush hc (v := (-102)) dL_isRefused_313 (by decide) ?_
                  refine v_icmp_ne hc (tgt := 362) dL_isRefused_315 (by decide) (fun hb => False.elim (hb rfl)) (fun _ => ?_)
                  first | refine v_aload_n hc (i := 0) rfl dL_isRefused_318 rfl ?_ | refine v_aload_nN hc (i := 0) rfl dL_isRefused_318 rfl ?_
                  refine v_iconst hc (v := nI 3) dL_isRefused_319 (by decide) ?_
                  refine v_iconst hc (v := nI 0) dL_isRefused_320 (by decide) ?_
                  refine v_lconst hc (v := 0) dL_isRefused_321 (by decide) ?_
                  refine v_callSWi hc (q_noask3 hl hP (by decide +kernel)) (vx_cwSW 4 hc.1.2.2.2.2 gL_isRefused_L_ask rfl rfl rfl (by decide +kernel) ⟨Nat.le_of_ble_eq_true rfl, Nat.le_of_ble_eq_true rfl⟩) rfl rfl (Nat.le_of_ble_eq_true rfl) ⟨(by first | exact Nat.le_of_ble_eq_true rfl | omega | (dsimp only; omega) | (show _ ≤ 600130; omega) | (show _ ≤ 7301080; omega)), (by first | exact Nat.le_of_ble_eq_true rfl | omega | (dsimp only; omega) | (show _ ≤ 600130; omega) | (show _ ≤ 7301080; omega))⟩ dL_isRefused_322 (fun r w' h => ?_)
                  obtain ⟨rfl, rfl⟩ := h
                  refine v_bipush hc (v := (-102)) dL_isRefused_325 (by decide) ?_
                  refine v_icmp_ne hc (tgt := 362) dL_isRefused_327 (by decide) (fun hb => False.elim (hb rfl)) (fun _ => ?_)
                  first | refine v_aload_n hc (i := 0) rfl dL_isRefused_330 rfl ?_ | refine v_aload_nN hc (i := 0) rfl dL_isRefused_330 rfl ?_
                  refine v_iconst hc (v := nI 3) dL_isRefused_331 (by decide) ?_
                  refine v_iconst hc (v := nI 0) dL_isRefused_332 (by decide) ?_
                  refine v_ldc2 hc (v := 256) dL_isRefused_333 (by decide +kernel) ?_
                  refine v_callSWi hc (q_noask3 hl hP (by decide +kernel)) (vx_cwSW 4 hc.1.2.2.2.2 gL_isRefused_L_ask rfl rfl rfl (by decide +kernel) ⟨Nat.le_of_ble_eq_true rfl, Nat.le_of_ble_eq_true rfl⟩) rfl rfl (Nat.le_of_ble_eq_true rfl) ⟨(by first | exact Nat.le_of_ble_eq_true rfl | omega | (dsimp only; omega) | (show _ ≤ 600130; omega) | (show _ ≤ 7301080; omega)), (by first | exact Nat.le_of_ble_eq_true rfl | omega | (dsimp only; omega) | (show _ ≤ 600130; omega) | (show _ ≤ 7301080; omega))⟩ dL_isRefused_336 (fun r w' h => ?_)
                  obtain ⟨rfl, rfl⟩ := h
                  refine v_bipush hc (v := (-102)) dL_isRefused_339 (by decide) ?_
                  refine v_icmp_ne hc (tgt := 362) dL_isRefused_341 (by decide) (fun hb => False.elim (hb rfl)) (fun _ => ?_)
                  first | refine v_aload_n hc (i := 0) rfl dL_isRefused_344 rfl ?_ | refine v_aload_nN hc (i := 0) rfl dL_isRefused_344 rfl ?_
                  refine v_iconst hc (v := nI 3) dL_isRefused_345 (by decide) ?_
                  refine v_iconst hc (v := nI 0) dL_isRefused_346 (by decide) ?_
                  refine v_ldc2 hc (v := -5) dL_isRefused_347 (by decide +kernel) ?_
                  refine v_callSWi hc (q_noask3 hl hP (by decide +kernel)) (vx_cwSW 4 hc.1.2.2.2.2 gL_isRefused_L_ask rfl rfl rfl (by decide +kernel) ⟨Nat.le_of_ble_eq_true rfl, Nat.le_of_ble_eq_true rfl⟩) rfl rfl (Nat.le_of_ble_eq_true rfl) ⟨(by first | exact Nat.le_of_ble_eq_true rfl | omega | (dsimp only; omega) | (show _ ≤ 600130; omega) | (show _ ≤ 7301080; omega)), (by first | exact Nat.le_of_ble_eq_true rfl | omega | (dsimp only; omega) | (show _ ≤ 600130; omega) | (show _ ≤ 7301080; omega))⟩ dL_isRefused_350 (fun r w' h => ?_)
                  obtain ⟨rfl, rfl⟩ := h
                  refine v_bipush hc (v := (-102)) dL_isRefused_353 (by decide) ?_
                  refine v_icmp_ne hc (tgt := 362) dL_isRefused_355 (by decide) (fun hb => False.elim (hb rfl)) (fun _ => ?_)
                  refine v_iconst hc (v := nI 1) dL_isRefused_358 (by decide) ?_
                  refine v_goto hc (tgt := 363) dL_isRefused_359 (by decide) ?_
                  refine v_istore hc dL_isRefused_363 (by decide) rfl ?_
                  refine v_iconst hc (v := nI 0) dL_isRefused_365 (by decide) ?_
                  refine v_istore hc dL_isRefused_366 (by decide) rfl ?_
                  refine v_widen (k' := 1050 + 0 * 3) (n' := 15300 + 0 * 18) (by omega) (by omega) ?_
                  refine v_loop (σ := Nat) (fun t => t ≤ 10) (fun t => 10 - t) (fun _ => w) (fun t => 1050 + t * 3) (fun t => 15300 + t * 18) (fun t => [(0, some (.ref px)), (3, some (.int no)), (5, some (.long (alR n lv lo fm O cp ru n))), (7, some (.int (nI 1))), (8, some (.int (nI t)))]) 0 rfl (Nat.zero_le _) ?_
                  intro t ht ihQ
                  refine v_iload hc dL_isRefused_368 rfl ?_
                  refine v_bipush hc (v := nI 10) dL_isRefused_370 (by decide) ?_
                  refine v_icmp_geN hc (tgt := 405) dL_isRefused_372 (by decide) (by omega) (by omega) (fun hlt => ?_) (fun hlt => ?_)
                  · refine v_iconst hc (v := nI 0) dL_isRefused_405 (by decide) ?_
                    refine v_istore hc dL_isRefused_406 (by decide) rfl ?_
                    refine v_widen (k' := 1080 + 0 * 8) (n' := 15480 + 0 * 48) (by omega) (by omega) ?_
                    refine v_loop (σ := Nat) (fun k => k ≤ n) (fun k => n - k) (fun _ => w) (fun k => 1080 + k * 8) (fun k => 15480 + k * 48) (fun k => [(0, some (.ref px)), (3, some (.int no)), (5, some (.long (alR n lv lo fm O cp ru n))), (7, some (.int (nI 1))), (8, some (.int (nI k)))]) 0 rfl (Nat.zero_le _) ?_
                    clear ihQ hlt ht t
                    intro k hk ihQ
                    refine v_iload hc dL_isRefused_408 rfl ?_
                    first | refine v_aload_n hc (i := 0) rfl dL_isRefused_410 rfl ?_ | refine v_aload_nN hc (i := 0) rfl dL_isRefused_410 rfl ?_
                    refine v_callVi hc (c_X3_objects hP) (cwV 0 hc.1.2.2.2.2 gL_isRefused_X3_objects rfl rfl rfl (by decide +kernel) ⟨Nat.le_of_ble_eq_true rfl, Nat.le_of_ble_eq_true rfl⟩) (hP.1) rfl rfl rfl (Nat.le_of_ble_eq_true rfl) ⟨(by first | exact Nat.le_of_ble_eq_true rfl | omega | (dsimp only; omega) | (show _ ≤ 600130; omega) | (show _ ≤ 7301080; omega)), (by first | exact Nat.le_of_ble_eq_true rfl | omega | (dsimp only; omega) | (show _ ≤ 600130; omega) | (show _ ≤ 7301080; omega))⟩ dL_isRefused_411 (fun r w' h => ?_)
                    obtain ⟨rfl, rfl⟩ := h
                    refine v_icmp_geN hc (tgt := 480) dL_isRefused_414 (by decide) (by omega) (by omega) (fun hlt => ?_) (fun hlt => ?_)
                    · refine v_iload hc dL_isRefused_480 rfl ?_
                      refine v_if_eq hc (tgt := 499) dL_isRefused_482 (by decide) (fun hb => False.elim (absurd hb (by decide))) (fun _ => ?_)
                      first | refine v_aload_n hc (i := 0) rfl dL_isRefused_485 rfl ?_ | refine v_aload_nN hc (i := 0) rfl dL_isRefused_485 rfl ?_
                      refine v_callSl hc (c_L_all hl hP hF hC) (va_cwS 1 hc.1.2.2.2.2 gL_isRefused_L_all rfl rfl rfl (by decide +kernel) ⟨Nat.le_of_ble_eq_true rfl, Nat.le_of_ble_eq_true rfl⟩) rfl rfl (Nat.le_of_ble_eq_true rfl) ⟨(by first | exact Nat.le_of_ble_eq_true rfl | omega | (dsimp only; omega) | (show _ ≤ 600130; omega) | (show _ ≤ 7301080; omega)), (by first | exact Nat.le_of_ble_eq_true rfl | omega | (dsimp only; omega) | (show _ ≤ 600130; omega) | (show _ ≤ 7301080; omega))⟩ dL_isRefused_486 (fun r w' h => ?_)
                      obtain ⟨rfl, rfl⟩ := h
                      refine v_lload hc dL_isRefused_489 rfl ?_
                      refine v_lcmp hc dL_isRefused_491 ?_
                      refine v_ifL_ne hc (tgt := 499) dL_isRefused_492 (by decide) (fun hb => False.elim (hb rfl)) (fun _ => ?_)
                      refine v_iconst hc (v := nI 1) dL_isRefused_495 (by decide) ?_
                      refine v_goto hc (tgt := 500) dL_isRefused_496 (by decide) ?_
                      exact v_zret hc hr dL_isRefused_500 (by first | exact Nat.le_of_ble_eq_true rfl | omega | (dsimp only; omega) | (show _ ≤ 600130; omega) | (show _ ≤ 7301080; omega)) (by first | exact Nat.le_of_ble_eq_true rfl | omega | (dsimp only; omega) | (show _ ≤ 600130; omega) | (show _ ≤ 7301080; omega)) (by first | rfl | exact bI_nar _) (⟨rfl, rfl⟩)
                    · refine v_iload hc dL_isRefused_417 rfl ?_
                      refine v_if_eq hc (tgt := 480) dL_isRefused_419 (by decide) (fun hb => False.elim (absurd hb (by decide))) (fun _ => ?_)
                      first | refine v_aload_n hc (i := 0) rfl dL_isRefused_422 rfl ?_ | refine v_aload_nN hc (i := 0) rfl dL_isRefused_422 rfl ?_
                      refine v_iload hc dL_isRefused_423 rfl ?_
                      refine v_callVi hc (q_isLive hl hP hlt) (cwV 1 hc.1.2.2.2.2 gL_isRefused_X3_isLive rfl rfl rfl (by decide +kernel) ⟨Nat.le_of_ble_eq_true rfl, Nat.le_of_ble_eq_true rfl⟩) (hP.1) rfl rfl rfl (Nat.le_of_ble_eq_true rfl) ⟨(by first | exact Nat.le_of_ble_eq_true rfl | omega | (dsimp only; omega) | (show _ ≤ 600130; omega) | (show _ ≤ 7301080; omega)), (by first | exact Nat.le_of_ble_eq_true rfl | omega | (dsimp only; omega) | (show _ ≤ 600130; omega) | (show _ ≤ 7301080; omega))⟩ dL_isRefused_425 (fun r w' h => ?_)
                      obtain ⟨rfl, rfl⟩ := h
                      refine v_cut (1084 + k * 8) (15504 + k * 48) 443 [(0, some (.ref px)), (3, some (.int no)), (5, some (.long (alR n lv lo fm O cp ru n))), (8, some (.int (nI k)))] [] ?_ (fun KQ => ?_)
                      · first | refine v_aload_n hc (i := 0) rfl dL_isRefused_443 rfl ?_ | refine v_aload_nN hc (i := 0) rfl dL_isRefused_443 rfl ?_
                        refine v_iload hc dL_isRefused_444 rfl ?_
                        refine v_iload_n hc (i := 3) rfl dL_isRefused_446 rfl ?_
                        refine v_callSWi hc (q_nodelta hl hP hI.1 (by rw [hno, Bool.and_false])) (vx_cwSW 3 hc.1.2.2.2.2 gL_isRefused_L_deltaCost rfl rfl rfl (by decide +kernel) ⟨Nat.le_of_ble_eq_true rfl, Nat.le_of_ble_eq_true rfl⟩) rfl rfl (Nat.le_of_ble_eq_true rfl) ⟨(by first | exact Nat.le_of_ble_eq_true rfl | omega | (dsimp only; omega) | (show _ ≤ 600130; omega) | (show _ ≤ 7301080; omega)), (by first | exact Nat.le_of_ble_eq_true rfl | omega | (dsimp only; omega) | (show _ ≤ 600130; omega) | (show _ ≤ 7301080; omega))⟩ dL_isRefused_447 (fun r w' h => ?_)
                        obtain ⟨rfl, rfl⟩ := h
                        refine v_bipush hc (v := (-101)) dL_isRefused_450 (by decide) ?_
                        refine v_icmp_ne hc (tgt := 471) dL_isRefused_452 (by decide) (fun hb => False.elim (hb rfl)) (fun _ => ?_)
                        first | refine v_aload_n hc (i := 0) rfl dL_isRefused_455 rfl ?_ | refine v_aload_nN hc (i := 0) rfl dL_isRefused_455 rfl ?_
                        refine v_iload_n hc (i := 3) rfl dL_isRefused_456 rfl ?_
                        refine v_iload hc dL_isRefused_457 rfl ?_
                        refine v_callSWi hc (q_nodelta hl hP hI.1 (by rw [hno, Bool.false_and])) (vx_cwSW 3 hc.1.2.2.2.2 gL_isRefused_L_deltaCost rfl rfl rfl (by decide +kernel) ⟨Nat.le_of_ble_eq_true rfl, Nat.le_of_ble_eq_true rfl⟩) rfl rfl (Nat.le_of_ble_eq_true rfl) ⟨(by first | exact Nat.le_of_ble_eq_true rfl | omega | (dsimp only; omega) | (show _ ≤ 600130; omega) | (show _ ≤ 7301080; omega)), (by first | exact Nat.le_of_ble_eq_true rfl | omega | (dsimp only; omega) | (show _ ≤ 600130; omega) | (show _ ≤ 7301080; omega))⟩ dL_isRefused_459 (fun r w' h => ?_)
                        obtain ⟨rfl, rfl⟩ := h
                        refine v_bipush hc (v := (-101)) dL_isRefused_462 (by decide) ?_
                        refine v_icmp_ne hc (tgt := 471) dL_isRefused_464 (by decide) (fun hb => False.elim (hb rfl)) (fun _ => ?_)
                        refine v_iconst hc (v := nI 1) dL_isRefused_467 (by decide) ?_
                        refine v_goto hc (tgt := 472) dL_isRefused_468 (by decide) ?_
                        refine v_istore hc dL_isRefused_472 (by decide) rfl ?_
                        first | refine v_iinc1 hc dL_isRefused_474 rfl (by decide) rfl ?_ | refine v_iinc hc dL_isRefused_474 rfl rfl (by decide) rfl ?_
                        refine v_goto hc (tgt := 408) dL_isRefused_477 (by decide) ?_
                        refine v_widen (k' := 1080 + (k + 1) * 8) (n' := 15480 + (k + 1) * 48) (by omega) (by omega) ?_
                        exact ihQ (k + 1) _ rfl hlt (by omega)
                      · cases hlk : lv k with
                        | true =>
                          refine v_ifB_ne hc (tgt := 443) dL_isRefused_428 (by decide) (fun _ => ?_) (fun hb => False.elim (Bool.false_ne_true hb.symm))
                          exact v_widen (by first | omega | exact Nat.le_of_ble_eq_true rfl | (dsimp only; omega)) (by first | omega | exact Nat.le_of_ble_eq_true rfl | (dsimp only; omega)) (v_loc _ rfl KQ)
                        | false =>
                          refine v_ifB_ne hc (tgt := 443) dL_isRefused_428 (by decide) (fun hb => False.elim (Bool.false_ne_true hb)) (fun _ => ?_)
                          first | refine v_aload_n hc (i := 0) rfl dL_isRefused_431 rfl ?_ | refine v_aload_nN hc (i := 0) rfl dL_isRefused_431 rfl ?_
                          refine v_iconst hc (v := nI 0) dL_isRefused_432 (by decide) ?_
                          refine v_iload hc dL_isRefused_433 rfl ?_
                          refine v_callSWi hc (q_dead hl hP hF hlt hlk) (vx_cwSW 3 hc.1.2.2.2.2 gL_isRefused_L_of rfl rfl rfl (by decide +kernel) ⟨Nat.le_of_ble_eq_true rfl, Nat.le_of_ble_eq_true rfl⟩) rfl rfl (Nat.le_of_ble_eq_true rfl) ⟨(by first | exact Nat.le_of_ble_eq_true rfl | omega | (dsimp only; omega) | (show _ ≤ 600130; omega) | (show _ ≤ 7301080; omega)), (by first | exact Nat.le_of_ble_eq_true rfl | omega | (dsimp only; omega) | (show _ ≤ 600130; omega) | (show _ ≤ 7301080; omega))⟩ dL_isRefused_435 (fun r w' h => ?_)
                          obtain ⟨rfl, rfl⟩ := h
                          refine v_bipush hc (v := (-103)) dL_isRefused_438 (by decide) ?_
                          refine v_icmp_ne hc (tgt := 471) dL_isRefused_440 (by decide) (fun hb => False.elim (hb rfl)) (fun _ => ?_)
                          exact v_widen (by first | omega | exact Nat.le_of_ble_eq_true rfl | (dsimp only; omega)) (by first | omega | exact Nat.le_of_ble_eq_true rfl | (dsimp only; omega)) (v_loc _ rfl KQ)
                  · refine v_iload hc dL_isRefused_375 rfl ?_
                    refine v_if_eq hc (tgt := 405) dL_isRefused_377 (by decide) (fun hb => False.elim (absurd hb (by decide))) (fun _ => ?_)
                    first | refine v_aload_n hc (i := 0) rfl dL_isRefused_380 rfl ?_ | refine v_aload_nN hc (i := 0) rfl dL_isRefused_380 rfl ?_
                    refine v_iload hc dL_isRefused_381 rfl ?_
                    refine v_iload_n hc (i := 3) rfl dL_isRefused_383 rfl ?_
                    refine v_callSWi hc (q_no hl hP hF hC hJ hno hlt) (vx_cwSW 3 hc.1.2.2.2.2 gL_isRefused_L_of rfl rfl rfl (by decide +kernel) ⟨Nat.le_of_ble_eq_true rfl, Nat.le_of_ble_eq_true rfl⟩) rfl rfl (Nat.le_of_ble_eq_true rfl) ⟨(by first | exact Nat.le_of_ble_eq_true rfl | omega | (dsimp only; omega) | (show _ ≤ 600130; omega) | (show _ ≤ 7301080; omega)), (by first | exact Nat.le_of_ble_eq_true rfl | omega | (dsimp only; omega) | (show _ ≤ 600130; omega) | (show _ ≤ 7301080; omega))⟩ dL_isRefused_384 (fun r w' h => ?_)
                    obtain ⟨rfl, rfl⟩ := h
                    refine v_bipush hc (v := (-101)) dL_isRefused_387 (by decide) ?_
                    refine v_icmp_ne hc (tgt := 396) dL_isRefused_389 (by decide) (fun hb => False.elim (hb rfl)) (fun _ => ?_)
                    refine v_iconst hc (v := nI 1) dL_isRefused_392 (by decide) ?_
                    refine v_goto hc (tgt := 397) dL_isRefused_393 (by decide) ?_
                    refine v_istore hc dL_isRefused_397 (by decide) rfl ?_
                    first | refine v_iinc1 hc dL_isRefused_399 rfl (by decide) rfl ?_ | refine v_iinc hc dL_isRefused_399 rfl rfl (by decide) rfl ?_
                    refine v_goto hc (tgt := 368) dL_isRefused_402 (by decide) ?_
                    refine v_widen (k' := 1050 + (t + 1) * 3) (n' := 15300 + (t + 1) * 18) (by omega) (by omega) ?_
                    exact ihQ (t + 1) _ rfl hlt (by omega)
                · cases b with
                  | true =>
                    refine v_ifB_eq hc (tgt := 270) dL_isRefused_263 (by decide) (fun hb => False.elim (Bool.false_ne_true hb.symm)) (fun _ => ?_)
                    refine v_iconst hc (v := (-1)) dL_isRefused_266 (by decide) ?_
                    refine v_goto hc (tgt := 277) dL_isRefused_267 (by decide) ?_
                    exact v_widen (by first | omega | exact Nat.le_of_ble_eq_true rfl | (dsimp only; omega)) (by first | omega | exact Nat.le_of_ble_eq_true rfl | (dsimp only; omega)) (v_loc _ rfl KQ)
                  | false =>
                    refine v_ifB_eq hc (tgt := 270) dL_isRefused_263 (by decide) (fun _ => ?_) (fun hb => False.elim (Bool.false_ne_true hb))
                    refine v_bipush hc (v := nI 16) dL_isRefused_270 (by decide) ?_
                    refine v_iload_n hc (i := 1) rfl dL_isRefused_272 rfl ?_
                    refine v_bipush hc (v := nI 70) dL_isRefused_273 (by decide) ?_
                    refine v_irem hc (by decide) dL_isRefused_275 ?_
                    refine v_ti r70 ?_
                    first | refine v_iaddN hc dL_isRefused_276 ?_ | refine v_iadd hc dL_isRefused_276 ?_
                    exact v_widen (by first | omega | exact Nat.le_of_ble_eq_true rfl | (dsimp only; omega)) (by first | omega | exact Nat.le_of_ble_eq_true rfl | (dsimp only; omega)) (v_loc _ rfl KQ)
              · cases b with
                | true =>
                  refine v_ifB_eq hc (tgt := 221) dL_isRefused_214 (by decide) (fun hb => False.elim (Bool.false_ne_true hb.symm)) (fun _ => ?_)
                  refine v_iconst hc (v := (-1)) dL_isRefused_217 (by decide) ?_
                  refine v_goto hc (tgt := 228) dL_isRefused_218 (by decide) ?_
                  exact v_widen (by first | omega | exact Nat.le_of_ble_eq_true rfl | (dsimp only; omega)) (by first | omega | exact Nat.le_of_ble_eq_true rfl | (dsimp only; omega)) (v_loc _ rfl KQ)
                | false =>
                  refine v_ifB_eq hc (tgt := 221) dL_isRefused_214 (by decide) (fun _ => ?_) (fun hb => False.elim (Bool.false_ne_true hb))
                  refine v_bipush hc (v := nI 7) dL_isRefused_221 (by decide) ?_
                  refine v_iload_n hc (i := 1) rfl dL_isRefused_223 rfl ?_
                  refine v_bipush hc (v := nI 70) dL_isRefused_224 (by decide) ?_
                  refine v_irem hc (by decide) dL_isRefused_226 ?_
                  refine v_ti r70 ?_
                  first | refine v_iaddN hc dL_isRefused_227 ?_ | refine v_iadd hc dL_isRefused_227 ?_
                  exact v_widen (by first | omega | exact Nat.le_of_ble_eq_true rfl | (dsimp only; omega)) (by first | omega | exact Nat.le_of_ble_eq_true rfl | (dsimp only; omega)) (v_loc _ rfl KQ)
            · cases b with
              | true =>
                refine v_ifB_eq hc (tgt := 194) dL_isRefused_187 (by decide) (fun hb => False.elim (Bool.false_ne_true hb.symm)) (fun _ => ?_)
                refine v_iconst hc (v := nI 0) dL_isRefused_190 (by decide) ?_
                refine v_goto hc (tgt := 201) dL_isRefused_191 (by decide) ?_
                exact v_widen (by first | omega | exact Nat.le_of_ble_eq_true rfl | (dsimp only; omega)) (by first | omega | exact Nat.le_of_ble_eq_true rfl | (dsimp only; omega)) (v_loc _ rfl KQ)
              | false =>
                refine v_ifB_eq hc (tgt := 194) dL_isRefused_187 (by decide) (fun _ => ?_) (fun hb => False.elim (Bool.false_ne_true hb))
                refine v_bipush hc (v := nI 9) dL_isRefused_194 (by decide) ?_
                refine v_iload_n hc (i := 1) rfl dL_isRefused_196 rfl ?_
                refine v_bipush hc (v := nI 70) dL_isRefused_197 (by decide) ?_
                refine v_irem hc (by decide) dL_isRefused_199 ?_
                refine v_ti r70 ?_
                first | refine v_iaddN hc dL_isRefused_200 ?_ | refine v_iadd hc dL_isRefused_200 ?_
                exact v_widen (by first | omega | exact Nat.le_of_ble_eq_true rfl | (dsimp only; omega)) (by first | omega | exact Nat.le_of_ble_eq_true rfl | (dsimp only; omega)) (v_loc _ rfl KQ)
          · refine v_icmp_ltN hc (tgt := 185) dL_isRefused_169 (by decide) (by omega) (by omega) (fun h40 => ?_) (fun h40 => ?_)
            · exact v_widen (by first | omega | exact Nat.le_of_ble_eq_true rfl | (dsimp only; omega)) (by first | omega | exact Nat.le_of_ble_eq_true rfl | (dsimp only; omega)) (v_loc _ rfl KQ)
            · first | refine v_aload_n hc (i := 0) rfl dL_isRefused_172 rfl ?_ | refine v_aload_nN hc (i := 0) rfl dL_isRefused_172 rfl ?_
              refine v_iconst hc (v := nI 5) dL_isRefused_173 (by decide) ?_
              refine v_ldc2 hc (v := 5) dL_isRefused_174 (by decide +kernel) ?_
              refine v_callSWi hc (q_full hl hP hF hC (by omega) (by decide +kernel)) (vx_cwSW 3 hc.1.2.2.2.2 gL_isRefused_L_store rfl rfl rfl (by decide +kernel) ⟨Nat.le_of_ble_eq_true rfl, Nat.le_of_ble_eq_true rfl⟩) rfl rfl (Nat.le_of_ble_eq_true rfl) ⟨(by first | exact Nat.le_of_ble_eq_true rfl | omega | (dsimp only; omega) | (show _ ≤ 600130; omega) | (show _ ≤ 7301080; omega)), (by first | exact Nat.le_of_ble_eq_true rfl | omega | (dsimp only; omega) | (show _ ≤ 600130; omega) | (show _ ≤ 7301080; omega))⟩ dL_isRefused_177 (fun r w' h => ?_)
              obtain ⟨rfl, rfl⟩ := h
              refine v_bipush hc (v := (-103)) dL_isRefused_180 (by decide) ?_
              refine v_icmp_ne hc (tgt := 362) dL_isRefused_182 (by decide) (fun hb => False.elim (hb rfl)) (fun _ => ?_)
              exact v_widen (by first | omega | exact Nat.le_of_ble_eq_true rfl | (dsimp only; omega)) (by first | omega | exact Nat.le_of_ble_eq_true rfl | (dsimp only; omega)) (v_loc _ rfl KQ)
        · cases b with
          | true =>
            refine v_ifB_eq hc (tgt := 78) dL_isRefused_66 (by decide) (fun hb => False.elim (Bool.false_ne_true hb.symm)) (fun _ => ?_)
            refine v_iconst hc (v := (-1)) dL_isRefused_69 (by decide) ?_
            refine v_iload_n hc (i := 1) rfl dL_isRefused_70 rfl ?_
            refine v_bipush hc (v := nI 70) dL_isRefused_71 (by decide) ?_
            refine v_irem hc (by decide) dL_isRefused_73 ?_
            refine v_ti r70 ?_
            refine v_isub hc dL_isRefused_74 ?_
            refine v_goto hc (tgt := 85) dL_isRefused_75 (by decide) ?_
            exact v_widen (by first | omega | exact Nat.le_of_ble_eq_true rfl | (dsimp only; omega)) (by first | omega | exact Nat.le_of_ble_eq_true rfl | (dsimp only; omega)) (v_loc _ rfl KQ)
          | false =>
            refine v_ifB_eq hc (tgt := 78) dL_isRefused_66 (by decide) (fun _ => ?_) (fun hb => False.elim (Bool.false_ne_true hb))
            refine v_bipush hc (v := nI 100) dL_isRefused_78 (by decide) ?_
            refine v_iload_n hc (i := 1) rfl dL_isRefused_80 rfl ?_
            refine v_bipush hc (v := nI 70) dL_isRefused_81 (by decide) ?_
            refine v_irem hc (by decide) dL_isRefused_83 ?_
            refine v_ti r70 ?_
            first | refine v_iaddN hc dL_isRefused_84 ?_ | refine v_iadd hc dL_isRefused_84 ?_
            exact v_widen (by first | omega | exact Nat.le_of_ble_eq_true rfl | (dsimp only; omega)) (by first | omega | exact Nat.le_of_ble_eq_true rfl | (dsimp only; omega)) (v_loc _ rfl KQ)
      · cases b with
        | true =>
          refine v_ifB_eq hc (tgt := 48) dL_isRefused_36 (by decide) (fun hb => False.elim (Bool.false_ne_true hb.symm)) (fun _ => ?_)
          refine v_iconst hc (v := (-1)) dL_isRefused_39 (by decide) ?_
          refine v_iload_n hc (i := 1) rfl dL_isRefused_40 rfl ?_
          refine v_bipush hc (v := nI 70) dL_isRefused_41 (by decide) ?_
          refine v_irem hc (by decide) dL_isRefused_43 ?_
          refine v_ti r70 ?_
          refine v_isub hc dL_isRefused_44 ?_
          refine v_goto hc (tgt := 56) dL_isRefused_45 (by decide) ?_
          exact v_widen (by first | omega | exact Nat.le_of_ble_eq_true rfl | (dsimp only; omega)) (by first | omega | exact Nat.le_of_ble_eq_true rfl | (dsimp only; omega)) (v_loc _ rfl KQ)
        | false =>
          refine v_ifB_eq hc (tgt := 48) dL_isRefused_36 (by decide) (fun _ => ?_) (fun hb => False.elim (Bool.false_ne_true hb))
          refine v_sipush hc (v := nI 4096) dL_isRefused_48 (by decide) ?_
          refine v_iload_n hc (i := 1) rfl dL_isRefused_51 rfl ?_
          refine v_bipush hc (v := nI 70) dL_isRefused_52 (by decide) ?_
          refine v_irem hc (by decide) dL_isRefused_54 ?_
          refine v_ti r70 ?_
          first | refine v_iaddN hc dL_isRefused_55 ?_ | refine v_iadd hc dL_isRefused_55 ?_
          exact v_widen (by first | omega | exact Nat.le_of_ble_eq_true rfl | (dsimp only; omega)) (by first | omega | exact Nat.le_of_ble_eq_true rfl | (dsimp only; omega)) (v_loc _ rfl KQ)
    · cases b with
      | true =>
        refine v_ifB_eq hc (tgt := 25) dL_isRefused_13 (by decide) (fun hb => False.elim (Bool.false_ne_true hb.symm)) (fun _ => ?_)
        refine v_iconst hc (v := (-1)) dL_isRefused_16 (by decide) ?_
        refine v_iload_n hc (i := 1) rfl dL_isRefused_17 rfl ?_
        refine v_bipush hc (v := nI 70) dL_isRefused_18 (by decide) ?_
        refine v_irem hc (by decide) dL_isRefused_20 ?_
        refine v_ti r70 ?_
        refine v_isub hc dL_isRefused_21 ?_
        refine v_goto hc (tgt := 34) dL_isRefused_22 (by decide) ?_
        exact v_widen (by first | omega | exact Nat.le_of_ble_eq_true rfl | (dsimp only; omega)) (by first | omega | exact Nat.le_of_ble_eq_true rfl | (dsimp only; omega)) (v_loc _ rfl KQ)
      | false =>
        refine v_ifB_eq hc (tgt := 25) dL_isRefused_13 (by decide) (fun _ => ?_) (fun hb => False.elim (Bool.false_ne_true hb))
        first | refine v_aload_n hc (i := 0) rfl dL_isRefused_25 rfl ?_ | refine v_aload_nN hc (i := 0) rfl dL_isRefused_25 rfl ?_
        refine v_callVi hc (c_X3_objects hP) (cwV 0 hc.1.2.2.2.2 gL_isRefused_X3_objects rfl rfl rfl (by decide +kernel) ⟨Nat.le_of_ble_eq_true rfl, Nat.le_of_ble_eq_true rfl⟩) (hP.1) rfl rfl rfl (Nat.le_of_ble_eq_true rfl) ⟨(by first | exact Nat.le_of_ble_eq_true rfl | omega | (dsimp only; omega) | (show _ ≤ 600130; omega) | (show _ ≤ 7301080; omega)), (by first | exact Nat.le_of_ble_eq_true rfl | omega | (dsimp only; omega) | (show _ ≤ 600130; omega) | (show _ ≤ 7301080; omega))⟩ dL_isRefused_26 (fun r w' h => ?_)
        obtain ⟨rfl, rfl⟩ := h
        refine v_iload_n hc (i := 1) rfl dL_isRefused_29 rfl ?_
        refine v_bipush hc (v := nI 70) dL_isRefused_30 (by decide) ?_
        refine v_irem hc (by decide) dL_isRefused_32 ?_
        refine v_ti r70 ?_
        first | refine v_iaddN hc dL_isRefused_33 ?_ | refine v_iadd hc dL_isRefused_33 ?_
        exact v_widen (by first | omega | exact Nat.le_of_ble_eq_true rfl | (dsimp only; omega)) (by first | omega | exact Nat.le_of_ble_eq_true rfl | (dsimp only; omega)) (v_loc _ rfl KQ)
  · refine v_if_neN hc (tgt := 10) dL_isRefused_3 (by decide) (by omega) (fun h2 => ?_) (fun h2 => ?_)
    · rw [hb, decide_eq_false h2] at KQ
      refine v_iconst hc (v := nI 0) dL_isRefused_10 (by decide) ?_
      exact v_widen (by first | omega | exact Nat.le_of_ble_eq_true rfl | (dsimp only; omega)) (by first | omega | exact Nat.le_of_ble_eq_true rfl | (dsimp only; omega)) (v_loc _ rfl KQ)
    · rw [hb, decide_eq_true h2] at KQ
      refine v_iconst hc (v := nI 1) dL_isRefused_6 (by decide) ?_
      refine v_goto hc (tgt := 11) dL_isRefused_7 (by decide) ?_
      exact v_widen (by first | omega | exact Nat.le_of_ble_eq_true rfl | (dsimp only; omega)) (by first | omega | exact Nat.le_of_ble_eq_true rfl | (dsimp only; omega)) (v_loc _ rfl KQ)
end LW4

