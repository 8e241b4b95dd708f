/-! ===== the law packs ===== -/
theorem lor_bit {a k : Nat} {b : Bool} (haQ : a < 2 ^ k) (hk : k < 60) : lN a ||| lN (b1 b * 2 ^ k) = lN (a + b1 b * 2 ^ k) := by
  refine g_or' (k := k) (p := 2 ^ k) rfl haQ ?_
  have h1 : b1 b * 2 ^ k ≤ 1 * 2 ^ k := Nat.mul_le_mul_right _ (by cases b <;> decide)
  have h2 : 2 ^ k ≤ 2 ^ 60 := Nat.pow_le_pow_right (by decide) (by omega)
  have h3 : (2 : Nat) ^ 60 = 1152921504606846976 := by decide
  have h4 : (2 : Nat) ^ 64 = 18446744073709551616 := by decide
  omega
theorem bits_sh {q : Nat → Bool} {m k : Nat} (hk : k < m) (hmQ : m ≤ 40) : (lN (bits q m) >>> ((nI k).toInt64 &&& 63)) &&& 1 = lN (b1 (q k)) := by
  have h1 := bits_lt q m
  have h2 : 2 ^ m ≤ 2 ^ 40 := Nat.pow_le_pow_right (by decide) hmQ
  have h3 : (2 : Nat) ^ 40 = 1099511627776 := by decide
  have h62 : (2 : Nat) ^ 62 = 4611686018427387904 := by decide
  have h64 : (2 : Nat) ^ 64 = 18446744073709551616 := by decide
  have e2 : ((lN k).toBitVec.smod 64).toNat = k := by
    rw [wb_tb, wb_sm _ (by omega), BitVec.toNat_ofNat, Nat.mod_eq_of_lt (by omega)]
  rw [wb_c k (by omega), pf_shr e2 (by omega), g_and1 (Nat.lt_of_le_of_lt (Nat.div_le_self _ _) (by omega)), bits_at q m hk]
theorem l_b1 (b : Bool) : lN (b1 b) = 1 ↔ b = true := by cases b <;> decide
theorem bI_inj {a b : Bool} (h : a = b) : bI a = bI b := by rw [h]
section LW7
variable {l : Launch} {G : cG} {A : Nat → Prop} {w v u : wd} {px pI pO pX n ca na sa : Nat} {ia : Nat → Nat} {nm : Nat → Int32} {ct fc : Nat → Int64} {fn fs : Nat → Int32} {lv lo : Nat → Bool} {fa fb : Nat → Option Nat} {fm : Nat → Option Frm} {O X : List Nat} {cp ru : Int32}
theorem q_pack (hl : l.stackTraces = false) (hP : PC G w px pI pO pX n ia nm ct lv lo fa fb O X cp ru) (hF : FW w n ia fa fm) (hI : INV n ct fm O X) {W bd : Nat} {rs : Bool} (hW : 1 ≤ W) (hW8 : W ≤ 8) (hbd : bd ≤ 6) : Met l yL_pack wsL_pack ({ frames := 16, cells := 160, slots := 5200, locals := 316 } : Room) (Pw G A w [.ref px, .int (nI W), .int (nI bd), .int (bI rs)]) (va_Qi (fun r w' => ∃ O' X' fa' fb', srtd (ahd nm ct) (fun i => i < n ∧ rdb lv lo fm i = true) O' ∧ srtd (ihd ct) (fun i => i ∈ O') X' ∧ PC G w' px pI pO pX n ia nm ct lv lo fa' fb' O' X' (nI (fmr ct fm bd W rs O' O'.length).2.1) (nI (fmr ct fm bd W rs O' O'.length).2.2) ∧ FW w' n ia fa' (fmr ct fm bd W rs O' O'.length).1 ∧ FJ n fa' ∧ r = nI (sumL (cst (fmr ct fm bd W rs O' O'.length).1) O')) (Bw G A) A) 160 5200 A := c_L_pack hP.1 _ _ _ (c_X3_pack hl hP hF hI.2.1 hI.2.2.1 hI.1 _ _ _) (fun r w' h => by
  obtain ⟨-, W', bd', O', X', fa', fb', e1, e2, h1, h2, h3, h4, h5, h6, h7, h8⟩ := h
  obtain rfl : W = W' := (nI_eq (by omega) (by omega)).mp e1
  obtain rfl : bd = bd' := (nI_eq (by omega) (by omega)).mp e2
  exact ⟨O', X', fa', fb', h3, h4, h5, h6, h7, h8⟩) (fun E w' h => by
  have h9 := h.2.2
  have i1 : isin (nI W) (nI 1) (nI 8) = true := by
    unfold isin
    rw [decide_eq_true ((nI_leI (by decide) (by omega)).mpr hW), decide_eq_true ((nI_leI (by omega) (by decide)).mpr hW8)]; rfl
  have i2 : isin (nI bd) (nI 0) (nI 6) = true := by
    unfold isin
    rw [decide_eq_true ((nI_leI (by decide) (by omega)).mpr (Nat.zero_le _)), decide_eq_true ((nI_leI (by omega) (by decide)).mpr hbd)]; rfl
  rw [i1, i2] at h9; cases h9)
abbrev lK (px ca sa W bd : Nat) (rs : Bool) (rd wh : Nat) (could : Nat) (k : Nat) : vLT := [(0, some (.ref px)), (1, some (.ref ca)), (2, some (.ref sa)), (3, some (.int (nI W))), (4, some (.int (nI bd))), (5, some (.int (bI rs))), (6, some (.int (nI rd))), (7, some (.int (nI wh))), (8, some (.int (nI 0))), (9, some (.int (nI 0))), (10, some (.long (lN could))), (12, some (.int (nI k)))]
abbrev lM (px ca sa W bd : Nat) (de su could told : Nat) (k : Nat) : vLT := [(0, some (.ref px)), (1, some (.ref ca)), (2, some (.ref sa)), (3, some (.int (nI W))), (4, some (.int (nI bd))), (8, some (.int (nI de))), (9, some (.int (nI su))), (10, some (.long (lN could))), (12, some (.int (nI told))), (13, some (.int (nI 1))), (14, some (.int (nI k)))]
def whl (ct : Nat → Int64) (q : Nat → Bool) (i : Nat) : Nat := cond (q i) (hxn (xN (ct i))) 0
theorem cst_s {i : Nat} {g : Frm} (h : fm i = some g) : cst fm i = g.2.2.2.1 := by unfold cst; rw [h]
theorem isD_0 {i : Nat} (h : fm i = none) : isD fm i = false := by unfold isD bas; rw [h]; rfl
set_option maxRecDepth 100000 in
set_option maxHeartbeats 16000000 in
theorem c_L_isPacked (hl : l.stackTraces = false) (hw : w = jn v u) (hdQ : dj v u) (hP : PC G u px pI pO pX n ia nm ct lv lo fa fb O X cp ru) (hF : FW u n ia fa fm) (hSQ : SI n nm ct lv lo fm O X) (hca : v ca = some (aL G 40 fc)) (hfc : ∀ i, i < n → fc i = ct i) (hsa : v sa = some (aI G 40 fs)) (hfs : ∀ i, i < n → fs i = nI (enc (lv i) (lo i) (dmg fm i))) {W bd : Nat} {rs : Bool} (hW : 1 ≤ W) (hW8 : W ≤ 8) (hbd : bd ≤ 6) : Met l yL_isPacked wsL_isPacked ({ frames := 17, cells := 1500, slots := 18000, locals := 340 } : Room) (Pw G A w [.ref px, .ref ca, .ref sa, .int (nI W), .int (nI bd), .int (bI rs)]) (va_Qi (fun r w' => (∃ u' fs' fa' fb' fm' O' X' cp' ru', dj (wup v sa (aI G 40 fs')) u' ∧ w' = jn (wup v sa (aI G 40 fs')) u' ∧ PC G u' px pI pO pX n ia nm ct lv lo fa' fb' O' X' cp' ru' ∧ FW u' n ia fa' fm' ∧ FJ n fa' ∧ SI n nm ct lv lo fm' O' X' ∧ ∀ i, i < n → fs' i = nI (enc (lv i) (lo i) (dmg fm' i))) ∧ r = bI true) (Bw G A) A) 1500 18000 A := by
  subst hw
  refine m_of (cc := cL_isPacked) (maxL := 15) (ret := (some .boolean)) (by decide) rfl (Nat.le_of_ble_eq_true rfl) ?_
  intro p e s m args below meth c hc hr hmn
  refine v_loc [(0, some (.ref px)), (1, some (.ref ca)), (2, some (.ref sa)), (3, some (.int (nI W))), (4, some (.int (nI bd))), (5, some (.int (bI rs)))] rfl ?_
  have hn := hP.n40
  have hC := hSQ.1.2.1
  have hP1 := hP.le (wle_r hdQ)
  have hF1 := hF.le (wle_r hdQ)
  have hcv : jn v u ca = some (aL G 40 fc) := jn_l hca
  have hx15 : ∀ i, i < n → hxn (xN (ct i)) ≤ 15 := fun i hiQ => isC_15 (hSQ.1.1 i hiQ)
  have hrd : ∀ k, k ≤ n → sumN k (fun i => b1 (rdb lv lo fm i)) ≤ 40 := fun k hk => Nat.le_trans (sumN_b1_le _ k) (by omega)
  have hwh : ∀ k, k ≤ n → sumN k (whl ct (rdb lv lo fm)) ≤ 600 := fun k hk => Nat.le_trans (sumN_bd (B := 15) (fun i hiQ => by unfold whl; cases rdb lv lo fm i with | true => exact hx15 i (by omega) | false => exact Nat.zero_le _)) (by omega)
  refine v_iconst hc (v := nI 0) dL_isPacked_0 (by decide) ?_
  refine v_istore hc dL_isPacked_1 (by decide) rfl ?_
  refine v_iconst hc (v := nI 0) dL_isPacked_3 (by decide) ?_
  refine v_istore hc dL_isPacked_4 (by decide) rfl ?_
  refine v_iconst hc (v := nI 0) dL_isPacked_6 (by decide) ?_
  refine v_istore hc dL_isPacked_7 (by decide) rfl ?_
  refine v_iconst hc (v := nI 0) dL_isPacked_9 (by decide) ?_
  refine v_istore hc dL_isPacked_10 (by decide) rfl ?_
  refine v_lconst hc (v := 0) dL_isPacked_12 (by decide) ?_
  refine v_lstore hc dL_isPacked_13 (by decide) rfl ?_
  refine v_iconst hc (v := nI 0) dL_isPacked_15 (by decide) ?_
  refine v_istore hc dL_isPacked_16 (by decide) rfl ?_
  refine v_widen (k' := 0 * 3) (n' := 0 * 18) (by omega) (by omega) ?_
  refine v_loop (σ := Nat) (fun k => k ≤ n) (fun k => n - k) (fun _ => jn v u) (fun k => k * 3) (fun k => k * 18) (fun k => lK px ca sa W bd rs (sumN k (fun i => b1 (rdb lv lo fm i))) (sumN k (whl ct (rdb lv lo fm))) (bits (rdb lv lo fm) k) k) 0 rfl (Nat.zero_le _) ?_
  intro k hk0 ihQ
  have hrk := hrd k hk0
  have hwk := hwh k hk0
  refine v_iload hc dL_isPacked_18 rfl ?_
  first | refine v_aload_n hc (i := 0) rfl dL_isPacked_20 rfl ?_ | refine v_aload_nN hc (i := 0) rfl dL_isPacked_20 rfl ?_
  refine v_callVi hc (c_X3_objects hP1) (cwV 0 hc.1.2.2.2.2 gL_isPacked_X3_objects rfl rfl rfl (by decide +kernel) ⟨Nat.le_of_ble_eq_true rfl, Nat.le_of_ble_eq_true rfl⟩) (hP1.1) rfl rfl rfl (Nat.le_of_ble_eq_true rfl) ⟨(by first | exact Nat.le_of_ble_eq_true rfl | omega | (dsimp only; omega) | (show _ ≤ 600130; omega) | (show _ ≤ 7301080; omega)), (by first | exact Nat.le_of_ble_eq_true rfl | omega | (dsimp only; omega) | (show _ ≤ 600130; omega) | (show _ ≤ 7301080; omega))⟩ dL_isPacked_21 (fun r w' h => ?_)
  obtain ⟨rfl, rfl⟩ := h
  refine v_icmp_geN hc (tgt := 99) dL_isPacked_24 (by decide) (by omega) (by omega) (fun hk => ?_) (fun hk => ?_)
  · have e : k = n := by omega
    subst e
    refine v_widen (k' := 120) (n' := 720) (by omega) (by omega) ?_
    first | refine v_aload_n hc (i := 0) rfl dL_isPacked_99 rfl ?_ | refine v_aload_nN hc (i := 0) rfl dL_isPacked_99 rfl ?_
    refine v_iload_n hc (i := 3) rfl dL_isPacked_100 rfl ?_
    refine v_iload hc dL_isPacked_101 rfl ?_
    refine v_iload hc dL_isPacked_103 rfl ?_
    refine v_frSWi hc hdQ (q_pack hl hP hF hSQ.1 hW hW8 hbd) (vx_cwSW 4 hc.1.2.2.2.2 gL_isPacked_L_pack rfl rfl rfl (by decide +kernel) ⟨Nat.le_of_ble_eq_true rfl, Nat.le_of_ble_eq_true rfl⟩) rfl rfl (Nat.le_of_ble_eq_true rfl) ⟨(by first | exact Nat.le_of_ble_eq_true rfl | omega | (dsimp only; omega) | (show _ ≤ 600130; omega) | (show _ ≤ 7301080; omega)), (by first | exact Nat.le_of_ble_eq_true rfl | omega | (dsimp only; omega) | (show _ ≤ 600130; omega) | (show _ ≤ 7301080; omega))⟩ dL_isPacked_105 (fun r u2 h hd2 => ?_)
    obtain ⟨O', X', fa', fb', hO', hX', hP2, hF2, hJ2, rfl⟩ := h
    obtain ⟨hS2, his, hfl⟩ := hSQ.pak (W := W) (rs := rs) hO' hX' hbd
    have hOd := hS2.1.2.2.2.1
    have hOn : ∀ i ∈ O', i < k := fun i hiQ => ((hO'.2 i).mp hiQ).1
    have hcnt := fmr_cnt (ct := ct) (fm := fm) (bd := bd) (W := W) (rs := rs) hOd hOn hbd hSQ.dl (Nat.le_refl _)
    have hdel := fmr_del (ct := ct) (fm := fm) (bd := bd) (W := W) (rs := rs) hOd hOn hbd hSQ.dl (Nat.le_refl _)
    have hagn := fun {q} (hq : q ≤ O'.length) => fmr_again (ct := ct) (fm := fm) (bd := bd) (W := W) (rs := rs) hOd hOn hbd hSQ.dl hS2.dl (k := q) hq
    have hgz : bd = 0 → ∀ i, i < k → ∀ g, (fmr ct fm bd W rs O' O'.length).1 i = some g → g.1 = none := fun hz i hiQ g hg => by
      have h1 := (hfl i hiQ g hg).2
      cases hb : g.1 with
      | none => rfl
      | some b =>
        obtain ⟨-, g', -, h5⟩ := (hS2.1.2.1 i hiQ g hg).2 b hb
        omega
    generalize hFe : fmr ct fm bd W rs O' O'.length = F at hP2 hF2 hS2 his hfl hcnt hdel hagn hgz ⊢
    have hO40 := hP2.o40
    obtain ⟨hc1, hc2, hc3, hc4⟩ := hcnt
    have hOl : O'.length = sumN k (fun i => b1 (rdb lv lo fm i)) := by
      rw [len_sumL, srt_sum hO' (fun _ => 1)]
      exact sumN_congr (fun i _ => by cases rdb lv lo fm i <;> rfl)
    have hcsN : sumL (cst F.1) O' = sumN k (cst F.1) := sumO hS2.1 _ (fun i hiQ => cst_0 hiQ)
    have hdeN : sumL (fun i => b1 (isD F.1 i)) O' = sumN k (fun i => b1 (isD F.1 i)) := sumO hS2.1 _ (fun i hiQ => by rw [isD_0 hiQ]; rfl)
    have hcle : ∀ i, i < k → cst F.1 i ≤ whl ct (rdb lv lo fm) i := fun i hiQ => by
      unfold whl
      rw [← his i hiQ]
      cases hg : F.1 i with
      | none => rw [cst_0 hg]; exact Nat.zero_le _
      | some g => rw [cst_s hg]; exact (hS2.pos i hiQ g hg).2.2
    have htw : sumL (cst F.1) O' ≤ sumN k (whl ct (rdb lv lo fm)) := by rw [hcsN]; exact sumN_le hcle
    have htz : bd = 0 → sumL (cst F.1) O' = sumN k (whl ct (rdb lv lo fm)) := fun hz => by
      rw [hcsN]
      refine sumN_congr (fun i hiQ => ?_)
      unfold whl
      rw [← his i hiQ]
      cases hg : F.1 i with
      | none => rw [cst_0 hg]; rfl
      | some g => rw [cst_s hg]; exact ((hS2.1.2.2.1 i hiQ g hg).1 (hgz hz i hiQ g hg)).2
    rw [List.take_length] at hdel
    rw [hdeN] at hdel
    have hdk : ∀ m, m ≤ k → sumN m (fun i => b1 (isD F.1 i)) ≤ 40 := fun m hmQ => Nat.le_trans (sumN_b1_le _ m) (by omega)
    have hck : ∀ m, m ≤ k → sumN m (cst F.1) ≤ 600 := fun m hmQ => Nat.le_trans (sumN_mono hmQ) (Nat.le_trans (sumN_le hcle) (hwh k (Nat.le_refl _)))
    have hps : ∀ i, i < k → ∀ g, F.1 i = some g → 0 < g.2.2.2.1 ∧ g.2.2.2.1 < 2 ^ 20 := fun i hiQ g hg => ⟨(hS2.pos i hiQ g hg).1, (hS2.pos i hiQ g hg).2.1⟩
    have hWO : W * O'.length ≤ 8 * 40 := Nat.mul_le_mul hW8 hO40
    rw [← hOl]
    have hP3 := hP2.le (wle_r hd2)
    have hF3 := hF2.le (wle_r hd2)
    refine v_istore hc dL_isPacked_108 (by decide) rfl ?_
    refine v_iload hc dL_isPacked_110 rfl ?_
    first | refine v_aload_n hc (i := 0) rfl dL_isPacked_112 rfl ?_ | refine v_aload_nN hc (i := 0) rfl dL_isPacked_112 rfl ?_
    refine v_callVi hc (c_X3_cost hP3 hF3) (cwV 0 hc.1.2.2.2.2 gL_isPacked_X3_cost rfl rfl rfl (by decide +kernel) ⟨Nat.le_of_ble_eq_true rfl, Nat.le_of_ble_eq_true rfl⟩) (hP3.1) rfl rfl rfl (Nat.le_of_ble_eq_true rfl) ⟨(by first | exact Nat.le_of_ble_eq_true rfl | omega | (dsimp only; omega) | (show _ ≤ 600130; omega) | (show _ ≤ 7301080; omega)), (by first | exact Nat.le_of_ble_eq_true rfl | omega | (dsimp only; omega) | (show _ ≤ 600130; omega) | (show _ ≤ 7301080; omega))⟩ dL_isPacked_113 (fun r w' h => ?_)
    obtain ⟨rfl, rfl⟩ := h
    refine v_icmp_ne hc (tgt := 187) dL_isPacked_116 (by decide) (fun hb => False.elim (hb rfl)) (fun _ => ?_)
    refine v_iload hc dL_isPacked_119 rfl ?_
    refine v_iload hc dL_isPacked_121 rfl ?_
    refine v_icmp_gtN hc (tgt := 187) dL_isPacked_123 (by decide) (by omega) (by omega) (fun hb => False.elim (by omega)) (fun _ => ?_)
    first | refine v_aload_n hc (i := 0) rfl dL_isPacked_126 rfl ?_ | refine v_aload_nN hc (i := 0) rfl dL_isPacked_126 rfl ?_
    refine v_callVi hc (c_X3_forms hP3) (cwV 0 hc.1.2.2.2.2 gL_isPacked_X3_forms rfl rfl rfl (by decide +kernel) ⟨Nat.le_of_ble_eq_true rfl, Nat.le_of_ble_eq_true rfl⟩) (hP3.1) rfl rfl rfl (Nat.le_of_ble_eq_true rfl) ⟨(by first | exact Nat.le_of_ble_eq_true rfl | omega | (dsimp only; omega) | (show _ ≤ 600130; omega) | (show _ ≤ 7301080; omega)), (by first | exact Nat.le_of_ble_eq_true rfl | omega | (dsimp only; omega) | (show _ ≤ 600130; omega) | (show _ ≤ 7301080; omega))⟩ dL_isPacked_127 (fun r w' h => ?_)
    obtain ⟨rfl, rfl⟩ := h
    refine v_iload hc dL_isPacked_130 rfl ?_
    refine v_icmp_ne hc (tgt := 187) dL_isPacked_132 (by decide) (fun hb => False.elim (hb rfl)) (fun _ => ?_)
    first | refine v_aload_n hc (i := 0) rfl dL_isPacked_135 rfl ?_ | refine v_aload_nN hc (i := 0) rfl dL_isPacked_135 rfl ?_
    refine v_callVi hc (c_X3_reused hP3) (cwV 0 hc.1.2.2.2.2 gL_isPacked_X3_reused rfl rfl rfl (by decide +kernel) ⟨Nat.le_of_ble_eq_true rfl, Nat.le_of_ble_eq_true rfl⟩) (hP3.1) rfl rfl rfl (Nat.le_of_ble_eq_true rfl) ⟨(by first | exact Nat.le_of_ble_eq_true rfl | omega | (dsimp only; omega) | (show _ ≤ 600130; omega) | (show _ ≤ 7301080; omega)), (by first | exact Nat.le_of_ble_eq_true rfl | omega | (dsimp only; omega) | (show _ ≤ 600130; omega) | (show _ ≤ 7301080; omega))⟩ dL_isPacked_136 (fun r w' h => ?_)
    obtain ⟨rfl, rfl⟩ := h
    refine v_iload hc dL_isPacked_139 rfl ?_
    refine v_cut 280 5920 153 (lK px ca sa W bd rs O'.length (sumN k (whl ct (rdb lv lo fm))) (bits (rdb lv lo fm) k) (sumL (cst F.1) O')) [] ?_ (fun KQ => ?_)
    · first | refine v_aload_n hc (i := 0) rfl dL_isPacked_153 rfl ?_ | refine v_aload_nN hc (i := 0) rfl dL_isPacked_153 rfl ?_
      refine v_callVi hc (c_X3_compared hP3) (cwV 0 hc.1.2.2.2.2 gL_isPacked_X3_compared rfl rfl rfl (by decide +kernel) ⟨Nat.le_of_ble_eq_true rfl, Nat.le_of_ble_eq_true rfl⟩) (hP3.1) rfl rfl rfl (Nat.le_of_ble_eq_true rfl) ⟨(by first | exact Nat.le_of_ble_eq_true rfl | omega | (dsimp only; omega) | (show _ ≤ 600130; omega) | (show _ ≤ 7301080; omega)), (by first | exact Nat.le_of_ble_eq_true rfl | omega | (dsimp only; omega) | (show _ ≤ 600130; omega) | (show _ ≤ 7301080; omega))⟩ dL_isPacked_154 (fun r w' h => ?_)
      obtain ⟨rfl, rfl⟩ := h
      refine v_iload_n hc (i := 3) rfl dL_isPacked_157 rfl ?_
      refine v_iload hc dL_isPacked_158 rfl ?_
      first | refine v_imulN hc dL_isPacked_160 ?_ | refine v_imul hc dL_isPacked_160 ?_
      refine v_icmp_gtN hc (tgt := 187) dL_isPacked_161 (by decide) (by omega) (by omega) (fun hb => False.elim (by omega)) (fun _ => ?_)
      refine v_iload hc dL_isPacked_164 rfl ?_
      refine v_cut 280 5920 183 (lK px ca sa W bd rs O'.length (sumN k (whl ct (rdb lv lo fm))) (bits (rdb lv lo fm) k) (sumL (cst F.1) O')) [] ?_ (fun KQ => ?_)
      · refine v_iconst hc (v := nI 1) dL_isPacked_183 (by decide) ?_
        refine v_goto hc (tgt := 188) dL_isPacked_184 (by decide) ?_
        refine v_istore hc dL_isPacked_188 (by decide) rfl ?_
        refine v_iconst hc (v := nI 0) dL_isPacked_190 (by decide) ?_
        refine v_istore hc dL_isPacked_191 (by decide) rfl ?_
        refine v_w (show _ = jn (wup v sa (aI G 40 fs)) u2 by rw [wup_same hsa]) ?_
        refine v_widen (k' := 280 + 0 * 22) (n' := 5920 + 0 * 132) (by omega) (by omega) ?_
        refine v_loop (σ := Nat × (Nat → Int32)) (fun a => a.1 ≤ k ∧ ∀ i, i < k → a.2 i = nI (enc (lv i) (lo i) (cond (decide (i < a.1)) false (dmg fm i)))) (fun a => k - a.1) (fun a => jn (wup v sa (aI G 40 a.2)) u2) (fun a => 280 + a.1 * 22) (fun a => 5920 + a.1 * 132) (fun a => lM px ca sa W bd (sumN a.1 (fun i => b1 (isD F.1 i))) (sumN a.1 (cst F.1)) (bits (rdb lv lo fm) k) (sumL (cst F.1) O') a.1) (0, fs) rfl ⟨Nat.zero_le _, fun i hiQ => by dsimp only; rw [hfs i hiQ, decide_eq_false (Nat.not_lt_zero i)]; rfl⟩ ?_
        clear ihQ
        rintro ⟨m, f⟩ ⟨hm0, hf⟩ ihQ
        dsimp only at hm0 hf ihQ ⊢
        have hd3 := dj_up (e := aI G 40 f) hd2 hsa
        have hP3 := hP2.le (wle_r hd3)
        have hF3 := hF2.le (wle_r hd3)
        have hsv : jn (wup v sa (aI G 40 f)) u2 sa = some (aI G 40 f) := jn_l (wup_s _ _ _)
        have hdm := hdk m hm0
        have hcm := hck m hm0
        refine v_iload hc dL_isPacked_193 rfl ?_
        first | refine v_aload_n hc (i := 0) rfl dL_isPacked_195 rfl ?_ | refine v_aload_nN hc (i := 0) rfl dL_isPacked_195 rfl ?_
        refine v_callVi hc (c_X3_objects hP3) (cwV 0 hc.1.2.2.2.2 gL_isPacked_X3_objects rfl rfl rfl (by decide +kernel) ⟨Nat.le_of_ble_eq_true rfl, Nat.le_of_ble_eq_true rfl⟩) (hP3.1) rfl rfl rfl (Nat.le_of_ble_eq_true rfl) ⟨(by first | exact Nat.le_of_ble_eq_true rfl | omega | (dsimp only; omega) | (show _ ≤ 600130; omega) | (show _ ≤ 7301080; omega)), (by first | exact Nat.le_of_ble_eq_true rfl | omega | (dsimp only; omega) | (show _ ≤ 600130; omega) | (show _ ≤ 7301080; omega))⟩ dL_isPacked_196 (fun r w' h => ?_)
        obtain ⟨rfl, rfl⟩ := h
        refine v_icmp_geN hc (tgt := 341) dL_isPacked_199 (by decide) (by omega) (by omega) (fun hmQ => ?_) (fun hmQ => ?_)
        · have e : m = k := by omega
          subst e
          refine v_widen (k' := 280 + 40 * 22) (n' := 5920 + 40 * 132) (by omega) (by omega) ?_
          refine v_iload hc dL_isPacked_341 rfl ?_
          refine v_if_eq hc (tgt := 388) dL_isPacked_343 (by decide) (fun hb => False.elim (absurd hb (by decide))) (fun _ => ?_)
          refine v_iload hc dL_isPacked_346 rfl ?_
          refine v_iload hc dL_isPacked_348 rfl ?_
          refine v_icmp_ne hc (tgt := 388) dL_isPacked_350 (by decide) (fun hb => False.elim (hb (by rw [hcsN]))) (fun _ => ?_)
          first | refine v_aload_n hc (i := 0) rfl dL_isPacked_353 rfl ?_ | refine v_aload_nN hc (i := 0) rfl dL_isPacked_353 rfl ?_
          refine v_callVi hc (c_X3_reused hP3) (cwV 0 hc.1.2.2.2.2 gL_isPacked_X3_reused rfl rfl rfl (by decide +kernel) ⟨Nat.le_of_ble_eq_true rfl, Nat.le_of_ble_eq_true rfl⟩) (hP3.1) rfl rfl rfl (Nat.le_of_ble_eq_true rfl) ⟨(by first | exact Nat.le_of_ble_eq_true rfl | omega | (dsimp only; omega) | (show _ ≤ 600130; omega) | (show _ ≤ 7301080; omega)), (by first | exact Nat.le_of_ble_eq_true rfl | omega | (dsimp only; omega) | (show _ ≤ 600130; omega) | (show _ ≤ 7301080; omega))⟩ dL_isPacked_354 (fun r w' h => ?_)
          obtain ⟨rfl, rfl⟩ := h
          refine v_iload hc dL_isPacked_357 rfl ?_
          refine v_icmp_gtN hc (tgt := 388) dL_isPacked_359 (by decide) (by omega) (by omega) (fun hb => False.elim (by omega)) (fun _ => ?_)
          have hdQ := hd3
          first | refine v_aload_n hc (i := 0) rfl dL_isPacked_362 rfl ?_ | refine v_aload_nN hc (i := 0) rfl dL_isPacked_362 rfl ?_
          refine v_iload_n hc (i := 3) rfl dL_isPacked_363 rfl ?_
          refine v_iload hc dL_isPacked_364 rfl ?_
          refine v_iconst hc (v := nI 1) dL_isPacked_366 (by decide) ?_
          refine v_ti (show _ = bI true from rfl) ?_
          refine v_frSWi hc hdQ (q_pack hl hP2 hF2 hS2.1 hW hW8 hbd) (vx_cwSW 4 hc.1.2.2.2.2 gL_isPacked_L_pack rfl rfl rfl (by decide +kernel) ⟨Nat.le_of_ble_eq_true rfl, Nat.le_of_ble_eq_true rfl⟩) rfl rfl (Nat.le_of_ble_eq_true rfl) ⟨(by first | exact Nat.le_of_ble_eq_true rfl | omega | (dsimp only; omega) | (show _ ≤ 600130; omega) | (show _ ≤ 7301080; omega)), (by first | exact Nat.le_of_ble_eq_true rfl | omega | (dsimp only; omega) | (show _ ≤ 600130; omega) | (show _ ≤ 7301080; omega))⟩ dL_isPacked_367 (fun r u4 h hd4 => ?_)
          obtain ⟨O2, X2, fa2, fb2, hO2, hX2, hP4, hF4, hJ4, rfl⟩ := h
          have hOe : O2 = O' := srtd.uniq (so_ahd nm ct) hO2.1 hO'.1 (fun i => by
            rw [hO2.2 i, hO'.2 i]
            constructor
            · rintro ⟨h1, h2⟩
              rw [rdb_pak hSQ hS2.1.2.1 his (fun i hiQ g hg => (hfl i hiQ g hg).1) h1, his i h1] at h2
              exact ⟨h1, h2⟩
            · rintro ⟨h1, h2⟩
              refine ⟨h1, ?_⟩
              rw [rdb_pak hSQ hS2.1.2.1 his (fun i hiQ g hg => (hfl i hiQ g hg).1) h1, his i h1]
              exact h2)
          subst hOe
          obtain ⟨hS4, his4, hfl4⟩ := hS2.pak (W := W) (rs := true) hO2 hX2 hbd
          have hag := hagn (Nat.le_refl _)
          rw [hFe] at hag
          have hag2 := hag.2
          rw [List.take_length, hdeN] at hag2
          have hP5 := hP4.le (wle_r hd4)
          refine v_iload hc dL_isPacked_370 rfl ?_
          refine v_icmp_ne hc (tgt := 388) dL_isPacked_372 (by decide) (fun hb => False.elim (hb (by rw [hag.1]))) (fun _ => ?_)
          first | refine v_aload_n hc (i := 0) rfl dL_isPacked_375 rfl ?_ | refine v_aload_nN hc (i := 0) rfl dL_isPacked_375 rfl ?_
          refine v_callVi hc (c_X3_reused hP5) (cwV 0 hc.1.2.2.2.2 gL_isPacked_X3_reused rfl rfl rfl (by decide +kernel) ⟨Nat.le_of_ble_eq_true rfl, Nat.le_of_ble_eq_true rfl⟩) (hP5.1) rfl rfl rfl (Nat.le_of_ble_eq_true rfl) ⟨(by first | exact Nat.le_of_ble_eq_true rfl | omega | (dsimp only; omega) | (show _ ≤ 600130; omega) | (show _ ≤ 7301080; omega)), (by first | exact Nat.le_of_ble_eq_true rfl | omega | (dsimp only; omega) | (show _ ≤ 600130; omega) | (show _ ≤ 7301080; omega))⟩ dL_isPacked_376 (fun r w' h => ?_)
          obtain ⟨rfl, rfl⟩ := h
          refine v_iload hc dL_isPacked_379 rfl ?_
          refine v_icmp_ne hc (tgt := 388) dL_isPacked_381 (by decide) (fun hb => False.elim (hb (by rw [hag2]))) (fun _ => ?_)
          refine v_iconst hc (v := nI 1) dL_isPacked_384 (by decide) ?_
          refine v_goto hc (tgt := 389) dL_isPacked_385 (by decide) ?_
          have hfin : ∀ i, i < m → f i = nI (enc (lv i) (lo i) (dmg (fmr ct F.1 bd W true O2 O2.length).1 i)) := fun i hiQ => by
            rw [hf i hiQ, decide_eq_true hiQ]
            have h9 : dmg (fmr ct F.1 bd W true O2 O2.length).1 i = false := by
              unfold dmg
              split
              · rfl
              · rename_i g hg
                exact (hfl4 i hiQ g hg).1
            rw [h9]; rfl
          exact v_zret hc hr dL_isPacked_389 (by first | exact Nat.le_of_ble_eq_true rfl | omega | (dsimp only; omega) | (show _ ≤ 600130; omega) | (show _ ≤ 7301080; omega)) (by first | exact Nat.le_of_ble_eq_true rfl | omega | (dsimp only; omega) | (show _ ≤ 600130; omega) | (show _ ≤ 7301080; omega)) (by first | rfl | exact bI_nar _) (⟨⟨u4, f, fa2, fb2, _, O2, X2, _, _, hd4, rfl, hP4, hF4, hJ4, hS4, hfin⟩, rfl⟩)
        · have hri : (F.1 m).isSome = rdb lv lo fm m := his m hmQ
          have hrp := rdb_pak hSQ hS2.1.2.1 his (fun i hiQ g hg => (hfl i hiQ g hg).1) hmQ
          refine v_iload hc dL_isPacked_202 rfl ?_
          refine v_if_eq hc (tgt := 341) dL_isPacked_204 (by decide) (fun hb => False.elim (absurd hb (by decide))) (fun _ => ?_)
          first | refine v_aload_n hc (i := 0) rfl dL_isPacked_207 rfl ?_ | refine v_aload_nN hc (i := 0) rfl dL_isPacked_207 rfl ?_
          refine v_iload hc dL_isPacked_208 rfl ?_
          refine v_callSi hc (q_hasForm hl hP3 hF3 hps hmQ) (va_cwS 2 hc.1.2.2.2.2 gL_isPacked_L_hasForm rfl rfl rfl (by decide +kernel) ⟨Nat.le_of_ble_eq_true rfl, Nat.le_of_ble_eq_true rfl⟩) rfl rfl (Nat.le_of_ble_eq_true rfl) ⟨(by first | exact Nat.le_of_ble_eq_true rfl | omega | (dsimp only; omega) | (show _ ≤ 600130; omega) | (show _ ≤ 7301080; omega)), (by first | exact Nat.le_of_ble_eq_true rfl | omega | (dsimp only; omega) | (show _ ≤ 600130; omega) | (show _ ≤ 7301080; omega))⟩ dL_isPacked_210 (fun r w' h => ?_)
          obtain ⟨rfl, rfl⟩ := h
          refine v_lload hc dL_isPacked_213 rfl ?_
          refine v_iload hc dL_isPacked_215 rfl ?_
          refine v_lshr hc dL_isPacked_217 ?_
          refine v_lconst hc (v := 1) dL_isPacked_218 (by decide) ?_
          refine v_land hc dL_isPacked_219 ?_
          refine v_tl (bits_sh hmQ (by omega)) ?_
          refine v_lconst hc (v := 1) dL_isPacked_220 (by decide) ?_
          refine v_lcmp hc dL_isPacked_221 ?_
          refine v_cut (280 + m * 22 + 3) (5920 + m * 132 + 18) 230 (lM px ca sa W bd (sumN m (fun i => b1 (isD F.1 i))) (sumN m (cst F.1)) (bits (rdb lv lo fm) k) (sumL (cst F.1) O') m) [.int (bI (rdb lv lo fm m)), .int (bI (F.1 m).isSome)] ?_ (fun KQ => ?_)
          · refine v_icmp_ne hc (tgt := 272) dL_isPacked_230 (by decide) (fun hb => False.elim (hb (bI_inj hri))) (fun _ => ?_)
            first | refine v_aload_n hc (i := 0) rfl dL_isPacked_233 rfl ?_ | refine v_aload_nN hc (i := 0) rfl dL_isPacked_233 rfl ?_
            refine v_iload hc dL_isPacked_234 rfl ?_
            refine v_callVi hc (q_canRead hl hP3 hF3 hS2.1.2.1 hmQ) (cwV 1 hc.1.2.2.2.2 gL_isPacked_X3_canRead rfl rfl rfl (by decide +kernel) ⟨Nat.le_of_ble_eq_true rfl, Nat.le_of_ble_eq_true rfl⟩) (hP3.1) rfl rfl rfl (Nat.le_of_ble_eq_true rfl) ⟨(by first | exact Nat.le_of_ble_eq_true rfl | omega | (dsimp only; omega) | (show _ ≤ 600130; omega) | (show _ ≤ 7301080; omega)), (by first | exact Nat.le_of_ble_eq_true rfl | omega | (dsimp only; omega) | (show _ ≤ 600130; omega) | (show _ ≤ 7301080; omega))⟩ dL_isPacked_236 (fun r w' h => ?_)
            obtain ⟨rfl, rfl⟩ := h
            first | refine v_aload_n hc (i := 0) rfl dL_isPacked_239 rfl ?_ | refine v_aload_nN hc (i := 0) rfl dL_isPacked_239 rfl ?_
            refine v_iload hc dL_isPacked_240 rfl ?_
            refine v_callSi hc (q_hasForm hl hP3 hF3 hps hmQ) (va_cwS 2 hc.1.2.2.2.2 gL_isPacked_L_hasForm rfl rfl rfl (by decide +kernel) ⟨Nat.le_of_ble_eq_true rfl, Nat.le_of_ble_eq_true rfl⟩) rfl rfl (Nat.le_of_ble_eq_true rfl) ⟨(by first | exact Nat.le_of_ble_eq_true rfl | omega | (dsimp only; omega) | (show _ ≤ 600130; omega) | (show _ ≤ 7301080; omega)), (by first | exact Nat.le_of_ble_eq_true rfl | omega | (dsimp only; omega) | (show _ ≤ 600130; omega) | (show _ ≤ 7301080; omega))⟩ dL_isPacked_242 (fun r w' h => ?_)
            obtain ⟨rfl, rfl⟩ := h
            refine v_icmp_ne hc (tgt := 272) dL_isPacked_245 (by decide) (fun hb => False.elim (hb (bI_inj hrp))) (fun _ => ?_)
            first | refine v_aload_n hc (i := 0) rfl dL_isPacked_248 rfl ?_ | refine v_aload_nN hc (i := 0) rfl dL_isPacked_248 rfl ?_
            refine v_iload hc dL_isPacked_249 rfl ?_
            refine v_callSi hc (q_hasForm hl hP3 hF3 hps hmQ) (va_cwS 2 hc.1.2.2.2.2 gL_isPacked_L_hasForm rfl rfl rfl (by decide +kernel) ⟨Nat.le_of_ble_eq_true rfl, Nat.le_of_ble_eq_true rfl⟩) rfl rfl (Nat.le_of_ble_eq_true rfl) ⟨(by first | exact Nat.le_of_ble_eq_true rfl | omega | (dsimp only; omega) | (show _ ≤ 600130; omega) | (show _ ≤ 7301080; omega)), (by first | exact Nat.le_of_ble_eq_true rfl | omega | (dsimp only; omega) | (show _ ≤ 600130; omega) | (show _ ≤ 7301080; omega))⟩ dL_isPacked_251 (fun r w' h => ?_)
            obtain ⟨rfl, rfl⟩ := h
            refine v_cut (280 + m * 22 + 12) (5920 + m * 132 + 72) 268 (lM px ca sa W bd (sumN m (fun i => b1 (isD F.1 i))) (sumN m (cst F.1)) (bits (rdb lv lo fm) k) (sumL (cst F.1) O') m) [] ?_ (fun KQ => ?_)
            · refine v_iconst hc (v := nI 1) dL_isPacked_268 (by decide) ?_
              refine v_goto hc (tgt := 273) dL_isPacked_269 (by decide) ?_
              refine v_istore hc dL_isPacked_273 (by decide) rfl ?_
              first | refine v_aload_n hc (i := 2) rfl dL_isPacked_275 rfl ?_ | refine v_aload_nN hc (i := 2) rfl dL_isPacked_275 rfl ?_
              refine v_iload hc dL_isPacked_276 rfl ?_
              refine v_dup2 hc dL_isPacked_278 rfl rfl ?_
              refine v_iald hc m dL_isPacked_279 hsv rfl (by omega) (by decide) ?_
              rw [hf m hmQ, decide_eq_false (Nat.lt_irrefl m)]
              refine v_ti (show _ = nI (enc (lv m) (lo m) (dmg fm m)) from rfl) ?_
              refine v_iconst hc (v := nI 4) dL_isPacked_280 (by decide) ?_
              refine v_irem hc (by decide) dL_isPacked_281 ?_
              refine v_ti e_rem4 ?_
              refine v_iast hc m dL_isPacked_282 hsv rfl (by omega) (by decide) ?_
              refine v_w (show _ = jn (wup v sa (aI G 40 (va_up f m (nI (enc (lv m) (lo m) false))))) u2 by rw [jn_upl, wup_up]) ?_
              have hd5 := dj_up (e := aI G 40 (va_up f m (nI (enc (lv m) (lo m) false)))) hd2 hsa
              have hP6 := hP2.le (wle_r hd5)
              have hF6 := hF2.le (wle_r hd5)
              refine v_iload hc dL_isPacked_283 rfl ?_
              first | refine v_aload_n hc (i := 0) rfl dL_isPacked_285 rfl ?_ | refine v_aload_nN hc (i := 0) rfl dL_isPacked_285 rfl ?_
              refine v_iload hc dL_isPacked_286 rfl ?_
              refine v_callSi hc (q_hasForm hl hP6 hF6 hps hmQ) (va_cwS 2 hc.1.2.2.2.2 gL_isPacked_L_hasForm rfl rfl rfl (by decide +kernel) ⟨Nat.le_of_ble_eq_true rfl, Nat.le_of_ble_eq_true rfl⟩) rfl rfl (Nat.le_of_ble_eq_true rfl) ⟨(by first | exact Nat.le_of_ble_eq_true rfl | omega | (dsimp only; omega) | (show _ ≤ 600130; omega) | (show _ ≤ 7301080; omega)), (by first | exact Nat.le_of_ble_eq_true rfl | omega | (dsimp only; omega) | (show _ ≤ 600130; omega) | (show _ ≤ 7301080; omega))⟩ dL_isPacked_288 (fun r w' h => ?_)
              obtain ⟨rfl, rfl⟩ := h
              refine v_cut (280 + m * 22 + 17) (5920 + m * 132 + 102) 308 (lM px ca sa W bd (sumN m (fun i => b1 (isD F.1 i))) (sumN m (cst F.1)) (bits (rdb lv lo fm) k) (sumL (cst F.1) O') m) [.int (nI (b1 (isD F.1 m))), .int (nI (sumN m (fun i => b1 (isD F.1 i))))] ?_ (fun KQ => ?_)
              · first | refine v_iaddN hc dL_isPacked_308 ?_ | refine v_iadd hc dL_isPacked_308 ?_
                refine v_istore hc dL_isPacked_309 (by decide) rfl ?_
                refine v_iload hc dL_isPacked_311 rfl ?_
                first | refine v_aload_n hc (i := 0) rfl dL_isPacked_313 rfl ?_ | refine v_aload_nN hc (i := 0) rfl dL_isPacked_313 rfl ?_
                refine v_iload hc dL_isPacked_314 rfl ?_
                refine v_callSi hc (q_hasForm hl hP6 hF6 hps hmQ) (va_cwS 2 hc.1.2.2.2.2 gL_isPacked_L_hasForm rfl rfl rfl (by decide +kernel) ⟨Nat.le_of_ble_eq_true rfl, Nat.le_of_ble_eq_true rfl⟩) rfl rfl (Nat.le_of_ble_eq_true rfl) ⟨(by first | exact Nat.le_of_ble_eq_true rfl | omega | (dsimp only; omega) | (show _ ≤ 600130; omega) | (show _ ≤ 7301080; omega)), (by first | exact Nat.le_of_ble_eq_true rfl | omega | (dsimp only; omega) | (show _ ≤ 600130; omega) | (show _ ≤ 7301080; omega))⟩ dL_isPacked_316 (fun r w' h => ?_)
                obtain ⟨rfl, rfl⟩ := h
                refine v_cut (280 + m * 22 + 22) (5920 + m * 132 + 132) 332 (lM px ca sa W bd (sumN (m + 1) (fun i => b1 (isD F.1 i))) (sumN m (cst F.1)) (bits (rdb lv lo fm) k) (sumL (cst F.1) O') m) [.int (nI (cst F.1 m)), .int (nI (sumN m (cst F.1)))] ?_ (fun KQ => ?_)
                · first | refine v_iaddN hc dL_isPacked_332 ?_ | refine v_iadd hc dL_isPacked_332 ?_
                  refine v_istore hc dL_isPacked_333 (by decide) rfl ?_
                  first | refine v_iinc1 hc dL_isPacked_335 rfl (by decide) rfl ?_ | refine v_iinc hc dL_isPacked_335 rfl rfl (by decide) rfl ?_
                  refine v_goto hc (tgt := 193) dL_isPacked_338 (by decide) ?_
                  refine v_widen (k' := 280 + (m + 1) * 22) (n' := 5920 + (m + 1) * 132) (by omega) (by omega) ?_
                  refine ihQ (m + 1, va_up f m (nI (enc (lv m) (lo m) false))) _ rfl ⟨hmQ, fun i hiQ => ?_⟩ (by dsimp only; omega)
                  dsimp only
                  by_cases him : i = m
                  · subst him
                    rw [va_up_self, decide_eq_true (Nat.lt_succ_self i)]; rfl
                  · rw [up_n him, hf i hiQ]
                    by_cases h9 : i < m
                    · rw [decide_eq_true h9, decide_eq_true (by omega)]
                    · rw [decide_eq_false h9, decide_eq_false (by omega)]
                · cases hg : F.1 m with
                  | none =>
                    rw [cst_0 hg] at KQ
                    refine v_ifB_eq hc (tgt := 331) dL_isPacked_319 (by decide) (fun _ => ?_) (fun hb => False.elim (Bool.false_ne_true hb))
                    refine v_iconst hc (v := nI 0) dL_isPacked_331 (by decide) ?_
                    exact v_widen (by first | omega | exact Nat.le_of_ble_eq_true rfl | (dsimp only; omega)) (by first | omega | exact Nat.le_of_ble_eq_true rfl | (dsimp only; omega)) (v_loc _ rfl KQ)
                  | some g =>
                    rw [cst_s hg] at KQ
                    refine v_ifB_eq hc (tgt := 331) dL_isPacked_319 (by decide) (fun hb => False.elim (Bool.false_ne_true hb.symm)) (fun _ => ?_)
                    first | refine v_aload_n hc (i := 0) rfl dL_isPacked_322 rfl ?_ | refine v_aload_nN hc (i := 0) rfl dL_isPacked_322 rfl ?_
                    refine v_iload hc dL_isPacked_323 rfl ?_
                    refine v_callVi hc (q_costOf hl hP6 hF6 hmQ hg) (cwV 1 hc.1.2.2.2.2 gL_isPacked_X3_costOf rfl rfl rfl (by decide +kernel) ⟨Nat.le_of_ble_eq_true rfl, Nat.le_of_ble_eq_true rfl⟩) (hP6.1) rfl rfl rfl (Nat.le_of_ble_eq_true rfl) ⟨(by first | exact Nat.le_of_ble_eq_true rfl | omega | (dsimp only; omega) | (show _ ≤ 600130; omega) | (show _ ≤ 7301080; omega)), (by first | exact Nat.le_of_ble_eq_true rfl | omega | (dsimp only; omega) | (show _ ≤ 600130; omega) | (show _ ≤ 7301080; omega))⟩ dL_isPacked_325 (fun r w' h => ?_)
                    obtain ⟨rfl, rfl⟩ := h
                    refine v_goto hc (tgt := 332) dL_isPacked_328 (by decide) ?_
                    exact v_widen (by first | omega | exact Nat.le_of_ble_eq_true rfl | (dsimp only; omega)) (by first | omega | exact Nat.le_of_ble_eq_true rfl | (dsimp only; omega)) (v_loc _ rfl KQ)
              · cases hg : F.1 m with
                | none =>
                  rw [isD_0 hg] at KQ
                  refine v_ifB_eq hc (tgt := 307) dL_isPacked_291 (by decide) (fun _ => ?_) (fun hb => False.elim (Bool.false_ne_true hb))
                  refine v_iconst hc (v := nI 0) dL_isPacked_307 (by decide) ?_
                  exact v_widen (by first | omega | exact Nat.le_of_ble_eq_true rfl | (dsimp only; omega)) (by first | omega | exact Nat.le_of_ble_eq_true rfl | (dsimp only; omega)) (v_loc _ rfl KQ)
                | some g =>
                  have hisd : isD F.1 m = g.1.isSome := by unfold isD bas; rw [hg]; rfl
                  rw [hisd] at KQ
                  refine v_ifB_eq hc (tgt := 307) dL_isPacked_291 (by decide) (fun hb => False.elim (Bool.false_ne_true hb.symm)) (fun _ => ?_)
                  first | refine v_aload_n hc (i := 0) rfl dL_isPacked_294 rfl ?_ | refine v_aload_nN hc (i := 0) rfl dL_isPacked_294 rfl ?_
                  refine v_iload hc dL_isPacked_295 rfl ?_
                  refine v_callVi hc (q_base hl hP6 hF6 hS2.1.2.1 hmQ hg) (cwV 1 hc.1.2.2.2.2 gL_isPacked_X3_base rfl rfl rfl (by decide +kernel) ⟨Nat.le_of_ble_eq_true rfl, Nat.le_of_ble_eq_true rfl⟩) (hP6.1) rfl rfl rfl (Nat.le_of_ble_eq_true rfl) ⟨(by first | exact Nat.le_of_ble_eq_true rfl | omega | (dsimp only; omega) | (show _ ≤ 600130; omega) | (show _ ≤ 7301080; omega)), (by first | exact Nat.le_of_ble_eq_true rfl | omega | (dsimp only; omega) | (show _ ≤ 600130; omega) | (show _ ≤ 7301080; omega))⟩ dL_isPacked_297 (fun r w' h => ?_)
                  obtain ⟨rfl, rfl⟩ := h
                  cases hb0 : g.1 with
                  | none =>
                    rw [hb0] at KQ
                    refine v_ti (show _ = (-1 : Int32) from rfl) ?_
                    refine v_if_lt hc (tgt := 307) dL_isPacked_300 (by decide) (fun _ => ?_) (fun hb => False.elim (absurd hb (by decide)))
                    refine v_iconst hc (v := nI 0) dL_isPacked_307 (by decide) ?_
                    exact v_widen (by first | omega | exact Nat.le_of_ble_eq_true rfl | (dsimp only; omega)) (by first | omega | exact Nat.le_of_ble_eq_true rfl | (dsimp only; omega)) (v_loc _ rfl KQ)
                  | some b =>
                    rw [hb0] at KQ
                    have hbn := ((hS2.1.2.1 m hmQ g hg).2 b hb0).1
                    refine v_ti (show _ = nI b from rfl) ?_
                    refine v_if_ltN hc (tgt := 307) dL_isPacked_300 (by decide) (by omega) (fun hb => False.elim (hb)) (fun _ => ?_)
                    refine v_iconst hc (v := nI 1) dL_isPacked_303 (by decide) ?_
                    refine v_goto hc (tgt := 308) dL_isPacked_304 (by decide) ?_
                    exact v_widen (by first | omega | exact Nat.le_of_ble_eq_true rfl | (dsimp only; omega)) (by first | omega | exact Nat.le_of_ble_eq_true rfl | (dsimp only; omega)) (v_loc _ rfl KQ)
            · cases hg : F.1 m with
              | none =>
                refine v_ifB_eq hc (tgt := 268) dL_isPacked_254 (by decide) (fun _ => ?_) (fun hb => False.elim (Bool.false_ne_true hb))
                exact v_widen (by first | omega | exact Nat.le_of_ble_eq_true rfl | (dsimp only; omega)) (by first | omega | exact Nat.le_of_ble_eq_true rfl | (dsimp only; omega)) (v_loc _ rfl KQ)
              | some g =>
                have hg6 := (hfl m hmQ g hg).2
                refine v_ifB_eq hc (tgt := 268) dL_isPacked_254 (by decide) (fun hb => False.elim (Bool.false_ne_true hb.symm)) (fun _ => ?_)
                first | refine v_aload_n hc (i := 0) rfl dL_isPacked_257 rfl ?_ | refine v_aload_nN hc (i := 0) rfl dL_isPacked_257 rfl ?_
                refine v_iload hc dL_isPacked_258 rfl ?_
                refine v_callVi hc (q_depth hl hP3 hF3 hmQ hg) (cwV 1 hc.1.2.2.2.2 gL_isPacked_X3_depth rfl rfl rfl (by decide +kernel) ⟨Nat.le_of_ble_eq_true rfl, Nat.le_of_ble_eq_true rfl⟩) (hP3.1) rfl rfl rfl (Nat.le_of_ble_eq_true rfl) ⟨(by first | exact Nat.le_of_ble_eq_true rfl | omega | (dsimp only; omega) | (show _ ≤ 600130; omega) | (show _ ≤ 7301080; omega)), (by first | exact Nat.le_of_ble_eq_true rfl | omega | (dsimp only; omega) | (show _ ≤ 600130; omega) | (show _ ≤ 7301080; omega))⟩ dL_isPacked_260 (fun r w' h => ?_)
                obtain ⟨rfl, rfl⟩ := h
                refine v_iload hc dL_isPacked_263 rfl ?_
                refine v_icmp_gtN hc (tgt := 272) dL_isPacked_265 (by decide) (by omega) (by omega) (fun hb => False.elim (by omega)) (fun _ => ?_)
                exact v_widen (by first | omega | exact Nat.le_of_ble_eq_true rfl | (dsimp only; omega)) (by first | omega | exact Nat.le_of_ble_eq_true rfl | (dsimp only; omega)) (v_loc _ rfl KQ)
          · cases hr : rdb lv lo fm m with
            | true =>
              rw [hr] at KQ
              refine v_ifL_ne hc (tgt := 229) dL_isPacked_222 (by decide) (fun hb => False.elim (hb (by decide))) (fun _ => ?_)
              refine v_iconst hc (v := nI 1) dL_isPacked_225 (by decide) ?_
              refine v_goto hc (tgt := 230) dL_isPacked_226 (by decide) ?_
              exact v_widen (by first | omega | exact Nat.le_of_ble_eq_true rfl | (dsimp only; omega)) (by first | omega | exact Nat.le_of_ble_eq_true rfl | (dsimp only; omega)) (v_loc _ rfl KQ)
            | false =>
              rw [hr] at KQ
              refine v_ifL_ne hc (tgt := 229) dL_isPacked_222 (by decide) (fun _ => ?_) (fun hb => False.elim (absurd hb (by decide)))
              refine v_iconst hc (v := nI 0) dL_isPacked_229 (by decide) ?_
              exact v_widen (by first | omega | exact Nat.le_of_ble_eq_true rfl | (dsimp only; omega)) (by first | omega | exact Nat.le_of_ble_eq_true rfl | (dsimp only; omega)) (v_loc _ rfl KQ)
      · refine v_if_gtN hc (tgt := 183) dL_isPacked_166 (by decide) (by omega) (fun hb0 => ?_) (fun hb0 => ?_)
        · exact v_widen (by first | omega | exact Nat.le_of_ble_eq_true rfl | (dsimp only; omega)) (by first | omega | exact Nat.le_of_ble_eq_true rfl | (dsimp only; omega)) (v_loc _ rfl KQ)
        · subst hb0
          first | refine v_aload_n hc (i := 0) rfl dL_isPacked_169 rfl ?_ | refine v_aload_nN hc (i := 0) rfl dL_isPacked_169 rfl ?_
          refine v_callVi hc (c_X3_compared hP3) (cwV 0 hc.1.2.2.2.2 gL_isPacked_X3_compared rfl rfl rfl (by decide +kernel) ⟨Nat.le_of_ble_eq_true rfl, Nat.le_of_ble_eq_true rfl⟩) (hP3.1) rfl rfl rfl (Nat.le_of_ble_eq_true rfl) ⟨(by first | exact Nat.le_of_ble_eq_true rfl | omega | (dsimp only; omega) | (show _ ≤ 600130; omega) | (show _ ≤ 7301080; omega)), (by first | exact Nat.le_of_ble_eq_true rfl | omega | (dsimp only; omega) | (show _ ≤ 600130; omega) | (show _ ≤ 7301080; omega))⟩ dL_isPacked_170 (fun r w' h => ?_)
          obtain ⟨rfl, rfl⟩ := h
          rw [hc4 rfl]
          refine v_if_ne hc (tgt := 187) dL_isPacked_173 (by decide) (fun hb => False.elim (absurd hb (by decide))) (fun _ => ?_)
          refine v_iload hc dL_isPacked_176 rfl ?_
          refine v_iload hc dL_isPacked_178 rfl ?_
          refine v_icmp_ne hc (tgt := 187) dL_isPacked_180 (by decide) (fun hb => False.elim (hb (by rw [htz rfl]))) (fun _ => ?_)
          exact v_widen (by first | omega | exact Nat.le_of_ble_eq_true rfl | (dsimp only; omega)) (by first | omega | exact Nat.le_of_ble_eq_true rfl | (dsimp only; omega)) (v_loc _ rfl KQ)
    · cases rs with
      | true =>
        refine v_ifB_eq hc (tgt := 149) dL_isPacked_141 (by decide) (fun hb => False.elim (Bool.false_ne_true hb.symm)) (fun _ => ?_)
        refine v_iload hc dL_isPacked_144 rfl ?_
        refine v_goto hc (tgt := 150) dL_isPacked_146 (by decide) ?_
        refine v_icmp_gtN hc (tgt := 187) dL_isPacked_150 (by decide) (by omega) (by omega) (fun hb => False.elim (by omega)) (fun _ => ?_)
        exact v_widen (by first | omega | exact Nat.le_of_ble_eq_true rfl | (dsimp only; omega)) (by first | omega | exact Nat.le_of_ble_eq_true rfl | (dsimp only; omega)) (v_loc _ rfl KQ)
      | false =>
        refine v_ifB_eq hc (tgt := 149) dL_isPacked_141 (by decide) (fun _ => ?_) (fun hb => False.elim (Bool.false_ne_true hb))
        refine v_iconst hc (v := nI 0) dL_isPacked_149 (by decide) ?_
        rw [hc3 rfl]
        refine v_icmp_gtN hc (tgt := 187) dL_isPacked_150 (by decide) (by omega) (by omega) (fun hb => False.elim (by omega)) (fun _ => ?_)
        exact v_widen (by first | omega | exact Nat.le_of_ble_eq_true rfl | (dsimp only; omega)) (by first | omega | exact Nat.le_of_ble_eq_true rfl | (dsimp only; omega)) (v_loc _ rfl KQ)
  · have hxk := hSQ.1.1 k hk
    have hbl := bits_lt (rdb lv lo fm) k
    refine v_iload hc dL_isPacked_27 rfl ?_
    first | refine v_aload_n hc (i := 0) rfl dL_isPacked_29 rfl ?_ | refine v_aload_nN hc (i := 0) rfl dL_isPacked_29 rfl ?_
    refine v_iload hc dL_isPacked_30 rfl ?_
    refine v_callVi hc (q_canRead hl hP1 hF1 hC hk) (cwV 1 hc.1.2.2.2.2 gL_isPacked_X3_canRead rfl rfl rfl (by decide +kernel) ⟨Nat.le_of_ble_eq_true rfl, Nat.le_of_ble_eq_true rfl⟩) (hP1.1) rfl rfl rfl (Nat.le_of_ble_eq_true rfl) ⟨(by first | exact Nat.le_of_ble_eq_true rfl | omega | (dsimp only; omega) | (show _ ≤ 600130; omega) | (show _ ≤ 7301080; omega)), (by first | exact Nat.le_of_ble_eq_true rfl | omega | (dsimp only; omega) | (show _ ≤ 600130; omega) | (show _ ≤ 7301080; omega))⟩ dL_isPacked_32 (fun r w' h => ?_)
    obtain ⟨rfl, rfl⟩ := h
    refine v_selI hc (x := nI 1) (y := nI 0) (tgt := 42) 43 dL_isPacked_35 (by decide) (fun KQ => by refine v_iconst hc (v := nI 1) dL_isPacked_38 (by decide) ?_; exact v_goto hc (tgt := 43) dL_isPacked_39 (by decide) KQ) (fun KQ => by exact v_iconst hc (v := nI 0) dL_isPacked_42 (by decide) KQ) ?_
    rw [cnd_B, bI_b1 (rdb lv lo fm k)]
    first | refine v_iaddN hc dL_isPacked_43 ?_ | refine v_iadd hc dL_isPacked_43 ?_
    refine v_istore hc dL_isPacked_44 (by decide) rfl ?_
    refine v_loc (lK px ca sa W bd rs (sumN (k + 1) (fun i => b1 (rdb lv lo fm i))) (sumN k (whl ct (rdb lv lo fm))) (bits (rdb lv lo fm) k) k) rfl ?_
    refine v_iload hc dL_isPacked_46 rfl ?_
    first | refine v_aload_n hc (i := 0) rfl dL_isPacked_48 rfl ?_ | refine v_aload_nN hc (i := 0) rfl dL_isPacked_48 rfl ?_
    refine v_iload hc dL_isPacked_49 rfl ?_
    refine v_callVi hc (q_canRead hl hP1 hF1 hC hk) (cwV 1 hc.1.2.2.2.2 gL_isPacked_X3_canRead rfl rfl rfl (by decide +kernel) ⟨Nat.le_of_ble_eq_true rfl, Nat.le_of_ble_eq_true rfl⟩) (hP1.1) rfl rfl rfl (Nat.le_of_ble_eq_true rfl) ⟨(by first | exact Nat.le_of_ble_eq_true rfl | omega | (dsimp only; omega) | (show _ ≤ 600130; omega) | (show _ ≤ 7301080; omega)), (by first | exact Nat.le_of_ble_eq_true rfl | omega | (dsimp only; omega) | (show _ ≤ 600130; omega) | (show _ ≤ 7301080; omega))⟩ dL_isPacked_51 (fun r w' h => ?_)
    obtain ⟨rfl, rfl⟩ := h
    refine v_cut (k * 3 + 2) (k * 18 + 12) 68 (lK px ca sa W bd rs (sumN (k + 1) (fun i => b1 (rdb lv lo fm i))) (sumN k (whl ct (rdb lv lo fm))) (bits (rdb lv lo fm) k) k) [.int (nI (whl ct (rdb lv lo fm) k)), .int (nI (sumN k (whl ct (rdb lv lo fm))))] ?_ (fun KQ => ?_)
    · first | refine v_iaddN hc dL_isPacked_68 ?_ | refine v_iadd hc dL_isPacked_68 ?_
      refine v_istore hc dL_isPacked_69 (by decide) rfl ?_
      refine v_lload hc dL_isPacked_71 rfl ?_
      first | refine v_aload_n hc (i := 0) rfl dL_isPacked_73 rfl ?_ | refine v_aload_nN hc (i := 0) rfl dL_isPacked_73 rfl ?_
      refine v_iload hc dL_isPacked_74 rfl ?_
      refine v_callVi hc (q_canRead hl hP1 hF1 hC hk) (cwV 1 hc.1.2.2.2.2 gL_isPacked_X3_canRead rfl rfl rfl (by decide +kernel) ⟨Nat.le_of_ble_eq_true rfl, Nat.le_of_ble_eq_true rfl⟩) (hP1.1) rfl rfl rfl (Nat.le_of_ble_eq_true rfl) ⟨(by first | exact Nat.le_of_ble_eq_true rfl | omega | (dsimp only; omega) | (show _ ≤ 600130; omega) | (show _ ≤ 7301080; omega)), (by first | exact Nat.le_of_ble_eq_true rfl | omega | (dsimp only; omega) | (show _ ≤ 600130; omega) | (show _ ≤ 7301080; omega))⟩ dL_isPacked_76 (fun r w' h => ?_)
      obtain ⟨rfl, rfl⟩ := h
      refine v_cut (k * 3 + 3) (k * 18 + 18) 90 (lK px ca sa W bd rs (sumN (k + 1) (fun i => b1 (rdb lv lo fm i))) (sumN (k + 1) (whl ct (rdb lv lo fm))) (bits (rdb lv lo fm) k) k) [.long (lN (b1 (rdb lv lo fm k) * 2 ^ k)), .long (lN (bits (rdb lv lo fm) k))] ?_ (fun KQ => ?_)
      · refine v_lor hc dL_isPacked_90 ?_
        refine v_tl (lor_bit hbl (by omega)) ?_
        refine v_lstore hc dL_isPacked_91 (by decide) rfl ?_
        first | refine v_iinc1 hc dL_isPacked_93 rfl (by decide) rfl ?_ | refine v_iinc hc dL_isPacked_93 rfl rfl (by decide) rfl ?_
        refine v_goto hc (tgt := 18) dL_isPacked_96 (by decide) ?_
        refine v_widen (k' := (k + 1) * 3) (n' := (k + 1) * 18) (by omega) (by omega) ?_
        exact ihQ (k + 1) _ rfl hk (by omega)
      · cases hr : rdb lv lo fm k with
        | false =>
          rw [hr, show b1 false * 2 ^ k = 0 from Nat.zero_mul _] at KQ
          refine v_ifB_eq hc (tgt := 89) dL_isPacked_79 (by decide) (fun _ => ?_) (fun hb => False.elim (Bool.false_ne_true hb))
          refine v_lconst hc (v := 0) dL_isPacked_89 (by decide) ?_
          refine v_tl l0 ?_
          exact v_widen (by first | omega | exact Nat.le_of_ble_eq_true rfl | (dsimp only; omega)) (by first | omega | exact Nat.le_of_ble_eq_true rfl | (dsimp only; omega)) (v_loc _ rfl KQ)
        | true =>
          rw [hr, show b1 true * 2 ^ k = 1 * 2 ^ k from rfl] at KQ
          refine v_ifB_eq hc (tgt := 89) dL_isPacked_79 (by decide) (fun hb => False.elim (Bool.false_ne_true hb.symm)) (fun _ => ?_)
          refine v_lconst hc (v := 1) dL_isPacked_82 (by decide) ?_
          refine v_iload hc dL_isPacked_83 rfl ?_
          refine v_lshl hc dL_isPacked_85 ?_
          refine v_tl (show _ = lN (1 * 2 ^ k) by rw [show (1 : Int64) = lN 1 by decide, wb_shl 1 (by omega)]) ?_
          refine v_goto hc (tgt := 90) dL_isPacked_86 (by decide) ?_
          exact v_widen (by first | omega | exact Nat.le_of_ble_eq_true rfl | (dsimp only; omega)) (by first | omega | exact Nat.le_of_ble_eq_true rfl | (dsimp only; omega)) (v_loc _ rfl KQ)
    · cases hr : rdb lv lo fm k with
      | false =>
        have e9 : whl ct (rdb lv lo fm) k = 0 := by unfold whl; rw [hr]; rfl
        rw [e9] at KQ
        refine v_ifB_eq hc (tgt := 67) dL_isPacked_54 (by decide) (fun _ => ?_) (fun hb => False.elim (Bool.false_ne_true hb))
        refine v_iconst hc (v := nI 0) dL_isPacked_67 (by decide) ?_
        exact v_widen (by first | omega | exact Nat.le_of_ble_eq_true rfl | (dsimp only; omega)) (by first | omega | exact Nat.le_of_ble_eq_true rfl | (dsimp only; omega)) (v_loc _ rfl KQ)
      | true =>
        have e9 : whl ct (rdb lv lo fm) k = hxn (xN (ct k)) := by unfold whl; rw [hr]; rfl
        rw [e9] at KQ
        refine v_ifB_eq hc (tgt := 67) dL_isPacked_54 (by decide) (fun hb => False.elim (Bool.false_ne_true hb.symm)) (fun _ => ?_)
        first | refine v_aload_n hc (i := 1) rfl dL_isPacked_57 rfl ?_ | refine v_aload_nN hc (i := 1) rfl dL_isPacked_57 rfl ?_
        refine v_iload hc dL_isPacked_58 rfl ?_
        refine v_lald hc (k) dL_isPacked_60 (hcv) (rfl) (by omega) (by decide) ?_
        rw [hfc k hk]
        refine v_callSi hc (c_L_letters _ hxk) (va_cwS 1 hc.1.2.2.2.2 gL_isPacked_L_letters rfl rfl rfl (by decide +kernel) ⟨Nat.le_of_ble_eq_true rfl, Nat.le_of_ble_eq_true rfl⟩) rfl rfl (Nat.le_of_ble_eq_true rfl) ⟨(by first | exact Nat.le_of_ble_eq_true rfl | omega | (dsimp only; omega) | (show _ ≤ 600130; omega) | (show _ ≤ 7301080; omega)), (by first | exact Nat.le_of_ble_eq_true rfl | omega | (dsimp only; omega) | (show _ ≤ 600130; omega) | (show _ ≤ 7301080; omega))⟩ dL_isPacked_61 (fun r w' h => ?_)
        obtain ⟨rfl, rfl⟩ := h
        refine v_goto hc (tgt := 68) dL_isPacked_64 (by decide) ?_
        exact v_widen (by first | omega | exact Nat.le_of_ble_eq_true rfl | (dsimp only; omega)) (by first | omega | exact Nat.le_of_ble_eq_true rfl | (dsimp only; omega)) (v_loc _ rfl KQ)
end LW7

