/-! ===== the law asks of the index ===== -/
def bef (ct : Nat → Int64) (X : List Nat) : Nat → Int32
  | 0 => -1
  | p + 1 => nI (hso ct (X.getD p 0))
def las (X : List Nat) : Nat → Int32
  | 0 => -1
  | p + 1 => nI (X.getD p 0)
theorem isO_up {n j : Nat} (h : n ≤ j) (hj : j < 2 ^ 31) : isO n (nI j) = false := by
  unfold isO
  rw [nI_toInt hj]
  exact decide_eq_false (by omega)
theorem isO_m1 (n : Nat) : isO n (-1) = false := by
  unfold isO
  have : (-1 : Int32).toInt = -1 := by decide
  rw [this]
  exact decide_eq_false (by omega)
theorem nI_gt_m1 {a : Nat} (h : a < 2 ^ 31) : (-1 : Int32) < nI a := by
  rw [Int32.lt_iff_toInt_lt, nI_toInt h]
  have : (-1 : Int32).toInt = -1 := by decide
  omega
theorem nI_ne_m1 {a : Nat} (h : a < 2 ^ 31) : nI a ≠ (-1 : Int32) := fun z => by
  have h1 := nI_gt_m1 h
  rw [z, Int32.lt_iff_toInt_lt] at h1; omega
section LW3
variable {l : Launch} {G : cG} {A : Nat → Prop} {w : wd} {px pI pO pX n ca na sa : Nat} {ia : Nat → Nat} {nm : Nat → Int32} {ct fc : Nat → Int64} {fn fs : Nat → Int32} {lv lo : Nat → Bool} {fa fb : Nat → Option Nat} {fm : Nat → Option Frm} {O X : List Nat} {cp ru : Int32}
theorem wle.trans {w1 w2 w3 : wd} (h1 : wle w1 w2) (h2 : wle w2 w3) : wle w1 w3 := fun x e h => h2 x e (h1 x e h)
set_option maxRecDepth 100000 in
set_option maxHeartbeats 8000000 in
theorem c_L_isIndex (hl : l.stackTraces = false) (hP : PC G w px pI pO pX n ia nm ct lv lo fa fb O X cp ru) (hF : FW w n ia fa fm) (hSQ : SI n nm ct lv lo fm O X) (hca : w ca = some (aL G 40 fc)) (hfc : ∀ i, i < n → fc i = ct i) : Met l yL_isIndex wsL_isIndex ({ frames := 16, cells := 600, slots := 3600, locals := 294 } : Room) (Pw G A w [.ref px, .ref ca]) (va_Qi (fun r w' => wle w w' ∧ r = bI true) (Bw G A) A) 600 3600 A := by
  refine m_of (cc := cL_isIndex) (maxL := 11) (ret := (some .boolean)) (by decide) rfl (Nat.le_of_ble_eq_true rfl) ?_
  intro p e s m args below meth c hc hr hmn
  refine v_loc [(0, some (.ref px)), (1, some (.ref ca))] rfl ?_
  have hn := hP.n40
  have hC := hSQ.1.2.1
  have hOX := len_OX hSQ.1
  have hx40 := hP.x40
  have hps : ∀ i, i < n → ∀ g, fm i = some g → 0 < g.2.2.2.1 ∧ g.2.2.2.1 < 2 ^ 20 := fun i hiQ g hg => ⟨(hSQ.pos i hiQ g hg).1, (hSQ.pos i hiQ g hg).2.1⟩
  have hXm : ∀ p, p < X.length → X.getD p 0 < n ∧ (fm (X.getD p 0)).isSome = true := fun p hp => (hSQ.1.2.2.2.2.2.2 _).mp (getD_mem hp)
  first | refine v_aload_n hc (i := 0) rfl dL_isIndex_0 rfl ?_ | refine v_aload_nN hc (i := 0) rfl dL_isIndex_0 rfl ?_
  refine v_callVi hc (c_X3_forms hP) (cwV 0 hc.1.2.2.2.2 gL_isIndex_X3_forms rfl rfl rfl (by decide +kernel) ⟨Nat.le_of_ble_eq_true rfl, Nat.le_of_ble_eq_true rfl⟩) (hP.1) rfl rfl rfl (Nat.le_of_ble_eq_true rfl) ⟨(by first | exact Nat.le_of_ble_eq_true rfl | omega | (dsimp only; omega) | (show _ ≤ 600130; omega) | (show _ ≤ 7301080; omega)), (by first | exact Nat.le_of_ble_eq_true rfl | omega | (dsimp only; omega) | (show _ ≤ 600130; omega) | (show _ ≤ 7301080; omega))⟩ dL_isIndex_1 (fun r w' h => ?_)
  obtain ⟨rfl, rfl⟩ := h
  refine v_istore_n hc (i := 2) rfl dL_isIndex_4 (by decide) rfl ?_
  refine v_iconst hc (v := (-1)) dL_isIndex_5 (by decide) ?_
  refine v_istore_n hc (i := 3) rfl dL_isIndex_6 (by decide) rfl ?_
  refine v_iconst hc (v := (-1)) dL_isIndex_7 (by decide) ?_
  refine v_istore hc dL_isIndex_8 (by decide) rfl ?_
  first | refine v_aload_n hc (i := 0) rfl dL_isIndex_10 rfl ?_ | refine v_aload_nN hc (i := 0) rfl dL_isIndex_10 rfl ?_
  refine v_bipush hc (v := nI 15) dL_isIndex_11 (by decide) ?_
  refine v_callVi hc (q_fanOut hl hP (i := 15) (by decide)) (cwV 1 hc.1.2.2.2.2 gL_isIndex_X3_fanOut rfl rfl rfl (by decide +kernel) ⟨Nat.le_of_ble_eq_true rfl, Nat.le_of_ble_eq_true rfl⟩) (hP.1) rfl rfl rfl (Nat.le_of_ble_eq_true rfl) ⟨(by first | exact Nat.le_of_ble_eq_true rfl | omega | (dsimp only; omega) | (show _ ≤ 600130; omega) | (show _ ≤ 7301080; omega)), (by first | exact Nat.le_of_ble_eq_true rfl | omega | (dsimp only; omega) | (show _ ≤ 600130; omega) | (show _ ≤ 7301080; omega))⟩ dL_isIndex_13 (fun r w' h => ?_)
  obtain ⟨rfl, rfl⟩ := h
  refine v_iload_n hc (i := 2) rfl dL_isIndex_16 rfl ?_
  refine v_icmp_ne hc (tgt := 48) dL_isIndex_17 (by decide) (fun hb => False.elim (hb (by rw [show 256 * (15 + 1) = 4096 from rfl, X_all hSQ.1, hOX]))) (fun _ => ?_)
  first | refine v_aload_n hc (i := 0) rfl dL_isIndex_20 rfl ?_ | refine v_aload_nN hc (i := 0) rfl dL_isIndex_20 rfl ?_
  refine v_bipush hc (v := nI 10) dL_isIndex_21 (by decide) ?_
  refine v_iload_n hc (i := 2) rfl dL_isIndex_23 rfl ?_
  refine v_callSWi hc (q_no10 hl hP (isO_up (by omega) (by omega))) (vx_cwSW 3 hc.1.2.2.2.2 gL_isIndex_L_of rfl rfl rfl (by decide +kernel) ⟨Nat.le_of_ble_eq_true rfl, Nat.le_of_ble_eq_true rfl⟩) rfl rfl (Nat.le_of_ble_eq_true rfl) ⟨(by first | exact Nat.le_of_ble_eq_true rfl | omega | (dsimp only; omega) | (show _ ≤ 600130; omega) | (show _ ≤ 7301080; omega)), (by first | exact Nat.le_of_ble_eq_true rfl | omega | (dsimp only; omega) | (show _ ≤ 600130; omega) | (show _ ≤ 7301080; omega))⟩ dL_isIndex_24 (fun r w' h => ?_)
  obtain ⟨rfl, rfl⟩ := h
  refine v_bipush hc (v := (-101)) dL_isIndex_27 (by decide) ?_
  refine v_icmp_ne hc (tgt := 48) dL_isIndex_29 (by decide) (fun hb => False.elim (hb rfl)) (fun _ => ?_)
  first | refine v_aload_n hc (i := 0) rfl dL_isIndex_32 rfl ?_ | refine v_aload_nN hc (i := 0) rfl dL_isIndex_32 rfl ?_
  refine v_bipush hc (v := nI 10) dL_isIndex_33 (by decide) ?_
  refine v_iconst hc (v := (-1)) dL_isIndex_35 (by decide) ?_
  refine v_callSWi hc (q_no10 hl hP (isO_m1 _)) (vx_cwSW 3 hc.1.2.2.2.2 gL_isIndex_L_of rfl rfl rfl (by decide +kernel) ⟨Nat.le_of_ble_eq_true rfl, Nat.le_of_ble_eq_true rfl⟩) rfl rfl (Nat.le_of_ble_eq_true rfl) ⟨(by first | exact Nat.le_of_ble_eq_true rfl | omega | (dsimp only; omega) | (show _ ≤ 600130; omega) | (show _ ≤ 7301080; omega)), (by first | exact Nat.le_of_ble_eq_true rfl | omega | (dsimp only; omega) | (show _ ≤ 600130; omega) | (show _ ≤ 7301080; omega))⟩ dL_isIndex_36 (fun r w' h => ?_)
  obtain ⟨rfl, rfl⟩ := h
  refine v_bipush hc (v := (-101)) dL_isIndex_39 (by decide) ?_
  refine v_icmp_ne hc (tgt := 48) dL_isIndex_41 (by decide) (fun hb => False.elim (hb rfl)) (fun _ => ?_)
  refine v_iconst hc (v := nI 1) dL_isIndex_44 (by decide) ?_
  refine v_goto hc (tgt := 49) dL_isIndex_45 (by decide) ?_
  refine v_istore hc dL_isIndex_49 (by decide) rfl ?_
  refine v_iconst hc (v := nI 0) dL_isIndex_51 (by decide) ?_
  refine v_istore hc dL_isIndex_52 (by decide) rfl ?_
  refine v_widen (k' := 7 + 0 * 12) (n' := 42 + 0 * 72) (by omega) (by omega) ?_
  refine v_loop (σ := Nat × wd) (fun a => a.1 ≤ O.length ∧ wle w a.2) (fun a => O.length - a.1) (fun a => a.2) (fun a => 7 + a.1 * 12) (fun a => 42 + a.1 * 72) (fun a => [(0, some (.ref px)), (1, some (.ref ca)), (2, some (.int (nI O.length))), (3, some (.int (bef ct X a.1))), (4, some (.int (las X a.1))), (5, some (.int (nI 1))), (6, some (.int (nI a.1)))]) (0, w) rfl ⟨Nat.zero_le _, wle.rfl'⟩ ?_
  rintro ⟨p0, w1⟩ ⟨hp0, hw1⟩ ihQ
  dsimp only at hp0 hw1 ihQ ⊢
  have hP1 := hP.le hw1
  have hF1 := hF.le hw1
  have hca1 := hw1 _ _ hca
  refine v_iload hc dL_isIndex_54 rfl ?_
  refine v_iload_n hc (i := 2) rfl dL_isIndex_56 rfl ?_
  refine v_icmp_geN hc (tgt := 246) dL_isIndex_57 (by decide) (by omega) (by omega) (fun hlt => ?_) (fun hlt => ?_)
  · have e : p0 = O.length := by omega
    subst e
    refine v_iconst hc (v := nI 1) dL_isIndex_246 (by decide) ?_
    refine v_istore hc dL_isIndex_247 (by decide) rfl ?_
    refine v_widen (k' := 487 + 1 * 6) (n' := 2922 + 1 * 36) (by omega) (by omega) ?_
    refine v_loop (σ := Nat × wd) (fun a => 1 ≤ a.1 ∧ a.1 ≤ 16 ∧ wle w a.2) (fun a => 16 - a.1) (fun a => a.2) (fun a => 487 + a.1 * 6) (fun a => 2922 + a.1 * 36) (fun a => [(0, some (.ref px)), (5, some (.int (nI 1))), (6, some (.int (nI a.1)))]) (1, w1) rfl ⟨Nat.le_refl _, Nat.le_of_ble_eq_true rfl, hw1⟩ ?_
    clear ihQ hP1 hF1 hca1 hw1
    rintro ⟨q0, w1⟩ ⟨hq1, hq0, hw1⟩ ihQ
    dsimp only at hq0 hq1 hw1 ihQ ⊢
    have hP1 := hP.le hw1
    have hmQ := blw_mono (ct := ct) (X := X) (a := 256 * q0) (b := 256 * (q0 + 1)) (by omega)
    have hb1 := blw_le ct X (256 * (q0 + 1))
    refine v_iload hc dL_isIndex_249 rfl ?_
    refine v_bipush hc (v := nI 16) dL_isIndex_251 (by decide) ?_
    refine v_icmp_geN hc (tgt := 341) dL_isIndex_253 (by decide) (by omega) (by omega) (fun hlt => ?_) (fun hlt => ?_)
    · refine v_iload hc dL_isIndex_341 rfl ?_
      exact v_zret hc hr dL_isIndex_343 (by first | exact Nat.le_of_ble_eq_true rfl | omega | (dsimp only; omega) | (show _ ≤ 600130; omega) | (show _ ≤ 7301080; omega)) (by first | exact Nat.le_of_ble_eq_true rfl | omega | (dsimp only; omega) | (show _ ≤ 600130; omega) | (show _ ≤ 7301080; omega)) (by first | rfl | exact bI_nar _) (⟨hw1, rfl⟩)
    · refine v_iload hc dL_isIndex_256 rfl ?_
      refine v_if_eq hc (tgt := 341) dL_isIndex_258 (by decide) (fun hb => False.elim (absurd hb (by decide))) (fun _ => ?_)
      first | refine v_aload_n hc (i := 0) rfl dL_isIndex_261 rfl ?_ | refine v_aload_nN hc (i := 0) rfl dL_isIndex_261 rfl ?_
      refine v_iload hc dL_isIndex_262 rfl ?_
      refine v_callVi hc (q_fanOut hl hP1 hlt) (cwV 1 hc.1.2.2.2.2 gL_isIndex_X3_fanOut rfl rfl rfl (by decide +kernel) ⟨Nat.le_of_ble_eq_true rfl, Nat.le_of_ble_eq_true rfl⟩) (hP1.1) rfl rfl rfl (Nat.le_of_ble_eq_true rfl) ⟨(by first | exact Nat.le_of_ble_eq_true rfl | omega | (dsimp only; omega) | (show _ ≤ 600130; omega) | (show _ ≤ 7301080; omega)), (by first | exact Nat.le_of_ble_eq_true rfl | omega | (dsimp only; omega) | (show _ ≤ 600130; omega) | (show _ ≤ 7301080; omega))⟩ dL_isIndex_264 (fun r w' h => ?_)
      obtain ⟨rfl, rfl⟩ := h
      first | refine v_aload_n hc (i := 0) rfl dL_isIndex_267 rfl ?_ | refine v_aload_nN hc (i := 0) rfl dL_isIndex_267 rfl ?_
      refine v_iload hc dL_isIndex_268 rfl ?_
      refine v_iconst hc (v := nI 1) dL_isIndex_270 (by decide) ?_
      first | refine v_isubN hc (by omega) dL_isIndex_271 ?_ | refine v_isub hc dL_isIndex_271 ?_
      refine v_callVi hc (q_fanOut hl hP1 (i := q0 - 1) (by omega)) (cwV 1 hc.1.2.2.2.2 gL_isIndex_X3_fanOut rfl rfl rfl (by decide +kernel) ⟨Nat.le_of_ble_eq_true rfl, Nat.le_of_ble_eq_true rfl⟩) (hP1.1) rfl rfl rfl (Nat.le_of_ble_eq_true rfl) ⟨(by first | exact Nat.le_of_ble_eq_true rfl | omega | (dsimp only; omega) | (show _ ≤ 600130; omega) | (show _ ≤ 7301080; omega)), (by first | exact Nat.le_of_ble_eq_true rfl | omega | (dsimp only; omega) | (show _ ≤ 600130; omega) | (show _ ≤ 7301080; omega))⟩ dL_isIndex_272 (fun r w' h => ?_)
      obtain ⟨rfl, rfl⟩ := h
      rw [show q0 - 1 + 1 = q0 by omega]
      refine v_icmp_ltN hc (tgt := 332) dL_isIndex_275 (by decide) (by omega) (by omega) (fun hb => False.elim (by omega)) (fun _ => ?_)
      first | refine v_aload_n hc (i := 0) rfl dL_isIndex_278 rfl ?_ | refine v_aload_nN hc (i := 0) rfl dL_isIndex_278 rfl ?_
      refine v_iload hc dL_isIndex_279 rfl ?_
      refine v_callVi hc (q_fanOut hl hP1 hlt) (cwV 1 hc.1.2.2.2.2 gL_isIndex_X3_fanOut rfl rfl rfl (by decide +kernel) ⟨Nat.le_of_ble_eq_true rfl, Nat.le_of_ble_eq_true rfl⟩) (hP1.1) rfl rfl rfl (Nat.le_of_ble_eq_true rfl) ⟨(by first | exact Nat.le_of_ble_eq_true rfl | omega | (dsimp only; omega) | (show _ ≤ 600130; omega) | (show _ ≤ 7301080; omega)), (by first | exact Nat.le_of_ble_eq_true rfl | omega | (dsimp only; omega) | (show _ ≤ 600130; omega) | (show _ ≤ 7301080; omega))⟩ dL_isIndex_281 (fun r w' h => ?_)
      obtain ⟨rfl, rfl⟩ := h
      first | refine v_aload_n hc (i := 0) rfl dL_isIndex_284 rfl ?_ | refine v_aload_nN hc (i := 0) rfl dL_isIndex_284 rfl ?_
      refine v_iload hc dL_isIndex_285 rfl ?_
      refine v_iconst hc (v := nI 1) dL_isIndex_287 (by decide) ?_
      first | refine v_isubN hc (by omega) dL_isIndex_288 ?_ | refine v_isub hc dL_isIndex_288 ?_
      refine v_callVi hc (q_fanOut hl hP1 (i := q0 - 1) (by omega)) (cwV 1 hc.1.2.2.2.2 gL_isIndex_X3_fanOut rfl rfl rfl (by decide +kernel) ⟨Nat.le_of_ble_eq_true rfl, Nat.le_of_ble_eq_true rfl⟩) (hP1.1) rfl rfl rfl (Nat.le_of_ble_eq_true rfl) ⟨(by first | exact Nat.le_of_ble_eq_true rfl | omega | (dsimp only; omega) | (show _ ≤ 600130; omega) | (show _ ≤ 7301080; omega)), (by first | exact Nat.le_of_ble_eq_true rfl | omega | (dsimp only; omega) | (show _ ≤ 600130; omega) | (show _ ≤ 7301080; omega))⟩ dL_isIndex_289 (fun r w' h => ?_)
      obtain ⟨rfl, rfl⟩ := h
      rw [show q0 - 1 + 1 = q0 by omega]
      refine v_icmp_gtN hc (tgt := 328) dL_isIndex_292 (by decide) (by omega) (by omega) (fun hgt => ?_) (fun hgt => ?_)
      · refine v_iconst hc (v := nI 1) dL_isIndex_328 (by decide) ?_
        refine v_goto hc (tgt := 333) dL_isIndex_329 (by decide) ?_
        refine v_istore hc dL_isIndex_333 (by decide) rfl ?_
        first | refine v_iinc1 hc dL_isIndex_335 rfl (by decide) rfl ?_ | refine v_iinc hc dL_isIndex_335 rfl rfl (by decide) rfl ?_
        refine v_goto hc (tgt := 249) dL_isIndex_338 (by decide) ?_
        refine v_widen (k' := 487 + (q0 + 1) * 6) (n' := 2922 + (q0 + 1) * 36) (by omega) (by omega) ?_
        exact ihQ (q0 + 1, _) _ rfl ⟨by dsimp only; omega, hlt, hw1⟩ (by dsimp only; omega)
      · have hgap := X_gap (ct := ct) (X := X) (b := q0) (by omega)
        first | refine v_aload_n hc (i := 0) rfl dL_isIndex_295 rfl ?_ | refine v_aload_nN hc (i := 0) rfl dL_isIndex_295 rfl ?_
        refine v_sipush hc (v := nI 256) dL_isIndex_296 (by decide) ?_
        refine v_iload hc dL_isIndex_299 rfl ?_
        first | refine v_imulN hc dL_isIndex_301 ?_ | refine v_imul hc dL_isIndex_301 ?_
        refine v_bipush hc (v := nI 77) dL_isIndex_302 (by decide) ?_
        first | refine v_iaddN hc dL_isIndex_304 ?_ | refine v_iadd hc dL_isIndex_304 ?_
        refine v_callVi hc (q_looks hl hP1 (i := 256 * q0 + 77) (by omega)) (cwV 1 hc.1.2.2.2.2 gL_isIndex_X3_looks rfl rfl rfl (by decide +kernel) ⟨Nat.le_of_ble_eq_true rfl, Nat.le_of_ble_eq_true rfl⟩) (hP1.1) rfl rfl rfl (Nat.le_of_ble_eq_true rfl) ⟨(by first | exact Nat.le_of_ble_eq_true rfl | omega | (dsimp only; omega) | (show _ ≤ 600130; omega) | (show _ ≤ 7301080; omega)), (by first | exact Nat.le_of_ble_eq_true rfl | omega | (dsimp only; omega) | (show _ ≤ 600130; omega) | (show _ ≤ 7301080; omega))⟩ dL_isIndex_305 (fun r w' h => ?_)
        obtain ⟨hw2, rfl⟩ := h
        rw [hgap]
        have hP2 := hP1.le hw2
        refine v_if_ne hc (tgt := 332) dL_isIndex_308 (by decide) (fun hb => False.elim (absurd hb (by decide))) (fun _ => ?_)
        first | refine v_aload_n hc (i := 0) rfl dL_isIndex_311 rfl ?_ | refine v_aload_nN hc (i := 0) rfl dL_isIndex_311 rfl ?_
        refine v_sipush hc (v := nI 256) dL_isIndex_312 (by decide) ?_
        refine v_iload hc dL_isIndex_315 rfl ?_
        first | refine v_imulN hc dL_isIndex_317 ?_ | refine v_imul hc dL_isIndex_317 ?_
        refine v_bipush hc (v := nI 77) dL_isIndex_318 (by decide) ?_
        first | refine v_iaddN hc dL_isIndex_320 ?_ | refine v_iadd hc dL_isIndex_320 ?_
        refine v_callVi hc (q_find hl hP2 (i := 256 * q0 + 77) (by omega)) (cwV 1 hc.1.2.2.2.2 gL_isIndex_X3_find rfl rfl rfl (by decide +kernel) ⟨Nat.le_of_ble_eq_true rfl, Nat.le_of_ble_eq_true rfl⟩) (hP2.1) rfl rfl rfl (Nat.le_of_ble_eq_true rfl) ⟨(by first | exact Nat.le_of_ble_eq_true rfl | omega | (dsimp only; omega) | (show _ ≤ 600130; omega) | (show _ ≤ 7301080; omega)), (by first | exact Nat.le_of_ble_eq_true rfl | omega | (dsimp only; omega) | (show _ ≤ 600130; omega) | (show _ ≤ 7301080; omega))⟩ dL_isIndex_321 (fun r w' h => ?_)
        obtain ⟨hw3, rfl⟩ := h
        rw [hgap]
        refine v_iconst hc (v := (-1)) dL_isIndex_324 (by decide) ?_
        refine v_icmp_ne hc (tgt := 332) dL_isIndex_325 (by decide) (fun hb => False.elim (hb rfl)) (fun _ => ?_)
        refine v_iconst hc (v := nI 1) dL_isIndex_328 (by decide) ?_
        refine v_goto hc (tgt := 333) dL_isIndex_329 (by decide) ?_
        refine v_istore hc dL_isIndex_333 (by decide) rfl ?_
        first | refine v_iinc1 hc dL_isIndex_335 rfl (by decide) rfl ?_ | refine v_iinc hc dL_isIndex_335 rfl rfl (by decide) rfl ?_
        refine v_goto hc (tgt := 249) dL_isIndex_338 (by decide) ?_
        refine v_widen (k' := 487 + (q0 + 1) * 6) (n' := 2922 + (q0 + 1) * 36) (by omega) (by omega) ?_
        exact ihQ (q0 + 1, _) _ rfl ⟨by dsimp only; omega, hlt, (hw1.trans hw2).trans hw3⟩ (by dsimp only; omega)
  · have hpX : p0 < X.length := by omega
    obtain ⟨hob, hfo⟩ := hXm p0 hpX
    have hh4 : hso ct (X.getD p0 0) < 4096 := hsh_lt _
    obtain ⟨⟨q, hq1, hq2, hq3⟩, hk1, hk6⟩ := X_hit hSQ.1 hx40 hpX rfl
    obtain ⟨hqb, hqf⟩ := hXm q hq2
    have hb40 := fun z => blw_le ct X z
    have hbu := hb40 (256 * (hso ct (X.getD p0 0) / 256 + 1))
    have hbd := hb40 (256 * (hso ct (X.getD p0 0) / 256))
    have hup : p0 < blw ct X (256 * (hso ct (X.getD p0 0) / 256 + 1)) := (blw_iff hSQ.1 hpX).mp (by omega)
    have hdn : ¬ p0 < blw ct X (256 * (hso ct (X.getD p0 0) / 256)) := fun z => by
      have := (blw_iff hSQ.1 hpX).mpr z
      omega
    refine v_iload hc dL_isIndex_60 rfl ?_
    refine v_if_eq hc (tgt := 246) dL_isIndex_62 (by decide) (fun hb => False.elim (absurd hb (by decide))) (fun _ => ?_)
    first | refine v_aload_n hc (i := 0) rfl dL_isIndex_65 rfl ?_ | refine v_aload_nN hc (i := 0) rfl dL_isIndex_65 rfl ?_
    refine v_iload hc dL_isIndex_66 rfl ?_
    refine v_callVi hc (q_indexAt hl hP1 hpX) (cwV 1 hc.1.2.2.2.2 gL_isIndex_X3_indexAt rfl rfl rfl (by decide +kernel) ⟨Nat.le_of_ble_eq_true rfl, Nat.le_of_ble_eq_true rfl⟩) (hP1.1) rfl rfl rfl (Nat.le_of_ble_eq_true rfl) ⟨(by first | exact Nat.le_of_ble_eq_true rfl | omega | (dsimp only; omega) | (show _ ≤ 600130; omega) | (show _ ≤ 7301080; omega)), (by first | exact Nat.le_of_ble_eq_true rfl | omega | (dsimp only; omega) | (show _ ≤ 600130; omega) | (show _ ≤ 7301080; omega))⟩ dL_isIndex_68 (fun r w' h => ?_)
    obtain ⟨rfl, rfl⟩ := h
    refine v_istore hc dL_isIndex_71 (by decide) rfl ?_
    first | refine v_aload_n hc (i := 0) rfl dL_isIndex_73 rfl ?_ | refine v_aload_nN hc (i := 0) rfl dL_isIndex_73 rfl ?_
    first | refine v_aload_n hc (i := 1) rfl dL_isIndex_74 rfl ?_ | refine v_aload_nN hc (i := 1) rfl dL_isIndex_74 rfl ?_
    refine v_iload hc dL_isIndex_75 rfl ?_
    refine v_lald hc (X.getD p0 0) dL_isIndex_77 (hca1) (rfl) (by omega) (by decide) ?_
    rw [hfc _ hob]
    refine v_callVi hc (q_hash hl hP1 (hSQ.1.1 _ hob)) (cwV 1 hc.1.2.2.2.2 gL_isIndex_X3_hash rfl rfl rfl (by decide +kernel) ⟨Nat.le_of_ble_eq_true rfl, Nat.le_of_ble_eq_true rfl⟩) (hP1.1) rfl rfl rfl (Nat.le_of_ble_eq_true rfl) ⟨(by first | exact Nat.le_of_ble_eq_true rfl | omega | (dsimp only; omega) | (show _ ≤ 600130; omega) | (show _ ≤ 7301080; omega)), (by first | exact Nat.le_of_ble_eq_true rfl | omega | (dsimp only; omega) | (show _ ≤ 600130; omega) | (show _ ≤ 7301080; omega))⟩ dL_isIndex_78 (fun r w' h => ?_)
    obtain ⟨rfl, rfl⟩ := h
    refine v_ti (show _ = nI (hso ct (X.getD p0 0)) from rfl) ?_
    refine v_istore hc dL_isIndex_81 (by decide) rfl ?_
    first | refine v_aload_n hc (i := 0) rfl dL_isIndex_83 rfl ?_ | refine v_aload_nN hc (i := 0) rfl dL_isIndex_83 rfl ?_
    refine v_iload hc dL_isIndex_84 rfl ?_
    refine v_callVi hc (q_find hl hP1 hh4) (cwV 1 hc.1.2.2.2.2 gL_isIndex_X3_find rfl rfl rfl (by decide +kernel) ⟨Nat.le_of_ble_eq_true rfl, Nat.le_of_ble_eq_true rfl⟩) (hP1.1) rfl rfl rfl (Nat.le_of_ble_eq_true rfl) ⟨(by first | exact Nat.le_of_ble_eq_true rfl | omega | (dsimp only; omega) | (show _ ≤ 600130; omega) | (show _ ≤ 7301080; omega)), (by first | exact Nat.le_of_ble_eq_true rfl | omega | (dsimp only; omega) | (show _ ≤ 600130; omega) | (show _ ≤ 7301080; omega))⟩ dL_isIndex_86 (fun r w' h => ?_)
    obtain ⟨hw2, rfl⟩ := h
    rw [hq1]
    refine v_ti (show _ = nI (X.getD q 0) from rfl) ?_
    have hw2 := hw1.trans hw2
    clear hP1 hF1 hca1
    have hP1 := hP.le hw2
    have hF1 := hF.le hw2
    have hca1 := hw2 _ _ hca
    refine v_istore hc dL_isIndex_89 (by decide) rfl ?_
    refine v_iload hc dL_isIndex_91 rfl ?_
    refine v_sipush hc (v := nI 256) dL_isIndex_93 (by decide) ?_
    refine v_idiv hc (by decide) dL_isIndex_96 ?_
    refine v_ti (pk_div (by omega) (by decide) (by decide)) ?_
    refine v_istore hc dL_isIndex_97 (by decide) rfl ?_
    first | refine v_aload_n hc (i := 0) rfl dL_isIndex_99 rfl ?_ | refine v_aload_nN hc (i := 0) rfl dL_isIndex_99 rfl ?_
    refine v_iload hc dL_isIndex_100 rfl ?_
    refine v_callSi hc (q_hasForm hl hP1 hF1 hps hob) (va_cwS 2 hc.1.2.2.2.2 gL_isIndex_L_hasForm rfl rfl rfl (by decide +kernel) ⟨Nat.le_of_ble_eq_true rfl, Nat.le_of_ble_eq_true rfl⟩) rfl rfl (Nat.le_of_ble_eq_true rfl) ⟨(by first | exact Nat.le_of_ble_eq_true rfl | omega | (dsimp only; omega) | (show _ ≤ 600130; omega) | (show _ ≤ 7301080; omega)), (by first | exact Nat.le_of_ble_eq_true rfl | omega | (dsimp only; omega) | (show _ ≤ 600130; omega) | (show _ ≤ 7301080; omega))⟩ dL_isIndex_102 (fun r w' h => ?_)
    obtain ⟨rfl, rfl⟩ := h
    rw [hfo]
    refine v_ifB_eq hc (tgt := 230) dL_isIndex_105 (by decide) (fun hb => False.elim (Bool.false_ne_true hb.symm)) (fun _ => ?_)
    refine v_iload hc dL_isIndex_108 rfl ?_
    refine v_iload_n hc (i := 3) rfl dL_isIndex_110 rfl ?_
    refine v_cut (13 + p0 * 12) (78 + p0 * 72) 127 [(0, some (.ref px)), (1, some (.ref ca)), (2, some (.int (nI O.length))), (3, some (.int (bef ct X p0))), (6, some (.int (nI p0))), (7, some (.int (nI (X.getD p0 0)))), (8, some (.int (nI (hso ct (X.getD p0 0))))), (9, some (.int (nI (X.getD q 0)))), (10, some (.int (nI (hso ct (X.getD p0 0) / 256))))] [] ?_ (fun KQ => ?_)
    · refine v_iload hc dL_isIndex_127 rfl ?_
      refine v_if_ltN hc (tgt := 230) dL_isIndex_129 (by decide) (by omega) (fun hb => False.elim (hb)) (fun _ => ?_)
      first | refine v_aload_n hc (i := 0) rfl dL_isIndex_132 rfl ?_ | refine v_aload_nN hc (i := 0) rfl dL_isIndex_132 rfl ?_
      first | refine v_aload_n hc (i := 1) rfl dL_isIndex_133 rfl ?_ | refine v_aload_nN hc (i := 1) rfl dL_isIndex_133 rfl ?_
      refine v_iload hc dL_isIndex_134 rfl ?_
      refine v_lald hc (X.getD q 0) dL_isIndex_136 (hca1) (rfl) (by omega) (by decide) ?_
      rw [hfc _ hqb]
      refine v_callVi hc (q_hash hl hP1 (hSQ.1.1 _ hqb)) (cwV 1 hc.1.2.2.2.2 gL_isIndex_X3_hash rfl rfl rfl (by decide +kernel) ⟨Nat.le_of_ble_eq_true rfl, Nat.le_of_ble_eq_true rfl⟩) (hP1.1) rfl rfl rfl (Nat.le_of_ble_eq_true rfl) ⟨(by first | exact Nat.le_of_ble_eq_true rfl | omega | (dsimp only; omega) | (show _ ≤ 600130; omega) | (show _ ≤ 7301080; omega)), (by first | exact Nat.le_of_ble_eq_true rfl | omega | (dsimp only; omega) | (show _ ≤ 600130; omega) | (show _ ≤ 7301080; omega))⟩ dL_isIndex_137 (fun r w' h => ?_)
      obtain ⟨rfl, rfl⟩ := h
      refine v_iload hc dL_isIndex_140 rfl ?_
      refine v_icmp_ne hc (tgt := 230) dL_isIndex_142 (by decide) (fun hb => False.elim (hb (congrArg nI hq3))) (fun _ => ?_)
      first | refine v_aload_n hc (i := 0) rfl dL_isIndex_145 rfl ?_ | refine v_aload_nN hc (i := 0) rfl dL_isIndex_145 rfl ?_
      refine v_iload hc dL_isIndex_146 rfl ?_
      refine v_callVi hc (q_looks hl hP1 hh4) (cwV 1 hc.1.2.2.2.2 gL_isIndex_X3_looks rfl rfl rfl (by decide +kernel) ⟨Nat.le_of_ble_eq_true rfl, Nat.le_of_ble_eq_true rfl⟩) (hP1.1) rfl rfl rfl (Nat.le_of_ble_eq_true rfl) ⟨(by first | exact Nat.le_of_ble_eq_true rfl | omega | (dsimp only; omega) | (show _ ≤ 600130; omega) | (show _ ≤ 7301080; omega)), (by first | exact Nat.le_of_ble_eq_true rfl | omega | (dsimp only; omega) | (show _ ≤ 600130; omega) | (show _ ≤ 7301080; omega))⟩ dL_isIndex_148 (fun r w' h => ?_)
      obtain ⟨hw3, rfl⟩ := h
      have hw3 := hw2.trans hw3
      have hP1 := hP.le hw3
      refine v_iconst hc (v := nI 1) dL_isIndex_151 (by decide) ?_
      refine v_icmp_ltN hc (tgt := 230) dL_isIndex_152 (by decide) (by omega) (by omega) (fun hb => False.elim (by omega)) (fun _ => ?_)
      first | refine v_aload_n hc (i := 0) rfl dL_isIndex_155 rfl ?_ | refine v_aload_nN hc (i := 0) rfl dL_isIndex_155 rfl ?_
      refine v_iload hc dL_isIndex_156 rfl ?_
      refine v_callVi hc (q_looks hl hP1 hh4) (cwV 1 hc.1.2.2.2.2 gL_isIndex_X3_looks rfl rfl rfl (by decide +kernel) ⟨Nat.le_of_ble_eq_true rfl, Nat.le_of_ble_eq_true rfl⟩) (hP1.1) rfl rfl rfl (Nat.le_of_ble_eq_true rfl) ⟨(by first | exact Nat.le_of_ble_eq_true rfl | omega | (dsimp only; omega) | (show _ ≤ 600130; omega) | (show _ ≤ 7301080; omega)), (by first | exact Nat.le_of_ble_eq_true rfl | omega | (dsimp only; omega) | (show _ ≤ 600130; omega) | (show _ ≤ 7301080; omega))⟩ dL_isIndex_158 (fun r w' h => ?_)
      obtain ⟨hw4, rfl⟩ := h
      have hw4 := hw3.trans hw4
      have hP1 := hP.le hw4
      refine v_bipush hc (v := nI 6) dL_isIndex_161 (by decide) ?_
      refine v_icmp_gtN hc (tgt := 230) dL_isIndex_163 (by decide) (by omega) (by omega) (fun hb => False.elim (by omega)) (fun _ => ?_)
      first | refine v_aload_n hc (i := 0) rfl dL_isIndex_166 rfl ?_ | refine v_aload_nN hc (i := 0) rfl dL_isIndex_166 rfl ?_
      refine v_iload hc dL_isIndex_167 rfl ?_
      refine v_callVi hc (q_fanOut hl hP1 (i := hso ct (X.getD p0 0) / 256) (by omega)) (cwV 1 hc.1.2.2.2.2 gL_isIndex_X3_fanOut rfl rfl rfl (by decide +kernel) ⟨Nat.le_of_ble_eq_true rfl, Nat.le_of_ble_eq_true rfl⟩) (hP1.1) rfl rfl rfl (Nat.le_of_ble_eq_true rfl) ⟨(by first | exact Nat.le_of_ble_eq_true rfl | omega | (dsimp only; omega) | (show _ ≤ 600130; omega) | (show _ ≤ 7301080; omega)), (by first | exact Nat.le_of_ble_eq_true rfl | omega | (dsimp only; omega) | (show _ ≤ 600130; omega) | (show _ ≤ 7301080; omega))⟩ dL_isIndex_169 (fun r w' h => ?_)
      obtain ⟨rfl, rfl⟩ := h
      refine v_iload hc dL_isIndex_172 rfl ?_
      refine v_icmp_leN hc (tgt := 230) dL_isIndex_174 (by decide) (by omega) (by omega) (fun hb => False.elim (by omega)) (fun _ => ?_)
      refine v_iload hc dL_isIndex_177 rfl ?_
      refine v_cut (18 + p0 * 12) (108 + p0 * 72) 195 [(0, some (.ref px)), (1, some (.ref ca)), (2, some (.int (nI O.length))), (3, some (.int (bef ct X p0))), (6, some (.int (nI p0))), (7, some (.int (nI (X.getD p0 0)))), (8, some (.int (nI (hso ct (X.getD p0 0)))))] [] ?_ (fun KQ => ?_)
      · refine v_cutW (fun w' => wle w w') (19 + p0 * 12) (114 + p0 * 72) 226 [(0, some (.ref px)), (1, some (.ref ca)), (2, some (.int (nI O.length))), (6, some (.int (nI p0))), (7, some (.int (nI (X.getD p0 0)))), (8, some (.int (nI (hso ct (X.getD p0 0)))))] [] ?_ (fun KQ => ?_)
        · intro w5 hw5
          refine v_iconst hc (v := nI 1) dL_isIndex_226 (by decide) ?_
          refine v_goto hc (tgt := 231) dL_isIndex_227 (by decide) ?_
          refine v_istore hc dL_isIndex_231 (by decide) rfl ?_
          refine v_iload hc dL_isIndex_233 rfl ?_
          refine v_istore_n hc (i := 3) rfl dL_isIndex_235 (by decide) rfl ?_
          refine v_iload hc dL_isIndex_236 rfl ?_
          refine v_istore hc dL_isIndex_238 (by decide) rfl ?_
          first | refine v_iinc1 hc dL_isIndex_240 rfl (by decide) rfl ?_ | refine v_iinc hc dL_isIndex_240 rfl rfl (by decide) rfl ?_
          refine v_goto hc (tgt := 54) dL_isIndex_243 (by decide) ?_
          refine v_widen (k' := 7 + (p0 + 1) * 12) (n' := 42 + (p0 + 1) * 72) (by omega) (by omega) ?_
          exact ihQ (p0 + 1, w5) _ rfl ⟨hlt, hw5⟩ (by dsimp only; omega)
        · refine v_iload hc dL_isIndex_195 rfl ?_
          refine v_iload_n hc (i := 3) rfl dL_isIndex_197 rfl ?_
          cases p0 with
          | zero =>
            refine v_icmp_eq hc (tgt := 226) dL_isIndex_198 (by decide) (fun hb => False.elim (nI_ne_m1 (by omega) hb)) (fun _ => ?_)
            have KKQ := KQ _ hw4
            refine v_iload hc dL_isIndex_201 rfl ?_
            refine v_if_eqN hc (tgt := 226) dL_isIndex_203 (by decide) (by omega) (fun h0 => ?_) (fun h0 => ?_)
            · exact v_widen (by first | omega | exact Nat.le_of_ble_eq_true rfl | (dsimp only; omega)) (by first | omega | exact Nat.le_of_ble_eq_true rfl | (dsimp only; omega)) (v_loc _ rfl KKQ)
            · refine v_iload hc dL_isIndex_206 rfl ?_
              refine v_iconst hc (v := nI 1) dL_isIndex_208 (by decide) ?_
              first | refine v_isubN hc (by omega) dL_isIndex_209 ?_ | refine v_isub hc dL_isIndex_209 ?_
              refine v_iload_n hc (i := 3) rfl dL_isIndex_210 rfl ?_
              refine v_icmp_eq hc (tgt := 226) dL_isIndex_211 (by decide) (fun hb => False.elim (nI_ne_m1 (by omega) hb)) (fun _ => ?_)
              first | refine v_aload_n hc (i := 0) rfl dL_isIndex_214 rfl ?_ | refine v_aload_nN hc (i := 0) rfl dL_isIndex_214 rfl ?_
              refine v_iload hc dL_isIndex_215 rfl ?_
              refine v_iconst hc (v := nI 1) dL_isIndex_217 (by decide) ?_
              first | refine v_isubN hc (by omega) dL_isIndex_218 ?_ | refine v_isub hc dL_isIndex_218 ?_
              refine v_callVi hc (q_find hl hP1 (i := hso ct (X.getD 0 0) - 1) (by omega)) (cwV 1 hc.1.2.2.2.2 gL_isIndex_X3_find rfl rfl rfl (by decide +kernel) ⟨Nat.le_of_ble_eq_true rfl, Nat.le_of_ble_eq_true rfl⟩) (hP1.1) rfl rfl rfl (Nat.le_of_ble_eq_true rfl) ⟨(by first | exact Nat.le_of_ble_eq_true rfl | omega | (dsimp only; omega) | (show _ ≤ 600130; omega) | (show _ ≤ 7301080; omega)), (by first | exact Nat.le_of_ble_eq_true rfl | omega | (dsimp only; omega) | (show _ ≤ 600130; omega) | (show _ ≤ 7301080; omega))⟩ dL_isIndex_219 (fun r w' h => ?_)
              obtain ⟨hw5, rfl⟩ := h
              rw [X_miss (ct := ct) (X := X) (h := hso ct (X.getD 0 0) - 1) (fun z hz e => by have := X_mono hSQ.1 (Nat.zero_le z) hz; omega)]
              have KKQ := KQ _ (hw4.trans hw5)
              refine v_iconst hc (v := (-1)) dL_isIndex_222 (by decide) ?_
              refine v_icmp_ne hc (tgt := 230) dL_isIndex_223 (by decide) (fun hb => False.elim (hb rfl)) (fun _ => ?_)
              exact v_widen (by first | omega | exact Nat.le_of_ble_eq_true rfl | (dsimp only; omega)) (by first | omega | exact Nat.le_of_ble_eq_true rfl | (dsimp only; omega)) (v_loc _ rfl KKQ)
          | succ p1 =>
            have hnx := X_nxt hSQ.1 hpX
            have hp14 : hso ct (X.getD p1 0) < 4096 := hsh_lt _
            have KKQ := KQ _ hw4
            refine v_icmp_eqN hc (tgt := 226) dL_isIndex_198 (by decide) (by omega) (by omega) (fun _ => ?_) (fun hne => ?_)
            · exact v_widen (by first | omega | exact Nat.le_of_ble_eq_true rfl | (dsimp only; omega)) (by first | omega | exact Nat.le_of_ble_eq_true rfl | (dsimp only; omega)) (v_loc _ rfl KKQ)
            · refine v_iload hc dL_isIndex_201 rfl ?_
              refine v_if_eqN hc (tgt := 226) dL_isIndex_203 (by decide) (by omega) (fun h0 => ?_) (fun h0 => ?_)
              · exact v_widen (by first | omega | exact Nat.le_of_ble_eq_true rfl | (dsimp only; omega)) (by first | omega | exact Nat.le_of_ble_eq_true rfl | (dsimp only; omega)) (v_loc _ rfl KKQ)
              · refine v_iload hc dL_isIndex_206 rfl ?_
                refine v_iconst hc (v := nI 1) dL_isIndex_208 (by decide) ?_
                first | refine v_isubN hc (by omega) dL_isIndex_209 ?_ | refine v_isub hc dL_isIndex_209 ?_
                refine v_iload_n hc (i := 3) rfl dL_isIndex_210 rfl ?_
                refine v_icmp_eqN hc (tgt := 226) dL_isIndex_211 (by decide) (by omega) (by omega) (fun _ => ?_) (fun hne2 => ?_)
                · exact v_widen (by first | omega | exact Nat.le_of_ble_eq_true rfl | (dsimp only; omega)) (by first | omega | exact Nat.le_of_ble_eq_true rfl | (dsimp only; omega)) (v_loc _ rfl KKQ)
                · first | refine v_aload_n hc (i := 0) rfl dL_isIndex_214 rfl ?_ | refine v_aload_nN hc (i := 0) rfl dL_isIndex_214 rfl ?_
                  refine v_iload hc dL_isIndex_215 rfl ?_
                  refine v_iconst hc (v := nI 1) dL_isIndex_217 (by decide) ?_
                  first | refine v_isubN hc (by omega) dL_isIndex_218 ?_ | refine v_isub hc dL_isIndex_218 ?_
                  refine v_callVi hc (q_find hl hP1 (i := hso ct (X.getD (p1 + 1) 0) - 1) (by omega)) (cwV 1 hc.1.2.2.2.2 gL_isIndex_X3_find rfl rfl rfl (by decide +kernel) ⟨Nat.le_of_ble_eq_true rfl, Nat.le_of_ble_eq_true rfl⟩) (hP1.1) rfl rfl rfl (Nat.le_of_ble_eq_true rfl) ⟨(by first | exact Nat.le_of_ble_eq_true rfl | omega | (dsimp only; omega) | (show _ ≤ 600130; omega) | (show _ ≤ 7301080; omega)), (by first | exact Nat.le_of_ble_eq_true rfl | omega | (dsimp only; omega) | (show _ ≤ 600130; omega) | (show _ ≤ 7301080; omega))⟩ dL_isIndex_219 (fun r w' h => ?_)
                  obtain ⟨hw5, rfl⟩ := h
                  rw [X_miss (ct := ct) (X := X) (h := hso ct (X.getD (p1 + 1) 0) - 1) (fun z hz e => by
                    rcases Nat.lt_or_ge p1 z with hz1 | hz1
                    · have := X_mono hSQ.1 (i := p1 + 1) (j := z) hz1 hz; omega
                    · have := X_mono hSQ.1 (i := z) (j := p1) hz1 (by omega); omega)]
                  have KKQ := KQ _ (hw4.trans hw5)
                  refine v_iconst hc (v := (-1)) dL_isIndex_222 (by decide) ?_
                  refine v_icmp_ne hc (tgt := 230) dL_isIndex_223 (by decide) (fun hb => False.elim (hb rfl)) (fun _ => ?_)
                  exact v_widen (by first | omega | exact Nat.le_of_ble_eq_true rfl | (dsimp only; omega)) (by first | omega | exact Nat.le_of_ble_eq_true rfl | (dsimp only; omega)) (v_loc _ rfl KKQ)
      · refine v_if_eqN hc (tgt := 195) dL_isIndex_179 (by decide) (by omega) (fun h0 => ?_) (fun h0 => ?_)
        · exact v_widen (by first | omega | exact Nat.le_of_ble_eq_true rfl | (dsimp only; omega)) (by first | omega | exact Nat.le_of_ble_eq_true rfl | (dsimp only; omega)) (v_loc _ rfl KQ)
        · first | refine v_aload_n hc (i := 0) rfl dL_isIndex_182 rfl ?_ | refine v_aload_nN hc (i := 0) rfl dL_isIndex_182 rfl ?_
          refine v_iload hc dL_isIndex_183 rfl ?_
          refine v_iconst hc (v := nI 1) dL_isIndex_185 (by decide) ?_
          first | refine v_isubN hc (by omega) dL_isIndex_186 ?_ | refine v_isub hc dL_isIndex_186 ?_
          refine v_callVi hc (q_fanOut hl hP1 (i := hso ct (X.getD p0 0) / 256 - 1) (by omega)) (cwV 1 hc.1.2.2.2.2 gL_isIndex_X3_fanOut rfl rfl rfl (by decide +kernel) ⟨Nat.le_of_ble_eq_true rfl, Nat.le_of_ble_eq_true rfl⟩) (hP1.1) rfl rfl rfl (Nat.le_of_ble_eq_true rfl) ⟨(by first | exact Nat.le_of_ble_eq_true rfl | omega | (dsimp only; omega) | (show _ ≤ 600130; omega) | (show _ ≤ 7301080; omega)), (by first | exact Nat.le_of_ble_eq_true rfl | omega | (dsimp only; omega) | (show _ ≤ 600130; omega) | (show _ ≤ 7301080; omega))⟩ dL_isIndex_187 (fun r w' h => ?_)
          obtain ⟨rfl, rfl⟩ := h
          rw [show hso ct (X.getD p0 0) / 256 - 1 + 1 = hso ct (X.getD p0 0) / 256 by omega]
          refine v_iload hc dL_isIndex_190 rfl ?_
          refine v_icmp_gtN hc (tgt := 230) dL_isIndex_192 (by decide) (by omega) (by omega) (fun hb => False.elim (by omega)) (fun _ => ?_)
          exact v_widen (by first | omega | exact Nat.le_of_ble_eq_true rfl | (dsimp only; omega)) (by first | omega | exact Nat.le_of_ble_eq_true rfl | (dsimp only; omega)) (v_loc _ rfl KQ)
    · cases p0 with
      | zero =>
        refine v_icmp_gt hc (tgt := 127) dL_isIndex_111 (by decide) (fun _ => ?_) (fun hb => False.elim (hb (nI_gt_m1 (by omega))))
        exact v_widen (by first | omega | exact Nat.le_of_ble_eq_true rfl | (dsimp only; omega)) (by first | omega | exact Nat.le_of_ble_eq_true rfl | (dsimp only; omega)) (v_loc _ rfl KQ)
      | succ p1 =>
        have hnx := X_nxt hSQ.1 hpX
        have hp14 : hso ct (X.getD p1 0) < 4096 := hsh_lt _
        have hp1n := (hXm p1 (by omega)).1
        refine v_icmp_gtN hc (tgt := 127) dL_isIndex_111 (by decide) (by omega) (by omega) (fun _ => ?_) (fun hle => ?_)
        · exact v_widen (by first | omega | exact Nat.le_of_ble_eq_true rfl | (dsimp only; omega)) (by first | omega | exact Nat.le_of_ble_eq_true rfl | (dsimp only; omega)) (v_loc _ rfl KQ)
        · refine v_iload hc dL_isIndex_114 rfl ?_
          refine v_iload_n hc (i := 3) rfl dL_isIndex_116 rfl ?_
          refine v_icmp_neN hc (tgt := 230) dL_isIndex_117 (by decide) (by omega) (by omega) (fun hb => False.elim (by omega)) (fun _ => ?_)
          refine v_iload hc dL_isIndex_120 rfl ?_
          refine v_iload hc dL_isIndex_122 rfl ?_
          refine v_icmp_leN hc (tgt := 230) dL_isIndex_124 (by decide) (by omega) (by omega) (fun hb => False.elim (by omega)) (fun _ => ?_)
          exact v_widen (by first | omega | exact Nat.le_of_ble_eq_true rfl | (dsimp only; omega)) (by first | omega | exact Nat.le_of_ble_eq_true rfl | (dsimp only; omega)) (v_loc _ rfl KQ)
end LW3

