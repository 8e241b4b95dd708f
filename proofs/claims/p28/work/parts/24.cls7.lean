/-! ===== the class: pack ===== -/
theorem i32_neg1 {x : Int32} (h : ¬ x < nI 1) : ¬ x < 0 := fun z => h (by
  rw [Int32.lt_iff_toInt_lt] at z ⊢
  have h1 : (nI 1).toInt = 1 := by decide
  have h0 : (0 : Int32).toInt = 0 := by decide
  omega)
section CL7
variable {l : Launch} {G : cG} {A : Nat → Prop} {w : wd} {px pI pO pX n : Nat} {ia : Nat → Nat} {nm : Nat → Int32} {ct : Nat → Int64} {lv lo : Nat → Bool} {fa fb : Nat → Option Nat} {fm nf : Nat → Option Frm} {O X : List Nat} {cp ru : Int32}
theorem FW.put (hF : FW w n ia fa nf) {o q : Nat} {F : Frm} (hq : w q = some (frc ia F)) : FW w n ia (va_up fa o (some q)) (va_up nf o (some F)) := by
  intro j hj
  by_cases hjo : j = o
  · subst hjo
    rw [va_up_self, va_up_self]
    exact ⟨fun h => (nomatch h), fun g hg => by cases hg; exact ⟨q, rfl, hq⟩⟩
  · rw [up_n hjo, up_n hjo]; exact hF j hj
theorem FJ.put (hJ : FJ n fa) (hF : FW w n ia fa nf) {o q : Nat} (hq : w q = none) : FJ n (va_up fa o (some q)) := by
  have hne : ∀ i, i < n → fa i ≠ some q := fun i hi z => by
    cases hnf : nf i with
    | none => rw [(hF i hi).1 hnf] at z; cases z
    | some g =>
      obtain ⟨f, e1, e2⟩ := (hF i hi).2 g hnf
      rw [e1] at z
      cases z
      rw [hq] at e2; cases e2
  intro i j f hi hj e1 e2
  by_cases hio : i = o
  · by_cases hjo : j = o
    · rw [hio, hjo]
    · rw [hio, va_up_self] at e1
      rw [up_n hjo] at e2
      cases e1
      exact absurd e2 (hne j hj)
  · rw [up_n hio] at e1
    by_cases hjo : j = o
    · rw [hjo, va_up_self] at e2
      cases e2
      exact absurd e1 (hne i hi)
    · rw [up_n hjo] at e2
      exact hJ i j f hi hj e1 e2
set_option maxRecDepth 100000 in
set_option maxHeartbeats 4000000 in
theorem c_X3_pack (hl : l.stackTraces = false) (hP : PC G w px pI pO pX n ia nm ct lv lo fa fb O X cp ru) (hF : FW w n ia fa fm) (hC : CH n fm) (hT : FCt n ct fm) (hct : ∀ i, i < n → isC (ct i) = true) (Wv bv : Int32) (rs : Bool) : vx_Met l yX3_pack wsX3_pack ({ frames := 15, cells := 160, slots := 5200, locals := 290 } : Room) (Pw G A w [.ref px, .int Wv, .int bv, .int (bI rs)]) (va_Qi (fun r w' => (isin Wv (nI 1) (nI 8) && isin bv (nI 0) (nI 6)) = true ∧ ∃ W bd O' X' fa' fb', Wv = nI W ∧ bv = nI bd ∧ W ≤ 8 ∧ bd ≤ 6 ∧ srtd (ahd nm ct) (fun i => i < n ∧ rdb lv lo fm i = true) O' ∧ srtd (ihd ct) (fun i => i ∈ O') X' ∧ PC G w' px pI pO pX n ia nm ct lv lo fa' fb' O' X' (nI (fmr ct fm bd W rs O' O'.length).2.1) (nI (fmr ct fm bd W rs O' O'.length).2.2) ∧ FW w' n ia fa' (fmr ct fm bd W rs O' O'.length).1 ∧ FJ n fa' ∧ r = nI (sumL (cst (fmr ct fm bd W rs O' O'.length).1) O')) (Bw G A) A) (XW G A (fun E w' => w = w' ∧ E = xIA ∧ (isin Wv (nI 1) (nI 8) && isin bv (nI 0) (nI 6)) = false)) 160 5200 A := by
  refine m_ofX (cc := cX3_pack) (maxL := 7) (ret := (some .int)) (by decide) rfl (Nat.le_of_ble_eq_true rfl) ?_
  intro p e s m args below meth c hc hr hout
  refine v_loc [(0, some (.ref px)), (1, some (.int Wv)), (2, some (.int bv)), (3, some (.int (bI rs)))] rfl ?_
  have hn := hP.n40
  refine v_iload_n hc (i := 1) rfl dX3_pack_0 rfl ?_
  refine v_iconst hc (v := nI 1) dX3_pack_1 (by decide) ?_
  refine v_icmp_lt hc (tgt := 11) dX3_pack_2 (by decide) (fun h1 => ?_) (fun h1 => ?_)
  · exact v_throw hc hl hout (cls := "java/lang/IllegalArgumentException") (text := "the window is out of range") (by decide +kernel) (by decide +kernel) (by decide +kernel) (by decide +kernel) (by decide +kernel) (by decide +kernel) (by decide +kernel) dX3_pack_11 dX3_pack_14 dX3_pack_15 dX3_pack_17 dX3_pack_20 (Nat.le_of_ble_eq_true rfl) (Nat.le_of_ble_eq_true rfl) (by first | exact Nat.le_of_ble_eq_true rfl | omega | (dsimp only; omega)) (by first | exact Nat.le_of_ble_eq_true rfl | omega | (dsimp only; omega)) (by first | exact Nat.le_of_ble_eq_true rfl | omega | (dsimp only; omega)) (by first | exact Nat.le_of_ble_eq_true rfl | omega | (dsimp only; omega)) (⟨rfl, rfl, by unfold isin; rw [decide_eq_false (i32_nle h1)]; rfl⟩)
  · refine v_iload_n hc (i := 1) rfl dX3_pack_5 rfl ?_
    refine v_bipush hc (v := nI 8) dX3_pack_6 (by decide) ?_
    refine v_icmp_le hc (tgt := 21) dX3_pack_8 (by decide) (fun h2 => ?_) (fun h2 => ?_)
    · refine v_iload_n hc (i := 2) rfl dX3_pack_21 rfl ?_
      refine v_if_lt hc (tgt := 31) dX3_pack_22 (by decide) (fun h3 => ?_) (fun h3 => ?_)
      · exact v_throw hc hl hout (cls := "java/lang/IllegalArgumentException") (text := "the bound is out of range") (by decide +kernel) (by decide +kernel) (by decide +kernel) (by decide +kernel) (by decide +kernel) (by decide +kernel) (by decide +kernel) dX3_pack_31 dX3_pack_34 dX3_pack_35 dX3_pack_37 dX3_pack_40 (Nat.le_of_ble_eq_true rfl) (Nat.le_of_ble_eq_true rfl) (by first | exact Nat.le_of_ble_eq_true rfl | omega | (dsimp only; omega)) (by first | exact Nat.le_of_ble_eq_true rfl | omega | (dsimp only; omega)) (by first | exact Nat.le_of_ble_eq_true rfl | omega | (dsimp only; omega)) (by first | exact Nat.le_of_ble_eq_true rfl | omega | (dsimp only; omega)) (⟨rfl, rfl, by unfold isin; rw [decide_eq_false (show ¬ nI 0 ≤ bv from i32_nle h3), Bool.false_and, Bool.and_false]⟩)
      · refine v_iload_n hc (i := 2) rfl dX3_pack_25 rfl ?_
        refine v_bipush hc (v := nI 6) dX3_pack_26 (by decide) ?_
        refine v_icmp_le hc (tgt := 41) dX3_pack_28 (by decide) (fun h4 => ?_) (fun h4 => ?_)
        · have hall : (isin Wv (nI 1) (nI 8) && isin bv (nI 0) (nI 6)) = true := by
            unfold isin
            rw [decide_eq_true (i32_le h1), decide_eq_true h2, decide_eq_true (show nI 0 ≤ bv from i32_le h3), decide_eq_true h4]; rfl
          obtain ⟨W, hW, rfl⟩ := nI_of2 (x := Wv) (M := nI 8) (n := 8) (by decide) (i32_neg1 h1) h2
          obtain ⟨bd, hbd, rfl⟩ := nI_of2 (x := bv) (M := nI 6) (n := 6) (by decide) h3 h4
          first | refine v_aload_n hc (i := 0) rfl dX3_pack_41 rfl ?_ | refine v_aload_nN hc (i := 0) rfl dX3_pack_41 rfl ?_
          refine v_callVv hc (c_X3_fillOrder hP hF hC) (cwV 0 hc.1.2.2.2.2 gX3_pack_X3_fillOrder rfl rfl rfl (by decide +kernel) ⟨Nat.le_of_ble_eq_true rfl, Nat.le_of_ble_eq_true rfl⟩) (hP.1) rfl rfl rfl (Nat.le_of_ble_eq_true rfl) ⟨(by first | exact Nat.le_of_ble_eq_true rfl | omega | (dsimp only; omega)), (by first | exact Nat.le_of_ble_eq_true rfl | omega | (dsimp only; omega))⟩ dX3_pack_42 (fun w1 hp => ?_)
          obtain ⟨O1, hS, hP1, hk1⟩ := hp
          first | refine v_aload_n hc (i := 0) rfl dX3_pack_45 rfl ?_ | refine v_aload_nN hc (i := 0) rfl dX3_pack_45 rfl ?_
          refine v_callVv hc (c_X3_putFormsAside hP1) (cwV 0 hc.1.2.2.2.2 gX3_pack_X3_putFormsAside rfl rfl rfl (by decide +kernel) ⟨Nat.le_of_ble_eq_true rfl, Nat.le_of_ble_eq_true rfl⟩) (hP1.1) rfl rfl rfl (Nat.le_of_ble_eq_true rfl) ⟨(by first | exact Nat.le_of_ble_eq_true rfl | omega | (dsimp only; omega)), (by first | exact Nat.le_of_ble_eq_true rfl | omega | (dsimp only; omega))⟩ dX3_pack_46 (fun w2 hp => ?_)
          obtain ⟨hP2, hk2⟩ := hp
          first | refine v_aload_n hc (i := 0) rfl dX3_pack_49 rfl ?_ | refine v_aload_nN hc (i := 0) rfl dX3_pack_49 rfl ?_
          refine v_iconst hc (v := nI 0) dX3_pack_50 (by decide) ?_
          refine v_put hc 3 (ci := 6) rfl tyX3 tyX3_ok nmX3 (by decide +kernel) (by decide) (by decide +kernel) (fun _ h => h) rfl (tyX3_ok 3 (by decide)) rfl rfl (Nat.le_of_ble_eq_true rfl) dX3_pack_51 (hP2.1) ?_
          refine v_w (show _ = wup w2 px (.inr (6, [.ref pI, .ref pO, .ref pX, .int (nI 0), .int ru])) from rfl) ?_
          first | refine v_aload_n hc (i := 0) rfl dX3_pack_54 rfl ?_ | refine v_aload_nN hc (i := 0) rfl dX3_pack_54 rfl ?_
          refine v_iconst hc (v := nI 0) dX3_pack_55 (by decide) ?_
          refine v_put hc 4 (ci := 6) rfl tyX3 tyX3_ok nmX3 (by decide +kernel) (by decide) (by decide +kernel) (fun _ h => h) rfl (tyX3_ok 4 (by decide)) rfl rfl (Nat.le_of_ble_eq_true rfl) dX3_pack_56 (wup_s _ _ _) ?_
          rw [wup_up]
          refine v_w (show _ = wup w2 px (.inr (6, [.ref pI, .ref pO, .ref pX, .int (nI 0), .int (nI 0)])) from rfl) ?_
          have hP3 := hP2.cnt (nI 0) (nI 0)
          have hk3 := (hk1.tr hk2).tr (k3_cnt hP2 (.inr (6, [.ref pI, .ref pO, .ref pX, .int (nI 0), .int (nI 0)])))
          have hnd : O1.Nodup := hS.nodup (so_ahd nm ct)
          have hO1 : ∀ i ∈ O1, i < n := hP1.2.2.2.1
          have ho40 := hP1.o40
          refine v_iconst hc (v := nI 0) dX3_pack_59 (by decide) ?_
          refine v_istore hc dX3_pack_60 (by decide) rfl ?_
          refine v_loop (σ := Nat × wd × (Nat → Option Nat)) (fun a => a.1 ≤ O1.length ∧ PC G a.2.1 px pI pO pX n ia nm ct lv lo a.2.2 fa O1 X (nI (fmr ct fm bd W rs O1 a.1).2.1) (nI (fmr ct fm bd W rs O1 a.1).2.2) ∧ FW a.2.1 n ia fa fm ∧ FW a.2.1 n ia a.2.2 (fmr ct fm bd W rs O1 a.1).1 ∧ FJ n a.2.2) (fun a => O1.length - a.1) (fun a => a.2.1) (fun a => 40 + a.1 * 2) (fun a => 2400 + a.1 * 10) (fun a => [(0, some (.ref px)), (1, some (.int (nI W))), (2, some (.int (nI bd))), (3, some (.int (bI rs))), (4, some (.int (nI a.1)))]) (0, wup w2 px (.inr (6, [.ref pI, .ref pO, .ref pX, .int (nI 0), .int (nI 0)])), fun _ => none) rfl ⟨Nat.zero_le _, hP3, hF.k3 hk3, fun i hi => ⟨fun _ => rfl, fun g hg => (nomatch hg)⟩, fun i j f _ _ e => (nomatch e)⟩ ?_
          rintro ⟨k, w4, fa4⟩ ⟨hk, hP4, hB4, hF4, hJ4⟩ ih
          dsimp only at hk hP4 hB4 hF4 hJ4 ih ⊢
          have hN : NOK n ct O1 k (fmr ct fm bd W rs O1 k).1 := fmr_ok hnd hO1 hbd hk
          obtain ⟨vs, haO⟩ := hP4.alO
          refine v_iload hc dX3_pack_62 rfl ?_
          first | refine v_aload_n hc (i := 0) rfl dX3_pack_64 rfl ?_ | refine v_aload_nN hc (i := 0) rfl dX3_pack_64 rfl ?_
          refine v_get hc 1 (ci := 6) rfl (by decide +kernel) (by decide) (by decide +kernel) (fun _ h => h) dX3_pack_65 (hP4.1) rfl ?_
          refine v_callVi hc (hP4.szO) (cwV 0 hc.1.2.2.2.2 gX3_pack_Jx4a65c_size_8abf5 rfl rfl rfl (by decide +kernel) ⟨Nat.le_of_ble_eq_true rfl, Nat.le_of_ble_eq_true rfl⟩) (haO) rfl rfl rfl (Nat.le_of_ble_eq_true rfl) ⟨(by first | exact Nat.le_of_ble_eq_true rfl | omega | (dsimp only; omega)), (by first | exact Nat.le_of_ble_eq_true rfl | omega | (dsimp only; omega))⟩ dX3_pack_68 (fun r w' hp => ?_)
          obtain ⟨rfl, rfl⟩ := hp
          refine v_icmp_geN hc (tgt := 136) dX3_pack_71 (by decide) (by omega) (by omega) (fun h5 => ?_) (fun h5 => ?_)
          · have e : k = O1.length := by omega
            subst e
            first | refine v_aload_n hc (i := 0) rfl dX3_pack_136 rfl ?_ | refine v_aload_nN hc (i := 0) rfl dX3_pack_136 rfl ?_
            refine v_callVv hc (c_X3_fillIndex hP4 hnd) (cwV 0 hc.1.2.2.2.2 gX3_pack_X3_fillIndex rfl rfl rfl (by decide +kernel) ⟨Nat.le_of_ble_eq_true rfl, Nat.le_of_ble_eq_true rfl⟩) (hP4.1) rfl rfl rfl (Nat.le_of_ble_eq_true rfl) ⟨(by first | exact Nat.le_of_ble_eq_true rfl | omega | (dsimp only; omega)), (by first | exact Nat.le_of_ble_eq_true rfl | omega | (dsimp only; omega))⟩ dX3_pack_137 (fun w5 hp => ?_)
            obtain ⟨X1, hSX, hP5, hk5⟩ := hp
            have hF5 := hF4.k3 hk5
            first | refine v_aload_n hc (i := 0) rfl dX3_pack_140 rfl ?_ | refine v_aload_nN hc (i := 0) rfl dX3_pack_140 rfl ?_
            refine v_callVi hc (c_X3_cost hP5 hF5) (cwV 0 hc.1.2.2.2.2 gX3_pack_X3_cost rfl rfl rfl (by decide +kernel) ⟨Nat.le_of_ble_eq_true rfl, Nat.le_of_ble_eq_true rfl⟩) (hP5.1) rfl rfl rfl (Nat.le_of_ble_eq_true rfl) ⟨(by first | exact Nat.le_of_ble_eq_true rfl | omega | (dsimp only; omega)), (by first | exact Nat.le_of_ble_eq_true rfl | omega | (dsimp only; omega))⟩ dX3_pack_141 (fun r w' hp => ?_)
            obtain ⟨rfl, rfl⟩ := hp
            refine v_xret ?_
            exact v_iret hc hr dX3_pack_144 (by first | exact Nat.le_of_ble_eq_true rfl | omega | (dsimp only; omega)) (by first | exact Nat.le_of_ble_eq_true rfl | omega | (dsimp only; omega)) (⟨hall, W, bd, O1, X1, fa4, fa, rfl, rfl, hW, hbd, hS, hSX, hP5, hF5, hJ4, rfl⟩)
          · have hm := hO1 _ (getD_mem h5)
            first | refine v_aload_n hc (i := 0) rfl dX3_pack_74 rfl ?_ | refine v_aload_nN hc (i := 0) rfl dX3_pack_74 rfl ?_
            refine v_get hc 1 (ci := 6) rfl (by decide +kernel) (by decide) (by decide +kernel) (fun _ h => h) dX3_pack_75 (hP4.1) rfl ?_
            refine v_iload hc dX3_pack_78 rfl ?_
            refine v_callVq hc (hP4.gtO h5) (cwV 1 hc.1.2.2.2.2 gX3_pack_Jx4a65c_get_915e3 rfl rfl rfl (by decide +kernel) ⟨Nat.le_of_ble_eq_true rfl, Nat.le_of_ble_eq_true rfl⟩) (haO) rfl rfl rfl (Nat.le_of_ble_eq_true rfl) ⟨(by first | exact Nat.le_of_ble_eq_true rfl | omega | (dsimp only; omega)), (by first | exact Nat.le_of_ble_eq_true rfl | omega | (dsimp only; omega))⟩ dX3_pack_80 (fun r w' hp => ?_)
            obtain ⟨rfl, rfl⟩ := hp
            refine v_cast hc (ci := 4) rfl (by decide +kernel) (hP4.2.1 _ hm) dX3_pack_83 ?_
            first | refine v_astore hc dX3_pack_86 (by decide) rfl ?_ | refine v_astoreN hc dX3_pack_86 (by decide) rfl ?_
            refine v_iload_n hc (i := 3) rfl dX3_pack_88 rfl ?_
            refine v_ifB_eq hc (tgt := 102) dX3_pack_89 (by decide) (fun h6 => ?_) (fun h6 => ?_)
            · have hcase : cond rs (reu fm (fmr ct fm bd W rs O1 k).1 bd (O1.getD k 0)) none = none := by rw [h6]; rfl
              refine v_null hc dX3_pack_102 ?_
              first | refine v_astore hc dX3_pack_103 (by decide) rfl ?_ | refine v_astoreN hc dX3_pack_103 (by decide) rfl ?_
              first | refine v_aload hc dX3_pack_105 rfl ?_ | refine v_aloadN hc dX3_pack_105 rfl ?_
              first | refine v_aload hc dX3_pack_107 rfl ?_ | refine v_aloadN hc dX3_pack_107 rfl ?_
              refine v_ifnull_N hc (tgt := 117) dX3_pack_109 (by decide) ?_
              first | refine v_aload_n hc (i := 0) rfl dX3_pack_117 rfl ?_ | refine v_aload_nN hc (i := 0) rfl dX3_pack_117 rfl ?_
              first | refine v_aload hc dX3_pack_118 rfl ?_ | refine v_aloadN hc dX3_pack_118 rfl ?_
              refine v_iload hc dX3_pack_120 rfl ?_
              refine v_iload_n hc (i := 1) rfl dX3_pack_122 rfl ?_
              refine v_iload_n hc (i := 2) rfl dX3_pack_123 rfl ?_
              refine v_callVq hc (c_X3_findForm hP4 hF4 hN.2.1 hct (p := k) h5 (fun j hj => (hN.1 _).mpr ⟨j, hj, rfl⟩) hm hW hbd rfl) (cwV 4 hc.1.2.2.2.2 gX3_pack_X3_findForm rfl rfl rfl (by decide +kernel) ⟨Nat.le_of_ble_eq_true rfl, Nat.le_of_ble_eq_true rfl⟩) (hP4.1) rfl rfl rfl (Nat.le_of_ble_eq_true rfl) ⟨(by first | exact Nat.le_of_ble_eq_true rfl | omega | (dsimp only; omega)), (by first | exact Nat.le_of_ble_eq_true rfl | omega | (dsimp only; omega))⟩ dX3_pack_124 (fun r w5 hp => ?_)
              obtain ⟨q, rfl, hq, hP5, hk5, hq5⟩ := hp
              have hst : fmr ct fm bd W rs O1 (k + 1) = (va_up (fmr ct fm bd W rs O1 k).1 (O1.getD k 0) (some (mkF ct (fmr ct fm bd W rs O1 k).1 (O1.getD k 0) (bst ct (fmr ct fm bd W rs O1 k).1 bd W O1 k (O1.getD k 0) (fmr ct fm bd W rs O1 k).2.1).1)), (bst ct (fmr ct fm bd W rs O1 k).1 bd W O1 k (O1.getD k 0) (fmr ct fm bd W rs O1 k).2.1).2.2, (fmr ct fm bd W rs O1 k).2.2) := by
                show stF ct fm bd W rs O1 k (fmr ct fm bd W rs O1 k) = _
                unfold stF
                rw [hcase]
              have hP6 := hP5.itF hm (some q) (fa (O1.getD k 0))
              rw [up_id (f := fa) rfl] at hP6
              have hB6 : FW (wup w5 (ia (O1.getD k 0)) (.inr (4, itf (O1.getD k 0) (nm (O1.getD k 0)) (ct (O1.getD k 0)) (lv (O1.getD k 0)) (lo (O1.getD k 0)) (some q) (fa (O1.getD k 0))))) n ia fa fm := (hB4.k3 hk5).kp (k3_of (hP5.2.1 _ hm) (by decide))
              have hF6 := ((hF4.k3 hk5).put (o := O1.getD k 0) hq5).kp (k3_of (e := .inr (4, itf (O1.getD k 0) (nm (O1.getD k 0)) (ct (O1.getD k 0)) (lv (O1.getD k 0)) (lo (O1.getD k 0)) (some q) (fa (O1.getD k 0)))) (hP5.2.1 _ hm) (by decide))
              have hJ6 := hJ4.put (o := O1.getD k 0) hF4 hq
              refine v_put hc 7 (ci := 4) rfl tyX1 tyX1_ok nmX1 (by decide +kernel) (by decide) (by decide +kernel) (fun _ h => h) rfl (tyX1_ok 7 (by decide)) rfl rfl (Nat.le_of_ble_eq_true rfl) dX3_pack_127 (hP5.2.1 _ hm) ?_
              refine v_w (show _ = wup w5 (ia (O1.getD k 0)) (.inr (4, itf (O1.getD k 0) (nm (O1.getD k 0)) (ct (O1.getD k 0)) (lv (O1.getD k 0)) (lo (O1.getD k 0)) (some q) (fa (O1.getD k 0)))) from rfl) ?_
              first | refine v_iinc1 hc dX3_pack_130 rfl (by decide) rfl ?_ | refine v_iinc hc dX3_pack_130 rfl rfl (by decide) rfl ?_
              refine v_goto hc (tgt := 62) dX3_pack_133 (by decide) ?_
              refine v_widen (k' := 40 + (k + 1) * 2) (n' := 2400 + (k + 1) * 10) (by omega) (by omega) ?_
              exact ih (k + 1, wup w5 (ia (O1.getD k 0)) (.inr (4, itf (O1.getD k 0) (nm (O1.getD k 0)) (ct (O1.getD k 0)) (lv (O1.getD k 0)) (lo (O1.getD k 0)) (some q) (fa (O1.getD k 0)))), va_up fa4 (O1.getD k 0) (some q)) _ rfl ⟨h5, by dsimp only; rw [hst]; exact hP6, hB6, by dsimp only; rw [hst]; exact hF6, hJ6⟩ (by dsimp only; omega)
            · first | refine v_aload_n hc (i := 0) rfl dX3_pack_92 rfl ?_ | refine v_aload_nN hc (i := 0) rfl dX3_pack_92 rfl ?_
              first | refine v_aload hc dX3_pack_93 rfl ?_ | refine v_aloadN hc dX3_pack_93 rfl ?_
              refine v_iload_n hc (i := 2) rfl dX3_pack_95 rfl ?_
              refine v_callVq hc (c_X3_reuseForm hP4 hB4 hF4 hC hN.2.1 hT hm hbd) (cwV 2 hc.1.2.2.2.2 gX3_pack_X3_reuseForm rfl rfl rfl (by decide +kernel) ⟨Nat.le_of_ble_eq_true rfl, Nat.le_of_ble_eq_true rfl⟩) (hP4.1) rfl rfl rfl (Nat.le_of_ble_eq_true rfl) ⟨(by first | exact Nat.le_of_ble_eq_true rfl | omega | (dsimp only; omega)), (by first | exact Nat.le_of_ble_eq_true rfl | omega | (dsimp only; omega))⟩ dX3_pack_96 (fun r w5 hp => ?_)
              rcases hp with ⟨hr1, rfl, rfl⟩ | ⟨b, q, hr1, rfl, hq, hP5, hk5, hq5⟩
              · have hcase : cond rs (reu fm (fmr ct fm bd W rs O1 k).1 bd (O1.getD k 0)) none = none := by subst h6; exact hr1
                refine v_goto hc (tgt := 103) dX3_pack_99 (by decide) ?_
                first | refine v_astore hc dX3_pack_103 (by decide) rfl ?_ | refine v_astoreN hc dX3_pack_103 (by decide) rfl ?_
                first | refine v_aload hc dX3_pack_105 rfl ?_ | refine v_aloadN hc dX3_pack_105 rfl ?_
                first | refine v_aload hc dX3_pack_107 rfl ?_ | refine v_aloadN hc dX3_pack_107 rfl ?_
                refine v_ifnull_N hc (tgt := 117) dX3_pack_109 (by decide) ?_
                first | refine v_aload_n hc (i := 0) rfl dX3_pack_117 rfl ?_ | refine v_aload_nN hc (i := 0) rfl dX3_pack_117 rfl ?_
                first | refine v_aload hc dX3_pack_118 rfl ?_ | refine v_aloadN hc dX3_pack_118 rfl ?_
                refine v_iload hc dX3_pack_120 rfl ?_
                refine v_iload_n hc (i := 1) rfl dX3_pack_122 rfl ?_
                refine v_iload_n hc (i := 2) rfl dX3_pack_123 rfl ?_
                refine v_callVq hc (c_X3_findForm hP4 hF4 hN.2.1 hct (p := k) h5 (fun j hj => (hN.1 _).mpr ⟨j, hj, rfl⟩) hm hW hbd rfl) (cwV 4 hc.1.2.2.2.2 gX3_pack_X3_findForm rfl rfl rfl (by decide +kernel) ⟨Nat.le_of_ble_eq_true rfl, Nat.le_of_ble_eq_true rfl⟩) (hP4.1) rfl rfl rfl (Nat.le_of_ble_eq_true rfl) ⟨(by first | exact Nat.le_of_ble_eq_true rfl | omega | (dsimp only; omega)), (by first | exact Nat.le_of_ble_eq_true rfl | omega | (dsimp only; omega))⟩ dX3_pack_124 (fun r w5 hp => ?_)
                obtain ⟨q, rfl, hq, hP5, hk5, hq5⟩ := hp
                have hst : fmr ct fm bd W rs O1 (k + 1) = (va_up (fmr ct fm bd W rs O1 k).1 (O1.getD k 0) (some (mkF ct (fmr ct fm bd W rs O1 k).1 (O1.getD k 0) (bst ct (fmr ct fm bd W rs O1 k).1 bd W O1 k (O1.getD k 0) (fmr ct fm bd W rs O1 k).2.1).1)), (bst ct (fmr ct fm bd W rs O1 k).1 bd W O1 k (O1.getD k 0) (fmr ct fm bd W rs O1 k).2.1).2.2, (fmr ct fm bd W rs O1 k).2.2) := by
                  show stF ct fm bd W rs O1 k (fmr ct fm bd W rs O1 k) = _
                  unfold stF
                  rw [hcase]
                have hP6 := hP5.itF hm (some q) (fa (O1.getD k 0))
                rw [up_id (f := fa) rfl] at hP6
                have hB6 : FW (wup w5 (ia (O1.getD k 0)) (.inr (4, itf (O1.getD k 0) (nm (O1.getD k 0)) (ct (O1.getD k 0)) (lv (O1.getD k 0)) (lo (O1.getD k 0)) (some q) (fa (O1.getD k 0))))) n ia fa fm := (hB4.k3 hk5).kp (k3_of (hP5.2.1 _ hm) (by decide))
                have hF6 := ((hF4.k3 hk5).put (o := O1.getD k 0) hq5).kp (k3_of (e := .inr (4, itf (O1.getD k 0) (nm (O1.getD k 0)) (ct (O1.getD k 0)) (lv (O1.getD k 0)) (lo (O1.getD k 0)) (some q) (fa (O1.getD k 0)))) (hP5.2.1 _ hm) (by decide))
                have hJ6 := hJ4.put (o := O1.getD k 0) hF4 hq
                refine v_put hc 7 (ci := 4) rfl tyX1 tyX1_ok nmX1 (by decide +kernel) (by decide) (by decide +kernel) (fun _ h => h) rfl (tyX1_ok 7 (by decide)) rfl rfl (Nat.le_of_ble_eq_true rfl) dX3_pack_127 (hP5.2.1 _ hm) ?_
                refine v_w (show _ = wup w5 (ia (O1.getD k 0)) (.inr (4, itf (O1.getD k 0) (nm (O1.getD k 0)) (ct (O1.getD k 0)) (lv (O1.getD k 0)) (lo (O1.getD k 0)) (some q) (fa (O1.getD k 0)))) from rfl) ?_
                first | refine v_iinc1 hc dX3_pack_130 rfl (by decide) rfl ?_ | refine v_iinc hc dX3_pack_130 rfl rfl (by decide) rfl ?_
                refine v_goto hc (tgt := 62) dX3_pack_133 (by decide) ?_
                refine v_widen (k' := 40 + (k + 1) * 2) (n' := 2400 + (k + 1) * 10) (by omega) (by omega) ?_
                exact ih (k + 1, wup w5 (ia (O1.getD k 0)) (.inr (4, itf (O1.getD k 0) (nm (O1.getD k 0)) (ct (O1.getD k 0)) (lv (O1.getD k 0)) (lo (O1.getD k 0)) (some q) (fa (O1.getD k 0)))), va_up fa4 (O1.getD k 0) (some q)) _ rfl ⟨h5, by dsimp only; rw [hst]; exact hP6, hB6, by dsimp only; rw [hst]; exact hF6, hJ6⟩ (by dsimp only; omega)
              · have hcase : cond rs (reu fm (fmr ct fm bd W rs O1 k).1 bd (O1.getD k 0)) none = some b := by subst h6; exact hr1
                have hst : fmr ct fm bd W rs O1 (k + 1) = (va_up (fmr ct fm bd W rs O1 k).1 (O1.getD k 0) (some (mkF ct (fmr ct fm bd W rs O1 k).1 (O1.getD k 0) (some b))), (fmr ct fm bd W rs O1 k).2.1, (fmr ct fm bd W rs O1 k).2.2 + 1) := by
                  show stF ct fm bd W rs O1 k (fmr ct fm bd W rs O1 k) = _
                  unfold stF
                  rw [hcase]
                rw [nI_add] at hP5
                refine v_goto hc (tgt := 103) dX3_pack_99 (by decide) ?_
                first | refine v_astore hc dX3_pack_103 (by decide) rfl ?_ | refine v_astoreN hc dX3_pack_103 (by decide) rfl ?_
                first | refine v_aload hc dX3_pack_105 rfl ?_ | refine v_aloadN hc dX3_pack_105 rfl ?_
                first | refine v_aload hc dX3_pack_107 rfl ?_ | refine v_aloadN hc dX3_pack_107 rfl ?_
                refine v_ifnull_R hc dX3_pack_109 ?_
                first | refine v_aload hc dX3_pack_112 rfl ?_ | refine v_aloadN hc dX3_pack_112 rfl ?_
                refine v_goto hc (tgt := 127) dX3_pack_114 (by decide) ?_
                have hP6 := hP5.itF hm (some q) (fa (O1.getD k 0))
                rw [up_id (f := fa) rfl] at hP6
                have hB6 : FW (wup w5 (ia (O1.getD k 0)) (.inr (4, itf (O1.getD k 0) (nm (O1.getD k 0)) (ct (O1.getD k 0)) (lv (O1.getD k 0)) (lo (O1.getD k 0)) (some q) (fa (O1.getD k 0))))) n ia fa fm := (hB4.k3 hk5).kp (k3_of (hP5.2.1 _ hm) (by decide))
                have hF6 := ((hF4.k3 hk5).put (o := O1.getD k 0) hq5).kp (k3_of (e := .inr (4, itf (O1.getD k 0) (nm (O1.getD k 0)) (ct (O1.getD k 0)) (lv (O1.getD k 0)) (lo (O1.getD k 0)) (some q) (fa (O1.getD k 0)))) (hP5.2.1 _ hm) (by decide))
                have hJ6 := hJ4.put (o := O1.getD k 0) hF4 hq
                refine v_put hc 7 (ci := 4) rfl tyX1 tyX1_ok nmX1 (by decide +kernel) (by decide) (by decide +kernel) (fun _ h => h) rfl (tyX1_ok 7 (by decide)) rfl rfl (Nat.le_of_ble_eq_true rfl) dX3_pack_127 (hP5.2.1 _ hm) ?_
                refine v_w (show _ = wup w5 (ia (O1.getD k 0)) (.inr (4, itf (O1.getD k 0) (nm (O1.getD k 0)) (ct (O1.getD k 0)) (lv (O1.getD k 0)) (lo (O1.getD k 0)) (some q) (fa (O1.getD k 0)))) from rfl) ?_
                first | refine v_iinc1 hc dX3_pack_130 rfl (by decide) rfl ?_ | refine v_iinc hc dX3_pack_130 rfl rfl (by decide) rfl ?_
                refine v_goto hc (tgt := 62) dX3_pack_133 (by decide) ?_
                refine v_widen (k' := 40 + (k + 1) * 2) (n' := 2400 + (k + 1) * 10) (by omega) (by omega) ?_
                exact ih (k + 1, wup w5 (ia (O1.getD k 0)) (.inr (4, itf (O1.getD k 0) (nm (O1.getD k 0)) (ct (O1.getD k 0)) (lv (O1.getD k 0)) (lo (O1.getD k 0)) (some q) (fa (O1.getD k 0)))), va_up fa4 (O1.getD k 0) (some q)) _ rfl ⟨h5, by dsimp only; rw [hst]; exact hP6, hB6, by dsimp only; rw [hst]; exact hF6, hJ6⟩ (by dsimp only; omega)
        · exact v_throw hc hl hout (cls := "java/lang/IllegalArgumentException") (text := "the bound is out of range") (by decide +kernel) (by decide +kernel) (by decide +kernel) (by decide +kernel) (by decide +kernel) (by decide +kernel) (by decide +kernel) dX3_pack_31 dX3_pack_34 dX3_pack_35 dX3_pack_37 dX3_pack_40 (Nat.le_of_ble_eq_true rfl) (Nat.le_of_ble_eq_true rfl) (by first | exact Nat.le_of_ble_eq_true rfl | omega | (dsimp only; omega)) (by first | exact Nat.le_of_ble_eq_true rfl | omega | (dsimp only; omega)) (by first | exact Nat.le_of_ble_eq_true rfl | omega | (dsimp only; omega)) (by first | exact Nat.le_of_ble_eq_true rfl | omega | (dsimp only; omega)) (⟨rfl, rfl, by unfold isin; rw [decide_eq_false h4, Bool.and_false, Bool.and_false]⟩)
    · exact v_throw hc hl hout (cls := "java/lang/IllegalArgumentException") (text := "the window is out of range") (by decide +kernel) (by decide +kernel) (by decide +kernel) (by decide +kernel) (by decide +kernel) (by decide +kernel) (by decide +kernel) dX3_pack_11 dX3_pack_14 dX3_pack_15 dX3_pack_17 dX3_pack_20 (Nat.le_of_ble_eq_true rfl) (Nat.le_of_ble_eq_true rfl) (by first | exact Nat.le_of_ble_eq_true rfl | omega | (dsimp only; omega)) (by first | exact Nat.le_of_ble_eq_true rfl | omega | (dsimp only; omega)) (by first | exact Nat.le_of_ble_eq_true rfl | omega | (dsimp only; omega)) (by first | exact Nat.le_of_ble_eq_true rfl | omega | (dsimp only; omega)) (⟨rfl, rfl, by unfold isin; rw [decide_eq_false h2, Bool.and_false]; rfl⟩)
end CL7

