/-! ===== the model: pack ===== -/
section MD9
variable {l : Launch} {G : cG} {A : Nat → Prop} {w : wd} {h : Nat} {ad : Nat → Nat} {sc : Nat → Int32} {ai : Nat → Nat → Int32} {al : Nat → Int64} {n : Nat} {nm : Nat → Int32} {ct : Nat → Int64} {lv lo : Nat → Bool} {fm nf : Nat → Option Frm} {O : List Nat}
theorem fmr_dm {bd W : Nat} {rs : Bool} (hd : O.Nodup) (hO : ∀ i ∈ O, i < n) (hbd : bd ≤ 6) : ∀ {k : Nat}, k ≤ O.length → ∀ i g, (fmr ct fm bd W rs O k).1 i = some g → g.2.2.2.2 = false
  | 0, _, i, g, hg => by cases hg
  | k + 1, hk, i, g, hg => by
    have ih := fmr_dm (W := W) (rs := rs) hd hO hbd (k := k) (by omega)
    obtain ⟨b, h1, -⟩ := stF_b (fm := fm) (W := W) (rs := rs) hbd (fmr_ok (ct := ct) (fm := fm) (W := W) (rs := rs) hd hO hbd (k := k) (by omega))
    have hg : (stF ct fm bd W rs O k (fmr ct fm bd W rs O k)).1 i = some g := hg
    rw [h1] at hg
    by_cases hi : i = O.getD k 0
    · rw [hi, va_up_self] at hg
      cases hg
      cases b <;> rfl
    · rw [up_n hi] at hg
      exact ih i g hg
theorem PKR.put {o : Nat} {F : Frm} (hK : PKR n O nf ai) : PKR n O (va_up nf o (some F)) (va_up (va_up ai 14 (va_up (ai 14) o (nIo F.1))) 15 (va_up (ai 15) o (nI F.2.1))) := by
  refine ⟨hK.1, hK.2.1, hK.2.2.1, fun i hi g hg => ?_⟩
  show va_up (ai 14) o (nIo F.1) i = _ ∧ va_up (ai 15) o (nI F.2.1) i = _
  by_cases hio : i = o
  · subst hio
    rw [va_up_self] at hg
    cases hg
    rw [va_up_self, va_up_self]
    exact ⟨rfl, rfl⟩
  · rw [up_n hio] at hg
    rw [up_n hio, up_n hio]
    exact hK.2.2.2 i hi g hg
theorem mkF_1 {o : Nat} {b : Option Nat} : (mkF ct nf o b).1 = b := by cases b <;> rfl
set_option maxRecDepth 100000 in
set_option maxHeartbeats 4000000 in
theorem c_X4_pack (hM : MP G w h ad sc ai al) (hD : RD n nm ct lv lo fm sc ai al) (hC : CH n fm) (hct : ∀ i, i < n → isC (ct i) = true) (Wv bv : Int32) (rs : Bool) : Met l yX4_pack wsX4_pack ({ frames := 12, cells := 0, slots := 0, locals := 224 } : Room) (Pw G A w [.ref h, .int Wv, .int bv, .int (bI rs)]) (va_Qi (fun r w' => ((isin Wv (nI 1) (nI 8) && isin bv (nI 0) (nI 6)) = false ∧ MP G w' h ad (va_up sc 24 (nI 1)) ai al) ∨ ((isin Wv (nI 1) (nI 8) && isin bv (nI 0) (nI 6)) = true ∧ ∃ W bd O sc' ai', Wv = nI W ∧ bv = nI bd ∧ W ≤ 8 ∧ bd ≤ 6 ∧ srtd (ahd nm ct) (fun i => i < n ∧ rdb lv lo fm i = true) O ∧ MP G w' h ad sc' ai' al ∧ RD n nm ct lv lo (fmr ct fm bd W rs O O.length).1 sc' ai' al ∧ sc' 16 = nI (fmr ct fm bd W rs O O.length).2.1 ∧ sc' 17 = nI (fmr ct fm bd W rs O O.length).2.2 ∧ sc' 24 = nI 0 ∧ r = nI (sumN n (cst (fmr ct fm bd W rs O O.length).1)))) (Bw G A) A) 0 0 A := by
  refine m_of (cc := cX4_pack) (maxL := 7) (ret := (some .int)) (by decide) rfl (Nat.le_of_ble_eq_true rfl) ?_
  intro p e s m args below meth c hc hr hmn
  refine v_loc [(0, some (.ref h)), (1, some (.int Wv)), (2, some (.int bv)), (3, some (.int (bI rs)))] rfl ?_
  have hn := hD.2.1
  first | refine v_aload_n hc (i := 0) rfl dX4_pack_0 rfl ?_ | refine v_aload_nN hc (i := 0) rfl dX4_pack_0 rfl ?_
  refine v_iload_n hc (i := 1) rfl dX4_pack_1 rfl ?_
  refine v_iconst hc (v := nI 1) dX4_pack_2 (by decide) ?_
  refine v_bipush hc (v := nI 8) dX4_pack_3 (by decide) ?_
  refine v_callSi hc (c_X4_isIn _ _ _) (va_cwS 3 hc.1.2.2.2.2 gX4_pack_X4_isIn rfl rfl rfl (by decide +kernel) ⟨Nat.le_of_ble_eq_true rfl, Nat.le_of_ble_eq_true rfl⟩) rfl rfl (Nat.le_of_ble_eq_true rfl) ⟨(by first | exact Nat.le_of_ble_eq_true rfl | omega | (dsimp only; omega)), (by first | exact Nat.le_of_ble_eq_true rfl | omega | (dsimp only; omega))⟩ dX4_pack_5 (fun r w' hp => ?_)
  obtain ⟨rfl, rfl⟩ := hp
  refine v_ifB_eq hc (tgt := 25) dX4_pack_8 (by decide) (fun h1 => ?_) (fun h1 => ?_)
  · refine v_iconst hc (v := nI 1) dX4_pack_25 (by decide) ?_
    refine v_callVi hc (c_X4_goes hM (nI 1)) (cwV 1 hc.1.2.2.2.2 gX4_pack_X4_goes rfl rfl rfl (by decide +kernel) ⟨Nat.le_of_ble_eq_true rfl, Nat.le_of_ble_eq_true rfl⟩) (hM.1) rfl rfl rfl (Nat.le_of_ble_eq_true rfl) ⟨(by first | exact Nat.le_of_ble_eq_true rfl | omega | (dsimp only; omega)), (by first | exact Nat.le_of_ble_eq_true rfl | omega | (dsimp only; omega))⟩ dX4_pack_26 (fun r w' hp => ?_)
    obtain ⟨hM, rfl⟩ := hp
    refine v_ifB_ne hc (tgt := 34) dX4_pack_29 (by decide) (fun h4 => ?_) (fun h4 => ?_)
    · exact absurd h4 (by decide)
    · refine v_iconst hc (v := nI 0) dX4_pack_32 (by decide) ?_
      exact v_iret hc hr dX4_pack_33 (by first | exact Nat.le_of_ble_eq_true rfl | omega | (dsimp only; omega)) (by first | exact Nat.le_of_ble_eq_true rfl | omega | (dsimp only; omega)) (Or.inl ⟨by rw [h1]; rfl, hM⟩)
  · refine v_iload_n hc (i := 2) rfl dX4_pack_11 rfl ?_
    refine v_iconst hc (v := nI 0) dX4_pack_12 (by decide) ?_
    refine v_bipush hc (v := nI 6) dX4_pack_13 (by decide) ?_
    refine v_callSi hc (c_X4_isIn _ _ _) (va_cwS 3 hc.1.2.2.2.2 gX4_pack_X4_isIn rfl rfl rfl (by decide +kernel) ⟨Nat.le_of_ble_eq_true rfl, Nat.le_of_ble_eq_true rfl⟩) rfl rfl (Nat.le_of_ble_eq_true rfl) ⟨(by first | exact Nat.le_of_ble_eq_true rfl | omega | (dsimp only; omega)), (by first | exact Nat.le_of_ble_eq_true rfl | omega | (dsimp only; omega))⟩ dX4_pack_15 (fun r w' hp => ?_)
    obtain ⟨rfl, rfl⟩ := hp
    refine v_ifB_eq hc (tgt := 25) dX4_pack_18 (by decide) (fun h2 => ?_) (fun h2 => ?_)
    · refine v_iconst hc (v := nI 1) dX4_pack_25 (by decide) ?_
      refine v_callVi hc (c_X4_goes hM (nI 1)) (cwV 1 hc.1.2.2.2.2 gX4_pack_X4_goes rfl rfl rfl (by decide +kernel) ⟨Nat.le_of_ble_eq_true rfl, Nat.le_of_ble_eq_true rfl⟩) (hM.1) rfl rfl rfl (Nat.le_of_ble_eq_true rfl) ⟨(by first | exact Nat.le_of_ble_eq_true rfl | omega | (dsimp only; omega)), (by first | exact Nat.le_of_ble_eq_true rfl | omega | (dsimp only; omega))⟩ dX4_pack_26 (fun r w' hp => ?_)
      obtain ⟨hM, rfl⟩ := hp
      refine v_ifB_ne hc (tgt := 34) dX4_pack_29 (by decide) (fun h4 => ?_) (fun h4 => ?_)
      · exact absurd h4 (by decide)
      · refine v_iconst hc (v := nI 0) dX4_pack_32 (by decide) ?_
        exact v_iret hc hr dX4_pack_33 (by first | exact Nat.le_of_ble_eq_true rfl | omega | (dsimp only; omega)) (by first | exact Nat.le_of_ble_eq_true rfl | omega | (dsimp only; omega)) (Or.inl ⟨by rw [h2, Bool.and_false], hM⟩)
    · have hall : (isin Wv (nI 1) (nI 8) && isin bv (nI 0) (nI 6)) = true := by rw [h1, h2]; rfl
      unfold isin at h1 h2
      rw [Bool.and_eq_true, decide_eq_true_iff, decide_eq_true_iff] at h1 h2
      obtain ⟨W, hW, rfl⟩ := nI_of2 (x := Wv) (M := nI 8) (n := 8) (by decide) (fun z => i32_nle z (Int32.le_trans (by decide : (0 : Int32) ≤ nI 1) h1.1)) h1.2
      obtain ⟨bd, hbd, rfl⟩ := nI_of2 (x := bv) (M := nI 6) (n := 6) (by decide) (fun z => i32_nle z h2.1) h2.2
      refine v_iconst hc (v := nI 0) dX4_pack_21 (by decide) ?_
      refine v_goto hc (tgt := 26) dX4_pack_22 (by decide) ?_
      refine v_callVi hc (c_X4_goes hM (nI 0)) (cwV 1 hc.1.2.2.2.2 gX4_pack_X4_goes rfl rfl rfl (by decide +kernel) ⟨Nat.le_of_ble_eq_true rfl, Nat.le_of_ble_eq_true rfl⟩) (hM.1) rfl rfl rfl (Nat.le_of_ble_eq_true rfl) ⟨(by first | exact Nat.le_of_ble_eq_true rfl | omega | (dsimp only; omega)), (by first | exact Nat.le_of_ble_eq_true rfl | omega | (dsimp only; omega))⟩ dX4_pack_26 (fun r w' hp => ?_)
      obtain ⟨hM, rfl⟩ := hp
      refine v_ifB_ne hc (tgt := 34) dX4_pack_29 (by decide) (fun h4 => ?_) (fun h4 => ?_)
      · have hD0 := hD.sc' (sc' := va_up sc 24 (nI 0)) rfl
        first | refine v_aload_n hc (i := 0) rfl dX4_pack_34 rfl ?_ | refine v_aload_nN hc (i := 0) rfl dX4_pack_34 rfl ?_
        refine v_callVv hc (c_X4_orders hM hD0 hC) (cwV 0 hc.1.2.2.2.2 gX4_pack_X4_orders rfl rfl rfl (by decide +kernel) ⟨Nat.le_of_ble_eq_true rfl, Nat.le_of_ble_eq_true rfl⟩) (hM.1) rfl rfl rfl (Nat.le_of_ble_eq_true rfl) ⟨(by first | exact Nat.le_of_ble_eq_true rfl | omega | (dsimp only; omega)), (by first | exact Nat.le_of_ble_eq_true rfl | omega | (dsimp only; omega))⟩ dX4_pack_35 (fun w' hp => ?_)
        obtain ⟨f11, f13, O, hM, hS, hL, hg1, hg2⟩ := hp
        have hnd : O.Nodup := hS.nodup (so_ahd nm ct)
        have hO1 : ∀ i ∈ O, i < n := fun i hi => ((hS.2 i).mp hi).1
        have hOl : O.length ≤ n := nd_len hnd hO1
        first | refine v_aload_n hc (i := 0) rfl dX4_pack_38 rfl ?_ | refine v_aload_nN hc (i := 0) rfl dX4_pack_38 rfl ?_
        refine v_iconst hc (v := nI 0) dX4_pack_39 (by decide) ?_
        refine m_put hc hM 16 rfl (by decide +kernel) (by decide +kernel) dX4_pack_40 (fun w hM => ?_)
        first | refine v_aload_n hc (i := 0) rfl dX4_pack_43 rfl ?_ | refine v_aload_nN hc (i := 0) rfl dX4_pack_43 rfl ?_
        refine v_iconst hc (v := nI 0) dX4_pack_44 (by decide) ?_
        refine m_put hc hM 17 rfl (by decide +kernel) (by decide +kernel) dX4_pack_45 (fun w hM => ?_)
        refine v_iconst hc (v := nI 0) dX4_pack_48 (by decide) ?_
        refine v_istore hc dX4_pack_49 (by decide) rfl ?_
        refine v_loop (σ := Nat × wd × (Nat → Int32) × (Nat → Nat → Int32)) (fun a => a.1 ≤ O.length ∧ MP G a.2.1 h ad a.2.2.1 a.2.2.2 al ∧ RD n nm ct lv lo fm a.2.2.1 a.2.2.2 al ∧ PKR n O (fmr ct fm bd W rs O a.1).1 a.2.2.2 ∧ a.2.2.1 12 = nI O.length ∧ a.2.2.1 16 = nI (fmr ct fm bd W rs O a.1).2.1 ∧ a.2.2.1 17 = nI (fmr ct fm bd W rs O a.1).2.2 ∧ a.2.2.1 24 = nI 0) (fun a => O.length - a.1) (fun a => a.2.1) (fun _ => 0) (fun _ => 0) (fun a => [(0, some (.ref h)), (1, some (.int (nI W))), (2, some (.int (nI bd))), (3, some (.int (bI rs))), (4, some (.int (nI a.1)))]) (0, w, va_up (va_up (va_up (va_up sc 24 (nI 0)) 12 (nI O.length)) 16 (nI 0)) 17 (nI 0), va_up (va_up ai 11 f11) 13 f13) rfl ⟨Nat.zero_le _, hM, (hD.sc' rfl).ai' (fun j hj => by dsimp only; rw [up_n (by omega), up_n (by omega)]), ⟨hL, hg1, hg2, fun i hi g hg => (nomatch hg)⟩, rfl, rfl, rfl, rfl⟩ ?_
        clear hD0 hM hL hg1 hg2
        rintro ⟨k, w, sc, ai⟩ ⟨hk, hM, hD, hK, h12, h16, h17, h24⟩ ih
        dsimp only at hk hM hD hK h12 h16 h17 h24 ih ⊢
        have hN : NOK n ct O k (fmr ct fm bd W rs O k).1 := fmr_ok hnd hO1 hbd hk
        refine v_iload hc dX4_pack_51 rfl ?_
        first | refine v_aload_n hc (i := 0) rfl dX4_pack_53 rfl ?_ | refine v_aload_nN hc (i := 0) rfl dX4_pack_53 rfl ?_
        refine v_get hc 12 (ci := 7) rfl (by decide +kernel) (by decide) (by decide +kernel) (fun _ h => h) dX4_pack_54 hM.1 rfl ?_
        refine v_ti (show _ = nI O.length from h12) ?_
        refine v_icmp_geN hc (tgt := 174) dX4_pack_57 (by decide) (by omega) (by omega) (fun h5 => ?_) (fun h5 => ?_)
        · have e : k = O.length := by omega
          subst e
          have hdm := fmr_dm (ct := ct) (fm := fm) (W := W) (rs := rs) hnd hO1 hbd (Nat.le_refl O.length)
          obtain ⟨R, hRe⟩ : ∃ R, R = fmr ct fm bd W rs O O.length := ⟨_, rfl⟩
          rw [← hRe] at hK h16 h17 hN
          simp only [← hRe] at hdm
          refine v_iconst hc (v := nI 0) dX4_pack_174 (by decide) ?_
          refine v_istore hc dX4_pack_175 (by decide) rfl ?_
          refine v_loop (σ := Nat × wd × (Nat → Int32)) (fun a => a.1 ≤ n ∧ MP G a.2.1 h ad sc (va_up ai 5 a.2.2) al ∧ ∀ i, i < a.1 → a.2.2 i = nI 0) (fun a => n - a.1) (fun a => a.2.1) (fun _ => 0) (fun _ => 0) (fun a => [(0, some (.ref h)), (4, some (.int (nI a.1)))]) (0, w, ai 5) rfl ⟨Nat.zero_le _, by dsimp only; rw [up_id (f := ai) rfl]; exact hM, fun i hi => absurd hi (Nat.not_lt_zero _)⟩ ?_
          clear hM ih
          rintro ⟨j, w, f5⟩ ⟨hj, hM, hf5⟩ ih
          dsimp only at hj hM hf5 ih ⊢
          refine v_iload hc dX4_pack_177 rfl ?_
          first | refine v_aload_n hc (i := 0) rfl dX4_pack_179 rfl ?_ | refine v_aload_nN hc (i := 0) rfl dX4_pack_179 rfl ?_
          refine v_get hc 0 (ci := 7) rfl (by decide +kernel) (by decide) (by decide +kernel) (fun _ h => h) dX4_pack_180 hM.1 rfl ?_
          refine v_ti (show _ = nI n from hD.1) ?_
          refine v_icmp_geN hc (tgt := 200) dX4_pack_183 (by decide) (by omega) (by omega) (fun h6 => ?_) (fun h6 => ?_)
          · have e : j = n := by omega
            subst e
            have hD0 : RD j nm ct lv lo (fun _ => none) sc (va_up ai 5 f5) al := ⟨hD.1, hD.2.1, fun i hi => ⟨⟨(hD.2.2 i hi).1.1, (hD.2.2 i hi).1.2.1, (hD.2.2 i hi).1.2.2.1, (hD.2.2 i hi).1.2.2.2.1, hf5 i hi⟩, fun g hg => (nomatch hg)⟩⟩
            have hK0 : PKR j O R.1 (va_up ai 5 f5) := hK.eq (fun k hk => up_n (by omega))
            refine v_iconst hc (v := nI 0) dX4_pack_200 (by decide) ?_
            refine v_istore hc dX4_pack_201 (by decide) rfl ?_
            refine v_loop (σ := Nat × wd × (Nat → Int32) × (Nat → Nat → Int32) × (Nat → Option Frm)) (fun a => a.1 ≤ O.length ∧ MP G a.2.1 h ad a.2.2.1 a.2.2.2.1 al ∧ RD j nm ct lv lo a.2.2.2.2 a.2.2.1 a.2.2.2.1 al ∧ PKR j O R.1 a.2.2.2.1 ∧ eqS sc a.2.2.1 ∧ (∀ p, p < a.1 → a.2.2.2.2 (O.getD p 0) = R.1 (O.getD p 0)) ∧ ∀ i, (∀ p, p < a.1 → O.getD p 0 ≠ i) → a.2.2.2.2 i = none) (fun a => O.length - a.1) (fun a => a.2.1) (fun _ => 0) (fun _ => 0) (fun a => [(0, some (.ref h)), (4, some (.int (nI a.1)))]) (0, w, sc, va_up ai 5 f5, fun _ => none) rfl ⟨Nat.zero_le _, hM, hD0, hK0, fun _ _ _ => rfl, fun p hp => absurd hp (Nat.not_lt_zero _), fun _ _ => rfl⟩ ?_
            clear hM ih
            rintro ⟨p, w, sc2, ai2, F⟩ ⟨hp, hM, hD2, hK2, hS2, hF1, hF2⟩ ih
            dsimp only at hp hM hD2 hK2 hS2 hF1 hF2 ih ⊢
            refine v_iload hc dX4_pack_203 rfl ?_
            first | refine v_aload_n hc (i := 0) rfl dX4_pack_205 rfl ?_ | refine v_aload_nN hc (i := 0) rfl dX4_pack_205 rfl ?_
            refine v_get hc 12 (ci := 7) rfl (by decide +kernel) (by decide) (by decide +kernel) (fun _ h => h) dX4_pack_206 hM.1 rfl ?_
            refine v_ti (show _ = nI O.length from (hS2 12 (by decide) (by decide)).trans h12) ?_
            refine v_icmp_geN hc (tgt := 229) dX4_pack_209 (by decide) (by omega) (by omega) (fun h7 => ?_) (fun h7 => ?_)
            · have e : p = O.length := by omega
              subst e
              have hFR : F = R.1 := by
                funext i
                by_cases hex : ∃ q, q < O.length ∧ O.getD q 0 = i
                · obtain ⟨q, hq, rfl⟩ := hex
                  exact hF1 q hq
                · rw [hF2 i (fun q hq z => hex ⟨q, hq, z⟩)]
                  cases hR : R.1 i with
                  | none => rfl
                  | some g => exact absurd ((hN.1 i).mp ⟨g, hR⟩) hex
              subst hFR
              first | refine v_aload_n hc (i := 0) rfl dX4_pack_229 rfl ?_ | refine v_aload_nN hc (i := 0) rfl dX4_pack_229 rfl ?_
              refine v_callVi hc (c_X4_allCosts hM hD2) (cwV 0 hc.1.2.2.2.2 gX4_pack_X4_allCosts rfl rfl rfl (by decide +kernel) ⟨Nat.le_of_ble_eq_true rfl, Nat.le_of_ble_eq_true rfl⟩) (hM.1) rfl rfl rfl (Nat.le_of_ble_eq_true rfl) ⟨(by first | exact Nat.le_of_ble_eq_true rfl | omega | (dsimp only; omega)), (by first | exact Nat.le_of_ble_eq_true rfl | omega | (dsimp only; omega))⟩ dX4_pack_230 (fun r w' hp => ?_)
              obtain ⟨rfl, rfl⟩ := hp
              exact v_iret hc hr dX4_pack_233 (by first | exact Nat.le_of_ble_eq_true rfl | omega | (dsimp only; omega)) (by first | exact Nat.le_of_ble_eq_true rfl | omega | (dsimp only; omega)) (Or.inr ⟨hall, W, bd, O, sc2, ai2, rfl, rfl, hW, hbd, hS, hM, by rw [← hRe]; exact hD2, by rw [← hRe]; exact (hS2 16 (by decide) (by decide)).trans h16, by rw [← hRe]; exact (hS2 17 (by decide) (by decide)).trans h17, (hS2 24 (by decide) (by decide)).trans h24, by rw [← hRe]⟩)
            · have hm := hO1 _ (getD_mem h7)
              obtain ⟨g, hg⟩ := (hN.1 (O.getD p 0)).mpr ⟨p, h7, rfl⟩
              first | refine v_aload_n hc (i := 0) rfl dX4_pack_212 rfl ?_ | refine v_aload_nN hc (i := 0) rfl dX4_pack_212 rfl ?_
              first | refine v_aload_n hc (i := 0) rfl dX4_pack_213 rfl ?_ | refine v_aload_nN hc (i := 0) rfl dX4_pack_213 rfl ?_
              refine v_get hc 11 (ci := 7) rfl (by decide +kernel) (by decide) (by decide +kernel) (fun _ h => h) dX4_pack_214 hM.1 rfl ?_
              refine v_iload hc dX4_pack_217 rfl ?_
              refine v_iald hc (p) dX4_pack_219 (hM.2.1 11 rfl) (rfl) (lt40 (by omega)) (by decide) ?_
              refine v_ti (show _ = nI (O.getD p 0) from hK2.1 p h7) ?_
              refine v_callVv hc (c_X4_forms hM hD2 hK2 hct hN.2.1 hN.2.2 hm hg (hdm _ _ hg)) (cwV 1 hc.1.2.2.2.2 gX4_pack_X4_forms rfl rfl rfl (by decide +kernel) ⟨Nat.le_of_ble_eq_true rfl, Nat.le_of_ble_eq_true rfl⟩) (hM.1) rfl rfl rfl (Nat.le_of_ble_eq_true rfl) ⟨(by first | exact Nat.le_of_ble_eq_true rfl | omega | (dsimp only; omega)), (by first | exact Nat.le_of_ble_eq_true rfl | omega | (dsimp only; omega))⟩ dX4_pack_220 (fun w9 hp => ?_)
              obtain ⟨sc3, ai3, hM, hS3, hD3, hK3⟩ := hp
              first | refine v_iinc1 hc dX4_pack_223 rfl (by decide) rfl ?_ | refine v_iinc hc dX4_pack_223 rfl rfl (by decide) rfl ?_
              refine v_goto hc (tgt := 203) dX4_pack_226 (by decide) ?_
              refine ih (p + 1, w9, sc3, ai3, va_up F (O.getD p 0) (some g)) _ rfl ⟨h7, hM, hD3, hK3, fun k k1 k2 => (hS3 k k1 k2).trans (hS2 k k1 k2), fun q hq => ?_, fun i hi => ?_⟩ (by dsimp only; omega)
              · dsimp only at hq ⊢
                by_cases hqp : q = p
                · subst hqp; rw [va_up_self, hg]
                · rw [up_n (fun z => hqp (nd_getD hnd (by omega) h7 z))]; exact hF1 q (by omega)
              · dsimp only at hi ⊢
                rw [up_n (fun z => hi p (Nat.lt_succ_self p) z.symm)]
                exact hF2 i (fun q hq => hi q (Nat.lt_succ_of_lt hq))
          · first | refine v_aload_n hc (i := 0) rfl dX4_pack_186 rfl ?_ | refine v_aload_nN hc (i := 0) rfl dX4_pack_186 rfl ?_
            refine v_get hc 5 (ci := 7) rfl (by decide +kernel) (by decide) (by decide +kernel) (fun _ h => h) dX4_pack_187 hM.1 rfl ?_
            refine v_iload hc dX4_pack_190 rfl ?_
            refine v_iconst hc (v := nI 0) dX4_pack_192 (by decide) ?_
            refine m_zast hc hM 5 rfl (j) dX4_pack_193 (rfl) (by omega) (bI_vp false) (fun w hM => ?_)
            rw [up_up, va_up_self] at hM
            first | refine v_iinc1 hc dX4_pack_194 rfl (by decide) rfl ?_ | refine v_iinc hc dX4_pack_194 rfl rfl (by decide) rfl ?_
            refine v_goto hc (tgt := 177) dX4_pack_197 (by decide) ?_
            refine ih (j + 1, w, va_up f5 j (nI 0)) _ rfl ⟨h6, hM, fun i hi => ?_⟩ (by dsimp only; omega)
            dsimp only at hi ⊢
            by_cases hij : i = j
            · subst hij; rw [va_up_self]
            · rw [up_n hij]; exact hf5 i (by omega)
        · have hm := hO1 _ (getD_mem h5)
          first | refine v_aload_n hc (i := 0) rfl dX4_pack_60 rfl ?_ | refine v_aload_nN hc (i := 0) rfl dX4_pack_60 rfl ?_
          refine v_get hc 11 (ci := 7) rfl (by decide +kernel) (by decide) (by decide +kernel) (fun _ h => h) dX4_pack_61 hM.1 rfl ?_
          refine v_iload hc dX4_pack_64 rfl ?_
          refine v_iald hc (k) dX4_pack_66 (hM.2.1 11 rfl) (rfl) (lt40 (by omega)) (by decide) ?_
          refine v_ti (show _ = nI (O.getD k 0) from hK.1 k h5) ?_
          refine v_istore hc dX4_pack_67 (by decide) rfl ?_
          refine v_iload_n hc (i := 3) rfl dX4_pack_69 rfl ?_
          refine v_ifB_eq hc (tgt := 83) dX4_pack_70 (by decide) (fun h6 => ?_) (fun h6 => ?_)
          · have hcase : cond rs (reu fm (fmr ct fm bd W rs O k).1 bd (O.getD k 0)) none = none := by subst h6; rfl
            refine v_iconst hc (v := (-1)) dX4_pack_83 (by decide) ?_
            refine v_ti (show _ = nIo none from rfl) ?_
            refine v_istore hc dX4_pack_84 (by decide) rfl ?_
            first | refine v_aload_n hc (i := 0) rfl dX4_pack_86 rfl ?_ | refine v_aload_nN hc (i := 0) rfl dX4_pack_86 rfl ?_
            refine v_dup hc dX4_pack_87 rfl ?_
            refine v_get hc 17 (ci := 7) rfl (by decide +kernel) (by decide) (by decide +kernel) (fun _ h => h) dX4_pack_88 hM.1 rfl ?_
            refine v_ti (show _ = nI (fmr ct fm bd W rs O k).2.2 from h17) ?_
            refine v_iload hc dX4_pack_91 rfl ?_
            refine v_iconst hc (v := (-1)) dX4_pack_93 (by decide) ?_
            refine v_icmp_ne hc (tgt := 101) dX4_pack_94 (by decide) (fun h7 => ?_) (fun h7 => ?_)
            · exact absurd rfl h7
            · refine v_iconst hc (v := nI 0) dX4_pack_97 (by decide) ?_
              refine v_goto hc (tgt := 102) dX4_pack_98 (by decide) ?_
              first | refine v_iaddN hc dX4_pack_102 ?_ | refine v_iadd hc dX4_pack_102 ?_
              refine v_ti (show _ = nI (fmr ct fm bd W rs O k).2.2 from rfl) ?_
              refine m_put hc hM 17 rfl (by decide +kernel) (by decide +kernel) dX4_pack_103 (fun w hM => ?_)
              first | refine v_aload_n hc (i := 0) rfl dX4_pack_106 rfl ?_ | refine v_aload_nN hc (i := 0) rfl dX4_pack_106 rfl ?_
              refine v_get hc 14 (ci := 7) rfl (by decide +kernel) (by decide) (by decide +kernel) (fun _ h => h) dX4_pack_107 hM.1 rfl ?_
              refine v_iload hc dX4_pack_110 rfl ?_
              refine v_iload hc dX4_pack_112 rfl ?_
              refine v_iconst hc (v := (-1)) dX4_pack_114 (by decide) ?_
              refine v_icmp_ne hc (tgt := 129) dX4_pack_115 (by decide) (fun h8 => ?_) (fun h8 => ?_)
              · exact absurd rfl h8
              · first | refine v_aload_n hc (i := 0) rfl dX4_pack_118 rfl ?_ | refine v_aload_nN hc (i := 0) rfl dX4_pack_118 rfl ?_
                refine v_iload hc dX4_pack_119 rfl ?_
                refine v_iload_n hc (i := 1) rfl dX4_pack_121 rfl ?_
                refine v_iload_n hc (i := 2) rfl dX4_pack_122 rfl ?_
                refine v_callVi hc (c_X4_bestBase hM (hD.sc' (sc' := va_up sc 17 (nI (fmr ct fm bd W rs O k).2.2)) rfl) hK hct hnd hO1 hN.2.1 (p := k) h5 (fun j hj => (hN.1 _).mpr ⟨j, hj, rfl⟩) hW hbd h16) (cwV 3 hc.1.2.2.2.2 gX4_pack_X4_bestBase rfl rfl rfl (by decide +kernel) ⟨Nat.le_of_ble_eq_true rfl, Nat.le_of_ble_eq_true rfl⟩) (hM.1) rfl rfl rfl (Nat.le_of_ble_eq_true rfl) ⟨(by first | exact Nat.le_of_ble_eq_true rfl | omega | (dsimp only; omega)), (by first | exact Nat.le_of_ble_eq_true rfl | omega | (dsimp only; omega))⟩ dX4_pack_123 (fun r w9 hp => ?_)
                obtain ⟨⟨sc3, ai3, hM, hS3, hA3, hc16⟩, rfl⟩ := hp
                have hD3 : RD n nm ct lv lo fm sc3 ai3 al := (hD.eqA hA3).sc' (hS3 0 (by decide) (by decide) (by decide))
                have hK3 := hK.eqA hA3
                have hc12 : sc3 12 = nI O.length := (hS3 12 (by decide) (by decide) (by decide)).trans h12
                have hc17 : sc3 17 = nI (fmr ct fm bd W rs O k).2.2 := hS3 17 (by decide) (by decide) (by decide)
                have hc24 : sc3 24 = nI 0 := (hS3 24 (by decide) (by decide) (by decide)).trans h24
                have hBok : ∀ b, (bst ct (fmr ct fm bd W rs O k).1 bd W O k (O.getD k 0) (fmr ct fm bd W rs O k).2.1).1 = some b → ∃ g', (fmr ct fm bd W rs O k).1 b = some g' ∧ b < n := fun b hb => by
                  obtain ⟨-, ⟨j, hj, hjb⟩, -⟩ := bst_ok.2 b hb
                  obtain ⟨g', hg'⟩ := (hN.1 b).mpr ⟨j, hj, hjb⟩
                  exact ⟨g', hg', by rw [← hjb]; exact hO1 _ (getD_mem (by omega))⟩
                have hst : fmr ct fm bd W rs O (k + 1) = (va_up (fmr ct fm bd W rs O k).1 (O.getD k 0) (some (mkF ct (fmr ct fm bd W rs O k).1 (O.getD k 0) (bst ct (fmr ct fm bd W rs O k).1 bd W O k (O.getD k 0) (fmr ct fm bd W rs O k).2.1).1)), (bst ct (fmr ct fm bd W rs O k).1 bd W O k (O.getD k 0) (fmr ct fm bd W rs O k).2.1).2.2, (fmr ct fm bd W rs O k).2.2) := by
                  show stF ct fm bd W rs O k (fmr ct fm bd W rs O k) = _
                  unfold stF
                  rw [hcase]
                refine v_goto hc (tgt := 131) dX4_pack_126 (by decide) ?_
                refine m_iast hc hM 14 rfl ((O.getD k 0)) dX4_pack_131 (rfl) (lt40 (by omega)) (fun w hM => ?_)
                generalize (bst ct (fmr ct fm bd W rs O k).1 bd W O k (O.getD k 0) (fmr ct fm bd W rs O k).2.1).1 = B at hM hst hBok
                cases hB : B with
                | none =>
                  rw [hB] at hM hst
                  first | refine v_aload_n hc (i := 0) rfl dX4_pack_132 rfl ?_ | refine v_aload_nN hc (i := 0) rfl dX4_pack_132 rfl ?_
                  refine v_get hc 15 (ci := 7) rfl (by decide +kernel) (by decide) (by decide +kernel) (fun _ h => h) dX4_pack_133 hM.1 rfl ?_
                  refine v_iload hc dX4_pack_136 rfl ?_
                  first | refine v_aload_n hc (i := 0) rfl dX4_pack_138 rfl ?_ | refine v_aload_nN hc (i := 0) rfl dX4_pack_138 rfl ?_
                  refine v_get hc 14 (ci := 7) rfl (by decide +kernel) (by decide) (by decide +kernel) (fun _ h => h) dX4_pack_139 hM.1 rfl ?_
                  refine v_iload hc dX4_pack_142 rfl ?_
                  refine v_iald hc ((O.getD k 0)) dX4_pack_144 (hM.2.1 14 rfl) (rfl) (lt40 (by omega)) (by decide) ?_
                  refine v_ti (show _ = nIo none from va_up_self _ _ _) ?_
                  refine v_iconst hc (v := (-1)) dX4_pack_145 (by decide) ?_
                  refine v_icmp_ne hc (tgt := 153) dX4_pack_146 (by decide) (fun h9 => ?_) (fun h9 => ?_)
                  · exact absurd rfl h9
                  · refine v_iconst hc (v := nI 0) dX4_pack_149 (by decide) ?_
                    refine v_goto hc (tgt := 167) dX4_pack_150 (by decide) ?_
                    refine m_iast hc hM 15 rfl ((O.getD k 0)) dX4_pack_167 (rfl) (lt40 (by omega)) (fun w hM => ?_)
                    first | refine v_iinc1 hc dX4_pack_168 rfl (by decide) rfl ?_ | refine v_iinc hc dX4_pack_168 rfl rfl (by decide) rfl ?_
                    refine v_goto hc (tgt := 51) dX4_pack_171 (by decide) ?_
                    refine ih (k + 1, w, sc3, va_up (va_up ai3 14 (va_up (ai3 14) (O.getD k 0) (nIo none))) 15 (va_up (ai3 15) (O.getD k 0) (nI 0))) _ rfl ⟨h5, hM, (hD3.ai' (fun j hj => by dsimp only; rw [up_n (by omega), up_n (by omega)])), ?_, hc12, ?_, ?_, hc24⟩ (by dsimp only; omega)
                    · dsimp only
                      rw [hst]
                      exact hK3.put (F := mkF ct (fmr ct fm bd W rs O k).1 (O.getD k 0) none)
                    · dsimp only
                      rw [hst]
                      exact hc16
                    · dsimp only
                      rw [hst]
                      exact hc17
                | some b =>
                  rw [hB] at hM hst hBok
                  obtain ⟨g', hg', hbn⟩ := hBok b rfl
                  have hdep : dep (fmr ct fm bd W rs O k).1 b = g'.2.1 := by unfold dep; rw [hg']
                  first | refine v_aload_n hc (i := 0) rfl dX4_pack_132 rfl ?_ | refine v_aload_nN hc (i := 0) rfl dX4_pack_132 rfl ?_
                  refine v_get hc 15 (ci := 7) rfl (by decide +kernel) (by decide) (by decide +kernel) (fun _ h => h) dX4_pack_133 hM.1 rfl ?_
                  refine v_iload hc dX4_pack_136 rfl ?_
                  first | refine v_aload_n hc (i := 0) rfl dX4_pack_138 rfl ?_ | refine v_aload_nN hc (i := 0) rfl dX4_pack_138 rfl ?_
                  refine v_get hc 14 (ci := 7) rfl (by decide +kernel) (by decide) (by decide +kernel) (fun _ h => h) dX4_pack_139 hM.1 rfl ?_
                  refine v_iload hc dX4_pack_142 rfl ?_
                  refine v_iald hc ((O.getD k 0)) dX4_pack_144 (hM.2.1 14 rfl) (rfl) (lt40 (by omega)) (by decide) ?_
                  refine v_ti (show _ = nIo (some b) from va_up_self _ _ _) ?_
                  refine v_iconst hc (v := (-1)) dX4_pack_145 (by decide) ?_
                  refine v_icmp_ne hc (tgt := 153) dX4_pack_146 (by decide) (fun h9 => ?_) (fun h9 => ?_)
                  · first | refine v_aload_n hc (i := 0) rfl dX4_pack_153 rfl ?_ | refine v_aload_nN hc (i := 0) rfl dX4_pack_153 rfl ?_
                    refine v_get hc 15 (ci := 7) rfl (by decide +kernel) (by decide) (by decide +kernel) (fun _ h => h) dX4_pack_154 hM.1 rfl ?_
                    first | refine v_aload_n hc (i := 0) rfl dX4_pack_157 rfl ?_ | refine v_aload_nN hc (i := 0) rfl dX4_pack_157 rfl ?_
                    refine v_get hc 14 (ci := 7) rfl (by decide +kernel) (by decide) (by decide +kernel) (fun _ h => h) dX4_pack_158 hM.1 rfl ?_
                    refine v_iload hc dX4_pack_161 rfl ?_
                    refine v_iald hc ((O.getD k 0)) dX4_pack_163 (hM.2.1 14 rfl) (rfl) (lt40 (by omega)) (by decide) ?_
                    refine v_ti (show _ = nI b from va_up_self _ _ _) ?_
                    refine v_iald hc (b) dX4_pack_164 (hM.2.1 15 rfl) (rfl) (lt40 (by omega)) (by decide) ?_
                    refine v_ti (show _ = nI (dep (fmr ct fm bd W rs O k).1 b) by rw [hdep]; exact (hK3.2.2.2 b hbn g' hg').2) ?_
                    refine v_iconst hc (v := nI 1) dX4_pack_165 (by decide) ?_
                    first | refine v_iaddN hc dX4_pack_166 ?_ | refine v_iadd hc dX4_pack_166 ?_
                    refine m_iast hc hM 15 rfl ((O.getD k 0)) dX4_pack_167 (rfl) (lt40 (by omega)) (fun w hM => ?_)
                    first | refine v_iinc1 hc dX4_pack_168 rfl (by decide) rfl ?_ | refine v_iinc hc dX4_pack_168 rfl rfl (by decide) rfl ?_
                    refine v_goto hc (tgt := 51) dX4_pack_171 (by decide) ?_
                    refine ih (k + 1, w, sc3, va_up (va_up ai3 14 (va_up (ai3 14) (O.getD k 0) (nIo (some b)))) 15 (va_up (ai3 15) (O.getD k 0) (nI (dep (fmr ct fm bd W rs O k).1 b + 1)))) _ rfl ⟨h5, hM, (hD3.ai' (fun j hj => by dsimp only; rw [up_n (by omega), up_n (by omega)])), ?_, hc12, ?_, ?_, hc24⟩ (by dsimp only; omega)
                    · dsimp only
                      rw [hst]
                      exact hK3.put (F := mkF ct (fmr ct fm bd W rs O k).1 (O.getD k 0) (some b))
                    · dsimp only
                      rw [hst]
                      exact hc16
                    · dsimp only
                      rw [hst]
                      exact hc17
                  · exact absurd (show nI b = -1 from h9) (nI_nm1 (by omega))
          · first | refine v_aload_n hc (i := 0) rfl dX4_pack_73 rfl ?_ | refine v_aload_nN hc (i := 0) rfl dX4_pack_73 rfl ?_
            refine v_iload hc dX4_pack_74 rfl ?_
            refine v_iload_n hc (i := 2) rfl dX4_pack_76 rfl ?_
            refine v_callVi hc (c_X4_oldBase hM hD hC hN.2.1 hK hnd hO1 h5 hN.1 hbd) (cwV 2 hc.1.2.2.2.2 gX4_pack_X4_oldBase rfl rfl rfl (by decide +kernel) ⟨Nat.le_of_ble_eq_true rfl, Nat.le_of_ble_eq_true rfl⟩) (hM.1) rfl rfl rfl (Nat.le_of_ble_eq_true rfl) ⟨(by first | exact Nat.le_of_ble_eq_true rfl | omega | (dsimp only; omega)), (by first | exact Nat.le_of_ble_eq_true rfl | omega | (dsimp only; omega))⟩ dX4_pack_77 (fun r w' hp => ?_)
            obtain ⟨rfl, rfl⟩ := hp
            cases hreu : reu fm (fmr ct fm bd W rs O k).1 bd (O.getD k 0) with
            | none =>
              have hcase : cond rs (reu fm (fmr ct fm bd W rs O k).1 bd (O.getD k 0)) none = none := by rw [hreu]; cases rs <;> rfl
              refine v_goto hc (tgt := 84) dX4_pack_80 (by decide) ?_
              refine v_istore hc dX4_pack_84 (by decide) rfl ?_
              first | refine v_aload_n hc (i := 0) rfl dX4_pack_86 rfl ?_ | refine v_aload_nN hc (i := 0) rfl dX4_pack_86 rfl ?_
              refine v_dup hc dX4_pack_87 rfl ?_
              refine v_get hc 17 (ci := 7) rfl (by decide +kernel) (by decide) (by decide +kernel) (fun _ h => h) dX4_pack_88 hM.1 rfl ?_
              refine v_ti (show _ = nI (fmr ct fm bd W rs O k).2.2 from h17) ?_
              refine v_iload hc dX4_pack_91 rfl ?_
              refine v_iconst hc (v := (-1)) dX4_pack_93 (by decide) ?_
              refine v_icmp_ne hc (tgt := 101) dX4_pack_94 (by decide) (fun h7 => ?_) (fun h7 => ?_)
              · exact absurd rfl h7
              · refine v_iconst hc (v := nI 0) dX4_pack_97 (by decide) ?_
                refine v_goto hc (tgt := 102) dX4_pack_98 (by decide) ?_
                first | refine v_iaddN hc dX4_pack_102 ?_ | refine v_iadd hc dX4_pack_102 ?_
                refine v_ti (show _ = nI (fmr ct fm bd W rs O k).2.2 from rfl) ?_
                refine m_put hc hM 17 rfl (by decide +kernel) (by decide +kernel) dX4_pack_103 (fun w hM => ?_)
                first | refine v_aload_n hc (i := 0) rfl dX4_pack_106 rfl ?_ | refine v_aload_nN hc (i := 0) rfl dX4_pack_106 rfl ?_
                refine v_get hc 14 (ci := 7) rfl (by decide +kernel) (by decide) (by decide +kernel) (fun _ h => h) dX4_pack_107 hM.1 rfl ?_
                refine v_iload hc dX4_pack_110 rfl ?_
                refine v_iload hc dX4_pack_112 rfl ?_
                refine v_iconst hc (v := (-1)) dX4_pack_114 (by decide) ?_
                refine v_icmp_ne hc (tgt := 129) dX4_pack_115 (by decide) (fun h8 => ?_) (fun h8 => ?_)
                · exact absurd rfl h8
                · first | refine v_aload_n hc (i := 0) rfl dX4_pack_118 rfl ?_ | refine v_aload_nN hc (i := 0) rfl dX4_pack_118 rfl ?_
                  refine v_iload hc dX4_pack_119 rfl ?_
                  refine v_iload_n hc (i := 1) rfl dX4_pack_121 rfl ?_
                  refine v_iload_n hc (i := 2) rfl dX4_pack_122 rfl ?_
                  refine v_callVi hc (c_X4_bestBase hM (hD.sc' (sc' := va_up sc 17 (nI (fmr ct fm bd W rs O k).2.2)) rfl) hK hct hnd hO1 hN.2.1 (p := k) h5 (fun j hj => (hN.1 _).mpr ⟨j, hj, rfl⟩) hW hbd h16) (cwV 3 hc.1.2.2.2.2 gX4_pack_X4_bestBase rfl rfl rfl (by decide +kernel) ⟨Nat.le_of_ble_eq_true rfl, Nat.le_of_ble_eq_true rfl⟩) (hM.1) rfl rfl rfl (Nat.le_of_ble_eq_true rfl) ⟨(by first | exact Nat.le_of_ble_eq_true rfl | omega | (dsimp only; omega)), (by first | exact Nat.le_of_ble_eq_true rfl | omega | (dsimp only; omega))⟩ dX4_pack_123 (fun r w9 hp => ?_)
                  obtain ⟨⟨sc3, ai3, hM, hS3, hA3, hc16⟩, rfl⟩ := hp
                  have hD3 : RD n nm ct lv lo fm sc3 ai3 al := (hD.eqA hA3).sc' (hS3 0 (by decide) (by decide) (by decide))
                  have hK3 := hK.eqA hA3
                  have hc12 : sc3 12 = nI O.length := (hS3 12 (by decide) (by decide) (by decide)).trans h12
                  have hc17 : sc3 17 = nI (fmr ct fm bd W rs O k).2.2 := hS3 17 (by decide) (by decide) (by decide)
                  have hc24 : sc3 24 = nI 0 := (hS3 24 (by decide) (by decide) (by decide)).trans h24
                  have hBok : ∀ b, (bst ct (fmr ct fm bd W rs O k).1 bd W O k (O.getD k 0) (fmr ct fm bd W rs O k).2.1).1 = some b → ∃ g', (fmr ct fm bd W rs O k).1 b = some g' ∧ b < n := fun b hb => by
                    obtain ⟨-, ⟨j, hj, hjb⟩, -⟩ := bst_ok.2 b hb
                    obtain ⟨g', hg'⟩ := (hN.1 b).mpr ⟨j, hj, hjb⟩
                    exact ⟨g', hg', by rw [← hjb]; exact hO1 _ (getD_mem (by omega))⟩
                  have hst : fmr ct fm bd W rs O (k + 1) = (va_up (fmr ct fm bd W rs O k).1 (O.getD k 0) (some (mkF ct (fmr ct fm bd W rs O k).1 (O.getD k 0) (bst ct (fmr ct fm bd W rs O k).1 bd W O k (O.getD k 0) (fmr ct fm bd W rs O k).2.1).1)), (bst ct (fmr ct fm bd W rs O k).1 bd W O k (O.getD k 0) (fmr ct fm bd W rs O k).2.1).2.2, (fmr ct fm bd W rs O k).2.2) := by
                    show stF ct fm bd W rs O k (fmr ct fm bd W rs O k) = _
                    unfold stF
                    rw [hcase]
                  refine v_goto hc (tgt := 131) dX4_pack_126 (by decide) ?_
                  refine m_iast hc hM 14 rfl ((O.getD k 0)) dX4_pack_131 (rfl) (lt40 (by omega)) (fun w hM => ?_)
                  generalize (bst ct (fmr ct fm bd W rs O k).1 bd W O k (O.getD k 0) (fmr ct fm bd W rs O k).2.1).1 = B at hM hst hBok
                  cases hB : B with
                  | none =>
                    rw [hB] at hM hst
                    first | refine v_aload_n hc (i := 0) rfl dX4_pack_132 rfl ?_ | refine v_aload_nN hc (i := 0) rfl dX4_pack_132 rfl ?_
                    refine v_get hc 15 (ci := 7) rfl (by decide +kernel) (by decide) (by decide +kernel) (fun _ h => h) dX4_pack_133 hM.1 rfl ?_
                    refine v_iload hc dX4_pack_136 rfl ?_
                    first | refine v_aload_n hc (i := 0) rfl dX4_pack_138 rfl ?_ | refine v_aload_nN hc (i := 0) rfl dX4_pack_138 rfl ?_
                    refine v_get hc 14 (ci := 7) rfl (by decide +kernel) (by decide) (by decide +kernel) (fun _ h => h) dX4_pack_139 hM.1 rfl ?_
                    refine v_iload hc dX4_pack_142 rfl ?_
                    refine v_iald hc ((O.getD k 0)) dX4_pack_144 (hM.2.1 14 rfl) (rfl) (lt40 (by omega)) (by decide) ?_
                    refine v_ti (show _ = nIo none from va_up_self _ _ _) ?_
                    refine v_iconst hc (v := (-1)) dX4_pack_145 (by decide) ?_
                    refine v_icmp_ne hc (tgt := 153) dX4_pack_146 (by decide) (fun h9 => ?_) (fun h9 => ?_)
                    · exact absurd rfl h9
                    · refine v_iconst hc (v := nI 0) dX4_pack_149 (by decide) ?_
                      refine v_goto hc (tgt := 167) dX4_pack_150 (by decide) ?_
                      refine m_iast hc hM 15 rfl ((O.getD k 0)) dX4_pack_167 (rfl) (lt40 (by omega)) (fun w hM => ?_)
                      first | refine v_iinc1 hc dX4_pack_168 rfl (by decide) rfl ?_ | refine v_iinc hc dX4_pack_168 rfl rfl (by decide) rfl ?_
                      refine v_goto hc (tgt := 51) dX4_pack_171 (by decide) ?_
                      refine ih (k + 1, w, sc3, va_up (va_up ai3 14 (va_up (ai3 14) (O.getD k 0) (nIo none))) 15 (va_up (ai3 15) (O.getD k 0) (nI 0))) _ rfl ⟨h5, hM, (hD3.ai' (fun j hj => by dsimp only; rw [up_n (by omega), up_n (by omega)])), ?_, hc12, ?_, ?_, hc24⟩ (by dsimp only; omega)
                      · dsimp only
                        rw [hst]
                        exact hK3.put (F := mkF ct (fmr ct fm bd W rs O k).1 (O.getD k 0) none)
                      · dsimp only
                        rw [hst]
                        exact hc16
                      · dsimp only
                        rw [hst]
                        exact hc17
                  | some b =>
                    rw [hB] at hM hst hBok
                    obtain ⟨g', hg', hbn⟩ := hBok b rfl
                    have hdep : dep (fmr ct fm bd W rs O k).1 b = g'.2.1 := by unfold dep; rw [hg']
                    first | refine v_aload_n hc (i := 0) rfl dX4_pack_132 rfl ?_ | refine v_aload_nN hc (i := 0) rfl dX4_pack_132 rfl ?_
                    refine v_get hc 15 (ci := 7) rfl (by decide +kernel) (by decide) (by decide +kernel) (fun _ h => h) dX4_pack_133 hM.1 rfl ?_
                    refine v_iload hc dX4_pack_136 rfl ?_
                    first | refine v_aload_n hc (i := 0) rfl dX4_pack_138 rfl ?_ | refine v_aload_nN hc (i := 0) rfl dX4_pack_138 rfl ?_
                    refine v_get hc 14 (ci := 7) rfl (by decide +kernel) (by decide) (by decide +kernel) (fun _ h => h) dX4_pack_139 hM.1 rfl ?_
                    refine v_iload hc dX4_pack_142 rfl ?_
                    refine v_iald hc ((O.getD k 0)) dX4_pack_144 (hM.2.1 14 rfl) (rfl) (lt40 (by omega)) (by decide) ?_
                    refine v_ti (show _ = nIo (some b) from va_up_self _ _ _) ?_
                    refine v_iconst hc (v := (-1)) dX4_pack_145 (by decide) ?_
                    refine v_icmp_ne hc (tgt := 153) dX4_pack_146 (by decide) (fun h9 => ?_) (fun h9 => ?_)
                    · first | refine v_aload_n hc (i := 0) rfl dX4_pack_153 rfl ?_ | refine v_aload_nN hc (i := 0) rfl dX4_pack_153 rfl ?_
                      refine v_get hc 15 (ci := 7) rfl (by decide +kernel) (by decide) (by decide +kernel) (fun _ h => h) dX4_pack_154 hM.1 rfl ?_
                      first | refine v_aload_n hc (i := 0) rfl dX4_pack_157 rfl ?_ | refine v_aload_nN hc (i := 0) rfl dX4_pack_157 rfl ?_
                      refine v_get hc 14 (ci := 7) rfl (by decide +kernel) (by decide) (by decide +kernel) (fun _ h => h) dX4_pack_158 hM.1 rfl ?_
                      refine v_iload hc dX4_pack_161 rfl ?_
                      refine v_iald hc ((O.getD k 0)) dX4_pack_163 (hM.2.1 14 rfl) (rfl) (lt40 (by omega)) (by decide) ?_
                      refine v_ti (show _ = nI b from va_up_self _ _ _) ?_
                      refine v_iald hc (b) dX4_pack_164 (hM.2.1 15 rfl) (rfl) (lt40 (by omega)) (by decide) ?_
                      refine v_ti (show _ = nI (dep (fmr ct fm bd W rs O k).1 b) by rw [hdep]; exact (hK3.2.2.2 b hbn g' hg').2) ?_
                      refine v_iconst hc (v := nI 1) dX4_pack_165 (by decide) ?_
                      first | refine v_iaddN hc dX4_pack_166 ?_ | refine v_iadd hc dX4_pack_166 ?_
                      refine m_iast hc hM 15 rfl ((O.getD k 0)) dX4_pack_167 (rfl) (lt40 (by omega)) (fun w hM => ?_)
                      first | refine v_iinc1 hc dX4_pack_168 rfl (by decide) rfl ?_ | refine v_iinc hc dX4_pack_168 rfl rfl (by decide) rfl ?_
                      refine v_goto hc (tgt := 51) dX4_pack_171 (by decide) ?_
                      refine ih (k + 1, w, sc3, va_up (va_up ai3 14 (va_up (ai3 14) (O.getD k 0) (nIo (some b)))) 15 (va_up (ai3 15) (O.getD k 0) (nI (dep (fmr ct fm bd W rs O k).1 b + 1)))) _ rfl ⟨h5, hM, (hD3.ai' (fun j hj => by dsimp only; rw [up_n (by omega), up_n (by omega)])), ?_, hc12, ?_, ?_, hc24⟩ (by dsimp only; omega)
                      · dsimp only
                        rw [hst]
                        exact hK3.put (F := mkF ct (fmr ct fm bd W rs O k).1 (O.getD k 0) (some b))
                      · dsimp only
                        rw [hst]
                        exact hc16
                      · dsimp only
                        rw [hst]
                        exact hc17
                    · exact absurd (show nI b = -1 from h9) (nI_nm1 (by omega))
            | some b0 =>
              have hcase : cond rs (reu fm (fmr ct fm bd W rs O k).1 bd (O.getD k 0)) none = some b0 := by rw [hreu]; subst h6; rfl
              obtain ⟨-, gb, hgb, -⟩ := reu_ok hreu
              obtain ⟨jb, hjb, hjb2⟩ := (hN.1 b0).mp ⟨gb, hgb⟩
              have hb0n : b0 < n := by rw [← hjb2]; exact hO1 _ (getD_mem (by omega))
              have hst : fmr ct fm bd W rs O (k + 1) = (va_up (fmr ct fm bd W rs O k).1 (O.getD k 0) (some (mkF ct (fmr ct fm bd W rs O k).1 (O.getD k 0) (some b0))), (fmr ct fm bd W rs O k).2.1, (fmr ct fm bd W rs O k).2.2 + 1) := by
                show stF ct fm bd W rs O k (fmr ct fm bd W rs O k) = _
                unfold stF
                rw [hcase]
              refine v_goto hc (tgt := 84) dX4_pack_80 (by decide) ?_
              refine v_istore hc dX4_pack_84 (by decide) rfl ?_
              first | refine v_aload_n hc (i := 0) rfl dX4_pack_86 rfl ?_ | refine v_aload_nN hc (i := 0) rfl dX4_pack_86 rfl ?_
              refine v_dup hc dX4_pack_87 rfl ?_
              refine v_get hc 17 (ci := 7) rfl (by decide +kernel) (by decide) (by decide +kernel) (fun _ h => h) dX4_pack_88 hM.1 rfl ?_
              refine v_ti (show _ = nI (fmr ct fm bd W rs O k).2.2 from h17) ?_
              refine v_iload hc dX4_pack_91 rfl ?_
              refine v_iconst hc (v := (-1)) dX4_pack_93 (by decide) ?_
              refine v_icmp_ne hc (tgt := 101) dX4_pack_94 (by decide) (fun h7 => ?_) (fun h7 => ?_)
              · refine v_iconst hc (v := nI 1) dX4_pack_101 (by decide) ?_
                first | refine v_iaddN hc dX4_pack_102 ?_ | refine v_iadd hc dX4_pack_102 ?_
                refine m_put hc hM 17 rfl (by decide +kernel) (by decide +kernel) dX4_pack_103 (fun w hM => ?_)
                first | refine v_aload_n hc (i := 0) rfl dX4_pack_106 rfl ?_ | refine v_aload_nN hc (i := 0) rfl dX4_pack_106 rfl ?_
                refine v_get hc 14 (ci := 7) rfl (by decide +kernel) (by decide) (by decide +kernel) (fun _ h => h) dX4_pack_107 hM.1 rfl ?_
                refine v_iload hc dX4_pack_110 rfl ?_
                refine v_iload hc dX4_pack_112 rfl ?_
                refine v_iconst hc (v := (-1)) dX4_pack_114 (by decide) ?_
                refine v_icmp_ne hc (tgt := 129) dX4_pack_115 (by decide) (fun h8 => ?_) (fun h8 => ?_)
                · refine v_iload hc dX4_pack_129 rfl ?_
                  refine m_iast hc hM 14 rfl ((O.getD k 0)) dX4_pack_131 (rfl) (lt40 (by omega)) (fun w hM => ?_)
                  have hD3 := hD.sc' (sc' := va_up sc 17 (nI ((fmr ct fm bd W rs O k).2.2 + 1))) rfl
                  have hK3 := hK
                  have hc12 : va_up sc 17 (nI ((fmr ct fm bd W rs O k).2.2 + 1)) 12 = nI O.length := h12
                  have hc16 : va_up sc 17 (nI ((fmr ct fm bd W rs O k).2.2 + 1)) 16 = nI (fmr ct fm bd W rs O k).2.1 := h16
                  have hc17 : va_up sc 17 (nI ((fmr ct fm bd W rs O k).2.2 + 1)) 17 = nI ((fmr ct fm bd W rs O k).2.2 + 1) := rfl
                  have hc24 : va_up sc 17 (nI ((fmr ct fm bd W rs O k).2.2 + 1)) 24 = nI 0 := h24
                  generalize va_up sc 17 (nI ((fmr ct fm bd W rs O k).2.2 + 1)) = sc3 at *
                  have hBok : ∀ b, some b0 = some b → ∃ g', (fmr ct fm bd W rs O k).1 b = some g' ∧ b < n := fun b hb => by cases hb; exact ⟨gb, hgb, hb0n⟩
                  obtain ⟨B, hBe⟩ : ∃ B, B = some b0 := ⟨_, rfl⟩
                  obtain ⟨ai3, hai3⟩ : ∃ ai3, ai3 = ai := ⟨_, rfl⟩
                  rw [← hBe] at hst hBok
                  have hM : MP G w h ad sc3 (va_up ai3 14 (va_up (ai3 14) (O.getD k 0) (nIo B))) al := by rw [hai3, hBe]; exact hM
                  rw [← hai3] at hD3 hK3
                  cases hB : B with
                  | none =>
                    rw [hB] at hM hst
                    first | refine v_aload_n hc (i := 0) rfl dX4_pack_132 rfl ?_ | refine v_aload_nN hc (i := 0) rfl dX4_pack_132 rfl ?_
                    refine v_get hc 15 (ci := 7) rfl (by decide +kernel) (by decide) (by decide +kernel) (fun _ h => h) dX4_pack_133 hM.1 rfl ?_
                    refine v_iload hc dX4_pack_136 rfl ?_
                    first | refine v_aload_n hc (i := 0) rfl dX4_pack_138 rfl ?_ | refine v_aload_nN hc (i := 0) rfl dX4_pack_138 rfl ?_
                    refine v_get hc 14 (ci := 7) rfl (by decide +kernel) (by decide) (by decide +kernel) (fun _ h => h) dX4_pack_139 hM.1 rfl ?_
                    refine v_iload hc dX4_pack_142 rfl ?_
                    refine v_iald hc ((O.getD k 0)) dX4_pack_144 (hM.2.1 14 rfl) (rfl) (lt40 (by omega)) (by decide) ?_
                    refine v_ti (show _ = nIo none from va_up_self _ _ _) ?_
                    refine v_iconst hc (v := (-1)) dX4_pack_145 (by decide) ?_
                    refine v_icmp_ne hc (tgt := 153) dX4_pack_146 (by decide) (fun h9 => ?_) (fun h9 => ?_)
                    · exact absurd rfl h9
                    · refine v_iconst hc (v := nI 0) dX4_pack_149 (by decide) ?_
                      refine v_goto hc (tgt := 167) dX4_pack_150 (by decide) ?_
                      refine m_iast hc hM 15 rfl ((O.getD k 0)) dX4_pack_167 (rfl) (lt40 (by omega)) (fun w hM => ?_)
                      first | refine v_iinc1 hc dX4_pack_168 rfl (by decide) rfl ?_ | refine v_iinc hc dX4_pack_168 rfl rfl (by decide) rfl ?_
                      refine v_goto hc (tgt := 51) dX4_pack_171 (by decide) ?_
                      refine ih (k + 1, w, sc3, va_up (va_up ai3 14 (va_up (ai3 14) (O.getD k 0) (nIo none))) 15 (va_up (ai3 15) (O.getD k 0) (nI 0))) _ rfl ⟨h5, hM, (hD3.ai' (fun j hj => by dsimp only; rw [up_n (by omega), up_n (by omega)])), ?_, hc12, ?_, ?_, hc24⟩ (by dsimp only; omega)
                      · dsimp only
                        rw [hst]
                        exact hK3.put (F := mkF ct (fmr ct fm bd W rs O k).1 (O.getD k 0) none)
                      · dsimp only
                        rw [hst]
                        exact hc16
                      · dsimp only
                        rw [hst]
                        exact hc17
                  | some b =>
                    rw [hB] at hM hst hBok
                    obtain ⟨g', hg', hbn⟩ := hBok b rfl
                    have hdep : dep (fmr ct fm bd W rs O k).1 b = g'.2.1 := by unfold dep; rw [hg']
                    first | refine v_aload_n hc (i := 0) rfl dX4_pack_132 rfl ?_ | refine v_aload_nN hc (i := 0) rfl dX4_pack_132 rfl ?_
                    refine v_get hc 15 (ci := 7) rfl (by decide +kernel) (by decide) (by decide +kernel) (fun _ h => h) dX4_pack_133 hM.1 rfl ?_
                    refine v_iload hc dX4_pack_136 rfl ?_
                    first | refine v_aload_n hc (i := 0) rfl dX4_pack_138 rfl ?_ | refine v_aload_nN hc (i := 0) rfl dX4_pack_138 rfl ?_
                    refine v_get hc 14 (ci := 7) rfl (by decide +kernel) (by decide) (by decide +kernel) (fun _ h => h) dX4_pack_139 hM.1 rfl ?_
                    refine v_iload hc dX4_pack_142 rfl ?_
                    refine v_iald hc ((O.getD k 0)) dX4_pack_144 (hM.2.1 14 rfl) (rfl) (lt40 (by omega)) (by decide) ?_
                    refine v_ti (show _ = nIo (some b) from va_up_self _ _ _) ?_
                    refine v_iconst hc (v := (-1)) dX4_pack_145 (by decide) ?_
                    refine v_icmp_ne hc (tgt := 153) dX4_pack_146 (by decide) (fun h9 => ?_) (fun h9 => ?_)
                    · first | refine v_aload_n hc (i := 0) rfl dX4_pack_153 rfl ?_ | refine v_aload_nN hc (i := 0) rfl dX4_pack_153 rfl ?_
                      refine v_get hc 15 (ci := 7) rfl (by decide +kernel) (by decide) (by decide +kernel) (fun _ h => h) dX4_pack_154 hM.1 rfl ?_
                      first | refine v_aload_n hc (i := 0) rfl dX4_pack_157 rfl ?_ | refine v_aload_nN hc (i := 0) rfl dX4_pack_157 rfl ?_
                      refine v_get hc 14 (ci := 7) rfl (by decide +kernel) (by decide) (by decide +kernel) (fun _ h => h) dX4_pack_158 hM.1 rfl ?_
                      refine v_iload hc dX4_pack_161 rfl ?_
                      refine v_iald hc ((O.getD k 0)) dX4_pack_163 (hM.2.1 14 rfl) (rfl) (lt40 (by omega)) (by decide) ?_
                      refine v_ti (show _ = nI b from va_up_self _ _ _) ?_
                      refine v_iald hc (b) dX4_pack_164 (hM.2.1 15 rfl) (rfl) (lt40 (by omega)) (by decide) ?_
                      refine v_ti (show _ = nI (dep (fmr ct fm bd W rs O k).1 b) by rw [hdep]; exact (hK3.2.2.2 b hbn g' hg').2) ?_
                      refine v_iconst hc (v := nI 1) dX4_pack_165 (by decide) ?_
                      first | refine v_iaddN hc dX4_pack_166 ?_ | refine v_iadd hc dX4_pack_166 ?_
                      refine m_iast hc hM 15 rfl ((O.getD k 0)) dX4_pack_167 (rfl) (lt40 (by omega)) (fun w hM => ?_)
                      first | refine v_iinc1 hc dX4_pack_168 rfl (by decide) rfl ?_ | refine v_iinc hc dX4_pack_168 rfl rfl (by decide) rfl ?_
                      refine v_goto hc (tgt := 51) dX4_pack_171 (by decide) ?_
                      refine ih (k + 1, w, sc3, va_up (va_up ai3 14 (va_up (ai3 14) (O.getD k 0) (nIo (some b)))) 15 (va_up (ai3 15) (O.getD k 0) (nI (dep (fmr ct fm bd W rs O k).1 b + 1)))) _ rfl ⟨h5, hM, (hD3.ai' (fun j hj => by dsimp only; rw [up_n (by omega), up_n (by omega)])), ?_, hc12, ?_, ?_, hc24⟩ (by dsimp only; omega)
                      · dsimp only
                        rw [hst]
                        exact hK3.put (F := mkF ct (fmr ct fm bd W rs O k).1 (O.getD k 0) (some b))
                      · dsimp only
                        rw [hst]
                        exact hc16
                      · dsimp only
                        rw [hst]
                        exact hc17
                    · exact absurd (show nI b = -1 from h9) (nI_nm1 (by omega))
                · exact absurd (show nI b0 = -1 from h8) (nI_nm1 (by omega))
              · exact absurd (show nI b0 = -1 from h7) (nI_nm1 (by omega))
      · exact absurd h4 (by decide)
end MD9

