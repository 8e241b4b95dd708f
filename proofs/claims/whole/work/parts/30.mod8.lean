/-! ===== the model: the best base, forms, pack ===== -/
def eqB (sc sc' : Nat → Int32) : Prop := ∀ k, k ≠ 16 → k ≠ 20 → k ≠ 21 → sc' k = sc k
section MD8
variable {l : Launch} {G : cG} {A : Nat → Prop} {w : wd} {h : Nat} {ad : Nat → Nat} {sc : Nat → Int32} {ai : Nat → Nat → Int32} {al : Nat → Int64} {n : Nat} {nm : Nat → Int32} {ct : Nat → Int64} {lv lo : Nat → Bool} {fm nf : Nat → Option Frm} {O : List Nat}
theorem PKR.eq {ai' : Nat → Nat → Int32} (hK : PKR n O nf ai) (h : ∀ k, k = 11 ∨ k = 13 ∨ k = 14 ∨ k = 15 → ai' k = ai k) : PKR n O nf ai' := by
  unfold PKR
  rw [h 11 (by decide), h 13 (by decide), h 14 (by decide), h 15 (by decide)]
  exact hK
theorem PKR.eqA {ai' : Nat → Nat → Int32} (hK : PKR n O nf ai) (h : eqA ai ai') : PKR n O nf ai' := hK.eq (fun k hk => h k (by omega) (by omega))
theorem RD.eqA {ai' : Nat → Nat → Int32} (hD : RD n nm ct lv lo fm sc ai al) (h : eqA ai ai') : RD n nm ct lv lo fm sc ai' al := hD.ai' (fun k hk => h k (by omega) (by omega))
set_option maxRecDepth 100000 in
set_option maxHeartbeats 4000000 in
theorem c_X4_bestBase (hM : MP G w h ad sc ai al) (hD : RD n nm ct lv lo fm sc ai al) (hK : PKR n O nf ai) (hct : ∀ i, i < n → isC (ct i) = true) (hd : O.Nodup) (hO : ∀ i ∈ O, i < n) (hCn : CH n nf) {p W bd c0 : Nat} (hp : p < O.length) (hpl : ∀ j, j < p → ∃ g, nf (O.getD j 0) = some g) (hW : W ≤ 8) (hbd : bd ≤ 6) (h16 : sc 16 = nI c0) : Met l yX4_bestBase wsX4_bestBase ({ frames := 11, cells := 0, slots := 0, locals := 196 } : Room) (Pw G A w [.ref h, .int (nI p), .int (nI W), .int (nI bd)]) (va_Qi (fun r w' => (∃ sc' ai', MP G w' h ad sc' ai' al ∧ eqB sc sc' ∧ eqA ai ai' ∧ sc' 16 = nI (bst ct nf bd W O p (O.getD p 0) c0).2.2) ∧ r = nIo (bst ct nf bd W O p (O.getD p 0) c0).1) (Bw G A) A) 0 0 A := by
  refine m_of (cc := cX4_bestBase) (maxL := 9) (ret := (some .int)) (by decide) rfl (Nat.le_of_ble_eq_true rfl) ?_
  intro pp e s m args below meth c hc hr hmn

  refine v_loc [(0, some (.ref h)), (1, some (.int (nI p))), (2, some (.int (nI W))), (3, some (.int (nI bd)))] rfl ?_
  have hn := hD.2.1
  have ho := hO _ (getD_mem hp)
  have hl : O.length ≤ n := nd_len hd hO
  have e11 := hK.1 p hp
  have hlO := isC_15 (hct _ ho)
  refine v_iconst hc (v := (-1)) dX4_bestBase_0 (by decide) ?_
  refine v_istore hc dX4_bestBase_1 (by decide) rfl ?_
  first | refine v_aload_n hc (i := 0) rfl dX4_bestBase_3 rfl ?_ | refine v_aload_nN hc (i := 0) rfl dX4_bestBase_3 rfl ?_
  refine v_get hc 2 (ci := 7) rfl (by decide +kernel) (by decide) (by decide +kernel) (fun _ h => h) dX4_bestBase_4 hM.1 rfl ?_
  first | refine v_aload_n hc (i := 0) rfl dX4_bestBase_7 rfl ?_ | refine v_aload_nN hc (i := 0) rfl dX4_bestBase_7 rfl ?_
  refine v_get hc 11 (ci := 7) rfl (by decide +kernel) (by decide) (by decide +kernel) (fun _ h => h) dX4_bestBase_8 hM.1 rfl ?_
  refine v_iload_n hc (i := 1) rfl dX4_bestBase_11 rfl ?_
  refine v_iald hc (p) dX4_bestBase_12 (hM.2.1 11 rfl) (rfl) (lt40 (by omega)) (by decide) ?_
  rw [e11]
  generalize hoo : O.getD p 0 = o at *
  refine v_lald hc (o) dX4_bestBase_13 hM.2.2.2.1 (rfl) (by omega) (by decide) ?_
  rw [hD.r2 ho]
  refine v_callSi hc (c_X4_size (ct o)) (va_cwS 1 hc.1.2.2.2.2 gX4_bestBase_X4_size rfl rfl rfl (by decide +kernel) ⟨Nat.le_of_ble_eq_true rfl, Nat.le_of_ble_eq_true rfl⟩) rfl rfl (Nat.le_of_ble_eq_true rfl) ⟨(by first | exact Nat.le_of_ble_eq_true rfl | omega | (dsimp only; omega)), (by first | exact Nat.le_of_ble_eq_true rfl | omega | (dsimp only; omega))⟩ dX4_bestBase_14 (fun r w' hp => ?_)
  obtain ⟨rfl, rfl⟩ := hp
  refine v_istore hc dX4_bestBase_17 (by decide) rfl ?_
  refine v_iconst hc (v := nI 1) dX4_bestBase_19 (by decide) ?_
  refine v_istore hc dX4_bestBase_20 (by decide) rfl ?_
  refine v_loop (σ := Nat × Acc × wd × (Nat → Int32) × (Nat → Nat → Int32)) (fun a => (1 ≤ a.1 ∧ a.1 ≤ min W p + 1 ∧ a.2.1.2.1 ≤ 31) ∧ aok ct nf bd O p o a.2.1 ∧ bsr ct nf bd O p o (min W p + 1 - a.1) a.1 a.2.1 = bst ct nf bd W O p o c0 ∧ MP G a.2.2.1 h ad a.2.2.2.1 a.2.2.2.2 al ∧ eqB sc a.2.2.2.1 ∧ eqA ai a.2.2.2.2 ∧ a.2.2.2.1 16 = nI a.2.1.2.2) (fun a => p + 1 - a.1) (fun a => a.2.2.1) (fun _ => 0) (fun _ => 0) (fun a => [(0, some (.ref h)), (1, some (.int (nI p))), (2, some (.int (nI W))), (3, some (.int (nI bd))), (4, some (.int (nIo a.2.1.1))), (5, some (.int (nI a.2.1.2.1))), (6, some (.int (nI a.1)))]) (1, (none, hxn (xN (ct o)), c0), w, sc, ai) rfl ⟨⟨Nat.le_refl _, by dsimp only; omega, by dsimp only; omega⟩, ⟨fun _ => rfl, fun b hb => (nomatch hb)⟩, rfl, hM, fun _ _ _ _ => rfl, fun _ _ _ => rfl, h16⟩ ?_
  rintro ⟨kk, a, w, sc', ai'⟩ ⟨⟨hk1, hk2, ha31⟩, hok, hI, hM, hS, hA, hc16⟩ ih
  dsimp only at hk1 hk2 ha31 hok hI hM hS hA hc16 ih ⊢
  have hD2 : RD n nm ct lv lo fm sc' ai' al := (hD.eqA hA).sc' (hS 0 (by decide) (by decide) (by decide))
  have hK2 := hK.eqA hA
  have stop : kk = min W p + 1 → bst ct nf bd W O p o c0 = a := fun z => by
    rw [← hI, show min W p + 1 - kk = 0 by omega]; rfl
  refine v_iload hc dX4_bestBase_22 rfl ?_
  refine v_iload_n hc (i := 2) rfl dX4_bestBase_24 rfl ?_
  refine v_icmp_gtN hc (tgt := 128) dX4_bestBase_25 (by decide) (by omega) (by omega) (fun h1 => ?_) (fun h1 => ?_)
  · have hst := stop (by omega)
    refine v_iload hc dX4_bestBase_128 rfl ?_
    exact v_iret hc hr dX4_bestBase_130 (by first | exact Nat.le_of_ble_eq_true rfl | omega | (dsimp only; omega)) (by first | exact Nat.le_of_ble_eq_true rfl | omega | (dsimp only; omega)) (⟨⟨sc', ai', hM, hS, hA, by rw [hst]; exact hc16⟩, by rw [hst]⟩)
  · refine v_iload hc dX4_bestBase_28 rfl ?_
    refine v_iload_n hc (i := 1) rfl dX4_bestBase_30 rfl ?_
    refine v_icmp_gtN hc (tgt := 128) dX4_bestBase_31 (by decide) (by omega) (by omega) (fun h2 => ?_) (fun h2 => ?_)
    · have hst := stop (by omega)
      refine v_iload hc dX4_bestBase_128 rfl ?_
      exact v_iret hc hr dX4_bestBase_130 (by first | exact Nat.le_of_ble_eq_true rfl | omega | (dsimp only; omega)) (by first | exact Nat.le_of_ble_eq_true rfl | omega | (dsimp only; omega)) (⟨⟨sc', ai', hM, hS, hA, by rw [hst]; exact hc16⟩, by rw [hst]⟩)
    · have hjl : p - kk < O.length := by omega
      have hm := hO _ (getD_mem hjl)
      obtain ⟨g, hg⟩ := hpl (p - kk) (by omega)
      have hgd := (hCn _ hm g hg).1
      have hdep : dep nf (O.getD (p - kk) 0) = g.2.1 := by unfold dep; rw [hg]
      have hstep : bsr ct nf bd O p o (min W p + 1 - (kk + 1)) (kk + 1) (cdd ct nf bd o (O.getD (p - kk) 0) a) = bst ct nf bd W O p o c0 := by
        rw [← hI, show min W p + 1 - kk = (min W p + 1 - (kk + 1)) + 1 by omega]; rfl
      have hok2 := cdd_ok hok (k := kk) (by omega) (by omega)
      first | refine v_aload_n hc (i := 0) rfl dX4_bestBase_34 rfl ?_ | refine v_aload_nN hc (i := 0) rfl dX4_bestBase_34 rfl ?_
      refine v_get hc 11 (ci := 7) rfl (by decide +kernel) (by decide) (by decide +kernel) (fun _ h => h) dX4_bestBase_35 hM.1 rfl ?_
      refine v_iload_n hc (i := 1) rfl dX4_bestBase_38 rfl ?_
      refine v_iload hc dX4_bestBase_39 rfl ?_
      refine v_isub hc dX4_bestBase_41 ?_
      refine v_ti (show _ = nI (p - kk) from pk_sub (by omega)) ?_
      refine v_iald hc ((p - kk)) dX4_bestBase_42 (hM.2.1 11 rfl) (rfl) (lt40 (by omega)) (by decide) ?_
      rw [hK2.1 _ hjl]
      generalize hcc : O.getD (p - kk) 0 = cd at *
      refine v_istore hc dX4_bestBase_43 (by decide) rfl ?_
      first | refine v_aload_n hc (i := 0) rfl dX4_bestBase_45 rfl ?_ | refine v_aload_nN hc (i := 0) rfl dX4_bestBase_45 rfl ?_
      refine v_get hc 15 (ci := 7) rfl (by decide +kernel) (by decide) (by decide +kernel) (fun _ h => h) dX4_bestBase_46 hM.1 rfl ?_
      refine v_iload hc dX4_bestBase_49 rfl ?_
      refine v_iald hc (cd) dX4_bestBase_51 (hM.2.1 15 rfl) (rfl) (lt40 (by omega)) (by decide) ?_
      rw [(hK2.2.2.2 cd hm g hg).2]
      refine v_iload_n hc (i := 3) rfl dX4_bestBase_52 rfl ?_
      refine v_icmp_geN hc (tgt := 122) dX4_bestBase_53 (by decide) (by omega) (by omega) (fun h3 => ?_) (fun h3 => ?_)
      · have hcd : cdd ct nf bd o cd a = a := by unfold cdd; rw [if_neg (by rw [hdep]; omega)]
        rw [hcd] at hstep hok2
        first | refine v_iinc1 hc dX4_bestBase_122 rfl (by decide) rfl ?_ | refine v_iinc hc dX4_bestBase_122 rfl rfl (by decide) rfl ?_
        refine v_goto hc (tgt := 22) dX4_bestBase_125 (by decide) ?_
        exact ih (kk + 1, a, w, sc', ai') _ rfl ⟨⟨by dsimp only; omega, by dsimp only; omega, ha31⟩, hok2, hstep, hM, hS, hA, hc16⟩ (by dsimp only; omega)
      · have hd31 := dco_le (d := xN (ct cd)) hlO
        first | refine v_aload_n hc (i := 0) rfl dX4_bestBase_56 rfl ?_ | refine v_aload_nN hc (i := 0) rfl dX4_bestBase_56 rfl ?_
        first | refine v_aload_n hc (i := 0) rfl dX4_bestBase_57 rfl ?_ | refine v_aload_nN hc (i := 0) rfl dX4_bestBase_57 rfl ?_
        refine v_get hc 2 (ci := 7) rfl (by decide +kernel) (by decide) (by decide +kernel) (fun _ h => h) dX4_bestBase_58 hM.1 rfl ?_
        first | refine v_aload_n hc (i := 0) rfl dX4_bestBase_61 rfl ?_ | refine v_aload_nN hc (i := 0) rfl dX4_bestBase_61 rfl ?_
        refine v_get hc 11 (ci := 7) rfl (by decide +kernel) (by decide) (by decide +kernel) (fun _ h => h) dX4_bestBase_62 hM.1 rfl ?_
        refine v_iload_n hc (i := 1) rfl dX4_bestBase_65 rfl ?_
        refine v_iald hc (p) dX4_bestBase_66 (hM.2.1 11 rfl) (rfl) (lt40 (by omega)) (by decide) ?_
        rw [hK2.1 _ hp, hoo]
        refine v_lald hc (o) dX4_bestBase_67 hM.2.2.2.1 (rfl) (by omega) (by decide) ?_
        rw [hD2.r2 ho]
        first | refine v_aload_n hc (i := 0) rfl dX4_bestBase_68 rfl ?_ | refine v_aload_nN hc (i := 0) rfl dX4_bestBase_68 rfl ?_
        refine v_get hc 2 (ci := 7) rfl (by decide +kernel) (by decide) (by decide +kernel) (fun _ h => h) dX4_bestBase_69 hM.1 rfl ?_
        refine v_iload hc dX4_bestBase_72 rfl ?_
        refine v_lald hc (cd) dX4_bestBase_74 hM.2.2.2.1 (rfl) (by omega) (by decide) ?_
        rw [hD2.r2 hm]
        refine v_callVi hc (c_X4_deltas hM (ct o) (ct cd) (hct o ho) (hct cd hm)) (cwV 2 hc.1.2.2.2.2 gX4_bestBase_X4_deltas rfl rfl rfl (by decide +kernel) ⟨Nat.le_of_ble_eq_true rfl, Nat.le_of_ble_eq_true rfl⟩) (hM.1) rfl rfl rfl (Nat.le_of_ble_eq_true rfl) ⟨(by first | exact Nat.le_of_ble_eq_true rfl | omega | (dsimp only; omega)), (by first | exact Nat.le_of_ble_eq_true rfl | omega | (dsimp only; omega))⟩ dX4_bestBase_75 (fun r w9 hp => ?_)
        obtain ⟨⟨sc2, ai2, hM, hS2, hA2, -, -⟩, rfl⟩ := hp
        have hS3 : eqB sc sc2 := fun k k1 k2 k3 => (hS2 k k2 k3).trans (hS k k1 k2 k3)
        have hA3 : eqA ai ai2 := fun k k1 k2 => (hA2 k k1 k2).trans (hA k k1 k2)
        have hc16 : sc2 16 = nI a.2.2 := (hS2 16 (by decide) (by decide)).trans hc16
        refine v_istore hc dX4_bestBase_78 (by decide) rfl ?_
        first | refine v_aload_n hc (i := 0) rfl dX4_bestBase_80 rfl ?_ | refine v_aload_nN hc (i := 0) rfl dX4_bestBase_80 rfl ?_
        refine v_dup hc dX4_bestBase_81 rfl ?_
        refine v_get hc 16 (ci := 7) rfl (by decide +kernel) (by decide) (by decide +kernel) (fun _ h => h) dX4_bestBase_82 hM.1 rfl ?_
        refine v_ti (show _ = nI a.2.2 from hc16) ?_
        refine v_iconst hc (v := nI 1) dX4_bestBase_85 (by decide) ?_
        first | refine v_iaddN hc dX4_bestBase_86 ?_ | refine v_iadd hc dX4_bestBase_86 ?_
        refine m_put hc hM 16 rfl (by decide +kernel) (by decide +kernel) dX4_bestBase_87 (fun w hM => ?_)
        have hS4 : eqB sc (va_up sc2 16 (nI (a.2.2 + 1))) := fun k k1 k2 k3 => by rw [up_n k1]; exact hS3 k k1 k2 k3
        refine v_iload hc dX4_bestBase_90 rfl ?_
        refine v_iload hc dX4_bestBase_92 rfl ?_
        refine v_icmp_geN hc (tgt := 102) dX4_bestBase_94 (by decide) (by omega) (by omega) (fun h4 => ?_) (fun h4 => ?_)
        · have hcd : cdd ct nf bd o cd a = (a.1, a.2.1, a.2.2 + 1) := by unfold cdd; rw [if_pos (by rw [hdep]; omega), if_neg (by omega)]
          rw [hcd] at hstep hok2
          refine v_iload hc dX4_bestBase_102 rfl ?_
          refine v_istore hc dX4_bestBase_104 (by decide) rfl ?_
          refine v_iload hc dX4_bestBase_106 rfl ?_
          refine v_iload hc dX4_bestBase_108 rfl ?_
          refine v_icmp_geN hc (tgt := 118) dX4_bestBase_110 (by decide) (by omega) (by omega) (fun _ => ?_) (fun h8 => absurd h8 (by omega))
          refine v_iload hc dX4_bestBase_118 rfl ?_
          refine v_istore hc dX4_bestBase_120 (by decide) rfl ?_
          first | refine v_iinc1 hc dX4_bestBase_122 rfl (by decide) rfl ?_ | refine v_iinc hc dX4_bestBase_122 rfl rfl (by decide) rfl ?_
          refine v_goto hc (tgt := 22) dX4_bestBase_125 (by decide) ?_
          exact ih (kk + 1, (a.1, a.2.1, a.2.2 + 1), w, va_up sc2 16 (nI (a.2.2 + 1)), ai2) _ rfl ⟨⟨by dsimp only; omega, by dsimp only; omega, ha31⟩, hok2, hstep, hM, hS4, hA3, va_up_self sc2 16 (nI (a.2.2 + 1))⟩ (by dsimp only; omega)
        · have hcd : cdd ct nf bd o cd a = (some cd, dco (xN (ct o)) (xN (ct cd)), a.2.2 + 1) := by unfold cdd; rw [if_pos (by rw [hdep]; omega), if_pos (by omega)]
          rw [hcd] at hstep hok2
          refine v_iload hc dX4_bestBase_97 rfl ?_
          refine v_goto hc (tgt := 104) dX4_bestBase_99 (by decide) ?_
          refine v_istore hc dX4_bestBase_104 (by decide) rfl ?_
          refine v_iload hc dX4_bestBase_106 rfl ?_
          refine v_iload hc dX4_bestBase_108 rfl ?_
          refine v_icmp_geN hc (tgt := 118) dX4_bestBase_110 (by decide) (by omega) (by omega) (fun h8 => absurd h8 (by omega)) (fun _ => ?_)
          refine v_iload hc dX4_bestBase_113 rfl ?_
          refine v_goto hc (tgt := 120) dX4_bestBase_115 (by decide) ?_
          refine v_istore hc dX4_bestBase_120 (by decide) rfl ?_
          first | refine v_iinc1 hc dX4_bestBase_122 rfl (by decide) rfl ?_ | refine v_iinc hc dX4_bestBase_122 rfl rfl (by decide) rfl ?_
          refine v_goto hc (tgt := 22) dX4_bestBase_125 (by decide) ?_
          exact ih (kk + 1, (some cd, dco (xN (ct o)) (xN (ct cd)), a.2.2 + 1), w, va_up sc2 16 (nI (a.2.2 + 1)), ai2) _ rfl ⟨⟨by dsimp only; omega, by dsimp only; omega, by dsimp only; omega⟩, hok2, hstep, hM, hS4, hA3, va_up_self sc2 16 (nI (a.2.2 + 1))⟩ (by dsimp only; omega)
/-- one form written -/
theorem RD.frm {ai' : Nat → Nat → Int32} {sc' : Nat → Int32} {o : Nat} {g : Frm} (hD : RD n nm ct lv lo fm sc ai al) (h0 : sc' 0 = sc 0) (h1 : ai' 1 = ai 1) (h3 : ai' 3 = ai 3) (h4 : ai' 4 = ai 4) (h5 : ai' 5 = va_up (ai 5) o (nI 1)) (h6 : ai' 6 = va_up (ai 6) o (bI g.2.2.2.2)) (h7 : ai' 7 = va_up (ai 7) o (nIo g.1)) (h8 : ai' 8 = va_up (ai 8) o (nI g.2.2.2.1)) (h9 : ai' 9 = va_up (ai 9) o (nI g.2.2.1)) (h10 : ai' 10 = va_up (ai 10) o (nI g.2.1)) : RD n nm ct lv lo (va_up fm o (some g)) sc' ai' al := by
  refine ⟨h0.trans hD.1, hD.2.1, fun j hj => ?_⟩
  rw [h1, h3, h4, h5, h6, h7, h8, h9, h10]
  obtain ⟨⟨a1, a2, a3, a4, a5⟩, b⟩ := hD.2.2 j hj
  by_cases hjo : j = o
  · subst hjo
    refine ⟨⟨a1, a2, a3, a4, by rw [va_up_self, va_up_self]; rfl⟩, fun g' hg' => ?_⟩
    rw [va_up_self] at hg'
    cases hg'
    exact ⟨va_up_self _ _ _, va_up_self _ _ _, va_up_self _ _ _, va_up_self _ _ _, va_up_self _ _ _⟩
  · rw [up_n hjo, up_n hjo, up_n hjo, up_n hjo, up_n hjo, up_n hjo, up_n hjo]
    exact ⟨⟨a1, a2, a3, a4, a5⟩, b⟩
set_option maxRecDepth 100000 in
set_option maxHeartbeats 4000000 in
theorem c_X4_forms (hM : MP G w h ad sc ai al) (hD : RD n nm ct lv lo fm sc ai al) (hK : PKR n O nf ai) (hct : ∀ i, i < n → isC (ct i) = true) (hCn : CH n nf) (hT : FCt n ct nf) {o : Nat} {g : Frm} (ho : o < n) (hg : nf o = some g) (hdm : g.2.2.2.2 = false) : Met l yX4_forms wsX4_forms ({ frames := 11, cells := 0, slots := 0, locals := 196 } : Room) (Pw G A w [.ref h, .int (nI o)]) (va_Qv (fun w' => ∃ sc' ai', MP G w' h ad sc' ai' al ∧ eqS sc sc' ∧ RD n nm ct lv lo (va_up fm o (some g)) sc' ai' al ∧ PKR n O nf ai') (Bw G A) A) 0 0 A := by
  refine m_of (cc := cX4_forms) (maxL := 3) (ret := none) (by decide) rfl (Nat.le_of_ble_eq_true rfl) ?_
  intro p e s m args below meth c hc hr hmn
  refine v_loc [(0, some (.ref h)), (1, some (.int (nI o)))] rfl ?_
  have hn := hD.2.1
  obtain ⟨e14, e15⟩ := hK.2.2.2 o ho g hg
  obtain ⟨hT1, hT2⟩ := hT o ho g hg
  first | refine v_aload_n hc (i := 0) rfl dX4_forms_0 rfl ?_ | refine v_aload_nN hc (i := 0) rfl dX4_forms_0 rfl ?_
  refine v_get hc 14 (ci := 7) rfl (by decide +kernel) (by decide) (by decide +kernel) (fun _ h => h) dX4_forms_1 hM.1 rfl ?_
  refine v_iload_n hc (i := 1) rfl dX4_forms_4 rfl ?_
  refine v_iald hc (o) dX4_forms_5 (hM.2.1 14 rfl) (rfl) (lt40 (by omega)) (by decide) ?_
  rw [e14]
  refine v_istore_n hc (i := 2) rfl dX4_forms_6 (by decide) rfl ?_
  first | refine v_aload_n hc (i := 0) rfl dX4_forms_7 rfl ?_ | refine v_aload_nN hc (i := 0) rfl dX4_forms_7 rfl ?_
  refine v_get hc 5 (ci := 7) rfl (by decide +kernel) (by decide) (by decide +kernel) (fun _ h => h) dX4_forms_8 hM.1 rfl ?_
  refine v_iload_n hc (i := 1) rfl dX4_forms_11 rfl ?_
  refine v_iconst hc (v := nI 1) dX4_forms_12 (by decide) ?_
  refine m_zast hc hM 5 rfl (o) dX4_forms_13 (rfl) (by omega) (bI_vp true) (fun w hM => ?_)
  first | refine v_aload_n hc (i := 0) rfl dX4_forms_14 rfl ?_ | refine v_aload_nN hc (i := 0) rfl dX4_forms_14 rfl ?_
  refine v_get hc 6 (ci := 7) rfl (by decide +kernel) (by decide) (by decide +kernel) (fun _ h => h) dX4_forms_15 hM.1 rfl ?_
  refine v_iload_n hc (i := 1) rfl dX4_forms_18 rfl ?_
  refine v_iconst hc (v := nI 0) dX4_forms_19 (by decide) ?_
  refine m_zast hc hM 6 rfl (o) dX4_forms_20 (rfl) (by omega) (bI_vp false) (fun w hM => ?_)
  first | refine v_aload_n hc (i := 0) rfl dX4_forms_21 rfl ?_ | refine v_aload_nN hc (i := 0) rfl dX4_forms_21 rfl ?_
  refine v_get hc 7 (ci := 7) rfl (by decide +kernel) (by decide) (by decide +kernel) (fun _ h => h) dX4_forms_22 hM.1 rfl ?_
  refine v_iload_n hc (i := 1) rfl dX4_forms_25 rfl ?_
  refine v_iload_n hc (i := 2) rfl dX4_forms_26 rfl ?_
  refine m_iast hc hM 7 rfl (o) dX4_forms_27 (rfl) (lt40 (by omega)) (fun w hM => ?_)
  first | refine v_aload_n hc (i := 0) rfl dX4_forms_28 rfl ?_ | refine v_aload_nN hc (i := 0) rfl dX4_forms_28 rfl ?_
  refine v_get hc 10 (ci := 7) rfl (by decide +kernel) (by decide) (by decide +kernel) (fun _ h => h) dX4_forms_29 hM.1 rfl ?_
  refine v_iload_n hc (i := 1) rfl dX4_forms_32 rfl ?_
  first | refine v_aload_n hc (i := 0) rfl dX4_forms_33 rfl ?_ | refine v_aload_nN hc (i := 0) rfl dX4_forms_33 rfl ?_
  refine v_get hc 15 (ci := 7) rfl (by decide +kernel) (by decide) (by decide +kernel) (fun _ h => h) dX4_forms_34 hM.1 rfl ?_
  refine v_iload_n hc (i := 1) rfl dX4_forms_37 rfl ?_
  refine v_iald hc (o) dX4_forms_38 (hM.2.1 15 rfl) (rfl) (lt40 (by omega)) (by decide) ?_
  refine v_ti (show _ = nI g.2.1 from e15) ?_
  refine m_iast hc hM 10 rfl (o) dX4_forms_39 (rfl) (lt40 (by omega)) (fun w hM => ?_)
  first | refine v_aload_n hc (i := 0) rfl dX4_forms_40 rfl ?_ | refine v_aload_nN hc (i := 0) rfl dX4_forms_40 rfl ?_
  refine v_get hc 8 (ci := 7) rfl (by decide +kernel) (by decide) (by decide +kernel) (fun _ h => h) dX4_forms_41 hM.1 rfl ?_
  refine v_iload_n hc (i := 1) rfl dX4_forms_44 rfl ?_
  refine v_iload_n hc (i := 2) rfl dX4_forms_45 rfl ?_
  refine v_iconst hc (v := (-1)) dX4_forms_46 (by decide) ?_
  cases hb : g.1 with
  | none =>
    obtain ⟨hp1, hc1⟩ := hT1 hb
    refine v_icmp_ne hc (tgt := 62) dX4_forms_47 (by decide) (fun h1 => ?_) (fun h1 => ?_)
    · exact absurd rfl h1
    · first | refine v_aload_n hc (i := 0) rfl dX4_forms_50 rfl ?_ | refine v_aload_nN hc (i := 0) rfl dX4_forms_50 rfl ?_
      refine v_get hc 2 (ci := 7) rfl (by decide +kernel) (by decide) (by decide +kernel) (fun _ h => h) dX4_forms_51 hM.1 rfl ?_
      refine v_iload_n hc (i := 1) rfl dX4_forms_54 rfl ?_
      refine v_lald hc (o) dX4_forms_55 hM.2.2.2.1 (rfl) (by omega) (by decide) ?_
      rw [hD.r2 ho]
      refine v_callSi hc (c_X4_size (ct o)) (va_cwS 1 hc.1.2.2.2.2 gX4_forms_X4_size rfl rfl rfl (by decide +kernel) ⟨Nat.le_of_ble_eq_true rfl, Nat.le_of_ble_eq_true rfl⟩) rfl rfl (Nat.le_of_ble_eq_true rfl) ⟨(by first | exact Nat.le_of_ble_eq_true rfl | omega | (dsimp only; omega)), (by first | exact Nat.le_of_ble_eq_true rfl | omega | (dsimp only; omega))⟩ dX4_forms_56 (fun r w' hp => ?_)
      obtain ⟨rfl, rfl⟩ := hp
      refine v_goto hc (tgt := 78) dX4_forms_59 (by decide) ?_
      refine m_iast hc hM 8 rfl (o) dX4_forms_78 (rfl) (lt40 (by omega)) (fun w hM => ?_)
      first | refine v_aload_n hc (i := 0) rfl dX4_forms_79 rfl ?_ | refine v_aload_nN hc (i := 0) rfl dX4_forms_79 rfl ?_
      refine v_get hc 9 (ci := 7) rfl (by decide +kernel) (by decide) (by decide +kernel) (fun _ h => h) dX4_forms_80 hM.1 rfl ?_
      refine v_iload_n hc (i := 1) rfl dX4_forms_83 rfl ?_
      refine v_iload_n hc (i := 2) rfl dX4_forms_84 rfl ?_
      refine v_iconst hc (v := (-1)) dX4_forms_85 (by decide) ?_
      refine v_icmp_ne hc (tgt := 93) dX4_forms_86 (by decide) (fun h2 => ?_) (fun h2 => ?_)
      · exact absurd rfl h2
      · refine v_iconst hc (v := nI 1) dX4_forms_89 (by decide) ?_
        refine v_goto hc (tgt := 102) dX4_forms_90 (by decide) ?_
        refine m_iast hc hM 9 rfl (o) dX4_forms_102 (rfl) (lt40 (by omega)) (fun w hM => ?_)
        refine v_vret hc hr dX4_forms_103 (Nat.le_refl _) (Nat.le_refl _) ⟨_, _, hM, fun _ _ _ => rfl, hD.frm rfl rfl rfl rfl rfl (by rw [hdm]; rfl) (by rw [hb]; rfl) (by rw [hc1]; rfl) (by rw [hp1]; rfl) rfl, hK.eq ?_⟩
        rintro k (rfl | rfl | rfl | rfl) <;> rfl
  | some b =>
    obtain ⟨hbn, -⟩ := (hCn o ho g hg).2 b hb
    obtain ⟨hp1, hc1⟩ := hT2 b hb
    refine v_icmp_ne hc (tgt := 62) dX4_forms_47 (by decide) (fun h1 => ?_) (fun h1 => ?_)
    · first | refine v_aload_n hc (i := 0) rfl dX4_forms_62 rfl ?_ | refine v_aload_nN hc (i := 0) rfl dX4_forms_62 rfl ?_
      first | refine v_aload_n hc (i := 0) rfl dX4_forms_63 rfl ?_ | refine v_aload_nN hc (i := 0) rfl dX4_forms_63 rfl ?_
      refine v_get hc 2 (ci := 7) rfl (by decide +kernel) (by decide) (by decide +kernel) (fun _ h => h) dX4_forms_64 hM.1 rfl ?_
      refine v_iload_n hc (i := 1) rfl dX4_forms_67 rfl ?_
      refine v_lald hc (o) dX4_forms_68 hM.2.2.2.1 (rfl) (by omega) (by decide) ?_
      rw [hD.r2 ho]
      first | refine v_aload_n hc (i := 0) rfl dX4_forms_69 rfl ?_ | refine v_aload_nN hc (i := 0) rfl dX4_forms_69 rfl ?_
      refine v_get hc 2 (ci := 7) rfl (by decide +kernel) (by decide) (by decide +kernel) (fun _ h => h) dX4_forms_70 hM.1 rfl ?_
      refine v_iload_n hc (i := 2) rfl dX4_forms_73 rfl ?_
      refine v_lald hc (b) dX4_forms_74 hM.2.2.2.1 (rfl) (by omega) (by decide) ?_
      rw [hD.r2 hbn]
      refine v_callVi hc (c_X4_deltas hM (ct o) (ct b) (hct o ho) (hct b hbn)) (cwV 2 hc.1.2.2.2.2 gX4_forms_X4_deltas rfl rfl rfl (by decide +kernel) ⟨Nat.le_of_ble_eq_true rfl, Nat.le_of_ble_eq_true rfl⟩) (hM.1) rfl rfl rfl (Nat.le_of_ble_eq_true rfl) ⟨(by first | exact Nat.le_of_ble_eq_true rfl | omega | (dsimp only; omega)), (by first | exact Nat.le_of_ble_eq_true rfl | omega | (dsimp only; omega))⟩ dX4_forms_75 (fun r w9 hp => ?_)
      obtain ⟨⟨sc2, ai2, hM, hS2, hA2, h20, h21⟩, rfl⟩ := hp
      refine m_iast hc hM 8 rfl (o) dX4_forms_78 (rfl) (lt40 (by omega)) (fun w hM => ?_)
      first | refine v_aload_n hc (i := 0) rfl dX4_forms_79 rfl ?_ | refine v_aload_nN hc (i := 0) rfl dX4_forms_79 rfl ?_
      refine v_get hc 9 (ci := 7) rfl (by decide +kernel) (by decide) (by decide +kernel) (fun _ h => h) dX4_forms_80 hM.1 rfl ?_
      refine v_iload_n hc (i := 1) rfl dX4_forms_83 rfl ?_
      refine v_iload_n hc (i := 2) rfl dX4_forms_84 rfl ?_
      refine v_iconst hc (v := (-1)) dX4_forms_85 (by decide) ?_
      refine v_icmp_ne hc (tgt := 93) dX4_forms_86 (by decide) (fun h2 => ?_) (fun h2 => ?_)
      · first | refine v_aload_n hc (i := 0) rfl dX4_forms_93 rfl ?_ | refine v_aload_nN hc (i := 0) rfl dX4_forms_93 rfl ?_
        refine v_get hc 20 (ci := 7) rfl (by decide +kernel) (by decide) (by decide +kernel) (fun _ h => h) dX4_forms_94 hM.1 rfl ?_
        rw [h20]
        first | refine v_aload_n hc (i := 0) rfl dX4_forms_97 rfl ?_ | refine v_aload_nN hc (i := 0) rfl dX4_forms_97 rfl ?_
        refine v_get hc 21 (ci := 7) rfl (by decide +kernel) (by decide) (by decide +kernel) (fun _ h => h) dX4_forms_98 hM.1 rfl ?_
        rw [h21]
        first | refine v_iaddN hc dX4_forms_101 ?_ | refine v_iadd hc dX4_forms_101 ?_
        refine m_iast hc hM 9 rfl (o) dX4_forms_102 (rfl) (lt40 (by omega)) (fun w hM => ?_)
        have e2 : ∀ k, k ≠ 18 → k ≠ 19 → ai2 k = _ := hA2
        refine v_vret hc hr dX4_forms_103 (Nat.le_refl _) (Nat.le_refl _) ⟨_, _, hM, hS2, hD.frm (hS2 0 (by decide) (by decide)) (hA2 1 (by decide) (by decide)) (hA2 3 (by decide) (by decide)) (hA2 4 (by decide) (by decide)) (hA2 5 (by decide) (by decide)) ?_ ?_ ?_ ?_ (hA2 10 (by decide) (by decide)), hK.eq ?_⟩
        · rw [hdm]; exact hA2 6 (by decide) (by decide)
        · exact hA2 7 (by decide) (by decide)
        · rw [hc1]
          show va_up (ai2 8) o _ = _
          rw [hA2 8 (by decide) (by decide)]; rfl
        · rw [hp1]
          show va_up (ai2 9) o _ = _
          rw [hA2 9 (by decide) (by decide)]; rfl
        · rintro k (rfl | rfl | rfl | rfl)
          · exact hA2 11 (by decide) (by decide)
          · exact hA2 13 (by decide) (by decide)
          · exact hA2 14 (by decide) (by decide)
          · exact hA2 15 (by decide) (by decide)
      · exact absurd (show nI b = -1 from h2) (nI_nm1 (by omega))
    · exact absurd (show nI b = -1 from h1) (nI_nm1 (by omega))
end MD8

