/-! ===== the model: dependents, hashes, the index ===== -/
theorem isin_OG {n : Nat} {o : Int32} (hn : n < 2 ^ 30) : isin o (nI 0) (nI n - nI 1) = isO n o := by
  unfold isin isO
  have h1 : (nI 0 ≤ o) ↔ 0 ≤ o.toInt := by rw [Int32.le_iff_toInt_le, nI_toInt (by decide)]; rfl
  have h2 : (o ≤ nI n - nI 1) ↔ o.toInt ≤ (n : Int) - 1 := by rw [Int32.le_iff_toInt_le, pk_sub_toInt (by omega) (by decide)]; rfl
  rw [← Bool.decide_and]
  refine decide_eq_decide.mpr ?_
  rw [h1, h2]
  omega
theorem isO_ofG {n : Nat} {o : Int32} (h : isO n o = true) (hn : n < 2 ^ 30) : ∃ j, j < n ∧ o = nI j := by
  unfold isO at h
  simp only [decide_eq_true_eq] at h
  refine ⟨o.toInt.toNat, by omega, Int32.toInt_inj.mp ?_⟩
  rw [nI_toInt (by omega)]
  omega
def isL (f : Nat → Int32) (L : List Nat) : Prop := ∀ p, p < L.length → f p = nI (L.getD p 0)
def hole (f : Nat → Int32) (L : List Nat) (i : Nat) : Prop := (∀ p, p < i → f p = nI (L.getD p 0)) ∧ ∀ p, i < p → p ≤ L.length → f p = nI (L.getD (p - 1) 0)
theorem getD_ins (x : Nat) : ∀ (L : List Nat) (i p : Nat), i ≤ L.length → (L.take i ++ x :: L.drop i).getD p 0 = if p < i then L.getD p 0 else if p = i then x else L.getD (p - 1) 0
  | L, 0, 0, _ => by simp
  | L, 0, p + 1, _ => by simp
  | [], i + 1, _, h => absurd h (Nat.not_succ_le_zero _)
  | y :: t, i + 1, 0, _ => by simp
  | y :: t, i + 1, p + 1, h => by
    have ih := getD_ins x t i p (Nat.le_of_succ_le_succ h)
    rw [List.take_succ_cons, List.drop_succ_cons, List.cons_append, List.getD_cons_succ, ih, List.getD_cons_succ]
    by_cases h1 : p < i
    · rw [if_pos h1, if_pos (show p + 1 < i + 1 by omega)]
    · rw [if_neg h1, if_neg (show ¬ p + 1 < i + 1 by omega)]
      by_cases h2 : p = i
      · rw [if_pos h2, if_pos (show p + 1 = i + 1 by omega)]
      · rw [if_neg h2, if_neg (show ¬ p + 1 = i + 1 by omega)]
        obtain ⟨q, rfl⟩ : ∃ q, p = q + 1 := ⟨p - 1, by omega⟩
        show t.getD q 0 = (y :: t).getD (q + 1) 0
        rw [List.getD_cons_succ]
theorem len_ins {L : List Nat} {x i : Nat} (h : i ≤ L.length) : (L.take i ++ x :: L.drop i).length = L.length + 1 := by
  rw [List.length_append, List.length_cons, List.length_take, List.length_drop]; omega
theorem isL.hole {f : Nat → Int32} {L : List Nat} (h : isL f L) : hole f L L.length := ⟨h, fun p h1 h2 => by omega⟩
theorem hole.move {f : Nat → Int32} {L : List Nat} {i : Nat} (h : hole f L (i + 1)) : hole (va_up f (i + 1) (nI (L.getD i 0))) L i := by
  refine ⟨fun p hp => ?_, fun p h1 h2 => ?_⟩
  · rw [up_n (by omega)]; exact h.1 p (by omega)
  · by_cases e : p = i + 1
    · subst e; rw [va_up_self]; rfl
    · rw [up_n e]; exact h.2 p (by omega) h2
theorem hole.fill {f : Nat → Int32} {L : List Nat} {i x : Nat} (h : hole f L i) (hi : i ≤ L.length) : isL (va_up f i (nI x)) (L.take i ++ x :: L.drop i) := by
  intro p hp
  rw [len_ins hi] at hp
  rw [getD_ins x L i p hi]
  by_cases h1 : p < i
  · rw [if_pos h1, up_n (by omega)]; exact h.1 p h1
  · rw [if_neg h1]
    by_cases h2 : p = i
    · subst h2; rw [if_pos rfl, va_up_self]
    · rw [if_neg h2, up_n h2]; exact h.2 p (by omega) (by omega)
def blN (n : Nat) (ct : Nat → Int64) (fm : Nat → Option Frm) (k : Nat) : Nat := sumN n (fun i => cond (fm i).isSome (b1 (decide (hso ct i < k))) 0)
section MD5
variable {l : Launch} {G : cG} {A : Nat → Prop} {w : wd} {h : Nat} {ad : Nat → Nat} {sc : Nat → Int32} {ai : Nat → Nat → Int32} {al : Nat → Int64} {n : Nat} {nm : Nat → Int32} {ct : Nat → Int64} {lv lo : Nat → Bool} {fm : Nat → Option Frm}
theorem blw_blN {X : List Nat} (hX : srtd (ihd ct) (fun i => i < n ∧ (fm i).isSome = true) X) (k : Nat) : blw ct X k = blN n ct fm k := sumL_sumN _ n (fun i => (fm i).isSome) X (hX.nodup (so_ihd ct)) hX.2
set_option maxRecDepth 100000 in
set_option maxHeartbeats 4000000 in
theorem c_X4_dependents (hM : MP G w h ad sc ai al) (hD : RD n nm ct lv lo fm sc ai al) (hC : CH n fm) (o : Int32) : Met l yX4_dependents wsX4_dependents ({ frames := 11, cells := 0, slots := 0, locals := 184 } : Room) (Pw G A w [.ref h, .int o]) (va_Qi (fun r w' => (isO n o = false ∧ MP G w' h ad (va_up sc 24 (nI 1)) ai al) ∨ (∃ i, i < n ∧ o = nI i ∧ fm i = none ∧ MP G w' h ad (va_up sc 24 (nI 2)) ai al) ∨ ∃ i g, i < n ∧ o = nI i ∧ fm i = some g ∧ MP G w' h ad (va_up sc 24 (nI 0)) ai al ∧ r = nI (sumN n (fun j => b1 (dpk fm j i)))) (Bw G A) A) 0 0 A := by
  refine m_of (cc := cX4_dependents) (maxL := 6) (ret := (some .int)) (by decide) rfl (Nat.le_of_ble_eq_true rfl) ?_
  intro p e s m args below meth c hc hr hmn
  refine v_loc [(0, some (.ref h)), (1, some (.int o))] rfl ?_
  have hn := hD.2.1
  refine v_iconst hc (v := nI 0) dX4_dependents_0 (by decide) ?_
  refine v_istore_n hc (i := 2) rfl dX4_dependents_1 (by decide) rfl ?_
  first | refine v_aload_n hc (i := 0) rfl dX4_dependents_2 rfl ?_ | refine v_aload_nN hc (i := 0) rfl dX4_dependents_2 rfl ?_
  refine v_iload_n hc (i := 1) rfl dX4_dependents_3 rfl ?_
  refine v_callVi hc (c_X4_asksForm hM hD o) (cwV 1 hc.1.2.2.2.2 gX4_dependents_X4_asksForm rfl rfl rfl (by decide +kernel) ⟨Nat.le_of_ble_eq_true rfl, Nat.le_of_ble_eq_true rfl⟩) (hM.1) rfl rfl rfl (Nat.le_of_ble_eq_true rfl) ⟨(by first | exact Nat.le_of_ble_eq_true rfl | omega | (dsimp only; omega)), (by first | exact Nat.le_of_ble_eq_true rfl | omega | (dsimp only; omega))⟩ dX4_dependents_4 (fun r w' hp => ?_)
  rcases hp with ⟨h1, hM, rfl⟩ | ⟨i, hi, rfl, hfm, hM, rfl⟩ | ⟨i, g, hi, rfl, hfm, hM, rfl⟩
  · refine v_istore_n hc (i := 3) rfl dX4_dependents_7 (by decide) rfl ?_
    refine v_iconst hc (v := nI 0) dX4_dependents_8 (by decide) ?_
    refine v_istore hc dX4_dependents_9 (by decide) rfl ?_
    refine v_iload hc dX4_dependents_11 rfl ?_
    first | refine v_aload_n hc (i := 0) rfl dX4_dependents_13 rfl ?_ | refine v_aload_nN hc (i := 0) rfl dX4_dependents_13 rfl ?_
    refine v_get hc 0 (ci := 7) rfl (by decide +kernel) (by decide) (by decide +kernel) (fun _ h => h) dX4_dependents_14 hM.1 rfl ?_
    refine v_ti (show _ = nI n from hD.1) ?_
    refine v_icmp_geN hc (tgt := 91) dX4_dependents_17 (by decide) (by omega) (by omega) (fun h2 => ?_) (fun h2 => ?_)
    · refine v_iload_n hc (i := 2) rfl dX4_dependents_91 rfl ?_
      exact v_iret hc hr dX4_dependents_92 (by first | exact Nat.le_of_ble_eq_true rfl | omega | (dsimp only; omega)) (by first | exact Nat.le_of_ble_eq_true rfl | omega | (dsimp only; omega)) (Or.inl ⟨h1, hM⟩)
    · refine v_iload_n hc (i := 3) rfl dX4_dependents_20 rfl ?_
      refine v_ifB_eq hc (tgt := 91) dX4_dependents_21 (by decide) (fun h3 => ?_) (fun h3 => ?_)
      · refine v_iload_n hc (i := 2) rfl dX4_dependents_91 rfl ?_
        exact v_iret hc hr dX4_dependents_92 (by first | exact Nat.le_of_ble_eq_true rfl | omega | (dsimp only; omega)) (by first | exact Nat.le_of_ble_eq_true rfl | omega | (dsimp only; omega)) (Or.inl ⟨h1, hM⟩)
      · cases h3
  · refine v_istore_n hc (i := 3) rfl dX4_dependents_7 (by decide) rfl ?_
    refine v_iconst hc (v := nI 0) dX4_dependents_8 (by decide) ?_
    refine v_istore hc dX4_dependents_9 (by decide) rfl ?_
    refine v_iload hc dX4_dependents_11 rfl ?_
    first | refine v_aload_n hc (i := 0) rfl dX4_dependents_13 rfl ?_ | refine v_aload_nN hc (i := 0) rfl dX4_dependents_13 rfl ?_
    refine v_get hc 0 (ci := 7) rfl (by decide +kernel) (by decide) (by decide +kernel) (fun _ h => h) dX4_dependents_14 hM.1 rfl ?_
    refine v_ti (show _ = nI n from hD.1) ?_
    refine v_icmp_geN hc (tgt := 91) dX4_dependents_17 (by decide) (by omega) (by omega) (fun h2 => ?_) (fun h2 => ?_)
    · refine v_iload_n hc (i := 2) rfl dX4_dependents_91 rfl ?_
      exact v_iret hc hr dX4_dependents_92 (by first | exact Nat.le_of_ble_eq_true rfl | omega | (dsimp only; omega)) (by first | exact Nat.le_of_ble_eq_true rfl | omega | (dsimp only; omega)) (Or.inr (Or.inl ⟨i, hi, rfl, hfm, hM⟩))
    · refine v_iload_n hc (i := 3) rfl dX4_dependents_20 rfl ?_
      refine v_ifB_eq hc (tgt := 91) dX4_dependents_21 (by decide) (fun h3 => ?_) (fun h3 => ?_)
      · refine v_iload_n hc (i := 2) rfl dX4_dependents_91 rfl ?_
        exact v_iret hc hr dX4_dependents_92 (by first | exact Nat.le_of_ble_eq_true rfl | omega | (dsimp only; omega)) (by first | exact Nat.le_of_ble_eq_true rfl | omega | (dsimp only; omega)) (Or.inr (Or.inl ⟨i, hi, rfl, hfm, hM⟩))
      · cases h3
  · refine v_istore_n hc (i := 3) rfl dX4_dependents_7 (by decide) rfl ?_
    refine v_iconst hc (v := nI 0) dX4_dependents_8 (by decide) ?_
    refine v_istore hc dX4_dependents_9 (by decide) rfl ?_
    have hD := hD.sc' (sc' := va_up sc 24 (nI 0)) rfl
    refine v_loop (σ := Nat) (fun k => k ≤ n) (fun k => n - k) (fun _ => w') (fun _ => 0) (fun _ => 0) (fun k => [(0, some (.ref h)), (1, some (.int (nI i))), (2, some (.int (nI (sumN k (fun j => b1 (dpk fm j i)))))), (3, some (.int (bI true))), (4, some (.int (nI k)))]) 0 rfl (Nat.zero_le _) ?_
    intro k hk ih
    refine v_iload hc dX4_dependents_11 rfl ?_
    first | refine v_aload_n hc (i := 0) rfl dX4_dependents_13 rfl ?_ | refine v_aload_nN hc (i := 0) rfl dX4_dependents_13 rfl ?_
    refine v_get hc 0 (ci := 7) rfl (by decide +kernel) (by decide) (by decide +kernel) (fun _ h => h) dX4_dependents_14 hM.1 rfl ?_
    refine v_ti (show _ = nI n from hD.1) ?_
    refine v_icmp_geN hc (tgt := 91) dX4_dependents_17 (by decide) (by omega) (by omega) (fun h2 => ?_) (fun h2 => ?_)
    · have e : k = n := by omega
      subst e
      refine v_iload_n hc (i := 2) rfl dX4_dependents_91 rfl ?_
      exact v_iret hc hr dX4_dependents_92 (by first | exact Nat.le_of_ble_eq_true rfl | omega | (dsimp only; omega)) (by first | exact Nat.le_of_ble_eq_true rfl | omega | (dsimp only; omega)) (Or.inr (Or.inr ⟨i, g, hi, rfl, hfm, hM, rfl⟩))
    · refine v_iload_n hc (i := 3) rfl dX4_dependents_20 rfl ?_
      refine v_ifB_eq hc (tgt := 91) dX4_dependents_21 (by decide) (fun h3 => ?_) (fun h3 => ?_)
      · cases h3
      · have key : ∀ (b : Option Nat), (match b with | none => dpk fm k i = false | some j => j < n ∧ (decide (j = i) || dpr fm i 7 j) = dpk fm k i ∧ ∃ f, fm j = some f ∧ f.2.1 < 7) → bas fm k = b → V p l e ({ frames := 11, cells := 0, slots := 0, locals := 184 } : Room) s m args below meth c 6 G A (MQ below (va_Qi (fun r w' => (isO n (nI i) = false ∧ MP G w' h ad (va_up sc 24 (nI 1)) ai al) ∨ (∃ i', i' < n ∧ nI i = nI i' ∧ fm i' = none ∧ MP G w' h ad (va_up sc 24 (nI 2)) ai al) ∨ ∃ i' g, i' < n ∧ nI i = nI i' ∧ fm i' = some g ∧ MP G w' h ad (va_up sc 24 (nI 0)) ai al ∧ r = nI (sumN n (fun j => b1 (dpk fm j i')))) (Bw G A) A) args s 0 0 A) w' 0 0 47 [(0, some (.ref h)), (1, some (.int (nI i))), (2, some (.int (nI (sumN k (fun j => b1 (dpk fm j i)))))), (3, some (.int (bI true))), (4, some (.int (nI k))), (5, some (.int (nIo b)))] [] := by
          intro b0 hb0 _
          refine v_loop (σ := Option Nat × Nat) (fun a => match a.1 with | none => dpk fm k i = false | some j => j < n ∧ (decide (j = i) || dpr fm i a.2 j) = dpk fm k i ∧ ∃ f, fm j = some f ∧ f.2.1 < a.2) (fun a => match a.1 with | none => 0 | some _ => a.2 + 1) (fun _ => w') (fun _ => 0) (fun _ => 0) (fun a => [(0, some (.ref h)), (1, some (.int (nI i))), (2, some (.int (nI (sumN k (fun j => b1 (dpk fm j i)))))), (3, some (.int (bI true))), (4, some (.int (nI k))), (5, some (.int (nIo a.1)))]) (b0, 7) rfl hb0 ?_
          rintro ⟨b, gg⟩ hI2 ih2
          cases b with
          | none =>
            have hI2 : dpk fm k i = false := hI2
            refine v_iload hc dX4_dependents_47 rfl ?_
            refine v_iconst hc (v := (-1)) dX4_dependents_49 (by decide) ?_
            refine v_icmp_eq hc (tgt := 71) dX4_dependents_50 (by decide) (fun h8 => ?_) (fun h8 => ?_)
            · refine v_iload_n hc (i := 2) rfl dX4_dependents_71 rfl ?_
              refine v_iload hc dX4_dependents_72 rfl ?_
              refine v_iload_n hc (i := 1) rfl dX4_dependents_74 rfl ?_
              refine v_icmp_ne hc (tgt := 82) dX4_dependents_75 (by decide) (fun h9 => ?_) (fun h9 => ?_)
              · refine v_iconst hc (v := nI 0) dX4_dependents_82 (by decide) ?_
                first | refine v_iaddN hc dX4_dependents_83 ?_ | refine v_iadd hc dX4_dependents_83 ?_
                refine v_istore_n hc (i := 2) rfl dX4_dependents_84 (by decide) rfl ?_
                first | refine v_iinc1 hc dX4_dependents_85 rfl (by decide) rfl ?_ | refine v_iinc hc dX4_dependents_85 rfl rfl (by decide) rfl ?_
                refine v_goto hc (tgt := 11) dX4_dependents_88 (by decide) ?_
                exact ih (k + 1) _ (by dsimp only [List.map, sumN]; rw [hI2]; rfl) h2 (by omega)
              · exact absurd (show nI i = -1 from h9.symm) (nI_nm1 (by omega))
            · exact absurd rfl h8
          | some j =>
            obtain ⟨hj, hdp, hdep⟩ := hI2
            dsimp only at hj hdp hdep ih2
            refine v_iload hc dX4_dependents_47 rfl ?_
            refine v_iconst hc (v := (-1)) dX4_dependents_49 (by decide) ?_
            refine v_icmp_eq hc (tgt := 71) dX4_dependents_50 (by decide) (fun h8 => ?_) (fun h8 => ?_)
            · exact absurd h8 (nI_nm1 (by omega))
            · refine v_iload hc dX4_dependents_53 rfl ?_
              refine v_iload_n hc (i := 1) rfl dX4_dependents_55 rfl ?_
              refine v_icmp_eqN hc (a := j) (b := i) (tgt := 71) dX4_dependents_56 (by decide) (by omega) (by omega) (fun hjt => ?_) (fun hjt => ?_)
              · have hz : dpk fm k i = true := by rw [← hdp, decide_eq_true hjt]; rfl
                refine v_iload_n hc (i := 2) rfl dX4_dependents_71 rfl ?_
                refine v_iload hc dX4_dependents_72 rfl ?_
                refine v_iload_n hc (i := 1) rfl dX4_dependents_74 rfl ?_
                refine v_icmp_neN hc (a := j) (b := i) (tgt := 82) dX4_dependents_75 (by decide) (by omega) (by omega) (fun h9 => absurd hjt h9) (fun h9 => ?_)
                refine v_iconst hc (v := nI 1) dX4_dependents_78 (by decide) ?_
                refine v_goto hc (tgt := 83) dX4_dependents_79 (by decide) ?_
                first | refine v_iaddN hc dX4_dependents_83 ?_ | refine v_iadd hc dX4_dependents_83 ?_
                refine v_istore_n hc (i := 2) rfl dX4_dependents_84 (by decide) rfl ?_
                first | refine v_iinc1 hc dX4_dependents_85 rfl (by decide) rfl ?_ | refine v_iinc hc dX4_dependents_85 rfl rfl (by decide) rfl ?_
                refine v_goto hc (tgt := 11) dX4_dependents_88 (by decide) ?_
                exact ih (k + 1) _ (by dsimp only [List.map, sumN]; rw [hz]; rfl) h2 (by omega)
              · rw [decide_eq_false hjt, Bool.false_or] at hdp
                first | refine v_aload_n hc (i := 0) rfl dX4_dependents_59 rfl ?_ | refine v_aload_nN hc (i := 0) rfl dX4_dependents_59 rfl ?_
                refine v_get hc 7 (ci := 7) rfl (by decide +kernel) (by decide) (by decide +kernel) (fun _ h => h) dX4_dependents_60 hM.1 rfl ?_
                refine v_iload hc dX4_dependents_63 rfl ?_
                refine v_iald hc (j) dX4_dependents_65 (hM.2.1 7 rfl) (rfl) (Nat.lt_of_lt_of_le hj hn) (by decide) ?_
                obtain ⟨fr, hfj, hg⟩ := hdep
                · refine v_ti (show _ = nIo fr.1 from hD.r7 hj hfj) ?_
                  obtain ⟨g', rfl⟩ : ∃ g', gg = g' + 1 := ⟨gg - 1, by omega⟩
                  have hb3 : bas fm j = fr.1 := by unfold bas; rw [hfj]; rfl
                  have hst : dpr fm i (g' + 1) j = (match fr.1 with | none => false | some b => decide (b = i) || dpr fm i g' b) := by
                    show (match bas fm j with | none => false | some b => _) = _
                    rw [hb3]
                  refine v_istore hc dX4_dependents_66 (by decide) rfl ?_
                  refine v_goto hc (tgt := 47) dX4_dependents_68 (by decide) ?_
                  cases hb4 : fr.1 with
                  | none =>
                    rw [hb4] at hst
                    exact ih2 (none, g') _ rfl (by show dpk fm k i = false; rw [← hdp, hst]) (by dsimp only; omega)
                  | some b =>
                    rw [hb4] at hst
                    obtain ⟨hbn, g2, hg2, hdd⟩ := (hC j hj fr hfj).2 b hb4
                    exact ih2 (some b, g') _ rfl ⟨hbn, by dsimp only; rw [← hdp, hst], g2, hg2, by dsimp only; omega⟩ (by dsimp only; omega)
        first | refine v_aload_n hc (i := 0) rfl dX4_dependents_24 rfl ?_ | refine v_aload_nN hc (i := 0) rfl dX4_dependents_24 rfl ?_
        refine v_get hc 5 (ci := 7) rfl (by decide +kernel) (by decide) (by decide +kernel) (fun _ h => h) dX4_dependents_25 hM.1 rfl ?_
        refine v_iload hc dX4_dependents_28 rfl ?_
        refine v_zald hc (k) dX4_dependents_30 (hM.2.2.1 5 rfl) (rfl) (by omega) (by decide) ?_
        refine v_ti (show _ = bI (fm k).isSome from hD.r5 h2) ?_
        cases hfk : fm k with
        | none =>
          have hbk : bas fm k = none := by unfold bas; rw [hfk]; rfl
          refine v_ifB_eq hc (tgt := 44) dX4_dependents_31 (by decide) (fun h6 => ?_) (fun h6 => ?_)
          · refine v_iconst hc (v := (-1)) dX4_dependents_44 (by decide) ?_
            refine v_istore hc dX4_dependents_45 (by decide) rfl ?_
            exact v_loc _ rfl (key none (by show dpk fm k i = false; unfold dpk; show (match bas fm k with | none => false | some b => _) = _; rw [hbk]) hbk)
          · cases h6
        | some fr =>
          have hbk : bas fm k = fr.1 := by unfold bas; rw [hfk]; rfl
          refine v_ifB_eq hc (tgt := 44) dX4_dependents_31 (by decide) (fun h6 => ?_) (fun h6 => ?_)
          · cases h6
          · first | refine v_aload_n hc (i := 0) rfl dX4_dependents_34 rfl ?_ | refine v_aload_nN hc (i := 0) rfl dX4_dependents_34 rfl ?_
            refine v_get hc 7 (ci := 7) rfl (by decide +kernel) (by decide) (by decide +kernel) (fun _ h => h) dX4_dependents_35 hM.1 rfl ?_
            refine v_iload hc dX4_dependents_38 rfl ?_
            refine v_iald hc (k) dX4_dependents_40 (hM.2.1 7 rfl) (rfl) (Nat.lt_of_lt_of_le h2 hn) (by decide) ?_
            refine v_ti (show _ = nIo fr.1 from hD.r7 h2 hfk) ?_
            refine v_goto hc (tgt := 45) dX4_dependents_41 (by decide) ?_
            refine v_istore hc dX4_dependents_45 (by decide) rfl ?_
            refine v_loc _ rfl (key fr.1 ?_ hbk)
            have hst : dpk fm k i = (match fr.1 with | none => false | some b => decide (b = i) || dpr fm i 7 b) := by
              show (match bas fm k with | none => false | some b => _) = _
              rw [hbk]
            cases hb4 : fr.1 with
            | none => rw [hb4] at hst; exact hst
            | some b =>
              rw [hb4] at hst
              obtain ⟨hbn, g2, hg2, hdd⟩ := (hC k h2 fr hfk).2 b hb4
              have := (hC k h2 fr hfk).1
              exact ⟨hbn, hst.symm, g2, hg2, by omega⟩
set_option maxRecDepth 100000 in
set_option maxHeartbeats 4000000 in
theorem c_X4_deltaCost (hM : MP G w h ad sc ai al) (hD : RD n nm ct lv lo fm sc ai al) (hct : ∀ i, i < n → isC (ct i) = true) (o q : Int32) : Met l yX4_deltaCost wsX4_deltaCost ({ frames := 11, cells := 0, slots := 0, locals := 196 } : Room) (Pw G A w [.ref h, .int o, .int q]) (va_Qi (fun r w' => ((isO n o && isO n q) = false ∧ MP G w' h ad (va_up sc 24 (nI 1)) ai al) ∨ ∃ i j, i < n ∧ j < n ∧ o = nI i ∧ q = nI j ∧ (∃ sc' ai', MP G w' h ad sc' ai' al ∧ eqS (va_up sc 24 (nI 0)) sc' ∧ eqA ai ai') ∧ r = nI (dco (xN (ct i)) (xN (ct j)))) (Bw G A) A) 0 0 A := by
  refine m_of (cc := cX4_deltaCost) (maxL := 3) (ret := (some .int)) (by decide) rfl (Nat.le_of_ble_eq_true rfl) ?_
  intro p e s m args below meth c hc hr hmn
  refine v_loc [(0, some (.ref h)), (1, some (.int o)), (2, some (.int q))] rfl ?_
  have hn := hD.2.1
  first | refine v_aload_n hc (i := 0) rfl dX4_deltaCost_0 rfl ?_ | refine v_aload_nN hc (i := 0) rfl dX4_deltaCost_0 rfl ?_
  first | refine v_aload_n hc (i := 0) rfl dX4_deltaCost_1 rfl ?_ | refine v_aload_nN hc (i := 0) rfl dX4_deltaCost_1 rfl ?_
  refine v_iload_n hc (i := 1) rfl dX4_deltaCost_2 rfl ?_
  refine v_callVi hc (c_X4_isObject hM o hD.1 hD.2.1) (cwV 1 hc.1.2.2.2.2 gX4_deltaCost_X4_isObject rfl rfl rfl (by decide +kernel) ⟨Nat.le_of_ble_eq_true rfl, Nat.le_of_ble_eq_true rfl⟩) (hM.1) rfl rfl rfl (Nat.le_of_ble_eq_true rfl) ⟨(by first | exact Nat.le_of_ble_eq_true rfl | omega | (dsimp only; omega)), (by first | exact Nat.le_of_ble_eq_true rfl | omega | (dsimp only; omega))⟩ dX4_deltaCost_3 (fun r w' hp => ?_)
  obtain ⟨rfl, rfl⟩ := hp
  refine v_ifB_eq hc (tgt := 21) dX4_deltaCost_6 (by decide) (fun h1 => ?_) (fun h1 => ?_)
  · refine v_iconst hc (v := nI 1) dX4_deltaCost_21 (by decide) ?_
    refine v_callVi hc (c_X4_goes hM (nI 1)) (cwV 1 hc.1.2.2.2.2 gX4_deltaCost_X4_goes rfl rfl rfl (by decide +kernel) ⟨Nat.le_of_ble_eq_true rfl, Nat.le_of_ble_eq_true rfl⟩) (hM.1) rfl rfl rfl (Nat.le_of_ble_eq_true rfl) ⟨(by first | exact Nat.le_of_ble_eq_true rfl | omega | (dsimp only; omega)), (by first | exact Nat.le_of_ble_eq_true rfl | omega | (dsimp only; omega))⟩ dX4_deltaCost_22 (fun r w' hp => ?_)
    obtain ⟨hM, rfl⟩ := hp
    refine v_ifB_eq hc (tgt := 47) dX4_deltaCost_25 (by decide) (fun h4 => ?_) (fun h4 => ?_)
    · refine v_iconst hc (v := nI 0) dX4_deltaCost_47 (by decide) ?_
      exact v_iret hc hr dX4_deltaCost_48 (by first | exact Nat.le_of_ble_eq_true rfl | omega | (dsimp only; omega)) (by first | exact Nat.le_of_ble_eq_true rfl | omega | (dsimp only; omega)) (Or.inl ⟨by rw [h1]; rfl, hM⟩)
    · exact absurd h4 (by decide)
  · first | refine v_aload_n hc (i := 0) rfl dX4_deltaCost_9 rfl ?_ | refine v_aload_nN hc (i := 0) rfl dX4_deltaCost_9 rfl ?_
    refine v_iload_n hc (i := 2) rfl dX4_deltaCost_10 rfl ?_
    refine v_callVi hc (c_X4_isObject hM q hD.1 hD.2.1) (cwV 1 hc.1.2.2.2.2 gX4_deltaCost_X4_isObject rfl rfl rfl (by decide +kernel) ⟨Nat.le_of_ble_eq_true rfl, Nat.le_of_ble_eq_true rfl⟩) (hM.1) rfl rfl rfl (Nat.le_of_ble_eq_true rfl) ⟨(by first | exact Nat.le_of_ble_eq_true rfl | omega | (dsimp only; omega)), (by first | exact Nat.le_of_ble_eq_true rfl | omega | (dsimp only; omega))⟩ dX4_deltaCost_11 (fun r w' hp => ?_)
    obtain ⟨rfl, rfl⟩ := hp
    refine v_ifB_eq hc (tgt := 21) dX4_deltaCost_14 (by decide) (fun h2 => ?_) (fun h2 => ?_)
    · refine v_iconst hc (v := nI 1) dX4_deltaCost_21 (by decide) ?_
      refine v_callVi hc (c_X4_goes hM (nI 1)) (cwV 1 hc.1.2.2.2.2 gX4_deltaCost_X4_goes rfl rfl rfl (by decide +kernel) ⟨Nat.le_of_ble_eq_true rfl, Nat.le_of_ble_eq_true rfl⟩) (hM.1) rfl rfl rfl (Nat.le_of_ble_eq_true rfl) ⟨(by first | exact Nat.le_of_ble_eq_true rfl | omega | (dsimp only; omega)), (by first | exact Nat.le_of_ble_eq_true rfl | omega | (dsimp only; omega))⟩ dX4_deltaCost_22 (fun r w' hp => ?_)
      obtain ⟨hM, rfl⟩ := hp
      refine v_ifB_eq hc (tgt := 47) dX4_deltaCost_25 (by decide) (fun h4 => ?_) (fun h4 => ?_)
      · refine v_iconst hc (v := nI 0) dX4_deltaCost_47 (by decide) ?_
        exact v_iret hc hr dX4_deltaCost_48 (by first | exact Nat.le_of_ble_eq_true rfl | omega | (dsimp only; omega)) (by first | exact Nat.le_of_ble_eq_true rfl | omega | (dsimp only; omega)) (Or.inl ⟨by rw [h2, Bool.and_false], hM⟩)
      · exact absurd h4 (by decide)
    · obtain ⟨i, hi, rfl⟩ := isO_of h1 hD.2.1
      obtain ⟨j, hj, rfl⟩ := isO_of h2 hD.2.1
      refine v_iconst hc (v := nI 0) dX4_deltaCost_17 (by decide) ?_
      refine v_goto hc (tgt := 22) dX4_deltaCost_18 (by decide) ?_
      refine v_callVi hc (c_X4_goes hM (nI 0)) (cwV 1 hc.1.2.2.2.2 gX4_deltaCost_X4_goes rfl rfl rfl (by decide +kernel) ⟨Nat.le_of_ble_eq_true rfl, Nat.le_of_ble_eq_true rfl⟩) (hM.1) rfl rfl rfl (Nat.le_of_ble_eq_true rfl) ⟨(by first | exact Nat.le_of_ble_eq_true rfl | omega | (dsimp only; omega)), (by first | exact Nat.le_of_ble_eq_true rfl | omega | (dsimp only; omega))⟩ dX4_deltaCost_22 (fun r w' hp => ?_)
      obtain ⟨hM, rfl⟩ := hp
      refine v_ifB_eq hc (tgt := 47) dX4_deltaCost_25 (by decide) (fun h4 => ?_) (fun h4 => ?_)
      · exact absurd h4 (by decide)
      · first | refine v_aload_n hc (i := 0) rfl dX4_deltaCost_28 rfl ?_ | refine v_aload_nN hc (i := 0) rfl dX4_deltaCost_28 rfl ?_
        first | refine v_aload_n hc (i := 0) rfl dX4_deltaCost_29 rfl ?_ | refine v_aload_nN hc (i := 0) rfl dX4_deltaCost_29 rfl ?_
        refine v_get hc 2 (ci := 7) rfl (by decide +kernel) (by decide) (by decide +kernel) (fun _ h => h) dX4_deltaCost_30 hM.1 rfl ?_
        refine v_iload_n hc (i := 1) rfl dX4_deltaCost_33 rfl ?_
        refine v_lald hc (i) dX4_deltaCost_34 hM.2.2.2.1 (rfl) (by omega) (by decide) ?_
        rw [hD.r2 hi]
        first | refine v_aload_n hc (i := 0) rfl dX4_deltaCost_35 rfl ?_ | refine v_aload_nN hc (i := 0) rfl dX4_deltaCost_35 rfl ?_
        refine v_get hc 2 (ci := 7) rfl (by decide +kernel) (by decide) (by decide +kernel) (fun _ h => h) dX4_deltaCost_36 hM.1 rfl ?_
        refine v_iload_n hc (i := 2) rfl dX4_deltaCost_39 rfl ?_
        refine v_lald hc (j) dX4_deltaCost_40 hM.2.2.2.1 (rfl) (by omega) (by decide) ?_
        rw [hD.r2 hj]
        refine v_callVi hc (c_X4_deltas hM (ct i) (ct j) (hct i hi) (hct j hj)) (cwV 2 hc.1.2.2.2.2 gX4_deltaCost_X4_deltas rfl rfl rfl (by decide +kernel) ⟨Nat.le_of_ble_eq_true rfl, Nat.le_of_ble_eq_true rfl⟩) (hM.1) rfl rfl rfl (Nat.le_of_ble_eq_true rfl) ⟨(by first | exact Nat.le_of_ble_eq_true rfl | omega | (dsimp only; omega)), (by first | exact Nat.le_of_ble_eq_true rfl | omega | (dsimp only; omega))⟩ dX4_deltaCost_41 (fun r w' hp => ?_)
        obtain ⟨⟨sc', ai', hM, hS, hA, -, -⟩, rfl⟩ := hp
        refine v_goto hc (tgt := 48) dX4_deltaCost_44 (by decide) ?_
        exact v_iret hc hr dX4_deltaCost_48 (by first | exact Nat.le_of_ble_eq_true rfl | omega | (dsimp only; omega)) (by first | exact Nat.le_of_ble_eq_true rfl | omega | (dsimp only; omega)) (Or.inr ⟨i, j, hi, hj, rfl, rfl, ⟨sc', ai', hM, hS, hA⟩, rfl⟩)
set_option maxRecDepth 100000 in
set_option maxHeartbeats 4000000 in
theorem c_X4_hash (hM : MP G w h ad sc ai al) (x : Int64) : Met l yX4_hash wsX4_hash ({ frames := 10, cells := 0, slots := 0, locals := 168 } : Room) (Pw G A w [.ref h, .long x]) (va_Qi (fun r w' => (isC x = false ∧ MP G w' h ad (va_up sc 24 (nI 1)) ai al) ∨ (isC x = true ∧ MP G w' h ad (va_up sc 24 (nI 0)) ai al ∧ r = nI (hsh (xN x)))) (Bw G A) A) 0 0 A := by
  refine m_of (cc := cX4_hash) (maxL := 3) (ret := (some .int)) (by decide) rfl (Nat.le_of_ble_eq_true rfl) ?_
  intro p e s m args below meth c hc hr hmn
  refine v_loc [(0, some (.ref h)), (1, some (.long x))] rfl ?_
  first | refine v_aload_n hc (i := 0) rfl dX4_hash_0 rfl ?_ | refine v_aload_nN hc (i := 0) rfl dX4_hash_0 rfl ?_
  refine v_lload_n hc (i := 1) rfl dX4_hash_1 rfl ?_
  refine v_callSi hc (c_X4_isContent x) (va_cwS 1 hc.1.2.2.2.2 gX4_hash_X4_isContent rfl rfl rfl (by decide +kernel) ⟨Nat.le_of_ble_eq_true rfl, Nat.le_of_ble_eq_true rfl⟩) rfl rfl (Nat.le_of_ble_eq_true rfl) ⟨(by first | exact Nat.le_of_ble_eq_true rfl | omega | (dsimp only; omega)), (by first | exact Nat.le_of_ble_eq_true rfl | omega | (dsimp only; omega))⟩ dX4_hash_2 (fun r w' hp => ?_)
  obtain ⟨rfl, rfl⟩ := hp
  refine v_ifB_eq hc (tgt := 12) dX4_hash_5 (by decide) (fun h1 => ?_) (fun h1 => ?_)
  · refine v_iconst hc (v := nI 1) dX4_hash_12 (by decide) ?_
    refine v_callVi hc (c_X4_goes hM (nI 1)) (cwV 1 hc.1.2.2.2.2 gX4_hash_X4_goes rfl rfl rfl (by decide +kernel) ⟨Nat.le_of_ble_eq_true rfl, Nat.le_of_ble_eq_true rfl⟩) (hM.1) rfl rfl rfl (Nat.le_of_ble_eq_true rfl) ⟨(by first | exact Nat.le_of_ble_eq_true rfl | omega | (dsimp only; omega)), (by first | exact Nat.le_of_ble_eq_true rfl | omega | (dsimp only; omega))⟩ dX4_hash_13 (fun r w' hp => ?_)
    obtain ⟨hM, rfl⟩ := hp
    refine v_ifB_eq hc (tgt := 26) dX4_hash_16 (by decide) (fun h4 => ?_) (fun h4 => ?_)
    · refine v_iconst hc (v := nI 0) dX4_hash_26 (by decide) ?_
      exact v_iret hc hr dX4_hash_27 (by first | exact Nat.le_of_ble_eq_true rfl | omega | (dsimp only; omega)) (by first | exact Nat.le_of_ble_eq_true rfl | omega | (dsimp only; omega)) (Or.inl ⟨h1, hM⟩)
    · exact absurd h4 (by decide)
  · refine v_iconst hc (v := nI 0) dX4_hash_8 (by decide) ?_
    refine v_goto hc (tgt := 13) dX4_hash_9 (by decide) ?_
    refine v_callVi hc (c_X4_goes hM (nI 0)) (cwV 1 hc.1.2.2.2.2 gX4_hash_X4_goes rfl rfl rfl (by decide +kernel) ⟨Nat.le_of_ble_eq_true rfl, Nat.le_of_ble_eq_true rfl⟩) (hM.1) rfl rfl rfl (Nat.le_of_ble_eq_true rfl) ⟨(by first | exact Nat.le_of_ble_eq_true rfl | omega | (dsimp only; omega)), (by first | exact Nat.le_of_ble_eq_true rfl | omega | (dsimp only; omega))⟩ dX4_hash_13 (fun r w' hp => ?_)
    obtain ⟨hM, rfl⟩ := hp
    refine v_ifB_eq hc (tgt := 26) dX4_hash_16 (by decide) (fun h4 => ?_) (fun h4 => ?_)
    · exact absurd h4 (by decide)
    · refine v_lload_n hc (i := 1) rfl dX4_hash_19 rfl ?_
      refine v_callSi hc (c_X4_hashOf x h1) (va_cwS 1 hc.1.2.2.2.2 gX4_hash_X4_hashOf rfl rfl rfl (by decide +kernel) ⟨Nat.le_of_ble_eq_true rfl, Nat.le_of_ble_eq_true rfl⟩) rfl rfl (Nat.le_of_ble_eq_true rfl) ⟨(by first | exact Nat.le_of_ble_eq_true rfl | omega | (dsimp only; omega)), (by first | exact Nat.le_of_ble_eq_true rfl | omega | (dsimp only; omega))⟩ dX4_hash_20 (fun r w' hp => ?_)
      obtain ⟨rfl, rfl⟩ := hp
      refine v_goto hc (tgt := 27) dX4_hash_23 (by decide) ?_
      exact v_iret hc hr dX4_hash_27 (by first | exact Nat.le_of_ble_eq_true rfl | omega | (dsimp only; omega)) (by first | exact Nat.le_of_ble_eq_true rfl | omega | (dsimp only; omega)) (Or.inr ⟨h1, hM, rfl⟩)
set_option maxRecDepth 100000 in
set_option maxHeartbeats 4000000 in
theorem c_X4_below (hM : MP G w h ad sc ai al) (hD : RD n nm ct lv lo fm sc ai al) (hct : ∀ i, i < n → isC (ct i) = true) {k : Nat} (hk : k < 2 ^ 31) : Met l yX4_below wsX4_below ({ frames := 10, cells := 0, slots := 0, locals := 167 } : Room) (Pw G A w [.ref h, .int (nI k)]) (va_Qi (fun r w' => w = w' ∧ r = nI (blN n ct fm k)) (Bw G A) A) 0 0 A := by
  refine m_of (cc := cX4_below) (maxL := 4) (ret := (some .int)) (by decide) rfl (Nat.le_of_ble_eq_true rfl) ?_
  intro p e s m args below meth c hc hr hmn
  refine v_loc [(0, some (.ref h)), (1, some (.int (nI k)))] rfl ?_
  have hn := hD.2.1
  refine v_iconst hc (v := nI 0) dX4_below_0 (by decide) ?_
  refine v_istore_n hc (i := 2) rfl dX4_below_1 (by decide) rfl ?_
  refine v_iconst hc (v := nI 0) dX4_below_2 (by decide) ?_
  refine v_istore_n hc (i := 3) rfl dX4_below_3 (by decide) rfl ?_
  refine v_loop (σ := Nat) (fun j => j ≤ n) (fun j => n - j) (fun _ => w) (fun _ => 0) (fun _ => 0) (fun j => [(0, some (.ref h)), (1, some (.int (nI k))), (2, some (.int (nI (blN j ct fm k)))), (3, some (.int (nI j)))]) 0 rfl (Nat.zero_le _) ?_
  intro j hj ih
  have hh : hsh (xN (ct j)) < 4096 := hsh_lt _
  have hst : blN (j + 1) ct fm k = blN j ct fm k + cond (fm j).isSome (b1 (decide (hso ct j < k))) 0 := rfl
  refine v_iload_n hc (i := 3) rfl dX4_below_4 rfl ?_
  first | refine v_aload_n hc (i := 0) rfl dX4_below_5 rfl ?_ | refine v_aload_nN hc (i := 0) rfl dX4_below_5 rfl ?_
  refine v_get hc 0 (ci := 7) rfl (by decide +kernel) (by decide) (by decide +kernel) (fun _ h => h) dX4_below_6 hM.1 rfl ?_
  refine v_ti (show _ = nI n from hD.1) ?_
  refine v_icmp_geN hc (tgt := 48) dX4_below_9 (by decide) (by omega) (by omega) (fun h1 => ?_) (fun h1 => ?_)
  · have e : j = n := by omega
    subst e
    refine v_iload_n hc (i := 2) rfl dX4_below_48 rfl ?_
    exact v_iret hc hr dX4_below_49 (by first | exact Nat.le_of_ble_eq_true rfl | omega | (dsimp only; omega)) (by first | exact Nat.le_of_ble_eq_true rfl | omega | (dsimp only; omega)) (⟨rfl, rfl⟩)
  · refine v_iload_n hc (i := 2) rfl dX4_below_12 rfl ?_
    first | refine v_aload_n hc (i := 0) rfl dX4_below_13 rfl ?_ | refine v_aload_nN hc (i := 0) rfl dX4_below_13 rfl ?_
    refine v_get hc 5 (ci := 7) rfl (by decide +kernel) (by decide) (by decide +kernel) (fun _ h => h) dX4_below_14 hM.1 rfl ?_
    refine v_iload_n hc (i := 3) rfl dX4_below_17 rfl ?_
    refine v_zald hc (j) dX4_below_18 (hM.2.2.1 5 rfl) (rfl) (by omega) (by decide) ?_
    rw [hD.r5 h1]
    refine v_ifB_eq hc (tgt := 39) dX4_below_19 (by decide) (fun h2 => ?_) (fun h2 => ?_)
    · rw [h2] at hst
      refine v_iconst hc (v := nI 0) dX4_below_39 (by decide) ?_
      first | refine v_iaddN hc dX4_below_40 ?_ | refine v_iadd hc dX4_below_40 ?_
      refine v_istore_n hc (i := 2) rfl dX4_below_41 (by decide) rfl ?_
      first | refine v_iinc1 hc dX4_below_42 rfl (by decide) rfl ?_ | refine v_iinc hc dX4_below_42 rfl rfl (by decide) rfl ?_
      refine v_goto hc (tgt := 4) dX4_below_45 (by decide) ?_
      exact ih (j + 1) _ (by dsimp only [List.map]; rw [hst]; rfl) h1 (by omega)
    · rw [h2] at hst
      first | refine v_aload_n hc (i := 0) rfl dX4_below_22 rfl ?_ | refine v_aload_nN hc (i := 0) rfl dX4_below_22 rfl ?_
      refine v_get hc 2 (ci := 7) rfl (by decide +kernel) (by decide) (by decide +kernel) (fun _ h => h) dX4_below_23 hM.1 rfl ?_
      refine v_iload_n hc (i := 3) rfl dX4_below_26 rfl ?_
      refine v_lald hc (j) dX4_below_27 hM.2.2.2.1 (rfl) (by omega) (by decide) ?_
      rw [hD.r2 h1]
      refine v_callSi hc (c_X4_hashOf (ct j) (hct j h1)) (va_cwS 1 hc.1.2.2.2.2 gX4_below_X4_hashOf rfl rfl rfl (by decide +kernel) ⟨Nat.le_of_ble_eq_true rfl, Nat.le_of_ble_eq_true rfl⟩) rfl rfl (Nat.le_of_ble_eq_true rfl) ⟨(by first | exact Nat.le_of_ble_eq_true rfl | omega | (dsimp only; omega)), (by first | exact Nat.le_of_ble_eq_true rfl | omega | (dsimp only; omega))⟩ dX4_below_28 (fun r w' hp => ?_)
      obtain ⟨rfl, rfl⟩ := hp
      refine v_iload_n hc (i := 1) rfl dX4_below_31 rfl ?_
      refine v_icmp_geN hc (tgt := 39) dX4_below_32 (by decide) (by omega) (by omega) (fun h3 => ?_) (fun h3 => ?_)
      · rw [decide_eq_false (show ¬ hso ct j < k from Nat.not_lt.mpr h3)] at hst
        refine v_iconst hc (v := nI 0) dX4_below_39 (by decide) ?_
        first | refine v_iaddN hc dX4_below_40 ?_ | refine v_iadd hc dX4_below_40 ?_
        refine v_istore_n hc (i := 2) rfl dX4_below_41 (by decide) rfl ?_
        first | refine v_iinc1 hc dX4_below_42 rfl (by decide) rfl ?_ | refine v_iinc hc dX4_below_42 rfl rfl (by decide) rfl ?_
        refine v_goto hc (tgt := 4) dX4_below_45 (by decide) ?_
        exact ih (j + 1) _ (by dsimp only [List.map]; rw [hst]; rfl) h1 (by omega)
      · rw [decide_eq_true (show hso ct j < k from h3)] at hst
        refine v_iconst hc (v := nI 1) dX4_below_35 (by decide) ?_
        refine v_goto hc (tgt := 40) dX4_below_36 (by decide) ?_
        first | refine v_iaddN hc dX4_below_40 ?_ | refine v_iadd hc dX4_below_40 ?_
        refine v_istore_n hc (i := 2) rfl dX4_below_41 (by decide) rfl ?_
        first | refine v_iinc1 hc dX4_below_42 rfl (by decide) rfl ?_ | refine v_iinc hc dX4_below_42 rfl rfl (by decide) rfl ?_
        refine v_goto hc (tgt := 4) dX4_below_45 (by decide) ?_
        exact ih (j + 1) _ (by dsimp only [List.map]; rw [hst]; rfl) h1 (by omega)
set_option maxRecDepth 100000 in
set_option maxHeartbeats 4000000 in
theorem c_X4_fanOut (hM : MP G w h ad sc ai al) (hD : RD n nm ct lv lo fm sc ai al) (hct : ∀ i, i < n → isC (ct i) = true) (o : Int32) : Met l yX4_fanOut wsX4_fanOut ({ frames := 11, cells := 0, slots := 0, locals := 190 } : Room) (Pw G A w [.ref h, .int o]) (va_Qi (fun r w' => (isO 16 o = false ∧ MP G w' h ad (va_up sc 24 (nI 1)) ai al) ∨ ∃ i, i < 16 ∧ o = nI i ∧ MP G w' h ad (va_up sc 24 (nI 0)) ai al ∧ r = nI (blN n ct fm (256 * (i + 1)))) (Bw G A) A) 0 0 A := by
  refine m_of (cc := cX4_fanOut) (maxL := 2) (ret := (some .int)) (by decide) rfl (Nat.le_of_ble_eq_true rfl) ?_
  intro p e s m args below meth c hc hr hmn
  refine v_loc [(0, some (.ref h)), (1, some (.int o))] rfl ?_
  first | refine v_aload_n hc (i := 0) rfl dX4_fanOut_0 rfl ?_ | refine v_aload_nN hc (i := 0) rfl dX4_fanOut_0 rfl ?_
  refine v_iload_n hc (i := 1) rfl dX4_fanOut_1 rfl ?_
  refine v_iconst hc (v := nI 0) dX4_fanOut_2 (by decide) ?_
  refine v_bipush hc (v := nI 15) dX4_fanOut_3 (by decide) ?_
  refine v_callSi hc (c_X4_isIn _ _ _) (va_cwS 3 hc.1.2.2.2.2 gX4_fanOut_X4_isIn rfl rfl rfl (by decide +kernel) ⟨Nat.le_of_ble_eq_true rfl, Nat.le_of_ble_eq_true rfl⟩) rfl rfl (Nat.le_of_ble_eq_true rfl) ⟨(by first | exact Nat.le_of_ble_eq_true rfl | omega | (dsimp only; omega)), (by first | exact Nat.le_of_ble_eq_true rfl | omega | (dsimp only; omega))⟩ dX4_fanOut_5 (fun r w' hp => ?_)
  obtain ⟨rfl, rfl⟩ := hp
  rw [show nI 15 = nI 16 - nI 1 by decide, isin_OG (by decide)]
  refine v_ifB_eq hc (tgt := 15) dX4_fanOut_8 (by decide) (fun h1 => ?_) (fun h1 => ?_)
  · refine v_iconst hc (v := nI 1) dX4_fanOut_15 (by decide) ?_
    refine v_callVi hc (c_X4_goes hM (nI 1)) (cwV 1 hc.1.2.2.2.2 gX4_fanOut_X4_goes rfl rfl rfl (by decide +kernel) ⟨Nat.le_of_ble_eq_true rfl, Nat.le_of_ble_eq_true rfl⟩) (hM.1) rfl rfl rfl (Nat.le_of_ble_eq_true rfl) ⟨(by first | exact Nat.le_of_ble_eq_true rfl | omega | (dsimp only; omega)), (by first | exact Nat.le_of_ble_eq_true rfl | omega | (dsimp only; omega))⟩ dX4_fanOut_16 (fun r w' hp => ?_)
    obtain ⟨hM, rfl⟩ := hp
    refine v_ifB_eq hc (tgt := 36) dX4_fanOut_19 (by decide) (fun h4 => ?_) (fun h4 => ?_)
    · refine v_iconst hc (v := nI 0) dX4_fanOut_36 (by decide) ?_
      exact v_iret hc hr dX4_fanOut_37 (by first | exact Nat.le_of_ble_eq_true rfl | omega | (dsimp only; omega)) (by first | exact Nat.le_of_ble_eq_true rfl | omega | (dsimp only; omega)) (Or.inl ⟨h1, hM⟩)
    · exact absurd h4 (by decide)
  · obtain ⟨i, hi, rfl⟩ := isO_ofG h1 (by decide)
    refine v_iconst hc (v := nI 0) dX4_fanOut_11 (by decide) ?_
    refine v_goto hc (tgt := 16) dX4_fanOut_12 (by decide) ?_
    refine v_callVi hc (c_X4_goes hM (nI 0)) (cwV 1 hc.1.2.2.2.2 gX4_fanOut_X4_goes rfl rfl rfl (by decide +kernel) ⟨Nat.le_of_ble_eq_true rfl, Nat.le_of_ble_eq_true rfl⟩) (hM.1) rfl rfl rfl (Nat.le_of_ble_eq_true rfl) ⟨(by first | exact Nat.le_of_ble_eq_true rfl | omega | (dsimp only; omega)), (by first | exact Nat.le_of_ble_eq_true rfl | omega | (dsimp only; omega))⟩ dX4_fanOut_16 (fun r w' hp => ?_)
    obtain ⟨hM, rfl⟩ := hp
    refine v_ifB_eq hc (tgt := 36) dX4_fanOut_19 (by decide) (fun h4 => ?_) (fun h4 => ?_)
    · exact absurd h4 (by decide)
    · first | refine v_aload_n hc (i := 0) rfl dX4_fanOut_22 rfl ?_ | refine v_aload_nN hc (i := 0) rfl dX4_fanOut_22 rfl ?_
      refine v_sipush hc (v := nI 256) dX4_fanOut_23 (by decide) ?_
      refine v_iload_n hc (i := 1) rfl dX4_fanOut_26 rfl ?_
      refine v_iconst hc (v := nI 1) dX4_fanOut_27 (by decide) ?_
      first | refine v_iaddN hc dX4_fanOut_28 ?_ | refine v_iadd hc dX4_fanOut_28 ?_
      first | refine v_imulN hc dX4_fanOut_29 ?_ | refine v_imul hc dX4_fanOut_29 ?_
      refine v_callVi hc (c_X4_below hM (hD.sc' rfl) hct (k := 256 * (i + 1)) (by omega)) (cwV 1 hc.1.2.2.2.2 gX4_fanOut_X4_below rfl rfl rfl (by decide +kernel) ⟨Nat.le_of_ble_eq_true rfl, Nat.le_of_ble_eq_true rfl⟩) (hM.1) rfl rfl rfl (Nat.le_of_ble_eq_true rfl) ⟨(by first | exact Nat.le_of_ble_eq_true rfl | omega | (dsimp only; omega)), (by first | exact Nat.le_of_ble_eq_true rfl | omega | (dsimp only; omega))⟩ dX4_fanOut_30 (fun r w' hp => ?_)
      obtain ⟨rfl, rfl⟩ := hp
      refine v_goto hc (tgt := 37) dX4_fanOut_33 (by decide) ?_
      exact v_iret hc hr dX4_fanOut_37 (by first | exact Nat.le_of_ble_eq_true rfl | omega | (dsimp only; omega)) (by first | exact Nat.le_of_ble_eq_true rfl | omega | (dsimp only; omega)) (Or.inr ⟨i, hi, rfl, hM, rfl⟩)
set_option maxRecDepth 100000 in
set_option maxHeartbeats 4000000 in
theorem c_X4_asksHash (hM : MP G w h ad sc ai al) (o : Int32) : Met l yX4_asksHash wsX4_asksHash ({ frames := 9, cells := 0, slots := 0, locals := 142 } : Room) (Pw G A w [.ref h, .int o]) (va_Qi (fun r w' => (isO 4096 o = false ∧ MP G w' h ad (va_up sc 24 (nI 1)) ai al ∧ r = bI false) ∨ ∃ k, k < 4096 ∧ o = nI k ∧ MP G w' h ad (va_up sc 24 (nI 0)) ai al ∧ r = bI true) (Bw G A) A) 0 0 A := by
  refine m_of (cc := cX4_asksHash) (maxL := 2) (ret := (some .boolean)) (by decide) rfl (Nat.le_of_ble_eq_true rfl) ?_
  intro p e s m args below meth c hc hr hmn
  refine v_loc [(0, some (.ref h)), (1, some (.int o))] rfl ?_
  first | refine v_aload_n hc (i := 0) rfl dX4_asksHash_0 rfl ?_ | refine v_aload_nN hc (i := 0) rfl dX4_asksHash_0 rfl ?_
  refine v_iload_n hc (i := 1) rfl dX4_asksHash_1 rfl ?_
  refine v_iconst hc (v := nI 0) dX4_asksHash_2 (by decide) ?_
  refine v_sipush hc (v := nI 4095) dX4_asksHash_3 (by decide) ?_
  refine v_callSi hc (c_X4_isIn _ _ _) (va_cwS 3 hc.1.2.2.2.2 gX4_asksHash_X4_isIn rfl rfl rfl (by decide +kernel) ⟨Nat.le_of_ble_eq_true rfl, Nat.le_of_ble_eq_true rfl⟩) rfl rfl (Nat.le_of_ble_eq_true rfl) ⟨(by first | exact Nat.le_of_ble_eq_true rfl | omega | (dsimp only; omega)), (by first | exact Nat.le_of_ble_eq_true rfl | omega | (dsimp only; omega))⟩ dX4_asksHash_6 (fun r w' hp => ?_)
  obtain ⟨rfl, rfl⟩ := hp
  rw [show nI 4095 = nI 4096 - nI 1 by decide, isin_OG (by decide)]
  refine v_ifB_eq hc (tgt := 16) dX4_asksHash_9 (by decide) (fun h1 => ?_) (fun h1 => ?_)
  · refine v_iconst hc (v := nI 1) dX4_asksHash_16 (by decide) ?_
    refine v_callVi hc (c_X4_goes hM (nI 1)) (cwV 1 hc.1.2.2.2.2 gX4_asksHash_X4_goes rfl rfl rfl (by decide +kernel) ⟨Nat.le_of_ble_eq_true rfl, Nat.le_of_ble_eq_true rfl⟩) (hM.1) rfl rfl rfl (Nat.le_of_ble_eq_true rfl) ⟨(by first | exact Nat.le_of_ble_eq_true rfl | omega | (dsimp only; omega)), (by first | exact Nat.le_of_ble_eq_true rfl | omega | (dsimp only; omega))⟩ dX4_asksHash_17 (fun r w' hp => ?_)
    obtain ⟨hM, rfl⟩ := hp
    exact v_zret hc hr dX4_asksHash_20 (by first | exact Nat.le_of_ble_eq_true rfl | omega | (dsimp only; omega)) (by first | exact Nat.le_of_ble_eq_true rfl | omega | (dsimp only; omega)) (by first | rfl | exact bI_nar _) (Or.inl ⟨h1, hM, rfl⟩)
  · obtain ⟨i, hi, rfl⟩ := isO_ofG h1 (by decide)
    refine v_iconst hc (v := nI 0) dX4_asksHash_12 (by decide) ?_
    refine v_goto hc (tgt := 17) dX4_asksHash_13 (by decide) ?_
    refine v_callVi hc (c_X4_goes hM (nI 0)) (cwV 1 hc.1.2.2.2.2 gX4_asksHash_X4_goes rfl rfl rfl (by decide +kernel) ⟨Nat.le_of_ble_eq_true rfl, Nat.le_of_ble_eq_true rfl⟩) (hM.1) rfl rfl rfl (Nat.le_of_ble_eq_true rfl) ⟨(by first | exact Nat.le_of_ble_eq_true rfl | omega | (dsimp only; omega)), (by first | exact Nat.le_of_ble_eq_true rfl | omega | (dsimp only; omega))⟩ dX4_asksHash_17 (fun r w' hp => ?_)
    obtain ⟨hM, rfl⟩ := hp
    exact v_zret hc hr dX4_asksHash_20 (by first | exact Nat.le_of_ble_eq_true rfl | omega | (dsimp only; omega)) (by first | exact Nat.le_of_ble_eq_true rfl | omega | (dsimp only; omega)) (by first | rfl | exact bI_nar _) (Or.inr ⟨i, hi, rfl, hM, rfl⟩)
end MD5

