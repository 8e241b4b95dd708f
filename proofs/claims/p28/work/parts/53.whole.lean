theorem wup_sg {u : wd} {a : Nat} {e : va_E} : wup u a e = jn (sg a e) u := by
  funext x
  by_cases hx : x = a
  · subst hx; rw [wup_s, jn_l (sg_s _ _)]
  · rw [wup_n _ _ hx, jn_r (sg_n hx)]
-- ===== YOUR PART BEGINS =====
set_option maxRecDepth 100000 in
set_option maxHeartbeats 4000000 in
theorem whole_start {p : Program} {e : Env} {s : State} {m : MethodId} {below : List Frame} {meth : Method} {c : Code} (l : Launch) (hflags : l.flags = flags0) {b L : Nat} {xs : Nat → Int32} (hL : L ≤ 260) (C0 : lw_At p s m meth c b L xs) : W p l e room_1 s m #[Value.ref b] below meth c s.heap [] 0 0 (lw_Z below #[Value.ref b] s) (entryFrame m ([Value.ref b] : List Value).toArray 18) := by
  obtain ⟨hx, hb, hr, hml, hown, hts, hX, hbl, hlocks, hgv⟩ := id C0
  have hl : l.stackTraces = false := by unfold Launch.stackTraces; rw [hflags]; decide +kernel
  obtain ⟨G, hkk⟩ := kk_start hts hgv
  have hc : cxt p s m #[Value.ref b] meth c cL_law 18 RL wsL_law G (lA s) := ⟨⟨hx, hb, hml, hown, fun w hw => hts w (wsL_law_in w hw)⟩, hkk, fun q hq => hq, hlocks⟩
  rw [lg_entry_eq]
  suffices KQ : LV p l e s m b below meth c G (fun _ => none) 0 0 0 [(0, some (.ref b))] [] from KQ s.heap [] _ (fun a e h => by cases h) va_S.rf (vs_ent (lv_entry [.ref b] (n := 18) (Nat.le_of_ble_eq_true rfl)))

  refine v_new hc (ci := 6) (fs := [.null, .null, .null, .int 0, .int 0]) rfl tyX3 tyX3_ok (by decide +kernel) (by decide +kernel) (by decide +kernel) (by decide +kernel) (fun j hj => by rcases (show j = 0 ∨ j = 1 ∨ j = 2 ∨ j = 3 ∨ j = 4 by omega) with rfl | rfl | rfl | rfl | rfl <;> rfl) (by first | exact Nat.le_of_ble_eq_true rfl | omega | (dsimp only; omega) | (show _ ≤ 600130; omega) | (show _ ≤ 7301080; omega)) (by first | exact Nat.le_of_ble_eq_true rfl | omega | (dsimp only; omega) | (show _ ≤ 600130; omega) | (show _ ≤ 7301080; omega)) dL_law_0 (fun px hpx hpxA => ?_)
  refine v_dup hc dL_law_3 rfl ?_
  refine v_callIv hc (c_X3_init (wup_s _ _ _) (fun _ => 0) (fun _ => 0) (fun _ => 0) (fun _ => false) (fun _ => false) (fun _ => none) (fun _ => none)) (cwI 0 hc.1.2.2.2.2 gL_law_X3_init rfl rfl rfl (hc.1.2.2.2.2 (.initialized yX3_init.cls) (by decide +kernel)) (hc.1.2.2.2.2 (.methodLink RL 168 yX3_init) (by decide +kernel)) (hc.1.2.2.2.2 (.instanceMethod yX3_init) (by decide +kernel)) rfl (by decide +kernel) ⟨Nat.le_of_ble_eq_true rfl, Nat.le_of_ble_eq_true rfl⟩) rfl rfl (Nat.le_of_ble_eq_true rfl) ⟨(by first | exact Nat.le_of_ble_eq_true rfl | omega | (dsimp only; omega) | (show _ ≤ 600130; omega) | (show _ ≤ 7301080; omega)), (by first | exact Nat.le_of_ble_eq_true rfl | omega | (dsimp only; omega) | (show _ ≤ 600130; omega) | (show _ ≤ 7301080; omega))⟩ dL_law_4 (fun u hp => ?_)
  obtain ⟨pI, pO, pX, hP⟩ := hp
  first | refine v_astore_n hc (i := 1) rfl dL_law_7 (by decide) rfl ?_ | refine v_astore_nN hc (i := 1) rfl dL_law_7 (by decide) rfl ?_
  refine v_bipush hc (v := nI 40) dL_law_8 (by decide) ?_
  refine v_newa hc 40 (t0 := 1) (a0 := (40, .inr (.inl (fun _ => 0)))) rfl rfl (by decide +kernel) (fun _ => rfl) rfl (by decide) (by decide) (by first | exact Nat.le_of_ble_eq_true rfl | omega | (dsimp only; omega) | (show _ ≤ 600130; omega) | (show _ ≤ 7301080; omega)) (by first | exact Nat.le_of_ble_eq_true rfl | omega | (dsimp only; omega) | (show _ ≤ 600130; omega) | (show _ ≤ 7301080; omega)) dL_law_10 (fun ca hca hcaA => ?_)
  first | refine v_astore_n hc (i := 2) rfl dL_law_12 (by decide) rfl ?_ | refine v_astore_nN hc (i := 2) rfl dL_law_12 (by decide) rfl ?_
  refine v_bipush hc (v := nI 40) dL_law_13 (by decide) ?_
  refine v_newa hc 40 (t0 := 0) (a0 := (40, .inl (fun _ => 0))) rfl rfl (by decide +kernel) (fun _ => rfl) rfl (by decide) (by decide) (by first | exact Nat.le_of_ble_eq_true rfl | omega | (dsimp only; omega) | (show _ ≤ 600130; omega) | (show _ ≤ 7301080; omega)) (by first | exact Nat.le_of_ble_eq_true rfl | omega | (dsimp only; omega) | (show _ ≤ 600130; omega) | (show _ ≤ 7301080; omega)) dL_law_15 (fun na hna hnaA => ?_)
  first | refine v_astore_n hc (i := 3) rfl dL_law_17 (by decide) rfl ?_ | refine v_astore_nN hc (i := 3) rfl dL_law_17 (by decide) rfl ?_
  refine v_bipush hc (v := nI 40) dL_law_18 (by decide) ?_
  refine v_newa hc 40 (t0 := 0) (a0 := (40, .inl (fun _ => 0))) rfl rfl (by decide +kernel) (fun _ => rfl) rfl (by decide) (by decide) (by first | exact Nat.le_of_ble_eq_true rfl | omega | (dsimp only; omega) | (show _ ≤ 600130; omega) | (show _ ≤ 7301080; omega)) (by first | exact Nat.le_of_ble_eq_true rfl | omega | (dsimp only; omega) | (show _ ≤ 600130; omega) | (show _ ≤ 7301080; omega)) dL_law_20 (fun sa hsa hsaA => ?_)
  have hn1 : na ≠ ca := fun z => by rw [z, wup_s] at hna; cases hna
  have hn2 : sa ≠ na := fun z => by rw [z, wup_s] at hsa; cases hsa
  have hn3 : sa ≠ ca := fun z => by rw [z, wup_n _ _ (fun y => hn1 y.symm), wup_s] at hsa; cases hsa
  rw [wup_n _ _ hn2, wup_n _ _ hn3] at hsa
  rw [wup_n _ _ hn1] at hna
  refine v_w (show _ = jn (wup (wup (sg ca (aL G 40 (fun _ => 0))) na (aI G 40 (fun _ => 0))) sa (aI G 40 (fun _ => 0))) u by rw [← jn_upl, ← jn_upl, ← wup_sg]) ?_
  have hdQ : dj (wup (wup (sg ca (aL G 40 (fun _ => 0))) na (aI G 40 (fun _ => 0))) sa (aI G 40 (fun _ => 0))) u := fun a e he => by
    rw [wup_n _ _ (fun z => by rw [z, hsa] at he; cases he), wup_n _ _ (fun z => by rw [z, hna] at he; cases he)]
    exact sg_n (fun z => by rw [z, hca] at he; cases he)
  have hLW : LWd G (jn (wup (wup (sg ca (aL G 40 (fun _ => 0))) na (aI G 40 (fun _ => 0))) sa (aI G 40 (fun _ => 0))) u) px ca na sa 0 := ⟨_, u, rfl, hdQ, pI, pO, pX, _, _, _, _, _, _, _, fun _ => none, [], [], _, _, _, _, _, hP, fun i hiQ => absurd hiQ (Nat.not_lt_zero _), fun i j f hiQ => absurd hiQ (Nat.not_lt_zero _), ⟨⟨fun i hiQ => absurd hiQ (Nat.not_lt_zero _), fun i hiQ => absurd hiQ (Nat.not_lt_zero _), fun i hiQ => absurd hiQ (Nat.not_lt_zero _), List.nodup_nil, fun i => ⟨fun z => (nomatch z), fun z => absurd z.1 (Nat.not_lt_zero _)⟩, srtd.nil (fun i z => absurd z.1 (Nat.not_lt_zero _))⟩, fun i hiQ => absurd hiQ (Nat.not_lt_zero _), fun i hiQ => absurd hiQ (Nat.not_lt_zero _), fun i hiQ => absurd hiQ (Nat.not_lt_zero _), fun i hiQ => absurd hiQ (Nat.not_lt_zero _)⟩, by rw [wup_n _ _ (Ne.symm hn3), wup_n _ _ (Ne.symm hn1), sg_s], by rw [wup_n _ _ (Ne.symm hn2), wup_s], wup_s _ _ _, ⟨Ne.symm hn1, Ne.symm hn3, Ne.symm hn2⟩, fun i hiQ => absurd hiQ (Nat.not_lt_zero _), fun i hiQ => absurd hiQ (Nat.not_lt_zero _), fun i hiQ => absurd hiQ (Nat.not_lt_zero _)⟩
  obtain ⟨v, u9, hwe, hd9, qI, qO, qX, ia, nm, ctt, lv, lo, fa, fb, fm, O, X, cp, ru, fc, fn, fs, hP9, hF9, hJ9, hS9, hz⟩ := id hLW
  have hP0 := hP9.le (wle_r hd9)
  have hF0 := hF9.le (wle_r hd9)
  rw [← hwe] at hP0 hF0
  generalize jn (wup (wup (sg ca (aL G 40 (fun _ => 0))) na (aI G 40 (fun _ => 0))) sa (aI G 40 (fun _ => 0))) u = w at hP0 hF0 hLW ⊢
  have hO0 : O = [] := by
    cases hO : O with
    | nil => rfl
    | cons a tl => exact absurd ((hS9.1.2.2.2.2.1 a).mp (by rw [hO]; exact List.mem_cons_self)).1 (Nat.not_lt_zero _)
  first | refine v_astore hc dL_law_22 (by decide) rfl ?_ | refine v_astoreN hc dL_law_22 (by decide) rfl ?_
  refine v_iconst hc (v := nI 0) dL_law_24 (by decide) ?_
  refine v_istore hc dL_law_25 (by decide) rfl ?_
  first | refine v_aload_n hc (i := 1) rfl dL_law_27 rfl ?_ | refine v_aload_nN hc (i := 1) rfl dL_law_27 rfl ?_
  refine v_callVi hc (c_X3_objects hP0) (cwV 0 hc.1.2.2.2.2 gL_law_X3_objects rfl rfl rfl (by decide +kernel) ⟨Nat.le_of_ble_eq_true rfl, Nat.le_of_ble_eq_true rfl⟩) (hP0.1) rfl rfl rfl (Nat.le_of_ble_eq_true rfl) ⟨(by first | exact Nat.le_of_ble_eq_true rfl | omega | (dsimp only; omega) | (show _ ≤ 600130; omega) | (show _ ≤ 7301080; omega)), (by first | exact Nat.le_of_ble_eq_true rfl | omega | (dsimp only; omega) | (show _ ≤ 600130; omega) | (show _ ≤ 7301080; omega))⟩ dL_law_28 (fun r w' h => ?_)
  obtain ⟨rfl, rfl⟩ := h
  refine v_if_ne hc (tgt := 61) dL_law_31 (by decide) (fun hb => False.elim (absurd hb (by decide))) (fun _ => ?_)
  first | refine v_aload_n hc (i := 1) rfl dL_law_34 rfl ?_ | refine v_aload_nN hc (i := 1) rfl dL_law_34 rfl ?_
  refine v_callVi hc (c_X3_forms hP0) (cwV 0 hc.1.2.2.2.2 gL_law_X3_forms rfl rfl rfl (by decide +kernel) ⟨Nat.le_of_ble_eq_true rfl, Nat.le_of_ble_eq_true rfl⟩) (hP0.1) rfl rfl rfl (Nat.le_of_ble_eq_true rfl) ⟨(by first | exact Nat.le_of_ble_eq_true rfl | omega | (dsimp only; omega) | (show _ ≤ 600130; omega) | (show _ ≤ 7301080; omega)), (by first | exact Nat.le_of_ble_eq_true rfl | omega | (dsimp only; omega) | (show _ ≤ 600130; omega) | (show _ ≤ 7301080; omega))⟩ dL_law_35 (fun r w' h => ?_)
  obtain ⟨rfl, rfl⟩ := h
  refine v_ti (show _ = nI 0 by rw [hO0]; rfl) ?_
  refine v_if_ne hc (tgt := 61) dL_law_38 (by decide) (fun hb => False.elim (absurd hb (by decide))) (fun _ => ?_)
  first | refine v_aload_n hc (i := 1) rfl dL_law_41 rfl ?_ | refine v_aload_nN hc (i := 1) rfl dL_law_41 rfl ?_
  refine v_iconst hc (v := nI 0) dL_law_42 (by decide) ?_
  refine v_callSi hc (c_L_isRefused hl hP0 hF0 hJ9 hS9.1 (x := 0) (by decide)) (va_cwS 2 hc.1.2.2.2.2 gL_law_L_isRefused rfl rfl rfl (by decide +kernel) ⟨Nat.le_of_ble_eq_true rfl, Nat.le_of_ble_eq_true rfl⟩) rfl rfl (Nat.le_of_ble_eq_true rfl) ⟨(by first | exact Nat.le_of_ble_eq_true rfl | omega | (dsimp only; omega) | (show _ ≤ 600130; omega) | (show _ ≤ 7301080; omega)), (by first | exact Nat.le_of_ble_eq_true rfl | omega | (dsimp only; omega) | (show _ ≤ 600130; omega) | (show _ ≤ 7301080; omega))⟩ dL_law_43 (fun r w' h => ?_)
  obtain ⟨rfl, rfl⟩ := h
  refine v_ifB_eq hc (tgt := 61) dL_law_46 (by decide) (fun hb => False.elim (Bool.false_ne_true hb.symm)) (fun _ => ?_)
  first | refine v_aload_n hc (i := 1) rfl dL_law_49 rfl ?_ | refine v_aload_nN hc (i := 1) rfl dL_law_49 rfl ?_
  refine v_iconst hc (v := nI 1) dL_law_50 (by decide) ?_
  refine v_callSi hc (c_L_isRefused hl hP0 hF0 hJ9 hS9.1 (x := 1) (by decide)) (va_cwS 2 hc.1.2.2.2.2 gL_law_L_isRefused rfl rfl rfl (by decide +kernel) ⟨Nat.le_of_ble_eq_true rfl, Nat.le_of_ble_eq_true rfl⟩) rfl rfl (Nat.le_of_ble_eq_true rfl) ⟨(by first | exact Nat.le_of_ble_eq_true rfl | omega | (dsimp only; omega) | (show _ ≤ 600130; omega) | (show _ ≤ 7301080; omega)), (by first | exact Nat.le_of_ble_eq_true rfl | omega | (dsimp only; omega) | (show _ ≤ 600130; omega) | (show _ ≤ 7301080; omega))⟩ dL_law_51 (fun r w' h => ?_)
  obtain ⟨rfl, rfl⟩ := h
  refine v_ifB_eq hc (tgt := 61) dL_law_54 (by decide) (fun hb => False.elim (Bool.false_ne_true hb.symm)) (fun _ => ?_)
  refine v_iconst hc (v := nI 1) dL_law_57 (by decide) ?_
  refine v_goto hc (tgt := 62) dL_law_58 (by decide) ?_
  refine v_istore hc dL_law_62 (by decide) rfl ?_
  refine v_iconst hc (v := nI 0) dL_law_64 (by decide) ?_
  refine v_istore hc dL_law_65 (by decide) rfl ?_
  refine v_widen (k' := 4500) (n' := 45000) (Nat.le_of_ble_eq_true rfl) (Nat.le_of_ble_eq_true rfl) ?_
  exact v_loc _ rfl (law_loop hl hc hr hX (by omega) hLW)

