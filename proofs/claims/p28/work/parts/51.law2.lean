/-! ===== the law's branches, its loop ===== -/
section LAWS2
variable {p : Program} {l : Launch} {e : Env} {s : State} {m : MethodId} {below : List Frame} {meth : Method} {c : Code} {G : cG} {w : wd} {b px ca na sa M t x y k n N : Nat} {xs : Nat → Int32}
set_option maxRecDepth 100000 in
set_option maxHeartbeats 8000000 in
theorem k_delete (hl : l.stackTraces = false) (hc : cxt p s m #[Value.ref b] meth c cL_law 18 RL wsL_law G (lA s)) (hL : LWd G w px ca na sa M) (hk : k ≤ 560000) (hn : n ≤ 6000000) {ob : Nat} (hob : ob < M) (ct : CT p l e s m b below meth c G px ca na sa t x y (k + 1500) (n + 18000)) : LV p l e s m b below meth c G w k n 348 (lZ b px ca na sa M t x y ++ [(11, some (.int (nI ob)))]) [] := by
  obtain ⟨v, u, rfl, hdQ, pI, pO, pX, ia, nm, ctt, lv, lo, fa, fb, fm, O, X, cp, ru, fc, fn, fs, hP, hF, hJ, hSQ, hca, hna, hsa, hne, hfc, hfn, hfs⟩ := hL
  have hP1 := hP.le (wle_r hdQ)
  have hF1 := hF.le (wle_r hdQ)
  have hMQ := hP.n40

  first | refine v_aload_n hc (i := 1) rfl dL_law_348 rfl ?_ | refine v_aload_nN hc (i := 1) rfl dL_law_348 rfl ?_
  refine v_iload hc dL_law_349 rfl ?_
  refine v_callVi hc (q_isLive hl hP1 hob) (cwV 1 hc.1.2.2.2.2 gL_law_X3_isLive rfl rfl rfl (by decide +kernel) ⟨Nat.le_of_ble_eq_true rfl, Nat.le_of_ble_eq_true rfl⟩) (hP1.1) rfl rfl rfl (Nat.le_of_ble_eq_true rfl) ⟨(by first | exact Nat.le_of_ble_eq_true rfl | omega | (dsimp only; omega) | (show _ ≤ 600130; omega) | (show _ ≤ 7301080; omega)), (by first | exact Nat.le_of_ble_eq_true rfl | omega | (dsimp only; omega) | (show _ ≤ 600130; omega) | (show _ ≤ 7301080; omega))⟩ dL_law_351 (fun r w' h => ?_)
  obtain ⟨rfl, rfl⟩ := h
  refine v_istore hc dL_law_354 (by decide) rfl ?_
  first | refine v_aload_n hc (i := 1) rfl dL_law_356 rfl ?_ | refine v_aload_nN hc (i := 1) rfl dL_law_356 rfl ?_
  refine v_callVi hc (c_X3_cost hP1 hF1) (cwV 0 hc.1.2.2.2.2 gL_law_X3_cost rfl rfl rfl (by decide +kernel) ⟨Nat.le_of_ble_eq_true rfl, Nat.le_of_ble_eq_true rfl⟩) (hP1.1) rfl rfl rfl (Nat.le_of_ble_eq_true rfl) ⟨(by first | exact Nat.le_of_ble_eq_true rfl | omega | (dsimp only; omega) | (show _ ≤ 600130; omega) | (show _ ≤ 7301080; omega)), (by first | exact Nat.le_of_ble_eq_true rfl | omega | (dsimp only; omega) | (show _ ≤ 600130; omega) | (show _ ≤ 7301080; omega))⟩ dL_law_357 (fun r w' h => ?_)
  obtain ⟨rfl, rfl⟩ := h
  refine v_istore hc dL_law_360 (by decide) rfl ?_
  first | refine v_aload_n hc (i := 1) rfl dL_law_362 rfl ?_ | refine v_aload_nN hc (i := 1) rfl dL_law_362 rfl ?_
  refine v_iconst hc (v := nI 0) dL_law_363 (by decide) ?_
  refine v_iload hc dL_law_364 rfl ?_
  refine v_cutS (σ := wd × Int32) (fun a => dj v a.1 ∧ PC G a.1 px pI pO pX M ia nm ctt (va_up lv ob false) (va_up lo ob false) fa fb O X cp ru ∧ FW a.1 M ia fa fm ∧ a.2 = cond (lv ob) (nI (sumN M (fun j => b1 (va_up lv ob false j)))) (-103)) (fun a => jn v a.1) (fun _ => k + 4) (fun _ => n + 24) 371 (fun a => lZ b px ca na sa M t x y ++ [(11, some (.int (nI ob))), (12, some (.int (bI (lv ob)))), (13, some (.int (nI (sumL (cst fm) O)))), (14, some (.int a.2))]) ?_ (fun KQ => ?_)
  · rintro ⟨u2, told⟩ ⟨hd2, hP2, hF2, htold⟩
    dsimp only at hd2 hP2 hF2 htold ⊢
    subst htold
    have hsv2 : jn v u2 sa = some (aI G 40 fs) := jn_l hsa
    refine v_iconst hc (v := nI 0) dL_law_371 (by decide) ?_
    refine v_istore hc dL_law_372 (by decide) rfl ?_
    first | refine v_aload hc dL_law_374 rfl ?_ | refine v_aloadN hc dL_law_374 rfl ?_
    refine v_iload hc dL_law_376 rfl ?_
    first | refine v_aload hc dL_law_378 rfl ?_ | refine v_aloadN hc dL_law_378 rfl ?_
    refine v_iload hc dL_law_380 rfl ?_
    refine v_iald hc ob dL_law_382 hsv2 rfl (by omega) (by decide) ?_
    rw [hfs ob hob]
    refine v_iconst hc (v := nI 4) dL_law_383 (by decide) ?_
    refine v_idiv hc (by decide) dL_law_384 ?_
    refine v_ti e_div4 ?_
    refine v_iconst hc (v := nI 4) dL_law_385 (by decide) ?_
    refine v_imul hc dL_law_386 ?_
    refine v_ti (e_mul4 (a := false) (b := false)) ?_
    refine v_iast hc ob dL_law_387 hsv2 rfl (by omega) (by decide) ?_
    refine v_w jn_upl ?_
    have hd3 := dj_up (e := aI G 40 (va_up fs ob (nI (enc false false (dmg fm ob))))) hd2 hsa
    have hP3 := hP2.le (wle_r hd3)
    have hF3 := hF2.le (wle_r hd3)
    have hfin : ∀ i, i < M → va_up fs ob (nI (enc false false (dmg fm ob))) i = nI (enc (va_up lv ob false i) (va_up lo ob false i) (dmg fm i)) := fun i hiQ => by
      by_cases hio : i = ob
      · subst hio; rw [va_up_self, va_up_self, va_up_self]
      · rw [up_n hio, up_n hio, up_n hio]; exact hfs i hiQ
    have hsl : ∀ j, j ≤ M → sumN j (fun i => b1 (va_up lv ob false i)) ≤ 40 := fun j hj => Nat.le_trans (sumN_b1_le _ j) (by omega)
    refine v_iconst hc (v := nI 0) dL_law_388 (by decide) ?_
    refine v_istore hc dL_law_389 (by decide) rfl ?_
    refine v_loop (σ := Nat) (fun j => j ≤ M) (fun j => M - j) (fun _ => jn (wup v sa (aI G 40 (va_up fs ob (nI (enc false false (dmg fm ob)))))) u2) (fun _ => k + 4) (fun _ => n + 24) (fun j => lZ b px ca na sa M t x y ++ [(11, some (.int (nI ob))), (12, some (.int (bI (lv ob)))), (13, some (.int (nI (sumL (cst fm) O)))), (14, some (.int (cond (lv ob) (nI (sumN M (fun j => b1 (va_up lv ob false j)))) (-103)))), (15, some (.int (nI (sumN j (fun i => b1 (va_up lv ob false i)))))), (16, some (.int (nI j)))]) 0 rfl (Nat.zero_le _) ?_
    intro j hj0 ihQ
    have hslj := hsl j hj0
    refine v_iload hc dL_law_391 rfl ?_
    refine v_iload hc dL_law_393 rfl ?_
    refine v_icmp_geN hc (tgt := 416) dL_law_395 (by decide) (by omega) (by omega) (fun hj => ?_) (fun hj => ?_)
    · have e : j = M := by omega
      subst e
      have rest : LV p l e s m b below meth c G (jn (wup v sa (aI G 40 (va_up fs ob (nI (enc false false (dmg fm ob)))))) u2) (k + 4) (n + 24) 433 (lZ b px ca na sa j t x y ++ [(11, some (.int (nI ob))), (13, some (.int (nI (sumL (cst fm) O))))]) [] := by
        first | refine v_aload_n hc (i := 1) rfl dL_law_433 rfl ?_ | refine v_aload_nN hc (i := 1) rfl dL_law_433 rfl ?_
        refine v_callVi hc (c_X3_cost hP3 hF3) (cwV 0 hc.1.2.2.2.2 gL_law_X3_cost rfl rfl rfl (by decide +kernel) ⟨Nat.le_of_ble_eq_true rfl, Nat.le_of_ble_eq_true rfl⟩) (hP3.1) rfl rfl rfl (Nat.le_of_ble_eq_true rfl) ⟨(by first | exact Nat.le_of_ble_eq_true rfl | omega | (dsimp only; omega) | (show _ ≤ 600130; omega) | (show _ ≤ 7301080; omega)), (by first | exact Nat.le_of_ble_eq_true rfl | omega | (dsimp only; omega) | (show _ ≤ 600130; omega) | (show _ ≤ 7301080; omega))⟩ dL_law_434 (fun r w' h => ?_)
        obtain ⟨rfl, rfl⟩ := h
        refine v_iload hc dL_law_437 rfl ?_
        refine v_icmp_ne hc (tgt := 455) dL_law_439 (by decide) (fun hb => False.elim (hb rfl)) (fun _ => ?_)
        first | refine v_aload_n hc (i := 1) rfl dL_law_442 rfl ?_ | refine v_aload_nN hc (i := 1) rfl dL_law_442 rfl ?_
        refine v_iload hc dL_law_443 rfl ?_
        refine v_callVi hc (q_canRead hl hP3 hF3 hSQ.1.2.1 hob) (cwV 1 hc.1.2.2.2.2 gL_law_X3_canRead rfl rfl rfl (by decide +kernel) ⟨Nat.le_of_ble_eq_true rfl, Nat.le_of_ble_eq_true rfl⟩) (hP3.1) rfl rfl rfl (Nat.le_of_ble_eq_true rfl) ⟨(by first | exact Nat.le_of_ble_eq_true rfl | omega | (dsimp only; omega) | (show _ ≤ 600130; omega) | (show _ ≤ 7301080; omega)), (by first | exact Nat.le_of_ble_eq_true rfl | omega | (dsimp only; omega) | (show _ ≤ 600130; omega) | (show _ ≤ 7301080; omega))⟩ dL_law_445 (fun r w' h => ?_)
        obtain ⟨rfl, rfl⟩ := h
        rw [show rdb (va_up lv ob false) (va_up lo ob false) fm ob = false by unfold rdb; rw [va_up_self]; rfl]
        refine v_ifB_ne hc (tgt := 455) dL_law_448 (by decide) (fun hb => False.elim (Bool.false_ne_true hb)) (fun _ => ?_)
        refine v_iconst hc (v := nI 1) dL_law_451 (by decide) ?_
        refine v_goto hc (tgt := 456) dL_law_452 (by decide) ?_
        refine v_istore hc dL_law_456 (by decide) rfl ?_
        refine v_goto hc (tgt := 543) dL_law_458 (by decide) ?_
        have KKQ := ct j _ ⟨_, u2, rfl, hd3, pI, pO, pX, ia, nm, ctt, _, _, fa, fb, fm, O, X, cp, ru, fc, fn, _, hP2, hF2, hJ, hSQ.del ob, by rw [wup_n _ _ hne.2.1]; exact hca, by rw [wup_n _ _ hne.2.2]; exact hna, wup_s _ _ _, hne, hfc, hfn, hfin⟩
        exact v_widen (by first | omega | exact Nat.le_of_ble_eq_true rfl | (dsimp only; omega)) (by first | omega | exact Nat.le_of_ble_eq_true rfl | (dsimp only; omega)) (v_loc _ rfl KKQ)
      refine v_iload hc dL_law_416 rfl ?_
      refine v_iload hc dL_law_418 rfl ?_
      cases hlv : lv ob with
      | true =>
        refine v_ifB_eq hc (tgt := 428) dL_law_420 (by decide) (fun hb => False.elim (Bool.false_ne_true hb.symm)) (fun _ => ?_)
        refine v_iload hc dL_law_423 rfl ?_
        refine v_goto hc (tgt := 430) dL_law_425 (by decide) ?_
        refine v_icmp_ne hc (tgt := 455) dL_law_430 (by decide) (fun hb => False.elim (hb rfl)) (fun _ => ?_)
        exact v_widen (by first | omega | exact Nat.le_of_ble_eq_true rfl | (dsimp only; omega)) (by first | omega | exact Nat.le_of_ble_eq_true rfl | (dsimp only; omega)) (v_loc _ rfl rest)
      | false =>
        refine v_ifB_eq hc (tgt := 428) dL_law_420 (by decide) (fun _ => ?_) (fun hb => False.elim (Bool.false_ne_true hb))
        refine v_bipush hc (v := (-103)) dL_law_428 (by decide) ?_
        refine v_icmp_ne hc (tgt := 455) dL_law_430 (by decide) (fun hb => False.elim (hb rfl)) (fun _ => ?_)
        exact v_widen (by first | omega | exact Nat.le_of_ble_eq_true rfl | (dsimp only; omega)) (by first | omega | exact Nat.le_of_ble_eq_true rfl | (dsimp only; omega)) (v_loc _ rfl rest)
    · refine v_iload hc dL_law_398 rfl ?_
      first | refine v_aload hc dL_law_400 rfl ?_ | refine v_aloadN hc dL_law_400 rfl ?_
      refine v_iload hc dL_law_402 rfl ?_
      refine v_iald hc j dL_law_404 (jn_l (wup_s _ _ _)) rfl (by omega) (by decide) ?_
      rw [hfin j hj]
      refine v_iconst hc (v := nI 2) dL_law_405 (by decide) ?_
      refine v_irem hc (by decide) dL_law_406 ?_
      refine v_ti e_irem ?_
      first | refine v_iaddN hc dL_law_407 ?_ | refine v_iadd hc dL_law_407 ?_
      refine v_istore hc dL_law_408 (by decide) rfl ?_
      first | refine v_iinc1 hc dL_law_410 rfl (by decide) rfl ?_ | refine v_iinc hc dL_law_410 rfl rfl (by decide) rfl ?_
      refine v_goto hc (tgt := 391) dL_law_413 (by decide) ?_
      exact ihQ (j + 1) _ rfl hj (by omega)
  · cases hlv : lv ob with
    | true =>
      refine v_frSWi hc hdQ (q_delete hl hP hF hob hlv) (vx_cwSW 3 hc.1.2.2.2.2 gL_law_L_of rfl rfl rfl (by decide +kernel) ⟨Nat.le_of_ble_eq_true rfl, Nat.le_of_ble_eq_true rfl⟩) rfl rfl (Nat.le_of_ble_eq_true rfl) ⟨(by first | exact Nat.le_of_ble_eq_true rfl | omega | (dsimp only; omega) | (show _ ≤ 600130; omega) | (show _ ≤ 7301080; omega)), (by first | exact Nat.le_of_ble_eq_true rfl | omega | (dsimp only; omega) | (show _ ≤ 600130; omega) | (show _ ≤ 7301080; omega))⟩ dL_law_366 (fun r u2 h hd2 => ?_)
      obtain ⟨hP2, hF2, rfl⟩ := h
      refine v_istore hc dL_law_369 (by decide) rfl ?_
      have KKQ := KQ (u2, nI (sumN M (fun j => b1 (va_up lv ob false j)))) ⟨hd2, hP2, hF2, by rw [hlv]; rfl⟩
      rw [hlv] at KKQ
      exact v_widen (by first | omega | exact Nat.le_of_ble_eq_true rfl | (dsimp only; omega)) (by first | omega | exact Nat.le_of_ble_eq_true rfl | (dsimp only; omega)) (v_loc _ rfl KKQ)
    | false =>
      refine v_callSWi hc (q_dead hl hP1 hF1 hob hlv) (vx_cwSW 3 hc.1.2.2.2.2 gL_law_L_of rfl rfl rfl (by decide +kernel) ⟨Nat.le_of_ble_eq_true rfl, Nat.le_of_ble_eq_true rfl⟩) rfl rfl (Nat.le_of_ble_eq_true rfl) ⟨(by first | exact Nat.le_of_ble_eq_true rfl | omega | (dsimp only; omega) | (show _ ≤ 600130; omega) | (show _ ≤ 7301080; omega)), (by first | exact Nat.le_of_ble_eq_true rfl | omega | (dsimp only; omega) | (show _ ≤ 600130; omega) | (show _ ≤ 7301080; omega))⟩ dL_law_366 (fun r w' h => ?_)
      obtain ⟨rfl, rfl⟩ := h
      refine v_istore hc dL_law_369 (by decide) rfl ?_
      have hlo : lo ob = false := by
        cases h9 : lo ob with
        | false => rfl
        | true => rw [hSQ.2.1 ob hob h9] at hlv; cases hlv
      have KKQ := KQ (u, -103) ⟨hdQ, by rw [va_up_id hlv, va_up_id hlo]; exact hP, hF, by rw [hlv]; rfl⟩
      rw [hlv] at KKQ
      exact v_widen (by first | omega | exact Nat.le_of_ble_eq_true rfl | (dsimp only; omega)) (by first | omega | exact Nat.le_of_ble_eq_true rfl | (dsimp only; omega)) (v_loc _ rfl KKQ)
set_option maxRecDepth 100000 in
set_option maxHeartbeats 8000000 in
theorem k_packs (hl : l.stackTraces = false) (hc : cxt p s m #[Value.ref b] meth c cL_law 18 RL wsL_law G (lA s)) (hL : LWd G w px ca na sa M) (hy : y < 2 ^ 27) (hk : k ≤ 560000) (hn : n ≤ 6000000) (ct : CT p l e s m b below meth c G px ca na sa t x y (k + 1500) (n + 18000)) : LV p l e s m b below meth c G w k n 468 (lZ b px ca na sa M t x y) [] := by
  obtain ⟨v, u, rfl, hdQ, pI, pO, pX, ia, nm, ctt, lv, lo, fa, fb, fm, O, X, cp, ru, fc, fn, fs, hP, hF, hJ, hSQ, hca, hna, hsa, hne, hfc, hfn, hfs⟩ := hL

  first | refine v_aload_n hc (i := 1) rfl dL_law_468 rfl ?_ | refine v_aload_nN hc (i := 1) rfl dL_law_468 rfl ?_
  first | refine v_aload_n hc (i := 2) rfl dL_law_469 rfl ?_ | refine v_aload_nN hc (i := 2) rfl dL_law_469 rfl ?_
  first | refine v_aload hc dL_law_470 rfl ?_ | refine v_aloadN hc dL_law_470 rfl ?_
  refine v_iconst hc (v := nI 1) dL_law_472 (by decide) ?_
  refine v_iload hc dL_law_473 rfl ?_
  refine v_bipush hc (v := nI 40) dL_law_475 (by decide) ?_
  refine v_idiv hc (by decide) dL_law_477 ?_
  refine v_ti (pk_div (by omega) (by decide) (by decide)) ?_
  refine v_bipush hc (v := nI 8) dL_law_478 (by decide) ?_
  refine v_irem hc (by decide) dL_law_480 ?_
  refine v_ti (pk_rem (by omega) (by decide) (by decide)) ?_
  first | refine v_iaddN hc dL_law_481 ?_ | refine v_iadd hc dL_law_481 ?_
  refine v_iload hc dL_law_482 rfl ?_
  refine v_sipush hc (v := nI 320) dL_law_484 (by decide) ?_
  refine v_idiv hc (by decide) dL_law_487 ?_
  refine v_ti (pk_div (by omega) (by decide) (by decide)) ?_
  refine v_bipush hc (v := nI 7) dL_law_488 (by decide) ?_
  refine v_irem hc (by decide) dL_law_490 ?_
  refine v_ti (pk_rem (by omega) (by decide) (by decide)) ?_
  refine v_iload hc dL_law_491 rfl ?_
  refine v_iconst hc (v := nI 2) dL_law_493 (by decide) ?_
  refine v_irem hc (by decide) dL_law_494 ?_
  refine v_ti (pk_rem (by omega) (by decide) (by decide)) ?_
  refine v_cutT (σ := Bool) (fun _ => True) k n 503 (fun _ => lZ b px ca na sa M t x y) (fun rs => [.int (bI rs), .int (nI (y / 320 % 7)), .int (nI (1 + y / 40 % 8)), .ref sa, .ref ca, .ref px]) ?_ (fun KQ => ?_)
  · intro rs _
    refine v_callSi hc (c_L_isPacked hl rfl hdQ hP hF hSQ hca hfc hsa hfs (W := 1 + y / 40 % 8) (bd := y / 320 % 7) (by omega) (by omega) (by omega)) (va_cwS 6 hc.1.2.2.2.2 gL_law_L_isPacked rfl rfl rfl (by decide +kernel) ⟨Nat.le_of_ble_eq_true rfl, Nat.le_of_ble_eq_true rfl⟩) rfl rfl (Nat.le_of_ble_eq_true rfl) ⟨(by first | exact Nat.le_of_ble_eq_true rfl | omega | (dsimp only; omega) | (show _ ≤ 600130; omega) | (show _ ≤ 7301080; omega)), (by first | exact Nat.le_of_ble_eq_true rfl | omega | (dsimp only; omega) | (show _ ≤ 600130; omega) | (show _ ≤ 7301080; omega))⟩ dL_law_503 (fun r w' h => ?_)
    obtain ⟨⟨u2, fs2, fa2, fb2, fm2, O2, X2, cp2, ru2, hd2, rfl, hP2, hF2, hJ2, hS2, hfs2⟩, rfl⟩ := h
    refine v_istore hc dL_law_506 (by decide) rfl ?_
    refine v_goto hc (tgt := 543) dL_law_508 (by decide) ?_
    have KKQ := ct M _ ⟨_, u2, rfl, hd2, pI, pO, pX, ia, nm, ctt, lv, lo, fa2, fb2, fm2, O2, X2, cp2, ru2, fc, fn, fs2, hP2, hF2, hJ2, hS2, by rw [wup_n _ _ hne.2.1]; exact hca, by rw [wup_n _ _ hne.2.2]; exact hna, wup_s _ _ _, hne, hfc, hfn, hfs2⟩
    exact v_widen (by first | omega | exact Nat.le_of_ble_eq_true rfl | (dsimp only; omega)) (by first | omega | exact Nat.le_of_ble_eq_true rfl | (dsimp only; omega)) (v_loc _ rfl KKQ)
  · refine v_if_neN hc (tgt := 502) dL_law_495 (by decide) (by omega) (fun h2 => ?_) (fun h2 => ?_)
    · refine v_iconst hc (v := nI 0) dL_law_502 (by decide) ?_
      have KKQ := KQ false trivial
      exact v_widen (by first | omega | exact Nat.le_of_ble_eq_true rfl | (dsimp only; omega)) (by first | omega | exact Nat.le_of_ble_eq_true rfl | (dsimp only; omega)) (v_loc _ rfl KKQ)
    · refine v_iconst hc (v := nI 1) dL_law_498 (by decide) ?_
      refine v_goto hc (tgt := 503) dL_law_499 (by decide) ?_
      have KKQ := KQ true trivial
      exact v_widen (by first | omega | exact Nat.le_of_ble_eq_true rfl | (dsimp only; omega)) (by first | omega | exact Nat.le_of_ble_eq_true rfl | (dsimp only; omega)) (v_loc _ rfl KKQ)
set_option maxRecDepth 100000 in
set_option maxHeartbeats 8000000 in
theorem k_prunes (hl : l.stackTraces = false) (hc : cxt p s m #[Value.ref b] meth c cL_law 18 RL wsL_law G (lA s)) (hL : LWd G w px ca na sa M) (hk : k ≤ 560000) (hn : n ≤ 6000000) (ct : CT p l e s m b below meth c G px ca na sa t x y (k + 1500) (n + 18000)) : LV p l e s m b below meth c G w k n 518 (lZ b px ca na sa M t x y) [] := by
  obtain ⟨v, u, rfl, hdQ, pI, pO, pX, ia, nm, ctt, lv, lo, fa, fb, fm, O, X, cp, ru, fc, fn, fs, hP, hF, hJ, hSQ, hca, hna, hsa, hne, hfc, hfn, hfs⟩ := hL

  first | refine v_aload_n hc (i := 1) rfl dL_law_518 rfl ?_ | refine v_aload_nN hc (i := 1) rfl dL_law_518 rfl ?_
  first | refine v_aload hc dL_law_519 rfl ?_ | refine v_aloadN hc dL_law_519 rfl ?_
  refine v_iload hc dL_law_521 rfl ?_
  refine v_callSi hc (c_L_isPruned hl rfl hdQ hP hF hSQ hsa hfs) (va_cwS 3 hc.1.2.2.2.2 gL_law_L_isPruned rfl rfl rfl (by decide +kernel) ⟨Nat.le_of_ble_eq_true rfl, Nat.le_of_ble_eq_true rfl⟩) rfl rfl (Nat.le_of_ble_eq_true rfl) ⟨(by first | exact Nat.le_of_ble_eq_true rfl | omega | (dsimp only; omega) | (show _ ≤ 600130; omega) | (show _ ≤ 7301080; omega)), (by first | exact Nat.le_of_ble_eq_true rfl | omega | (dsimp only; omega) | (show _ ≤ 600130; omega) | (show _ ≤ 7301080; omega))⟩ dL_law_523 (fun r w' h => ?_)
  obtain ⟨⟨u2, fs2, hd2, rfl, hP2, hF2, hfs2⟩, rfl⟩ := h
  refine v_istore hc dL_law_526 (by decide) rfl ?_
  refine v_goto hc (tgt := 543) dL_law_528 (by decide) ?_
  have KKQ := ct M _ ⟨_, u2, rfl, hd2, pI, pO, pX, ia, nm, ctt, _, _, fa, fb, fm, O, X, cp, ru, fc, fn, fs2, hP2, hF2, hJ, hSQ.pru, by rw [wup_n _ _ hne.2.1]; exact hca, by rw [wup_n _ _ hne.2.2]; exact hna, wup_s _ _ _, hne, hfc, hfn, hfs2⟩
  exact v_widen (by first | omega | exact Nat.le_of_ble_eq_true rfl | (dsimp only; omega)) (by first | omega | exact Nat.le_of_ble_eq_true rfl | (dsimp only; omega)) (v_loc _ rfl KKQ)
set_option maxRecDepth 100000 in
set_option maxHeartbeats 8000000 in
theorem k_damages (hl : l.stackTraces = false) (hc : cxt p s m #[Value.ref b] meth c cL_law 18 RL wsL_law G (lA s)) (hL : LWd G w px ca na sa M) (hk : k ≤ 560000) (hn : n ≤ 6000000) {ob : Nat} (hob : ob < M) (ct : CT p l e s m b below meth c G px ca na sa t x y (k + 1500) (n + 18000)) : LV p l e s m b below meth c G w k n 531 (lZ b px ca na sa M t x y ++ [(11, some (.int (nI ob)))]) [] := by
  obtain ⟨v, u, rfl, hdQ, pI, pO, pX, ia, nm, ctt, lv, lo, fa, fb, fm, O, X, cp, ru, fc, fn, fs, hP, hF, hJ, hSQ, hca, hna, hsa, hne, hfc, hfn, hfs⟩ := hL

  first | refine v_aload_n hc (i := 1) rfl dL_law_531 rfl ?_ | refine v_aload_nN hc (i := 1) rfl dL_law_531 rfl ?_
  first | refine v_aload hc dL_law_532 rfl ?_ | refine v_aloadN hc dL_law_532 rfl ?_
  refine v_iload hc dL_law_534 rfl ?_
  refine v_iload hc dL_law_536 rfl ?_
  refine v_callSi hc (c_L_isDamaged hl rfl hdQ hP hF hJ hSQ hsa hfs hob) (va_cwS 4 hc.1.2.2.2.2 gL_law_L_isDamaged rfl rfl rfl (by decide +kernel) ⟨Nat.le_of_ble_eq_true rfl, Nat.le_of_ble_eq_true rfl⟩) rfl rfl (Nat.le_of_ble_eq_true rfl) ⟨(by first | exact Nat.le_of_ble_eq_true rfl | omega | (dsimp only; omega) | (show _ ≤ 600130; omega) | (show _ ≤ 7301080; omega)), (by first | exact Nat.le_of_ble_eq_true rfl | omega | (dsimp only; omega) | (show _ ≤ 600130; omega) | (show _ ≤ 7301080; omega))⟩ dL_law_538 (fun r w' h => ?_)
  obtain ⟨⟨u2, fs2, fm2, hd2, rfl, hP2, hF2, hS2, hfs2⟩, rfl⟩ := h
  refine v_istore hc dL_law_541 (by decide) rfl ?_
  have KKQ := ct M _ ⟨_, u2, rfl, hd2, pI, pO, pX, ia, nm, ctt, lv, lo, fa, fb, fm2, O, X, cp, ru, fc, fn, fs2, hP2, hF2, hJ, hS2, by rw [wup_n _ _ hne.2.1]; exact hca, by rw [wup_n _ _ hne.2.2]; exact hna, wup_s _ _ _, hne, hfc, hfn, hfs2⟩
  exact v_widen (by first | omega | exact Nat.le_of_ble_eq_true rfl | (dsimp only; omega)) (by first | omega | exact Nat.le_of_ble_eq_true rfl | (dsimp only; omega)) (v_loc _ rfl KKQ)
set_option maxRecDepth 100000 in
set_option maxHeartbeats 8000000 in
/-- the end of a round of the loop -/
theorem k_round (hl : l.stackTraces = false) (hc : cxt p s m #[Value.ref b] meth c cL_law 18 RL wsL_law G (lA s)) (hx : x < 2 ^ 31) (hy : y < 2 ^ 27) (ht : t < 80) (hk : k ≤ 560000) (hn : n ≤ 6000000)
    (nx : ∀ (m' : Nat) (w' : wd), LWd G w' px ca na sa m' → LV p l e s m b below meth c G w' (k + 5446) (n + 42456) 650 [(0, some (.ref b)), (1, some (.ref px)), (2, some (.ref ca)), (3, some (.ref na)), (4, some (.ref sa)), (5, some (.int (nI m'))), (6, some (.int (nI 1))), (7, some (.int (nI t)))] []) : CT p l e s m b below meth c G px ca na sa t x y k n := by
  intro M w hL
  obtain ⟨v, u, rfl, hdQ, pI, pO, pX, ia, nm, ctt, lv, lo, fa, fb, fm, O, X, cp, ru, fc, fn, fs, hP0, hF0, hJ, hSQ, hca, hna, hsa, hne, hfc, hfn, hfs⟩ := id hL
  have hP := hP0.le (wle_r hdQ)
  have hF := hF0.le (wle_r hdQ)
  have hMQ := hP.n40
  have hcv : jn v u ca = some (aL G 40 fc) := jn_l hca
  have hnv : jn v u na = some (aI G 40 fn) := jn_l hna
  have hsv : jn v u sa = some (aI G 40 fs) := jn_l hsa
  generalize jn v u = w at hP hF hcv hnv hsv hL ⊢

  refine v_iconst hc (v := nI 0) dL_law_543 (by decide) ?_
  refine v_istore hc dL_law_544 (by decide) rfl ?_
  refine v_widen (k' := k + 0 * 66) (n' := n + 0 * 420) (by omega) (by omega) ?_
  refine v_loop (σ := Nat) (fun j => j ≤ M) (fun j => M - j) (fun _ => w) (fun j => k + j * 66) (fun j => n + j * 420) (fun j => lZ b px ca na sa M t x y ++ [(6, some (.int (nI 1))), (12, some (.int (nI j)))]) 0 rfl (Nat.zero_le _) ?_
  intro j hj0 ihQ
  refine v_iload hc dL_law_546 rfl ?_
  refine v_iload hc dL_law_548 rfl ?_
  refine v_icmp_geN hc (tgt := 576) dL_law_550 (by decide) (by omega) (by omega) (fun hj => ?_) (fun hj => ?_)
  · have e : j = M := by omega
    subst e
    refine v_widen (k' := k + 40 * 66) (n' := n + 40 * 420) (by omega) (by omega) ?_
    refine v_iload hc dL_law_576 rfl ?_
    refine v_if_eq hc (tgt := 647) dL_law_578 (by decide) (fun hb => False.elim (absurd hb (by decide))) (fun _ => ?_)
    first | refine v_aload_n hc (i := 1) rfl dL_law_581 rfl ?_ | refine v_aload_nN hc (i := 1) rfl dL_law_581 rfl ?_
    refine v_callVi hc (c_X3_objects hP) (cwV 0 hc.1.2.2.2.2 gL_law_X3_objects rfl rfl rfl (by decide +kernel) ⟨Nat.le_of_ble_eq_true rfl, Nat.le_of_ble_eq_true rfl⟩) (hP.1) rfl rfl rfl (Nat.le_of_ble_eq_true rfl) ⟨(by first | exact Nat.le_of_ble_eq_true rfl | omega | (dsimp only; omega) | (show _ ≤ 600130; omega) | (show _ ≤ 7301080; omega)), (by first | exact Nat.le_of_ble_eq_true rfl | omega | (dsimp only; omega) | (show _ ≤ 600130; omega) | (show _ ≤ 7301080; omega))⟩ dL_law_582 (fun r w' h => ?_)
    obtain ⟨rfl, rfl⟩ := h
    refine v_iload hc dL_law_585 rfl ?_
    refine v_icmp_ne hc (tgt := 647) dL_law_587 (by decide) (fun hb => False.elim (hb rfl)) (fun _ => ?_)
    first | refine v_aload_n hc (i := 1) rfl dL_law_590 rfl ?_ | refine v_aload_nN hc (i := 1) rfl dL_law_590 rfl ?_
    first | refine v_aload_n hc (i := 2) rfl dL_law_591 rfl ?_ | refine v_aload_nN hc (i := 2) rfl dL_law_591 rfl ?_
    refine v_callSi hc (c_L_isIndex hl hP hF hSQ hcv hfc) (va_cwS 2 hc.1.2.2.2.2 gL_law_L_isIndex rfl rfl rfl (by decide +kernel) ⟨Nat.le_of_ble_eq_true rfl, Nat.le_of_ble_eq_true rfl⟩) rfl rfl (Nat.le_of_ble_eq_true rfl) ⟨(by first | exact Nat.le_of_ble_eq_true rfl | omega | (dsimp only; omega) | (show _ ≤ 600130; omega) | (show _ ≤ 7301080; omega)), (by first | exact Nat.le_of_ble_eq_true rfl | omega | (dsimp only; omega) | (show _ ≤ 600130; omega) | (show _ ≤ 7301080; omega))⟩ dL_law_592 (fun r w2 h => ?_)
    obtain ⟨hw2, rfl⟩ := h
    have hL2 := hL.le hw2
    have hP2 := hP.le hw2
    have hF2 := hF.le hw2
    have hcv2 := hw2 _ _ hcv
    refine v_ifB_eq hc (tgt := 647) dL_law_595 (by decide) (fun hb => False.elim (Bool.false_ne_true hb.symm)) (fun _ => ?_)
    refine v_iload hc dL_law_598 rfl ?_
    refine v_cut (k + 40 * 66 + 606) (n + 40 * 420 + 3636) 624 (lZ b px ca na sa j t x y) [] ?_ (fun KQ => ?_)
    · refine v_cut (k + 5446) (n + 42456) 643 (lZ b px ca na sa j t x y) [] ?_ (fun KQ => ?_)
      · refine v_iconst hc (v := nI 1) dL_law_643 (by decide) ?_
        refine v_goto hc (tgt := 648) dL_law_644 (by decide) ?_
        refine v_istore hc dL_law_648 (by decide) rfl ?_
        exact v_loc _ rfl (nx j w2 hL2)
      · refine v_iload hc dL_law_624 rfl ?_
        refine v_bipush hc (v := nI 20) dL_law_626 (by decide) ?_
        refine v_irem hc (by decide) dL_law_628 ?_
        refine v_ti (pk_rem (by omega) (by decide) (by decide)) ?_
        refine v_if_gtN hc (tgt := 643) dL_law_629 (by decide) (by omega) (fun _ => ?_) (fun _ => ?_)
        · exact v_widen (by first | omega | exact Nat.le_of_ble_eq_true rfl | (dsimp only; omega)) (by first | omega | exact Nat.le_of_ble_eq_true rfl | (dsimp only; omega)) (v_loc _ rfl KQ)
        · first | refine v_aload_n hc (i := 1) rfl dL_law_632 rfl ?_ | refine v_aload_nN hc (i := 1) rfl dL_law_632 rfl ?_
          refine v_iload hc dL_law_633 rfl ?_
          refine v_iconst hc (v := nI 3) dL_law_635 (by decide) ?_
          refine v_idiv hc (by decide) dL_law_636 ?_
          refine v_ti (pk_div hx (by decide) (by decide)) ?_
          refine v_callSi hc (c_L_isRefused hl hP2 hF2 hJ hSQ.1 (x := x / 3) (by omega)) (va_cwS 2 hc.1.2.2.2.2 gL_law_L_isRefused rfl rfl rfl (by decide +kernel) ⟨Nat.le_of_ble_eq_true rfl, Nat.le_of_ble_eq_true rfl⟩) rfl rfl (Nat.le_of_ble_eq_true rfl) ⟨(by first | exact Nat.le_of_ble_eq_true rfl | omega | (dsimp only; omega) | (show _ ≤ 600130; omega) | (show _ ≤ 7301080; omega)), (by first | exact Nat.le_of_ble_eq_true rfl | omega | (dsimp only; omega) | (show _ ≤ 600130; omega) | (show _ ≤ 7301080; omega))⟩ dL_law_637 (fun r w' h => ?_)
          obtain ⟨rfl, rfl⟩ := h
          refine v_ifB_eq hc (tgt := 647) dL_law_640 (by decide) (fun hb => False.elim (Bool.false_ne_true hb.symm)) (fun _ => ?_)
          exact v_widen (by first | omega | exact Nat.le_of_ble_eq_true rfl | (dsimp only; omega)) (by first | omega | exact Nat.le_of_ble_eq_true rfl | (dsimp only; omega)) (v_loc _ rfl KQ)
    · refine v_if_eqN hc (tgt := 624) dL_law_600 (by decide) (by omega) (fun h0 => ?_) (fun h0 => ?_)
      · exact v_widen (by first | omega | exact Nat.le_of_ble_eq_true rfl | (dsimp only; omega)) (by first | omega | exact Nat.le_of_ble_eq_true rfl | (dsimp only; omega)) (v_loc _ rfl KQ)
      · have hj1 : 0 < j := Nat.pos_of_ne_zero h0
        first | refine v_aload_n hc (i := 1) rfl dL_law_603 rfl ?_ | refine v_aload_nN hc (i := 1) rfl dL_law_603 rfl ?_
        first | refine v_aload_n hc (i := 2) rfl dL_law_604 rfl ?_ | refine v_aload_nN hc (i := 2) rfl dL_law_604 rfl ?_
        refine v_iload hc dL_law_605 rfl ?_
        refine v_iload hc dL_law_607 rfl ?_
        refine v_irem hc (fun z => h0 ((nI_eq (a := j) (b := 0) (by omega) (by decide)).mp z)) dL_law_609 ?_
        refine v_ti (pk_rem (by omega) hj1 (by omega)) ?_
        refine v_iload hc dL_law_610 rfl ?_
        refine v_bipush hc (v := nI 40) dL_law_612 (by decide) ?_
        refine v_idiv hc (by decide) dL_law_614 ?_
        refine v_ti (pk_div (by omega) (by decide) (by decide)) ?_
        refine v_iload hc dL_law_615 rfl ?_
        refine v_irem hc (fun z => h0 ((nI_eq (a := j) (b := 0) (by omega) (by decide)).mp z)) dL_law_617 ?_
        refine v_ti (pk_rem (by omega) hj1 (by omega)) ?_
        refine v_callSi hc (c_L_areDeltas hl hP2 hSQ.1.1 hcv2 hfc (Nat.mod_lt y hj1) (Nat.mod_lt (y / 40) hj1)) (va_cwS 4 hc.1.2.2.2.2 gL_law_L_areDeltas rfl rfl rfl (by decide +kernel) ⟨Nat.le_of_ble_eq_true rfl, Nat.le_of_ble_eq_true rfl⟩) rfl rfl (Nat.le_of_ble_eq_true rfl) ⟨(by first | exact Nat.le_of_ble_eq_true rfl | omega | (dsimp only; omega) | (show _ ≤ 600130; omega) | (show _ ≤ 7301080; omega)), (by first | exact Nat.le_of_ble_eq_true rfl | omega | (dsimp only; omega) | (show _ ≤ 600130; omega) | (show _ ≤ 7301080; omega))⟩ dL_law_618 (fun r w' h => ?_)
        obtain ⟨rfl, rfl⟩ := h
        refine v_ifB_eq hc (tgt := 647) dL_law_621 (by decide) (fun hb => False.elim (Bool.false_ne_true hb.symm)) (fun _ => ?_)
        exact v_widen (by first | omega | exact Nat.le_of_ble_eq_true rfl | (dsimp only; omega)) (by first | omega | exact Nat.le_of_ble_eq_true rfl | (dsimp only; omega)) (v_loc _ rfl KQ)
  · refine v_iload hc dL_law_553 rfl ?_
    refine v_if_eq hc (tgt := 576) dL_law_555 (by decide) (fun hb => False.elim (absurd hb (by decide))) (fun _ => ?_)
    first | refine v_aload_n hc (i := 1) rfl dL_law_558 rfl ?_ | refine v_aload_nN hc (i := 1) rfl dL_law_558 rfl ?_
    first | refine v_aload_n hc (i := 2) rfl dL_law_559 rfl ?_ | refine v_aload_nN hc (i := 2) rfl dL_law_559 rfl ?_
    first | refine v_aload_n hc (i := 3) rfl dL_law_560 rfl ?_ | refine v_aload_nN hc (i := 3) rfl dL_law_560 rfl ?_
    first | refine v_aload hc dL_law_561 rfl ?_ | refine v_aloadN hc dL_law_561 rfl ?_
    refine v_iload hc dL_law_563 rfl ?_
    refine v_callSi hc (c_L_isObject hl hP hF hJ hSQ hcv hfc hnv hfn hsv hfs hj) (va_cwS 5 hc.1.2.2.2.2 gL_law_L_isObject rfl rfl rfl (by decide +kernel) ⟨Nat.le_of_ble_eq_true rfl, Nat.le_of_ble_eq_true rfl⟩) rfl rfl (Nat.le_of_ble_eq_true rfl) ⟨(by first | exact Nat.le_of_ble_eq_true rfl | omega | (dsimp only; omega) | (show _ ≤ 600130; omega) | (show _ ≤ 7301080; omega)), (by first | exact Nat.le_of_ble_eq_true rfl | omega | (dsimp only; omega) | (show _ ≤ 600130; omega) | (show _ ≤ 7301080; omega))⟩ dL_law_565 (fun r w' h => ?_)
    obtain ⟨rfl, rfl⟩ := h
    refine v_istore hc dL_law_568 (by decide) rfl ?_
    first | refine v_iinc1 hc dL_law_570 rfl (by decide) rfl ?_ | refine v_iinc hc dL_law_570 rfl rfl (by decide) rfl ?_
    refine v_goto hc (tgt := 546) dL_law_573 (by decide) ?_
    refine v_widen (k' := k + (j + 1) * 66) (n' := n + (j + 1) * 420) (by omega) (by omega) ?_
    exact ihQ (j + 1) _ rfl hj (by omega)
set_option maxRecDepth 100000 in
set_option maxHeartbeats 8000000 in
theorem law_loop (hl : l.stackTraces = false) (hc : cxt p s m #[Value.ref b] meth c cL_law 18 RL wsL_law G (lA s)) (hr : meth.sig.returnType = ret) (hX : va_X b N xs s s.heap) (hNQ : N ≤ 2048) (hL : LWd G w px ca na sa M) : LV p l e s m b below meth c G w 4500 45000 67 [(0, some (.ref b)), (1, some (.ref px)), (2, some (.ref ca)), (3, some (.ref na)), (4, some (.ref sa)), (5, some (.int (nI M))), (6, some (.int (nI 1))), (7, some (.int (nI 0)))] [] := by
  have hbA : ¬ lA s b := Nat.not_le.mpr hX.lt
  refine v_widen (k' := 4500 + 0 * 6946) (n' := 45000 + 0 * 60456) (by omega) (by omega) ?_
  refine v_loop (σ := Nat × Nat × wd) (fun a => a.1 ≤ 80 ∧ LWd G a.2.2 px ca na sa a.2.1) (fun a => 80 - a.1) (fun a => a.2.2) (fun a => 4500 + a.1 * 6946) (fun a => 45000 + a.1 * 60456) (fun a => [(0, some (.ref b)), (1, some (.ref px)), (2, some (.ref ca)), (3, some (.ref na)), (4, some (.ref sa)), (5, some (.int (nI a.2.1))), (6, some (.int (nI 1))), (7, some (.int (nI a.1)))]) (0, M, w) rfl ⟨Nat.zero_le _, hL⟩ ?_
  clear hL
  rintro ⟨t, M, w⟩ ⟨ht0, hL⟩ ihQ
  dsimp only at ht0 hL ihQ ⊢
  have hMQ : M ≤ 40 := by
    obtain ⟨v, u, -, -, pI, pO, pX, ia, nm, ctt, lv, lo, fa, fb, fm, O, X, cp, ru, fc, fn, fs, hP, -⟩ := hL
    exact hP.n40

  refine v_iload hc dL_law_67 rfl ?_
  refine v_bipush hc (v := nI 80) dL_law_69 (by decide) ?_
  refine v_icmp_geN hc (tgt := 656) dL_law_71 (by decide) (by omega) (by omega) (fun ht => ?_) (fun ht => ?_)
  · refine v_iload hc dL_law_656 rfl ?_
    exact v_end hc hr dL_law_658 (by omega) (by omega)
  · refine v_iload hc dL_law_74 rfl ?_
    refine v_if_eq hc (tgt := 656) dL_law_76 (by decide) (fun hb => False.elim (absurd hb (by decide))) (fun _ => ?_)
    first | refine v_aload_n hc (i := 0) rfl dL_law_79 rfl ?_ | refine v_aload_nN hc (i := 0) rfl dL_law_79 rfl ?_
    refine v_iload hc dL_law_80 rfl ?_
    refine v_callD hc hX hbA (c_L_dice hbA hNQ ht) (va_cwS 2 hc.1.2.2.2.2 gL_law_L_dice rfl rfl rfl (by decide +kernel) ⟨Nat.le_of_ble_eq_true rfl, Nat.le_of_ble_eq_true rfl⟩) rfl rfl (Nat.le_of_ble_eq_true rfl) ⟨by show _ ≤ 600130; omega, by show _ ≤ 7301080; omega⟩ dL_law_82 (fun r w' h => ?_)
    obtain ⟨rfl, x, hx, rfl⟩ := h
    refine v_istore hc dL_law_85 (by decide) rfl ?_
    refine v_iload hc dL_law_87 rfl ?_
    refine v_bipush hc (v := nI 32) dL_law_89 (by decide) ?_
    refine v_idiv hc (by decide) dL_law_91 ?_
    refine v_ti (pk_div hx (by decide) (by decide)) ?_
    refine v_istore hc dL_law_92 (by decide) rfl ?_
    refine v_iload hc dL_law_94 rfl ?_
    refine v_bipush hc (v := nI 32) dL_law_96 (by decide) ?_
    refine v_irem hc (by decide) dL_law_98 ?_
    refine v_ti (pk_rem hx (by decide) (by decide)) ?_
    obtain ⟨y, hy, hye⟩ : ∃ y, y < 2 ^ 27 ∧ x / 32 = y := ⟨_, by omega, rfl⟩
    have hct : CT p l e s m b below meth c G px ca na sa t x y (4500 + t * 6946 + 1500) (45000 + t * 60456 + 18000) := k_round hl hc hx hy ht (by omega) (by omega) (fun m' w' hL' => by
      first | refine v_iinc1 hc dL_law_650 rfl (by decide) rfl ?_ | refine v_iinc hc dL_law_650 rfl rfl (by decide) rfl ?_
      refine v_goto hc (tgt := 67) dL_law_653 (by decide) ?_
      refine v_widen (k' := 4500 + (t + 1) * 6946) (n' := 45000 + (t + 1) * 60456) (by omega) (by omega) ?_
      exact ihQ (t + 1, m', w') _ rfl ⟨ht, hL'⟩ (by dsimp only; omega))
    refine v_istore hc dL_law_99 (by decide) rfl ?_
    refine v_iload hc dL_law_101 rfl ?_
    rw [hye]
    refine v_cutT (σ := Nat) (fun ob => 0 < M → ob < M) (4500 + t * 6946) (45000 + t * 60456) 115 (fun _ => lZ b px ca na sa M t x y ++ [(10, some (.int (nI (x % 32))))]) (fun ob => [.int (nI ob)]) ?_ (fun KQ => ?_)
    · intro ob hob
      refine v_istore hc dL_law_115 (by decide) rfl ?_
      refine v_iload hc dL_law_117 rfl ?_
      refine v_bipush hc (v := nI 13) dL_law_119 (by decide) ?_
      refine v_cut (4500 + t * 6946) (45000 + t * 60456) 129 (lZ b px ca na sa M t x y) [] (k_store hl hc hL hy (by omega) (by omega) hct) (fun K1 => ?_)
      refine v_icmp_ltN hc (tgt := 129) dL_law_121 (by decide) (by omega) (by omega) (fun h13 => ?_) (fun h13 => ?_)
      · exact v_widen (by first | omega | exact Nat.le_of_ble_eq_true rfl | (dsimp only; omega)) (by first | omega | exact Nat.le_of_ble_eq_true rfl | (dsimp only; omega)) (v_loc _ rfl K1)
      · refine v_iload hc dL_law_124 rfl ?_
        by_cases hM0 : M = 0
        · refine v_if_neN hc (tgt := 341) dL_law_126 (by decide) (by omega) (fun hb => False.elim (hb hM0)) (fun _ => ?_)
          exact v_widen (by first | omega | exact Nat.le_of_ble_eq_true rfl | (dsimp only; omega)) (by first | omega | exact Nat.le_of_ble_eq_true rfl | (dsimp only; omega)) (v_loc _ rfl K1)
        · have hob1 := hob (Nat.pos_of_ne_zero hM0)
          refine v_if_neN hc (tgt := 341) dL_law_126 (by decide) (by omega) (fun _ => ?_) (fun hb => False.elim (hM0 hb))
          refine v_iload hc dL_law_341 rfl ?_
          refine v_bipush hc (v := nI 15) dL_law_343 (by decide) ?_
          refine v_icmp_geN hc (tgt := 461) dL_law_345 (by decide) (by omega) (by omega) (fun h15 => ?_) (fun h15 => ?_)
          · refine v_iload hc dL_law_461 rfl ?_
            refine v_bipush hc (v := nI 24) dL_law_463 (by decide) ?_
            refine v_icmp_geN hc (tgt := 511) dL_law_465 (by decide) (by omega) (by omega) (fun h24 => ?_) (fun h24 => ?_)
            · refine v_iload hc dL_law_511 rfl ?_
              refine v_bipush hc (v := nI 28) dL_law_513 (by decide) ?_
              refine v_icmp_geN hc (tgt := 531) dL_law_515 (by decide) (by omega) (by omega) (fun h28 => ?_) (fun h28 => ?_)
              · exact v_loc _ rfl (k_damages hl hc hL (by omega) (by omega) hob1 hct)
              · exact v_loc _ rfl (k_prunes hl hc hL (by omega) (by omega) hct)
            · exact v_loc _ rfl (k_packs hl hc hL hy (by omega) (by omega) hct)
          · exact v_loc _ rfl (k_delete hl hc hL (by omega) (by omega) hob1 hct)
    · refine v_if_neN hc (tgt := 110) dL_law_103 (by decide) (by omega) (fun h0 => ?_) (fun h0 => ?_)
      · refine v_iload hc dL_law_110 rfl ?_
        refine v_iload hc dL_law_112 rfl ?_
        refine v_irem hc (fun z => h0 ((nI_eq (a := M) (b := 0) (by omega) (by decide)).mp z)) dL_law_114 ?_
        refine v_ti (pk_rem (by omega) (Nat.pos_of_ne_zero h0) (by omega)) ?_
        have KKQ := KQ (y % M) (fun z => Nat.mod_lt _ z)
        exact v_widen (by first | omega | exact Nat.le_of_ble_eq_true rfl | (dsimp only; omega)) (by first | omega | exact Nat.le_of_ble_eq_true rfl | (dsimp only; omega)) (v_loc _ rfl KKQ)
      · refine v_iconst hc (v := nI 0) dL_law_106 (by decide) ?_
        refine v_goto hc (tgt := 115) dL_law_107 (by decide) ?_
        have KKQ := KQ 0 (fun z => by omega)
        exact v_widen (by first | omega | exact Nat.le_of_ble_eq_true rfl | (dsimp only; omega)) (by first | omega | exact Nat.le_of_ble_eq_true rfl | (dsimp only; omega)) (v_loc _ rfl KKQ)
end LAWS2

