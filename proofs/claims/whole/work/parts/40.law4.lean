/-! ===== the law's loop ===== -/
theorem and31 (x : Int32) : ∃ t : Nat, t < 32 ∧ x &&& nI 31 = nI t := by
  refine ⟨(x &&& nI 31).toUInt32.toNat, ?_, ?_⟩
  · have h1 : (x &&& nI 31).toUInt32 = x.toUInt32 &&& 31 := rfl
    rw [h1, UInt32.toNat_and]
    exact Nat.lt_of_le_of_lt Nat.and_le_right (by decide)
  · exact (congrArg (fun v : UInt32 => (⟨v⟩ : Int32)) (UInt32.ofNat_toNat (x := (x &&& nI 31).toUInt32))).symm
set_option maxRecDepth 100000 in
set_option maxHeartbeats 4000000 in
theorem law_loop {p : Program} {l : Launch} {e : Env} {s : State} {m : MethodId} {below : List Frame} {meth : Method} {c : Code} {G : cG} {u vm : wd} {b N px h oa : Nat} {xs : Nat → Int32} {ad : Nat → Nat} {f : Nat → Int64} (hl : l.stackTraces = false) (hc : cxt p s m #[Value.ref b] meth c cL_law 8 RL wsL_law G (lA s)) (hr : meth.sig.returnType = ret) (hX : va_X b N xs s s.heap) (hbl : b < s.heap.size) (hN : N ≤ 2048) (hLR : LR G u vm px h ad (fun _ => True)) (hd : dj vm (jn (sg oa (aL G 1 f)) u)) (hd1 : dj (sg oa (aL G 1 f)) u) : LV p l e s m b below meth c G (jn vm (jn (sg oa (aL G 1 f)) u)) 30 700 23 (lL b px h oa 0) [] := by
  refine v_loop (σ := Nat × wd × wd × (Nat → Int64)) (fun a => a.1 ≤ N ∧ LR G a.2.1 a.2.2.1 px h ad (fun _ => True) ∧ dj a.2.2.1 (jn (sg oa (aL G 1 a.2.2.2)) a.2.1) ∧ dj (sg oa (aL G 1 a.2.2.2)) a.2.1) (fun a => N - a.1) (fun a => jn a.2.2.1 (jn (sg oa (aL G 1 a.2.2.2)) a.2.1)) (fun a => 30 + a.1 * 40) (fun a => 700 + a.1 * 1300) (fun a => lL b px h oa a.1) (0, u, vm, f) rfl ⟨Nat.zero_le _, hLR, hd, hd1⟩ ?_
  clear hLR hd hd1
  rintro ⟨i, u, vm, f⟩ ⟨hi0, hLR, hd, hd1⟩ ih
  dsimp only at hi0 hLR hd hd1 ih ⊢
  refine v_iload hc dL_law_23 rfl ?_
  refine v_aload_n hc (i := 0) rfl dL_law_25 rfl ?_
  refine v_slen hc hX hbl dL_law_26 ?_
  refine v_iconst hc (v := nI 4) dL_law_27 (by decide) ?_
  refine v_isub hc dL_law_28 ?_
  refine v_icmp_gt hc (tgt := 1448) dL_law_29 (by decide) (fun h0 => ?_) (fun h0 => ?_)
  · refine v_iconst hc (v := nI 1) dL_law_1448 (by decide) ?_
    exact v_end hc hr dL_law_1449 (by omega) (by omega)
  · rw [Int32.lt_iff_toInt_lt, nI_toInt (by omega), pk_sub_toInt (by omega) (by decide)] at h0
    have hi : i + 4 ≤ N := by omega
    have ct : CT p l e s m b below meth c G px h oa ad i := fun u' vm' f' L' hs hLR hd hd1 => v_loc (lL b px h oa i) hs (by
      refine v_iinc hc (v := nI (i + 4)) dL_law_1442 rfl (show nI i + Int32.ofInt 4 = nI (i + 4) from nI_add i 4) (by decide) rfl ?_
      refine v_goto hc (tgt := 23) dL_law_1445 (by decide) ?_
      exact ih (i + 4, u', vm', f') _ rfl ⟨hi, hLR, hd, hd1⟩ (by dsimp only; omega))
    refine v_aload_n hc (i := 0) rfl dL_law_32 rfl ?_
    refine v_iload hc dL_law_33 rfl ?_
    refine v_sld hc hX hbl (by omega) hN dL_law_35 ?_
    refine v_bipush hc (v := nI 31) dL_law_36 (by decide) ?_
    refine v_iand hc dL_law_38 ?_
    obtain ⟨t, ht, et⟩ := and31 (xs i)
    refine v_ti et ?_
    by_cases h24 : 24 < t
    · refine v_tout hc dL_law_39 (Or.inr (by rw [nI_toInt (by omega)]; omega)) (tgt := 1442) (by decide) ?_
      refine v_widen (k' := 30 + (i + 4) * 40) (n' := 700 + (i + 4) * 1300) (by omega) (by omega) ?_
      exact ct u vm f _ rfl hLR hd hd1
    · rcases (show t = 0 ∨ t = 1 ∨ t = 2 ∨ t = 3 ∨ t = 4 ∨ t = 5 ∨ t = 6 ∨ t = 7 ∨ t = 8 ∨ t = 9 ∨ t = 10 ∨ t = 11 ∨ t = 12 ∨ t = 13 ∨ t = 14 ∨ t = 15 ∨ t = 16 ∨ t = 17 ∨ t = 18 ∨ t = 19 ∨ t = 20 ∨ t = 21 ∨ t = 22 ∨ t = 23 ∨ t = 24 by omega) with rfl | rfl | rfl | rfl | rfl | rfl | rfl | rfl | rfl | rfl | rfl | rfl | rfl | rfl | rfl | rfl | rfl | rfl | rfl | rfl | rfl | rfl | rfl | rfl | rfl
      · exact v_tin hc dL_law_39 (by decide) (by decide) (off := 113) (tgt := 152) rfl (by decide) (k_store hl hc hr hX hbl hN hi hLR hd hd1 ct)
      · exact v_tin hc dL_law_39 (by decide) (by decide) (off := 213) (tgt := 252) rfl (by decide) (k_delete hl hc hr hX hbl hN hi hLR hd hd1 ct)
      · exact v_tin hc dL_law_39 (by decide) (by decide) (off := 269) (tgt := 308) rfl (by decide) (k_objects hl hc hr hX hbl hN hi hLR hd hd1 ct)
      · exact v_tin hc dL_law_39 (by decide) (by decide) (off := 282) (tgt := 321) rfl (by decide) (k_isLive hl hc hr hX hbl hN hi hLR hd hd1 ct)
      · exact v_tin hc dL_law_39 (by decide) (by decide) (off := 345) (tgt := 384) rfl (by decide) (k_isLoose hl hc hr hX hbl hN hi hLR hd hd1 ct)
      · exact v_tin hc dL_law_39 (by decide) (by decide) (off := 408) (tgt := 447) rfl (by decide) (k_canRead hl hc hr hX hbl hN hi hLR hd hd1 ct)
      · exact v_tin hc dL_law_39 (by decide) (by decide) (off := 471) (tgt := 510) rfl (by decide) (k_read hl hc hr hX hbl hN hi hLR hd hd1 ct)
      · exact v_tin hc dL_law_39 (by decide) (by decide) (off := 526) (tgt := 565) rfl (by decide) (k_pack hl hc hr hX hbl hN hi hLR hd hd1 ct)
      · exact v_tin hc dL_law_39 (by decide) (by decide) (off := 622) (tgt := 661) rfl (by decide) (k_prune hl hc hr hX hbl hN hi hLR hd hd1 ct)
      · exact v_tin hc dL_law_39 (by decide) (by decide) (off := 635) (tgt := 674) rfl (by decide) (k_damage hl hc hr hX hbl hN hi hLR hd hd1 ct)
      · exact v_tin hc dL_law_39 (by decide) (by decide) (off := 691) (tgt := 730) rfl (by decide) (k_compared hl hc hr hX hbl hN hi hLR hd hd1 ct)
      · exact v_tin hc dL_law_39 (by decide) (by decide) (off := 704) (tgt := 743) rfl (by decide) (k_reused hl hc hr hX hbl hN hi hLR hd hd1 ct)
      · exact v_tin hc dL_law_39 (by decide) (by decide) (off := 717) (tgt := 756) rfl (by decide) (k_forms hl hc hr hX hbl hN hi hLR hd hd1 ct)
      · exact v_tin hc dL_law_39 (by decide) (by decide) (off := 730) (tgt := 769) rfl (by decide) (k_cost hl hc hr hX hbl hN hi hLR hd hd1 ct)
      · exact v_tin hc dL_law_39 (by decide) (by decide) (off := 743) (tgt := 782) rfl (by decide) (k_costOf hl hc hr hX hbl hN hi hLR hd hd1 ct)
      · exact v_tin hc dL_law_39 (by decide) (by decide) (off := 799) (tgt := 838) rfl (by decide) (k_base hl hc hr hX hbl hN hi hLR hd hd1 ct)
      · exact v_tin hc dL_law_39 (by decide) (by decide) (off := 855) (tgt := 894) rfl (by decide) (k_depth hl hc hr hX hbl hN hi hLR hd hd1 ct)
      · exact v_tin hc dL_law_39 (by decide) (by decide) (off := 911) (tgt := 950) rfl (by decide) (k_parts hl hc hr hX hbl hN hi hLR hd hd1 ct)
      · exact v_tin hc dL_law_39 (by decide) (by decide) (off := 967) (tgt := 1006) rfl (by decide) (k_dependents hl hc hr hX hbl hN hi hLR hd hd1 ct)
      · exact v_tin hc dL_law_39 (by decide) (by decide) (off := 1023) (tgt := 1062) rfl (by decide) (k_deltaCost hl hc hr hX hbl hN hi hLR hd hd1 ct)
      · exact v_tin hc dL_law_39 (by decide) (by decide) (off := 1091) (tgt := 1130) rfl (by decide) (k_hash hl hc hr hX hbl hN hi hLR hd hd1 ct)
      · exact v_tin hc dL_law_39 (by decide) (by decide) (off := 1179) (tgt := 1218) rfl (by decide) (k_indexAt hl hc hr hX hbl hN hi hLR hd hd1 ct)
      · exact v_tin hc dL_law_39 (by decide) (by decide) (off := 1235) (tgt := 1274) rfl (by decide) (k_fanOut hl hc hr hX hbl hN hi hLR hd hd1 ct)
      · exact v_tin hc dL_law_39 (by decide) (by decide) (off := 1291) (tgt := 1330) rfl (by decide) (k_find hl hc hr hX hbl hN hi hLR hd hd1 ct)
      · exact v_tin hc dL_law_39 (by decide) (by decide) (off := 1347) (tgt := 1386) rfl (by decide) (k_looks hl hc hr hX hbl hN hi hLR hd hd1 ct)
