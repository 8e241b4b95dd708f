theorem wup_jn {u : wd} {h : Nat} {e : va_E} (hn : u h = none) : wup u h e = jn u (sg h e) := by
  funext a
  by_cases ha : a = h
  · subst ha; rw [wup_s, jn_r hn, sg_s]
  · rw [wup_n _ _ ha]
    cases hu : u a with
    | some e' => rw [jn_l hu]
    | none => rw [jn_r hu, sg_n ha]
theorem dj_sgr {u : wd} {h : Nat} {e : va_E} (hn : u h = none) : dj u (sg h e) := fun a e' ha => by
  by_cases hah : a = h
  · rw [hah]; exact hn
  · rw [sg_n hah] at ha; cases ha
theorem jn_none {v u : wd} {a : Nat} (h : jn v u a = none) : v a = none ∧ u a = none := by
  cases hv : v a with
  | some e => rw [jn_l hv] at h; cases h
  | none => exact ⟨rfl, by rw [jn_r hv] at h; exact h⟩
theorem out_jn {u vm : wd} {oa : Nat} {e : va_E} (hn : jn u vm oa = none) (hd : dj u vm) : wup (jn u vm) oa e = jn vm (jn (sg oa e) u) := by
  funext a
  by_cases ha : a = oa
  · subst ha; rw [wup_s, jn_r (jn_none hn).2, jn_l (sg_s _ _)]
  · rw [wup_n _ _ ha, jn_comm hd]
    cases hv : vm a with
    | some e' => rw [jn_l hv, jn_l hv]
    | none => rw [jn_r hv, jn_r hv, jn_r (sg_n ha)]
-- ===== YOUR PART BEGINS =====
set_option maxRecDepth 100000 in
set_option maxHeartbeats 4000000 in
theorem whole_start {p : Program} {e : Env} {s : State} {m : MethodId} {below : List Frame} {meth : Method} {c : Code} (l : Launch) (hflags : l.flags = flags0) {b L : Nat} {xs : Nat → Int32} (hL : L ≤ 2048) (C0 : lw_At p s m meth c b L xs) : W p l e room_1 s m #[Value.ref b] below meth c s.heap [] 0 0 (lw_Z below #[Value.ref b] s) (entryFrame m ([Value.ref b] : List Value).toArray 8) := by
  obtain ⟨hx, hb, hr, hml, hown, hts, hX, hbl, hlocks, hgv⟩ := id C0
  have hl : l.stackTraces = false := by unfold Launch.stackTraces; rw [hflags]; decide +kernel
  obtain ⟨G, hkk⟩ := kk_start hts hgv
  have hc : cxt p s m #[Value.ref b] meth c cL_law 8 RL wsL_law G (lA s) := ⟨⟨hx, hb, hml, hown, fun w hw => hts w (wsL_law_in w hw)⟩, hkk, fun q hq => hq, hlocks⟩
  rw [lg_entry_eq]
  suffices K : LV p l e s m b below meth c G (fun _ => none) 0 0 0 [(0, some (.ref b))] [] from K s.heap [] _ (fun a e h => by cases h) va_S.rf (vs_ent (lv_entry [.ref b] (n := 8) (Nat.le_of_ble_eq_true rfl)))

  refine v_new hc (ci := 6) (fs := [.null, .null, .null, .int 0, .int 0]) rfl tyX3 tyX3_ok (by decide +kernel) (by decide +kernel) (by decide +kernel) (by decide +kernel) (fun j hj => by rcases (show j = 0 ∨ j = 1 ∨ j = 2 ∨ j = 3 ∨ j = 4 by omega) with rfl | rfl | rfl | rfl | rfl <;> rfl) (by first | exact Nat.le_of_ble_eq_true rfl | omega | (dsimp only; omega)) (by first | exact Nat.le_of_ble_eq_true rfl | omega | (dsimp only; omega)) dL_law_0 (fun px hpx hpxA => ?_)
  refine v_dup hc dL_law_3 rfl ?_
  refine v_callIv hc (c_X3_init (wup_s _ _ _) (fun _ => 0) (fun _ => 0) (fun _ => 0) (fun _ => false) (fun _ => false) (fun _ => none) (fun _ => none)) (cwI 0 hc.1.2.2.2.2 gL_law_X3_init rfl rfl rfl (hc.1.2.2.2.2 (.initialized yX3_init.cls) (by decide +kernel)) (hc.1.2.2.2.2 (.methodLink RL 79 yX3_init) (by decide +kernel)) (hc.1.2.2.2.2 (.instanceMethod yX3_init) (by decide +kernel)) rfl (by decide +kernel) ⟨Nat.le_of_ble_eq_true rfl, Nat.le_of_ble_eq_true rfl⟩) rfl rfl (Nat.le_of_ble_eq_true rfl) ⟨(by first | exact Nat.le_of_ble_eq_true rfl | omega | (dsimp only; omega)), (by first | exact Nat.le_of_ble_eq_true rfl | omega | (dsimp only; omega))⟩ dL_law_4 (fun u hp => ?_)
  obtain ⟨pI, pO, pX, hP⟩ := hp
  first | refine v_astore_n hc (i := 1) rfl dL_law_7 (by decide) rfl ?_ | refine v_astore_nN hc (i := 1) rfl dL_law_7 (by decide) rfl ?_
  refine v_new hc (ci := 7) (fs := [.int 0, .null, .null, .null, .null, .null, .null, .null, .null, .null, .null, .null, .int 0, .null, .null, .null, .int 0, .int 0, .null, .null, .int 0, .int 0, .null, .int 0, .int 0]) rfl tyX4 tyX4_ok (by decide +kernel) (by decide +kernel) (by decide +kernel) (by decide +kernel) (fun j hj => by rcases (show j = 0 ∨ j = 1 ∨ j = 2 ∨ j = 3 ∨ j = 4 ∨ j = 5 ∨ j = 6 ∨ j = 7 ∨ j = 8 ∨ j = 9 ∨ j = 10 ∨ j = 11 ∨ j = 12 ∨ j = 13 ∨ j = 14 ∨ j = 15 ∨ j = 16 ∨ j = 17 ∨ j = 18 ∨ j = 19 ∨ j = 20 ∨ j = 21 ∨ j = 22 ∨ j = 23 ∨ j = 24 by omega) with rfl | rfl | rfl | rfl | rfl | rfl | rfl | rfl | rfl | rfl | rfl | rfl | rfl | rfl | rfl | rfl | rfl | rfl | rfl | rfl | rfl | rfl | rfl | rfl | rfl <;> rfl) (by first | exact Nat.le_of_ble_eq_true rfl | omega | (dsimp only; omega)) (by first | exact Nat.le_of_ble_eq_true rfl | omega | (dsimp only; omega)) dL_law_8 (fun h hh hhA => ?_)
  refine v_w (wup_jn hh) ?_
  refine v_dup hc dL_law_11 rfl ?_
  refine v_frIv hc (dj_sgr hh) (c_X4_init (sg_s _ _)) (cwI 0 hc.1.2.2.2.2 gL_law_X4_init rfl rfl rfl (hc.1.2.2.2.2 (.initialized yX4_init.cls) (by decide +kernel)) (hc.1.2.2.2.2 (.methodLink RL 82 yX4_init) (by decide +kernel)) (hc.1.2.2.2.2 (.instanceMethod yX4_init) (by decide +kernel)) rfl (by decide +kernel) ⟨Nat.le_of_ble_eq_true rfl, Nat.le_of_ble_eq_true rfl⟩) rfl rfl (Nat.le_of_ble_eq_true rfl) ⟨Nat.le_of_ble_eq_true rfl, Nat.le_of_ble_eq_true rfl⟩ dL_law_12 (fun vm hp hdv => ?_)
  obtain ⟨ad, hM⟩ := hp
  first | refine v_astore_n hc (i := 2) rfl dL_law_15 (by decide) rfl ?_ | refine v_astore_nN hc (i := 2) rfl dL_law_15 (by decide) rfl ?_
  refine v_iconst hc (v := nI 1) dL_law_16 (by decide) ?_
  refine v_newa hc 1 (t0 := 1) (a0 := (1, .inr (.inl (fun _ => 0)))) rfl rfl (by decide +kernel) (fun _ => rfl) rfl (by decide) (by decide) (by first | exact Nat.le_of_ble_eq_true rfl | omega | (dsimp only; omega)) (by first | exact Nat.le_of_ble_eq_true rfl | omega | (dsimp only; omega)) dL_law_17 (fun oa hoa hoaA => ?_)
  refine v_w (show _ = wup (jn u vm) oa (aL G 1 (fun _ => 0)) from rfl) ?_
  refine v_w (out_jn hoa hdv) ?_
  first | refine v_astore_n hc (i := 3) rfl dL_law_19 (by decide) rfl ?_ | refine v_astore_nN hc (i := 3) rfl dL_law_19 (by decide) rfl ?_
  refine v_iconst hc (v := nI 0) dL_law_20 (by decide) ?_
  refine v_istore hc dL_law_21 (by decide) rfl ?_
  refine v_widen (k' := 30) (n' := 700) (Nat.le_of_ble_eq_true rfl) (Nat.le_of_ble_eq_true rfl) ?_
  have hn := jn_none hoa
  have hd1 : dj (sg oa (aL G 1 (fun _ => 0))) u := (dj_sgr hn.1).symm
  have hd : dj vm (jn (sg oa (aL G 1 (fun _ => 0))) u) := (dj_sgr hn.2).jn hdv.symm
  have hLR : LR G u vm px h ad (fun _ => True) := ⟨pI, pO, pX, 0, _, _, _, _, _, _, _, fun _ => none, [], [], _, _, _, _, _, ⟨fun i hi => absurd hi (Nat.not_lt_zero _), fun i hi => absurd hi (Nat.not_lt_zero _), fun i hi => absurd hi (Nat.not_lt_zero _), List.nodup_nil, fun i => ⟨fun z => (nomatch z), fun z => absurd z.1 (Nat.not_lt_zero _)⟩, srtd.nil (fun i z => absurd z.1 (Nat.not_lt_zero _))⟩, hP, fun i hi => absurd hi (Nat.not_lt_zero _), fun i j f hi => absurd hi (Nat.not_lt_zero _), hM, ⟨nI_0.symm, Nat.zero_le _, fun i hi => absurd hi (Nat.not_lt_zero _)⟩, nI_0.symm, nI_0.symm, trivial⟩
  exact v_loc (lL b px h oa 0) rfl (law_loop hl hc hr hX hbl hL hLR hd hd1)
-- ===== YOUR PART ENDS =====

set_option maxHeartbeats 4000000 in
theorem lw_walk (l : Launch) (hflags : l.flags = flags0) (b : Addr) (xs : List Int32) : MetFree l x (headSpec (Jvm.Cond.code x code maxLocals ret :: tables_1) room_1) (lw_P b xs) (fun _ _ _ _ _ => True) lw_Q := by
  refine MetFree.of_bodyS (code := code) (maxLocals := maxLocals) (ret := ret) (by decide) ?_ ?_
  · intro args s m h hn
    obtain ⟨meth, c, h1, h2, h3, h4, h5, h6, -, -⟩ := Cond.code_spec hn (atoms_spec (ws := Jvm.Cond.code x code maxLocals ret :: tables_1) h _ List.mem_cons_self)
    exact ⟨meth, c, h1, h2, h3, h4, h5, h6⟩
  · intro p e s m args below meth c s₁ B hml0 hP _
    obtain ⟨rfl, hx, hbd, hgv⟩ := hP
    obtain ⟨scr, harrAt, hlist, hof, hsmall⟩ := hx
    obtain ⟨hcb, hkn, -, -⟩ := State.arrayAt?_spec harrAt
    have hown : s.vm.findClass R_law = some m.cls := findClass_of_methodNamed B.named
    have hts0 : ∀ c ∈ (Jvm.Cond.code x code maxLocals ret :: tables_1), c.before #[Value.ref b] s = true := atoms_spec (ws := Jvm.Cond.code x code maxLocals ret :: tables_1) B.pre
    have hts : ∀ w ∈ lw_tbl, w.before #[Value.ref b] s = true := k2_hts_sels lw_privs (fun w hw => hts0 w (List.mem_cons_of_mem _ hw)) lw_privs_ok
    have hml : c.maxLocals = 8 := B.maxLocals_eq (hts0 _ List.mem_cons_self)
    have X₀ : Stand p l e room_1 s m #[Value.ref b] below meth c s₁ [] 0 0 := Stand.of_body B
    have hh0 : s₁.heap = s.heap := by rw [B.state]; rfl
    have hsz : scr.slots.size = xs.length := by rw [← Array.length_toList, hlist, List.length_map]
    have hval : ∀ j : Nat, j < xs.length → scr.slots[j]? = some (.int (xs.getD j 0)) := fun j hj => by
      rw [← Array.getElem?_toList, hlist]
      simp [hj]
    have hbl : b < s.heap.size := (Array.getElem?_eq_some_iff.mp hcb).1
    have hX : va_X b xs.length (fun j => xs.getD j 0) s s.heap := ⟨scr, hcb, hof, hkn, hsz, hval⟩
    have K : W p l e room_1 s m #[Value.ref b] below meth c s₁.heap [] 0 0 (lw_Z below #[Value.ref b] s) (entryFrame m ([Value.ref b] : List Value).toArray 8) := by
      rw [hh0]
      exact whole_start l hflags hbd ⟨B.exec, B.bytes, B.returns, hml, hown, hts, hX, hbl, B.notSynchronized, hgv⟩
    obtain ⟨t, a1, o, b1, b2, b3⟩ := K s₁ rfl X₀
    exact ⟨t, o, a1, b1, b2, b3⟩
theorem lw_pre_spec {args : Array Value} {s : State} (h : (Jvm.Cond.and given_1 narrow_1).before args s = true) (hr : rest_1_c.before args s = true) : ∃ (b : Addr) (xs : List Int32), lw_P b xs args s := by
  have hs := flat_of_before _ h
  have hq := flat_of_before _ hr
  have hc : (Cond.count 1).before args s = true := hs _ (by decide +kernel)
  have harr : (Cond.arrayOf (.arg 0) .int).before args s = true := hs _ (by decide +kernel)
  have hle : (Cond.le (.length (.arg 0)) (.int 2048)).before args s = true := hs _ (by decide +kernel)
  have hlen : (Cond.isInt (.length (.arg 0))).before args s = true := hq _ (by decide +kernel)
  have hall : (Cond.all (.arg 0) (.isInt (.elem (.arg 0) (.index 0)))).before args s = true := hq _ (by decide +kernel)
  obtain ⟨b, xs, hb, hx⟩ := State.ints_of_pre rfl harr hlen hall
  have hsm : xs.length < 2 ^ 31 := hx.choose_spec.2.2.2
  have hev : (Term.length (.arg 0)).eval args s none [] s = some (.int xs.length.toInt32) := hx.length_eval hb
  have hv := Cond.le_ints hev (show (Term.int 2048).eval args s none [] s = some (.int 2048) from rfl)
  have hd : xs.length.toInt32 ≤ 2048 := by
    simpa [Cond.before, Cond.holds, hv] using hle
  have hN : xs.length ≤ 2048 := (Int32.ofNat_le_ofNat hsm (by decide)).mp (show Int32.ofNat xs.length ≤ Int32.ofNat 2048 from hd)
  exact ⟨b, xs, Cond.one_arg hc (show args[0]? = some (.ref b) from hb), hx, hN, h⟩
theorem lw_comes (l : Launch) (hflags : l.flags = flags0) : Comes l x (Jvm.Cond.code x code maxLocals ret :: tables_1) room_1 (fun tb e args s => Calls_1 tb e args s ∧ rest_1 tb e args s ∧ Pre_1 tb e args s)
    (fun _ _ args s o t => lw_Q args s o t) := by
  intro p e ha hc hk s m args below hf hfit hheap happ hpre
  obtain ⟨b, xs, hP⟩ := lw_pre_spec hpre.2.2 hpre.2.1
  obtain ⟨k, o, h1, h2, h3, hQ⟩ := lw_walk l hflags b xs p e ha hc hk s m args below hf ((Spec.applies_iff_loose hf).mp happ).1 hP trivial
  exact ⟨k, o, h1, h2, h3, hQ⟩
theorem lw_frame {s t : State} {o : Outcome} {args : Array Value} (h : Framed s o t [] 601024 7293034) :
    Framed s o t (fieldLocs frame_1_writes args s ++ arrayLocs frame_1_arrays args s ++ staticLocs frame_1_statics s) 601024 7293034 := h
theorem lw_limb (L : Cond) (hL : ∀ (args : Array Value) (s t : State), L.after args s (.returned (some (.int 1))) t = true) :
    ArmFor flags0 classFile x code maxLocals ret World_1 tables_1 room_1 Calls_1 rest_1 Pre_1
      (fun tb e a s o t => postC L tb e a s o t ∧ Framed s o t (fieldLocs frame_1_writes a s ++ arrayLocs frame_1_arrays a s ++ staticLocs frame_1_statics s) 601024 7293034) := by
  intro l hflags _ _ p e ha hc hk s m args below hf hfit hheap happ hpre
  obtain ⟨k, o, h1, h2, h3, rfl, hF⟩ := lw_comes l hflags p e ha hc hk s m args below hf hfit hheap happ hpre
  exact ⟨k, _, h1, h2, h3, hL args s _, lw_frame hF⟩
theorem i_vc : Claimed_1_1 ∧ Claimed_1_2 := ⟨lw_limb limb_1_1 (fun args s t => by simp [limb_1_1, Cond.after, Cond.holds, Cond.value]), lw_limb limb_1_2 (fun args s t => Cond.after_iff.mpr (by
  first | (rw [show limb_1_2 = Cond.eq .result (.int 1) from rfl, Cond.eq_ints (x := 1) (y := 1) rfl rfl]; simp; done) | (simp [limb_1_2, Cond.value, Term.eval]; done)))⟩
