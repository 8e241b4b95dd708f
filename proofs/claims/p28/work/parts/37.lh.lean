/-! ===== the law's wrappers: what a call answers, or what stands for its throw ===== -/
section LH
variable {l : Launch} {G : cG} {A : Nat → Prop} {w : wd} {px : Nat} {fs : List Value}
set_option maxRecDepth 100000 in
set_option maxHeartbeats 4000000 in
theorem c_L_store (he : w px = some (.inr (6, fs))) (a : Int32) (x : Int64) {post post' : Int32 → wd → Prop} {pxx : String → wd → Prop} (hM : vx_Met l yX3_store wsX3_store ({ frames := 14, cells := 2, slots := 69, locals := 252 } : Room) (Pw G A w [.ref px, .int a, .long x]) (va_Qi post (Bw G A) A) (XW G A pxx) 2 69 A) (h1 : ∀ v w', post v w' → post' v w') (h2 : ∀ E w', pxx E w' → E = xIA ∧ post' (-102) w' ∨ E = xIS ∧ post' (-103) w') : Met l yL_store wsL_store ({ frames := 15, cells := 2, slots := 69, locals := 276 } : Room) (Pw G A w [.ref px, .int a, .long x]) (va_Qi (post') (Bw G A) A) 2 69 A := by
  refine m_ofH (cc := cL_store) (maxL := 5) (ret := (some .int)) (hh := [(0, 6, 7, 15), (0, 6, 12, 17)]) (by decide) rfl (Nat.le_of_ble_eq_true rfl) ?_
  intro p e s m args below meth c hc hr htab
  refine v_loc [(0, some (.ref px)), (1, some (.int a)), (2, some (.long x))] rfl ?_
  first | refine v_aload_n hc (i := 0) rfl dL_store_0 rfl ?_ | refine v_aload_nN hc (i := 0) rfl dL_store_0 rfl ?_
  refine v_iload_n hc (i := 1) rfl dL_store_1 rfl ?_
  refine v_lload_n hc (i := 2) rfl dL_store_2 rfl ?_
  refine v_xcallVi hc (hM) (cwV 2 hc.1.2.2.2.2 gL_store_X3_store rfl rfl rfl (by decide +kernel) ⟨Nat.le_of_ble_eq_true rfl, Nat.le_of_ble_eq_true rfl⟩) (he) rfl rfl rfl (Nat.le_of_ble_eq_true rfl) ⟨(by first | exact Nat.le_of_ble_eq_true rfl | omega | (dsimp only; omega) | (show _ ≤ 600130; omega) | (show _ ≤ 7301080; omega)), (by first | exact Nat.le_of_ble_eq_true rfl | omega | (dsimp only; omega) | (show _ ≤ 600130; omega) | (show _ ≤ 7301080; omega))⟩ dL_store_3 (fun E w' hp => ?_) (fun v w' hp => ?_)
  · rcases h2 E w' hp with ⟨rfl, hx⟩ | ⟨rfl, hx⟩
    · refine v_catch hc (name := "java/lang/IllegalArgumentException") [] ⟨0, 6, 7, 15⟩ [⟨0, 6, 12, 17⟩] htab (fun z hz => (nomatch hz)) rfl (by decide) (by decide +kernel) (by decide +kernel) (fun q => ?_)
      first | refine v_astore hc dL_store_7 (by decide) rfl ?_ | refine v_astoreN hc dL_store_7 (by decide) rfl ?_
      refine v_bipush hc (v := (-102)) dL_store_9 (by decide) ?_
      exact v_iret hc hr dL_store_11 (by first | exact Nat.le_of_ble_eq_true rfl | omega | (dsimp only; omega) | (show _ ≤ 600130; omega) | (show _ ≤ 7301080; omega)) (by first | exact Nat.le_of_ble_eq_true rfl | omega | (dsimp only; omega) | (show _ ≤ 600130; omega) | (show _ ≤ 7301080; omega)) (hx)
    · refine v_catch hc (name := "java/lang/IllegalStateException") [⟨0, 6, 7, 15⟩] ⟨0, 6, 12, 17⟩ [] htab (fun z hz => by
        rcases List.mem_singleton.mp hz with rfl
        exact ⟨by decide, "java/lang/IllegalArgumentException", by decide +kernel, by decide +kernel⟩) rfl (by decide) (by decide +kernel) (by decide +kernel) (fun q => ?_)
      first | refine v_astore hc dL_store_12 (by decide) rfl ?_ | refine v_astoreN hc dL_store_12 (by decide) rfl ?_
      refine v_bipush hc (v := (-103)) dL_store_14 (by decide) ?_
      exact v_iret hc hr dL_store_16 (by first | exact Nat.le_of_ble_eq_true rfl | omega | (dsimp only; omega) | (show _ ≤ 600130; omega) | (show _ ≤ 7301080; omega)) (by first | exact Nat.le_of_ble_eq_true rfl | omega | (dsimp only; omega) | (show _ ≤ 600130; omega) | (show _ ≤ 7301080; omega)) (hx)
  · exact v_iret hc hr dL_store_6 (by first | exact Nat.le_of_ble_eq_true rfl | omega | (dsimp only; omega) | (show _ ≤ 600130; omega) | (show _ ≤ 7301080; omega)) (by first | exact Nat.le_of_ble_eq_true rfl | omega | (dsimp only; omega) | (show _ ≤ 600130; omega) | (show _ ≤ 7301080; omega)) (h1 _ _ hp)
set_option maxRecDepth 100000 in
set_option maxHeartbeats 4000000 in
theorem c_L_read (he : w px = some (.inr (6, fs))) (a : Int32) {post post' : Int64 → wd → Prop} {pxx : String → wd → Prop} (hM : vx_Met l yX3_read wsX3_read ({ frames := 12, cells := 2, slots := 12, locals := 205 } : Room) (Pw G A w [.ref px, .int a]) (va_Ql post (Bw G A) A) (XW G A pxx) 2 12 A) (h1 : ∀ v w', post v w' → post' v w') (h2 : ∀ E w', pxx E w' → E = xIO ∧ post' (-101) w' ∨ E = xIS ∧ post' (-103) w') : Met l yL_read wsL_read ({ frames := 13, cells := 2, slots := 12, locals := 227 } : Room) (Pw G A w [.ref px, .int a]) (va_Ql (post') (Bw G A) A) 2 12 A := by
  refine m_ofH (cc := cL_read) (maxL := 3) (ret := (some .long)) (hh := [(0, 5, 6, 54), (0, 5, 11, 17)]) (by decide) rfl (Nat.le_of_ble_eq_true rfl) ?_
  intro p e s m args below meth c hc hr htab
  refine v_loc [(0, some (.ref px)), (1, some (.int a))] rfl ?_
  first | refine v_aload_n hc (i := 0) rfl dL_read_0 rfl ?_ | refine v_aload_nN hc (i := 0) rfl dL_read_0 rfl ?_
  refine v_iload_n hc (i := 1) rfl dL_read_1 rfl ?_
  refine v_xcallVl hc (hM) (cwV 1 hc.1.2.2.2.2 gL_read_X3_read rfl rfl rfl (by decide +kernel) ⟨Nat.le_of_ble_eq_true rfl, Nat.le_of_ble_eq_true rfl⟩) (he) rfl rfl rfl (Nat.le_of_ble_eq_true rfl) ⟨(by first | exact Nat.le_of_ble_eq_true rfl | omega | (dsimp only; omega) | (show _ ≤ 600130; omega) | (show _ ≤ 7301080; omega)), (by first | exact Nat.le_of_ble_eq_true rfl | omega | (dsimp only; omega) | (show _ ≤ 600130; omega) | (show _ ≤ 7301080; omega))⟩ dL_read_2 (fun E w' hp => ?_) (fun v w' hp => ?_)
  · rcases h2 E w' hp with ⟨rfl, hx⟩ | ⟨rfl, hx⟩
    · refine v_catch hc (name := "java/lang/IndexOutOfBoundsException") [] ⟨0, 5, 6, 54⟩ [⟨0, 5, 11, 17⟩] htab (fun z hz => (nomatch hz)) rfl (by decide) (by decide +kernel) (by decide +kernel) (fun q => ?_)
      first | refine v_astore_n hc (i := 2) rfl dL_read_6 (by decide) rfl ?_ | refine v_astore_nN hc (i := 2) rfl dL_read_6 (by decide) rfl ?_
      refine v_ldc2 hc (v := -101) dL_read_7 (by decide +kernel) ?_
      exact v_lret hc hr dL_read_10 (by first | exact Nat.le_of_ble_eq_true rfl | omega | (dsimp only; omega) | (show _ ≤ 600130; omega) | (show _ ≤ 7301080; omega)) (by first | exact Nat.le_of_ble_eq_true rfl | omega | (dsimp only; omega) | (show _ ≤ 600130; omega) | (show _ ≤ 7301080; omega)) (hx)
    · refine v_catch hc (name := "java/lang/IllegalStateException") [⟨0, 5, 6, 54⟩] ⟨0, 5, 11, 17⟩ [] htab (fun z hz => by
        rcases List.mem_singleton.mp hz with rfl
        exact ⟨by decide, "java/lang/IndexOutOfBoundsException", by decide +kernel, by decide +kernel⟩) rfl (by decide) (by decide +kernel) (by decide +kernel) (fun q => ?_)
      first | refine v_astore_n hc (i := 2) rfl dL_read_11 (by decide) rfl ?_ | refine v_astore_nN hc (i := 2) rfl dL_read_11 (by decide) rfl ?_
      refine v_ldc2 hc (v := -103) dL_read_12 (by decide +kernel) ?_
      exact v_lret hc hr dL_read_15 (by first | exact Nat.le_of_ble_eq_true rfl | omega | (dsimp only; omega) | (show _ ≤ 600130; omega) | (show _ ≤ 7301080; omega)) (by first | exact Nat.le_of_ble_eq_true rfl | omega | (dsimp only; omega) | (show _ ≤ 600130; omega) | (show _ ≤ 7301080; omega)) (hx)
  · exact v_lret hc hr dL_read_5 (by first | exact Nat.le_of_ble_eq_true rfl | omega | (dsimp only; omega) | (show _ ≤ 600130; omega) | (show _ ≤ 7301080; omega)) (by first | exact Nat.le_of_ble_eq_true rfl | omega | (dsimp only; omega) | (show _ ≤ 600130; omega) | (show _ ≤ 7301080; omega)) (h1 _ _ hp)
set_option maxRecDepth 100000 in
set_option maxHeartbeats 4000000 in
theorem c_L_pack (he : w px = some (.inr (6, fs))) (a b c0 : Int32) {post post' : Int32 → wd → Prop} {pxx : String → wd → Prop} (hM : vx_Met l yX3_pack wsX3_pack ({ frames := 15, cells := 160, slots := 5200, locals := 290 } : Room) (Pw G A w [.ref px, .int a, .int b, .int c0]) (va_Qi post (Bw G A) A) (XW G A pxx) 160 5200 A) (h1 : ∀ v w', post v w' → post' v w') (h2 : ∀ E w', pxx E w' → E = xIA ∧ post' (-102) w') : Met l yL_pack wsL_pack ({ frames := 16, cells := 160, slots := 5200, locals := 316 } : Room) (Pw G A w [.ref px, .int a, .int b, .int c0]) (va_Qi (post') (Bw G A) A) 160 5200 A := by
  refine m_ofH (cc := cL_pack) (maxL := 5) (ret := (some .int)) (hh := [(0, 7, 8, 15)]) (by decide) rfl (Nat.le_of_ble_eq_true rfl) ?_
  intro p e s m args below meth c hc hr htab
  refine v_loc [(0, some (.ref px)), (1, some (.int a)), (2, some (.int b)), (3, some (.int c0))] rfl ?_
  first | refine v_aload_n hc (i := 0) rfl dL_pack_0 rfl ?_ | refine v_aload_nN hc (i := 0) rfl dL_pack_0 rfl ?_
  refine v_iload_n hc (i := 1) rfl dL_pack_1 rfl ?_
  refine v_iload_n hc (i := 2) rfl dL_pack_2 rfl ?_
  refine v_iload_n hc (i := 3) rfl dL_pack_3 rfl ?_
  refine v_xcallVi hc (hM) (cwV 3 hc.1.2.2.2.2 gL_pack_X3_pack rfl rfl rfl (by decide +kernel) ⟨Nat.le_of_ble_eq_true rfl, Nat.le_of_ble_eq_true rfl⟩) (he) rfl rfl rfl (Nat.le_of_ble_eq_true rfl) ⟨(by first | exact Nat.le_of_ble_eq_true rfl | omega | (dsimp only; omega) | (show _ ≤ 600130; omega) | (show _ ≤ 7301080; omega)), (by first | exact Nat.le_of_ble_eq_true rfl | omega | (dsimp only; omega) | (show _ ≤ 600130; omega) | (show _ ≤ 7301080; omega))⟩ dL_pack_4 (fun E w' hp => ?_) (fun v w' hp => ?_)
  · obtain ⟨rfl, hx⟩ := h2 E w' hp
    refine v_catch hc (name := "java/lang/IllegalArgumentException") [] ⟨0, 7, 8, 15⟩ [] htab (fun z hz => (nomatch hz)) rfl (by decide) (by decide +kernel) (by decide +kernel) (fun q => ?_)
    first | refine v_astore hc dL_pack_8 (by decide) rfl ?_ | refine v_astoreN hc dL_pack_8 (by decide) rfl ?_
    refine v_bipush hc (v := (-102)) dL_pack_10 (by decide) ?_
    exact v_iret hc hr dL_pack_12 (by first | exact Nat.le_of_ble_eq_true rfl | omega | (dsimp only; omega) | (show _ ≤ 600130; omega) | (show _ ≤ 7301080; omega)) (by first | exact Nat.le_of_ble_eq_true rfl | omega | (dsimp only; omega) | (show _ ≤ 600130; omega) | (show _ ≤ 7301080; omega)) (hx)
  · exact v_iret hc hr dL_pack_7 (by first | exact Nat.le_of_ble_eq_true rfl | omega | (dsimp only; omega) | (show _ ≤ 600130; omega) | (show _ ≤ 7301080; omega)) (by first | exact Nat.le_of_ble_eq_true rfl | omega | (dsimp only; omega) | (show _ ≤ 600130; omega) | (show _ ≤ 7301080; omega)) (h1 _ _ hp)
set_option maxRecDepth 100000 in
set_option maxHeartbeats 4000000 in
theorem c_L_deltaCost (he : w px = some (.inr (6, fs))) (a b : Int32) {post post' : Int32 → wd → Prop} {pxx : String → wd → Prop} (hM : vx_Met l yX3_deltaCost wsX3_deltaCost ({ frames := 14, cells := 2, slots := 12, locals := 259 } : Room) (Pw G A w [.ref px, .int a, .int b]) (va_Qi post (Bw G A) A) (XW G A pxx) 2 12 A) (h1 : ∀ v w', post v w' → post' v w') (h2 : ∀ E w', pxx E w' → E = xIO ∧ post' (-101) w') : Met l yL_deltaCost wsL_deltaCost ({ frames := 15, cells := 2, slots := 12, locals := 281 } : Room) (Pw G A w [.ref px, .int a, .int b]) (va_Qi (post') (Bw G A) A) 2 12 A := by
  refine m_ofH (cc := cL_deltaCost) (maxL := 4) (ret := (some .int)) (hh := [(0, 6, 7, 54)]) (by decide) rfl (Nat.le_of_ble_eq_true rfl) ?_
  intro p e s m args below meth c hc hr htab
  refine v_loc [(0, some (.ref px)), (1, some (.int a)), (2, some (.int b))] rfl ?_
  first | refine v_aload_n hc (i := 0) rfl dL_deltaCost_0 rfl ?_ | refine v_aload_nN hc (i := 0) rfl dL_deltaCost_0 rfl ?_
  refine v_iload_n hc (i := 1) rfl dL_deltaCost_1 rfl ?_
  refine v_iload_n hc (i := 2) rfl dL_deltaCost_2 rfl ?_
  refine v_xcallVi hc (hM) (cwV 2 hc.1.2.2.2.2 gL_deltaCost_X3_deltaCost rfl rfl rfl (by decide +kernel) ⟨Nat.le_of_ble_eq_true rfl, Nat.le_of_ble_eq_true rfl⟩) (he) rfl rfl rfl (Nat.le_of_ble_eq_true rfl) ⟨(by first | exact Nat.le_of_ble_eq_true rfl | omega | (dsimp only; omega) | (show _ ≤ 600130; omega) | (show _ ≤ 7301080; omega)), (by first | exact Nat.le_of_ble_eq_true rfl | omega | (dsimp only; omega) | (show _ ≤ 600130; omega) | (show _ ≤ 7301080; omega))⟩ dL_deltaCost_3 (fun E w' hp => ?_) (fun v w' hp => ?_)
  · obtain ⟨rfl, hx⟩ := h2 E w' hp
    refine v_catch hc (name := "java/lang/IndexOutOfBoundsException") [] ⟨0, 6, 7, 54⟩ [] htab (fun z hz => (nomatch hz)) rfl (by decide) (by decide +kernel) (by decide +kernel) (fun q => ?_)
    first | refine v_astore_n hc (i := 3) rfl dL_deltaCost_7 (by decide) rfl ?_ | refine v_astore_nN hc (i := 3) rfl dL_deltaCost_7 (by decide) rfl ?_
    refine v_bipush hc (v := (-101)) dL_deltaCost_8 (by decide) ?_
    exact v_iret hc hr dL_deltaCost_10 (by first | exact Nat.le_of_ble_eq_true rfl | omega | (dsimp only; omega) | (show _ ≤ 600130; omega) | (show _ ≤ 7301080; omega)) (by first | exact Nat.le_of_ble_eq_true rfl | omega | (dsimp only; omega) | (show _ ≤ 600130; omega) | (show _ ≤ 7301080; omega)) (hx)
  · exact v_iret hc hr dL_deltaCost_6 (by first | exact Nat.le_of_ble_eq_true rfl | omega | (dsimp only; omega) | (show _ ≤ 600130; omega) | (show _ ≤ 7301080; omega)) (by first | exact Nat.le_of_ble_eq_true rfl | omega | (dsimp only; omega) | (show _ ≤ 600130; omega) | (show _ ≤ 7301080; omega)) (h1 _ _ hp)
set_option maxRecDepth 100000 in
set_option maxHeartbeats 4000000 in
theorem c_L_of0 (he : w px = some (.inr (6, fs))) (a : Int32) {post post' : Int32 → wd → Prop} {pxx : String → wd → Prop} (hM : vx_Met l yX3_delete wsX3_delete ({ frames := 12, cells := 2, slots := 12, locals := 206 } : Room) (Pw G A w [.ref px, .int a]) (va_Qi post (Bw G A) A) (XW G A pxx) 2 12 A) (h1 : ∀ v w', post v w' → post' v w') (h2 : ∀ E w', pxx E w' → E = xIO ∧ post' (-101) w' ∨ E = xIS ∧ post' (-103) w') : Met l yL_of wsL_of ({ frames := 14, cells := 3, slots := 18, locals := 250 } : Room) (Pw G A w [.ref px, .int (nI 0), .int a]) (va_Qi (post') (Bw G A) A) 3 18 A := by
  refine m_ofH (cc := cL_of) (maxL := 4) (ret := (some .int)) (hh := [(0, 162, 163, 54), (0, 162, 167, 17)]) (by decide) rfl (Nat.le_of_ble_eq_true rfl) ?_
  intro p e s m args below meth c hc hr htab
  refine v_loc [(0, some (.ref px)), (1, some (.int (nI 0))), (2, some (.int a))] rfl ?_
  refine v_iload_n hc (i := 1) rfl dL_of_0 rfl ?_
  refine v_if_ne hc (tgt := 12) dL_of_1 (by decide) (fun hb => False.elim (absurd hb (by decide))) (fun _ => ?_)
  first | refine v_aload_n hc (i := 0) rfl dL_of_4 rfl ?_ | refine v_aload_nN hc (i := 0) rfl dL_of_4 rfl ?_
  refine v_iload_n hc (i := 2) rfl dL_of_5 rfl ?_
  refine v_xcallVi hc (hM) (cwV 1 hc.1.2.2.2.2 gL_of_X3_delete rfl rfl rfl (by decide +kernel) ⟨Nat.le_of_ble_eq_true rfl, Nat.le_of_ble_eq_true rfl⟩) (he) rfl rfl rfl (Nat.le_of_ble_eq_true rfl) ⟨(by first | exact Nat.le_of_ble_eq_true rfl | omega | (dsimp only; omega) | (show _ ≤ 600130; omega) | (show _ ≤ 7301080; omega)), (by first | exact Nat.le_of_ble_eq_true rfl | omega | (dsimp only; omega) | (show _ ≤ 600130; omega) | (show _ ≤ 7301080; omega))⟩ dL_of_6 (fun E w' hp => ?_) (fun v w' hp => ?_)
  · rcases h2 E w' hp with ⟨rfl, hx⟩ | ⟨rfl, hx⟩
    · refine v_catch hc (name := "java/lang/IndexOutOfBoundsException") [] ⟨0, 162, 163, 54⟩ [⟨0, 162, 167, 17⟩] htab (fun z hz => (nomatch hz)) rfl (by decide) (by decide +kernel) (by decide +kernel) (fun q => ?_)
      first | refine v_astore_n hc (i := 3) rfl dL_of_163 (by decide) rfl ?_ | refine v_astore_nN hc (i := 3) rfl dL_of_163 (by decide) rfl ?_
      refine v_bipush hc (v := (-101)) dL_of_164 (by decide) ?_
      exact v_iret hc hr dL_of_166 (by first | exact Nat.le_of_ble_eq_true rfl | omega | (dsimp only; omega) | (show _ ≤ 600130; omega) | (show _ ≤ 7301080; omega)) (by first | exact Nat.le_of_ble_eq_true rfl | omega | (dsimp only; omega) | (show _ ≤ 600130; omega) | (show _ ≤ 7301080; omega)) (hx)
    · refine v_catch hc (name := "java/lang/IllegalStateException") [⟨0, 162, 163, 54⟩] ⟨0, 162, 167, 17⟩ [] htab (fun z hz => by
        rcases List.mem_singleton.mp hz with rfl
        exact ⟨by decide, "java/lang/IndexOutOfBoundsException", by decide +kernel, by decide +kernel⟩) rfl (by decide) (by decide +kernel) (by decide +kernel) (fun q => ?_)
      first | refine v_astore_n hc (i := 3) rfl dL_of_167 (by decide) rfl ?_ | refine v_astore_nN hc (i := 3) rfl dL_of_167 (by decide) rfl ?_
      refine v_bipush hc (v := (-103)) dL_of_168 (by decide) ?_
      exact v_iret hc hr dL_of_170 (by first | exact Nat.le_of_ble_eq_true rfl | omega | (dsimp only; omega) | (show _ ≤ 600130; omega) | (show _ ≤ 7301080; omega)) (by first | exact Nat.le_of_ble_eq_true rfl | omega | (dsimp only; omega) | (show _ ≤ 600130; omega) | (show _ ≤ 7301080; omega)) (hx)
  · refine v_goto hc (tgt := 162) dL_of_9 (by decide) ?_
    exact v_iret hc hr dL_of_162 (by first | exact Nat.le_of_ble_eq_true rfl | omega | (dsimp only; omega) | (show _ ≤ 600130; omega) | (show _ ≤ 7301080; omega)) (by first | exact Nat.le_of_ble_eq_true rfl | omega | (dsimp only; omega) | (show _ ≤ 600130; omega) | (show _ ≤ 7301080; omega)) (h1 _ _ hp)
set_option maxRecDepth 100000 in
set_option maxHeartbeats 4000000 in
theorem c_L_of1 (he : w px = some (.inr (6, fs))) (a : Int32) {post post' : Int32 → wd → Prop} {pxx : String → wd → Prop} (hM : vx_Met l yX3_damage wsX3_damage ({ frames := 13, cells := 3, slots := 18, locals := 227 } : Room) (Pw G A w [.ref px, .int a]) (va_Qi post (Bw G A) A) (XW G A pxx) 3 18 A) (h1 : ∀ v w', post v w' → post' v w') (h2 : ∀ E w', pxx E w' → E = xIO ∧ post' (-101) w' ∨ E = xIS ∧ post' (-103) w') : Met l yL_of wsL_of ({ frames := 14, cells := 3, slots := 18, locals := 250 } : Room) (Pw G A w [.ref px, .int (nI 1), .int a]) (va_Qi (post') (Bw G A) A) 3 18 A := by
  refine m_ofH (cc := cL_of) (maxL := 4) (ret := (some .int)) (hh := [(0, 162, 163, 54), (0, 162, 167, 17)]) (by decide) rfl (Nat.le_of_ble_eq_true rfl) ?_
  intro p e s m args below meth c hc hr htab
  refine v_loc [(0, some (.ref px)), (1, some (.int (nI 1))), (2, some (.int a))] rfl ?_
  refine v_iload_n hc (i := 1) rfl dL_of_0 rfl ?_
  refine v_if_ne hc (tgt := 12) dL_of_1 (by decide) (fun _ => ?_) (fun hb => False.elim (absurd hb (by decide)))
  refine v_iload_n hc (i := 1) rfl dL_of_12 rfl ?_
  refine v_iconst hc (v := nI 1) dL_of_13 (by decide) ?_
  refine v_icmp_ne hc (tgt := 25) dL_of_14 (by decide) (fun hb => False.elim (absurd hb (by decide))) (fun _ => ?_)
  first | refine v_aload_n hc (i := 0) rfl dL_of_17 rfl ?_ | refine v_aload_nN hc (i := 0) rfl dL_of_17 rfl ?_
  refine v_iload_n hc (i := 2) rfl dL_of_18 rfl ?_
  refine v_xcallVi hc (hM) (cwV 1 hc.1.2.2.2.2 gL_of_X3_damage rfl rfl rfl (by decide +kernel) ⟨Nat.le_of_ble_eq_true rfl, Nat.le_of_ble_eq_true rfl⟩) (he) rfl rfl rfl (Nat.le_of_ble_eq_true rfl) ⟨(by first | exact Nat.le_of_ble_eq_true rfl | omega | (dsimp only; omega) | (show _ ≤ 600130; omega) | (show _ ≤ 7301080; omega)), (by first | exact Nat.le_of_ble_eq_true rfl | omega | (dsimp only; omega) | (show _ ≤ 600130; omega) | (show _ ≤ 7301080; omega))⟩ dL_of_19 (fun E w' hp => ?_) (fun v w' hp => ?_)
  · rcases h2 E w' hp with ⟨rfl, hx⟩ | ⟨rfl, hx⟩
    · refine v_catch hc (name := "java/lang/IndexOutOfBoundsException") [] ⟨0, 162, 163, 54⟩ [⟨0, 162, 167, 17⟩] htab (fun z hz => (nomatch hz)) rfl (by decide) (by decide +kernel) (by decide +kernel) (fun q => ?_)
      first | refine v_astore_n hc (i := 3) rfl dL_of_163 (by decide) rfl ?_ | refine v_astore_nN hc (i := 3) rfl dL_of_163 (by decide) rfl ?_
      refine v_bipush hc (v := (-101)) dL_of_164 (by decide) ?_
      exact v_iret hc hr dL_of_166 (by first | exact Nat.le_of_ble_eq_true rfl | omega | (dsimp only; omega) | (show _ ≤ 600130; omega) | (show _ ≤ 7301080; omega)) (by first | exact Nat.le_of_ble_eq_true rfl | omega | (dsimp only; omega) | (show _ ≤ 600130; omega) | (show _ ≤ 7301080; omega)) (hx)
    · refine v_catch hc (name := "java/lang/IllegalStateException") [⟨0, 162, 163, 54⟩] ⟨0, 162, 167, 17⟩ [] htab (fun z hz => by
        rcases List.mem_singleton.mp hz with rfl
        exact ⟨by decide, "java/lang/IndexOutOfBoundsException", by decide +kernel, by decide +kernel⟩) rfl (by decide) (by decide +kernel) (by decide +kernel) (fun q => ?_)
      first | refine v_astore_n hc (i := 3) rfl dL_of_167 (by decide) rfl ?_ | refine v_astore_nN hc (i := 3) rfl dL_of_167 (by decide) rfl ?_
      refine v_bipush hc (v := (-103)) dL_of_168 (by decide) ?_
      exact v_iret hc hr dL_of_170 (by first | exact Nat.le_of_ble_eq_true rfl | omega | (dsimp only; omega) | (show _ ≤ 600130; omega) | (show _ ≤ 7301080; omega)) (by first | exact Nat.le_of_ble_eq_true rfl | omega | (dsimp only; omega) | (show _ ≤ 600130; omega) | (show _ ≤ 7301080; omega)) (hx)
  · refine v_goto hc (tgt := 162) dL_of_22 (by decide) ?_
    exact v_iret hc hr dL_of_162 (by first | exact Nat.le_of_ble_eq_true rfl | omega | (dsimp only; omega) | (show _ ≤ 600130; omega) | (show _ ≤ 7301080; omega)) (by first | exact Nat.le_of_ble_eq_true rfl | omega | (dsimp only; omega) | (show _ ≤ 600130; omega) | (show _ ≤ 7301080; omega)) (h1 _ _ hp)
set_option maxRecDepth 100000 in
set_option maxHeartbeats 4000000 in
theorem c_L_of2 (he : w px = some (.inr (6, fs))) (a : Int32) {post post' : Int32 → wd → Prop} {pxx : String → wd → Prop} (hM : vx_Met l yX3_costOf wsX3_costOf ({ frames := 13, cells := 2, slots := 12, locals := 227 } : Room) (Pw G A w [.ref px, .int a]) (va_Qi post (Bw G A) A) (XW G A pxx) 2 12 A) (h1 : ∀ v w', post v w' → post' v w') (h2 : ∀ E w', pxx E w' → E = xIO ∧ post' (-101) w' ∨ E = xIS ∧ post' (-103) w') : Met l yL_of wsL_of ({ frames := 14, cells := 3, slots := 18, locals := 250 } : Room) (Pw G A w [.ref px, .int (nI 2), .int a]) (va_Qi (post') (Bw G A) A) 3 18 A := by
  refine m_ofH (cc := cL_of) (maxL := 4) (ret := (some .int)) (hh := [(0, 162, 163, 54), (0, 162, 167, 17)]) (by decide) rfl (Nat.le_of_ble_eq_true rfl) ?_
  intro p e s m args below meth c hc hr htab
  refine v_loc [(0, some (.ref px)), (1, some (.int (nI 2))), (2, some (.int a))] rfl ?_
  refine v_iload_n hc (i := 1) rfl dL_of_0 rfl ?_
  refine v_if_ne hc (tgt := 12) dL_of_1 (by decide) (fun _ => ?_) (fun hb => False.elim (absurd hb (by decide)))
  refine v_iload_n hc (i := 1) rfl dL_of_12 rfl ?_
  refine v_iconst hc (v := nI 1) dL_of_13 (by decide) ?_
  refine v_icmp_ne hc (tgt := 25) dL_of_14 (by decide) (fun _ => ?_) (fun hb => False.elim (absurd hb (by decide)))
  refine v_iload_n hc (i := 1) rfl dL_of_25 rfl ?_
  refine v_iconst hc (v := nI 2) dL_of_26 (by decide) ?_
  refine v_icmp_ne hc (tgt := 38) dL_of_27 (by decide) (fun hb => False.elim (absurd hb (by decide))) (fun _ => ?_)
  first | refine v_aload_n hc (i := 0) rfl dL_of_30 rfl ?_ | refine v_aload_nN hc (i := 0) rfl dL_of_30 rfl ?_
  refine v_iload_n hc (i := 2) rfl dL_of_31 rfl ?_
  refine v_xcallVi hc (hM) (cwV 1 hc.1.2.2.2.2 gL_of_X3_costOf rfl rfl rfl (by decide +kernel) ⟨Nat.le_of_ble_eq_true rfl, Nat.le_of_ble_eq_true rfl⟩) (he) rfl rfl rfl (Nat.le_of_ble_eq_true rfl) ⟨(by first | exact Nat.le_of_ble_eq_true rfl | omega | (dsimp only; omega) | (show _ ≤ 600130; omega) | (show _ ≤ 7301080; omega)), (by first | exact Nat.le_of_ble_eq_true rfl | omega | (dsimp only; omega) | (show _ ≤ 600130; omega) | (show _ ≤ 7301080; omega))⟩ dL_of_32 (fun E w' hp => ?_) (fun v w' hp => ?_)
  · rcases h2 E w' hp with ⟨rfl, hx⟩ | ⟨rfl, hx⟩
    · refine v_catch hc (name := "java/lang/IndexOutOfBoundsException") [] ⟨0, 162, 163, 54⟩ [⟨0, 162, 167, 17⟩] htab (fun z hz => (nomatch hz)) rfl (by decide) (by decide +kernel) (by decide +kernel) (fun q => ?_)
      first | refine v_astore_n hc (i := 3) rfl dL_of_163 (by decide) rfl ?_ | refine v_astore_nN hc (i := 3) rfl dL_of_163 (by decide) rfl ?_
      refine v_bipush hc (v := (-101)) dL_of_164 (by decide) ?_
      exact v_iret hc hr dL_of_166 (by first | exact Nat.le_of_ble_eq_true rfl | omega | (dsimp only; omega) | (show _ ≤ 600130; omega) | (show _ ≤ 7301080; omega)) (by first | exact Nat.le_of_ble_eq_true rfl | omega | (dsimp only; omega) | (show _ ≤ 600130; omega) | (show _ ≤ 7301080; omega)) (hx)
    · refine v_catch hc (name := "java/lang/IllegalStateException") [⟨0, 162, 163, 54⟩] ⟨0, 162, 167, 17⟩ [] htab (fun z hz => by
        rcases List.mem_singleton.mp hz with rfl
        exact ⟨by decide, "java/lang/IndexOutOfBoundsException", by decide +kernel, by decide +kernel⟩) rfl (by decide) (by decide +kernel) (by decide +kernel) (fun q => ?_)
      first | refine v_astore_n hc (i := 3) rfl dL_of_167 (by decide) rfl ?_ | refine v_astore_nN hc (i := 3) rfl dL_of_167 (by decide) rfl ?_
      refine v_bipush hc (v := (-103)) dL_of_168 (by decide) ?_
      exact v_iret hc hr dL_of_170 (by first | exact Nat.le_of_ble_eq_true rfl | omega | (dsimp only; omega) | (show _ ≤ 600130; omega) | (show _ ≤ 7301080; omega)) (by first | exact Nat.le_of_ble_eq_true rfl | omega | (dsimp only; omega) | (show _ ≤ 600130; omega) | (show _ ≤ 7301080; omega)) (hx)
  · refine v_goto hc (tgt := 162) dL_of_35 (by decide) ?_
    exact v_iret hc hr dL_of_162 (by first | exact Nat.le_of_ble_eq_true rfl | omega | (dsimp only; omega) | (show _ ≤ 600130; omega) | (show _ ≤ 7301080; omega)) (by first | exact Nat.le_of_ble_eq_true rfl | omega | (dsimp only; omega) | (show _ ≤ 600130; omega) | (show _ ≤ 7301080; omega)) (h1 _ _ hp)
set_option maxRecDepth 100000 in
set_option maxHeartbeats 4000000 in
theorem c_L_of3 (he : w px = some (.inr (6, fs))) (a : Int32) {post post' : Int32 → wd → Prop} {pxx : String → wd → Prop} (hM : vx_Met l yX3_base wsX3_base ({ frames := 13, cells := 2, slots := 12, locals := 227 } : Room) (Pw G A w [.ref px, .int a]) (va_Qi post (Bw G A) A) (XW G A pxx) 2 12 A) (h1 : ∀ v w', post v w' → post' v w') (h2 : ∀ E w', pxx E w' → E = xIO ∧ post' (-101) w' ∨ E = xIS ∧ post' (-103) w') : Met l yL_of wsL_of ({ frames := 14, cells := 3, slots := 18, locals := 250 } : Room) (Pw G A w [.ref px, .int (nI 3), .int a]) (va_Qi (post') (Bw G A) A) 3 18 A := by
  refine m_ofH (cc := cL_of) (maxL := 4) (ret := (some .int)) (hh := [(0, 162, 163, 54), (0, 162, 167, 17)]) (by decide) rfl (Nat.le_of_ble_eq_true rfl) ?_
  intro p e s m args below meth c hc hr htab
  refine v_loc [(0, some (.ref px)), (1, some (.int (nI 3))), (2, some (.int a))] rfl ?_
  refine v_iload_n hc (i := 1) rfl dL_of_0 rfl ?_
  refine v_if_ne hc (tgt := 12) dL_of_1 (by decide) (fun _ => ?_) (fun hb => False.elim (absurd hb (by decide)))
  refine v_iload_n hc (i := 1) rfl dL_of_12 rfl ?_
  refine v_iconst hc (v := nI 1) dL_of_13 (by decide) ?_
  refine v_icmp_ne hc (tgt := 25) dL_of_14 (by decide) (fun _ => ?_) (fun hb => False.elim (absurd hb (by decide)))
  refine v_iload_n hc (i := 1) rfl dL_of_25 rfl ?_
  refine v_iconst hc (v := nI 2) dL_of_26 (by decide) ?_
  refine v_icmp_ne hc (tgt := 38) dL_of_27 (by decide) (fun _ => ?_) (fun hb => False.elim (absurd hb (by decide)))
  refine v_iload_n hc (i := 1) rfl dL_of_38 rfl ?_
  refine v_iconst hc (v := nI 3) dL_of_39 (by decide) ?_
  refine v_icmp_ne hc (tgt := 51) dL_of_40 (by decide) (fun hb => False.elim (absurd hb (by decide))) (fun _ => ?_)
  first | refine v_aload_n hc (i := 0) rfl dL_of_43 rfl ?_ | refine v_aload_nN hc (i := 0) rfl dL_of_43 rfl ?_
  refine v_iload_n hc (i := 2) rfl dL_of_44 rfl ?_
  refine v_xcallVi hc (hM) (cwV 1 hc.1.2.2.2.2 gL_of_X3_base rfl rfl rfl (by decide +kernel) ⟨Nat.le_of_ble_eq_true rfl, Nat.le_of_ble_eq_true rfl⟩) (he) rfl rfl rfl (Nat.le_of_ble_eq_true rfl) ⟨(by first | exact Nat.le_of_ble_eq_true rfl | omega | (dsimp only; omega) | (show _ ≤ 600130; omega) | (show _ ≤ 7301080; omega)), (by first | exact Nat.le_of_ble_eq_true rfl | omega | (dsimp only; omega) | (show _ ≤ 600130; omega) | (show _ ≤ 7301080; omega))⟩ dL_of_45 (fun E w' hp => ?_) (fun v w' hp => ?_)
  · rcases h2 E w' hp with ⟨rfl, hx⟩ | ⟨rfl, hx⟩
    · refine v_catch hc (name := "java/lang/IndexOutOfBoundsException") [] ⟨0, 162, 163, 54⟩ [⟨0, 162, 167, 17⟩] htab (fun z hz => (nomatch hz)) rfl (by decide) (by decide +kernel) (by decide +kernel) (fun q => ?_)
      first | refine v_astore_n hc (i := 3) rfl dL_of_163 (by decide) rfl ?_ | refine v_astore_nN hc (i := 3) rfl dL_of_163 (by decide) rfl ?_
      refine v_bipush hc (v := (-101)) dL_of_164 (by decide) ?_
      exact v_iret hc hr dL_of_166 (by first | exact Nat.le_of_ble_eq_true rfl | omega | (dsimp only; omega) | (show _ ≤ 600130; omega) | (show _ ≤ 7301080; omega)) (by first | exact Nat.le_of_ble_eq_true rfl | omega | (dsimp only; omega) | (show _ ≤ 600130; omega) | (show _ ≤ 7301080; omega)) (hx)
    · refine v_catch hc (name := "java/lang/IllegalStateException") [⟨0, 162, 163, 54⟩] ⟨0, 162, 167, 17⟩ [] htab (fun z hz => by
        rcases List.mem_singleton.mp hz with rfl
        exact ⟨by decide, "java/lang/IndexOutOfBoundsException", by decide +kernel, by decide +kernel⟩) rfl (by decide) (by decide +kernel) (by decide +kernel) (fun q => ?_)
      first | refine v_astore_n hc (i := 3) rfl dL_of_167 (by decide) rfl ?_ | refine v_astore_nN hc (i := 3) rfl dL_of_167 (by decide) rfl ?_
      refine v_bipush hc (v := (-103)) dL_of_168 (by decide) ?_
      exact v_iret hc hr dL_of_170 (by first | exact Nat.le_of_ble_eq_true rfl | omega | (dsimp only; omega) | (show _ ≤ 600130; omega) | (show _ ≤ 7301080; omega)) (by first | exact Nat.le_of_ble_eq_true rfl | omega | (dsimp only; omega) | (show _ ≤ 600130; omega) | (show _ ≤ 7301080; omega)) (hx)
  · refine v_goto hc (tgt := 162) dL_of_48 (by decide) ?_
    exact v_iret hc hr dL_of_162 (by first | exact Nat.le_of_ble_eq_true rfl | omega | (dsimp only; omega) | (show _ ≤ 600130; omega) | (show _ ≤ 7301080; omega)) (by first | exact Nat.le_of_ble_eq_true rfl | omega | (dsimp only; omega) | (show _ ≤ 600130; omega) | (show _ ≤ 7301080; omega)) (h1 _ _ hp)
set_option maxRecDepth 100000 in
set_option maxHeartbeats 4000000 in
theorem c_L_of4 (he : w px = some (.inr (6, fs))) (a : Int32) {post post' : Int32 → wd → Prop} {pxx : String → wd → Prop} (hM : vx_Met l yX3_depth wsX3_depth ({ frames := 13, cells := 2, slots := 12, locals := 227 } : Room) (Pw G A w [.ref px, .int a]) (va_Qi post (Bw G A) A) (XW G A pxx) 2 12 A) (h1 : ∀ v w', post v w' → post' v w') (h2 : ∀ E w', pxx E w' → E = xIO ∧ post' (-101) w' ∨ E = xIS ∧ post' (-103) w') : Met l yL_of wsL_of ({ frames := 14, cells := 3, slots := 18, locals := 250 } : Room) (Pw G A w [.ref px, .int (nI 4), .int a]) (va_Qi (post') (Bw G A) A) 3 18 A := by
  refine m_ofH (cc := cL_of) (maxL := 4) (ret := (some .int)) (hh := [(0, 162, 163, 54), (0, 162, 167, 17)]) (by decide) rfl (Nat.le_of_ble_eq_true rfl) ?_
  intro p e s m args below meth c hc hr htab
  refine v_loc [(0, some (.ref px)), (1, some (.int (nI 4))), (2, some (.int a))] rfl ?_
  refine v_iload_n hc (i := 1) rfl dL_of_0 rfl ?_
  refine v_if_ne hc (tgt := 12) dL_of_1 (by decide) (fun _ => ?_) (fun hb => False.elim (absurd hb (by decide)))
  refine v_iload_n hc (i := 1) rfl dL_of_12 rfl ?_
  refine v_iconst hc (v := nI 1) dL_of_13 (by decide) ?_
  refine v_icmp_ne hc (tgt := 25) dL_of_14 (by decide) (fun _ => ?_) (fun hb => False.elim (absurd hb (by decide)))
  refine v_iload_n hc (i := 1) rfl dL_of_25 rfl ?_
  refine v_iconst hc (v := nI 2) dL_of_26 (by decide) ?_
  refine v_icmp_ne hc (tgt := 38) dL_of_27 (by decide) (fun _ => ?_) (fun hb => False.elim (absurd hb (by decide)))
  refine v_iload_n hc (i := 1) rfl dL_of_38 rfl ?_
  refine v_iconst hc (v := nI 3) dL_of_39 (by decide) ?_
  refine v_icmp_ne hc (tgt := 51) dL_of_40 (by decide) (fun _ => ?_) (fun hb => False.elim (absurd hb (by decide)))
  refine v_iload_n hc (i := 1) rfl dL_of_51 rfl ?_
  refine v_iconst hc (v := nI 4) dL_of_52 (by decide) ?_
  refine v_icmp_ne hc (tgt := 64) dL_of_53 (by decide) (fun hb => False.elim (absurd hb (by decide))) (fun _ => ?_)
  first | refine v_aload_n hc (i := 0) rfl dL_of_56 rfl ?_ | refine v_aload_nN hc (i := 0) rfl dL_of_56 rfl ?_
  refine v_iload_n hc (i := 2) rfl dL_of_57 rfl ?_
  refine v_xcallVi hc (hM) (cwV 1 hc.1.2.2.2.2 gL_of_X3_depth rfl rfl rfl (by decide +kernel) ⟨Nat.le_of_ble_eq_true rfl, Nat.le_of_ble_eq_true rfl⟩) (he) rfl rfl rfl (Nat.le_of_ble_eq_true rfl) ⟨(by first | exact Nat.le_of_ble_eq_true rfl | omega | (dsimp only; omega) | (show _ ≤ 600130; omega) | (show _ ≤ 7301080; omega)), (by first | exact Nat.le_of_ble_eq_true rfl | omega | (dsimp only; omega) | (show _ ≤ 600130; omega) | (show _ ≤ 7301080; omega))⟩ dL_of_58 (fun E w' hp => ?_) (fun v w' hp => ?_)
  · rcases h2 E w' hp with ⟨rfl, hx⟩ | ⟨rfl, hx⟩
    · refine v_catch hc (name := "java/lang/IndexOutOfBoundsException") [] ⟨0, 162, 163, 54⟩ [⟨0, 162, 167, 17⟩] htab (fun z hz => (nomatch hz)) rfl (by decide) (by decide +kernel) (by decide +kernel) (fun q => ?_)
      first | refine v_astore_n hc (i := 3) rfl dL_of_163 (by decide) rfl ?_ | refine v_astore_nN hc (i := 3) rfl dL_of_163 (by decide) rfl ?_
      refine v_bipush hc (v := (-101)) dL_of_164 (by decide) ?_
      exact v_iret hc hr dL_of_166 (by first | exact Nat.le_of_ble_eq_true rfl | omega | (dsimp only; omega) | (show _ ≤ 600130; omega) | (show _ ≤ 7301080; omega)) (by first | exact Nat.le_of_ble_eq_true rfl | omega | (dsimp only; omega) | (show _ ≤ 600130; omega) | (show _ ≤ 7301080; omega)) (hx)
    · refine v_catch hc (name := "java/lang/IllegalStateException") [⟨0, 162, 163, 54⟩] ⟨0, 162, 167, 17⟩ [] htab (fun z hz => by
        rcases List.mem_singleton.mp hz with rfl
        exact ⟨by decide, "java/lang/IndexOutOfBoundsException", by decide +kernel, by decide +kernel⟩) rfl (by decide) (by decide +kernel) (by decide +kernel) (fun q => ?_)
      first | refine v_astore_n hc (i := 3) rfl dL_of_167 (by decide) rfl ?_ | refine v_astore_nN hc (i := 3) rfl dL_of_167 (by decide) rfl ?_
      refine v_bipush hc (v := (-103)) dL_of_168 (by decide) ?_
      exact v_iret hc hr dL_of_170 (by first | exact Nat.le_of_ble_eq_true rfl | omega | (dsimp only; omega) | (show _ ≤ 600130; omega) | (show _ ≤ 7301080; omega)) (by first | exact Nat.le_of_ble_eq_true rfl | omega | (dsimp only; omega) | (show _ ≤ 600130; omega) | (show _ ≤ 7301080; omega)) (hx)
  · refine v_goto hc (tgt := 162) dL_of_61 (by decide) ?_
    exact v_iret hc hr dL_of_162 (by first | exact Nat.le_of_ble_eq_true rfl | omega | (dsimp only; omega) | (show _ ≤ 600130; omega) | (show _ ≤ 7301080; omega)) (by first | exact Nat.le_of_ble_eq_true rfl | omega | (dsimp only; omega) | (show _ ≤ 600130; omega) | (show _ ≤ 7301080; omega)) (h1 _ _ hp)
set_option maxRecDepth 100000 in
set_option maxHeartbeats 4000000 in
theorem c_L_of5 (he : w px = some (.inr (6, fs))) (a : Int32) {post post' : Int32 → wd → Prop} {pxx : String → wd → Prop} (hM : vx_Met l yX3_parts wsX3_parts ({ frames := 13, cells := 2, slots := 12, locals := 227 } : Room) (Pw G A w [.ref px, .int a]) (va_Qi post (Bw G A) A) (XW G A pxx) 2 12 A) (h1 : ∀ v w', post v w' → post' v w') (h2 : ∀ E w', pxx E w' → E = xIO ∧ post' (-101) w' ∨ E = xIS ∧ post' (-103) w') : Met l yL_of wsL_of ({ frames := 14, cells := 3, slots := 18, locals := 250 } : Room) (Pw G A w [.ref px, .int (nI 5), .int a]) (va_Qi (post') (Bw G A) A) 3 18 A := by
  refine m_ofH (cc := cL_of) (maxL := 4) (ret := (some .int)) (hh := [(0, 162, 163, 54), (0, 162, 167, 17)]) (by decide) rfl (Nat.le_of_ble_eq_true rfl) ?_
  intro p e s m args below meth c hc hr htab
  refine v_loc [(0, some (.ref px)), (1, some (.int (nI 5))), (2, some (.int a))] rfl ?_
  refine v_iload_n hc (i := 1) rfl dL_of_0 rfl ?_
  refine v_if_ne hc (tgt := 12) dL_of_1 (by decide) (fun _ => ?_) (fun hb => False.elim (absurd hb (by decide)))
  refine v_iload_n hc (i := 1) rfl dL_of_12 rfl ?_
  refine v_iconst hc (v := nI 1) dL_of_13 (by decide) ?_
  refine v_icmp_ne hc (tgt := 25) dL_of_14 (by decide) (fun _ => ?_) (fun hb => False.elim (absurd hb (by decide)))
  refine v_iload_n hc (i := 1) rfl dL_of_25 rfl ?_
  refine v_iconst hc (v := nI 2) dL_of_26 (by decide) ?_
  refine v_icmp_ne hc (tgt := 38) dL_of_27 (by decide) (fun _ => ?_) (fun hb => False.elim (absurd hb (by decide)))
  refine v_iload_n hc (i := 1) rfl dL_of_38 rfl ?_
  refine v_iconst hc (v := nI 3) dL_of_39 (by decide) ?_
  refine v_icmp_ne hc (tgt := 51) dL_of_40 (by decide) (fun _ => ?_) (fun hb => False.elim (absurd hb (by decide)))
  refine v_iload_n hc (i := 1) rfl dL_of_51 rfl ?_
  refine v_iconst hc (v := nI 4) dL_of_52 (by decide) ?_
  refine v_icmp_ne hc (tgt := 64) dL_of_53 (by decide) (fun _ => ?_) (fun hb => False.elim (absurd hb (by decide)))
  refine v_iload_n hc (i := 1) rfl dL_of_64 rfl ?_
  refine v_iconst hc (v := nI 5) dL_of_65 (by decide) ?_
  refine v_icmp_ne hc (tgt := 77) dL_of_66 (by decide) (fun hb => False.elim (absurd hb (by decide))) (fun _ => ?_)
  first | refine v_aload_n hc (i := 0) rfl dL_of_69 rfl ?_ | refine v_aload_nN hc (i := 0) rfl dL_of_69 rfl ?_
  refine v_iload_n hc (i := 2) rfl dL_of_70 rfl ?_
  refine v_xcallVi hc (hM) (cwV 1 hc.1.2.2.2.2 gL_of_X3_parts rfl rfl rfl (by decide +kernel) ⟨Nat.le_of_ble_eq_true rfl, Nat.le_of_ble_eq_true rfl⟩) (he) rfl rfl rfl (Nat.le_of_ble_eq_true rfl) ⟨(by first | exact Nat.le_of_ble_eq_true rfl | omega | (dsimp only; omega) | (show _ ≤ 600130; omega) | (show _ ≤ 7301080; omega)), (by first | exact Nat.le_of_ble_eq_true rfl | omega | (dsimp only; omega) | (show _ ≤ 600130; omega) | (show _ ≤ 7301080; omega))⟩ dL_of_71 (fun E w' hp => ?_) (fun v w' hp => ?_)
  · rcases h2 E w' hp with ⟨rfl, hx⟩ | ⟨rfl, hx⟩
    · refine v_catch hc (name := "java/lang/IndexOutOfBoundsException") [] ⟨0, 162, 163, 54⟩ [⟨0, 162, 167, 17⟩] htab (fun z hz => (nomatch hz)) rfl (by decide) (by decide +kernel) (by decide +kernel) (fun q => ?_)
      first | refine v_astore_n hc (i := 3) rfl dL_of_163 (by decide) rfl ?_ | refine v_astore_nN hc (i := 3) rfl dL_of_163 (by decide) rfl ?_
      refine v_bipush hc (v := (-101)) dL_of_164 (by decide) ?_
      exact v_iret hc hr dL_of_166 (by first | exact Nat.le_of_ble_eq_true rfl | omega | (dsimp only; omega) | (show _ ≤ 600130; omega) | (show _ ≤ 7301080; omega)) (by first | exact Nat.le_of_ble_eq_true rfl | omega | (dsimp only; omega) | (show _ ≤ 600130; omega) | (show _ ≤ 7301080; omega)) (hx)
    · refine v_catch hc (name := "java/lang/IllegalStateException") [⟨0, 162, 163, 54⟩] ⟨0, 162, 167, 17⟩ [] htab (fun z hz => by
        rcases List.mem_singleton.mp hz with rfl
        exact ⟨by decide, "java/lang/IndexOutOfBoundsException", by decide +kernel, by decide +kernel⟩) rfl (by decide) (by decide +kernel) (by decide +kernel) (fun q => ?_)
      first | refine v_astore_n hc (i := 3) rfl dL_of_167 (by decide) rfl ?_ | refine v_astore_nN hc (i := 3) rfl dL_of_167 (by decide) rfl ?_
      refine v_bipush hc (v := (-103)) dL_of_168 (by decide) ?_
      exact v_iret hc hr dL_of_170 (by first | exact Nat.le_of_ble_eq_true rfl | omega | (dsimp only; omega) | (show _ ≤ 600130; omega) | (show _ ≤ 7301080; omega)) (by first | exact Nat.le_of_ble_eq_true rfl | omega | (dsimp only; omega) | (show _ ≤ 600130; omega) | (show _ ≤ 7301080; omega)) (hx)
  · refine v_goto hc (tgt := 162) dL_of_74 (by decide) ?_
    exact v_iret hc hr dL_of_162 (by first | exact Nat.le_of_ble_eq_true rfl | omega | (dsimp only; omega) | (show _ ≤ 600130; omega) | (show _ ≤ 7301080; omega)) (by first | exact Nat.le_of_ble_eq_true rfl | omega | (dsimp only; omega) | (show _ ≤ 600130; omega) | (show _ ≤ 7301080; omega)) (h1 _ _ hp)
set_option maxRecDepth 100000 in
set_option maxHeartbeats 4000000 in
theorem c_L_of6 (he : w px = some (.inr (6, fs))) (a : Int32) {post post' : Int32 → wd → Prop} {pxx : String → wd → Prop} (hM : vx_Met l yX3_dependents wsX3_dependents ({ frames := 12, cells := 2, slots := 12, locals := 205 } : Room) (Pw G A w [.ref px, .int a]) (va_Qi post (Bw G A) A) (XW G A pxx) 2 12 A) (h1 : ∀ v w', post v w' → post' v w') (h2 : ∀ E w', pxx E w' → E = xIO ∧ post' (-101) w' ∨ E = xIS ∧ post' (-103) w') : Met l yL_of wsL_of ({ frames := 14, cells := 3, slots := 18, locals := 250 } : Room) (Pw G A w [.ref px, .int (nI 6), .int a]) (va_Qi (post') (Bw G A) A) 3 18 A := by
  refine m_ofH (cc := cL_of) (maxL := 4) (ret := (some .int)) (hh := [(0, 162, 163, 54), (0, 162, 167, 17)]) (by decide) rfl (Nat.le_of_ble_eq_true rfl) ?_
  intro p e s m args below meth c hc hr htab
  refine v_loc [(0, some (.ref px)), (1, some (.int (nI 6))), (2, some (.int a))] rfl ?_
  refine v_iload_n hc (i := 1) rfl dL_of_0 rfl ?_
  refine v_if_ne hc (tgt := 12) dL_of_1 (by decide) (fun _ => ?_) (fun hb => False.elim (absurd hb (by decide)))
  refine v_iload_n hc (i := 1) rfl dL_of_12 rfl ?_
  refine v_iconst hc (v := nI 1) dL_of_13 (by decide) ?_
  refine v_icmp_ne hc (tgt := 25) dL_of_14 (by decide) (fun _ => ?_) (fun hb => False.elim (absurd hb (by decide)))
  refine v_iload_n hc (i := 1) rfl dL_of_25 rfl ?_
  refine v_iconst hc (v := nI 2) dL_of_26 (by decide) ?_
  refine v_icmp_ne hc (tgt := 38) dL_of_27 (by decide) (fun _ => ?_) (fun hb => False.elim (absurd hb (by decide)))
  refine v_iload_n hc (i := 1) rfl dL_of_38 rfl ?_
  refine v_iconst hc (v := nI 3) dL_of_39 (by decide) ?_
  refine v_icmp_ne hc (tgt := 51) dL_of_40 (by decide) (fun _ => ?_) (fun hb => False.elim (absurd hb (by decide)))
  refine v_iload_n hc (i := 1) rfl dL_of_51 rfl ?_
  refine v_iconst hc (v := nI 4) dL_of_52 (by decide) ?_
  refine v_icmp_ne hc (tgt := 64) dL_of_53 (by decide) (fun _ => ?_) (fun hb => False.elim (absurd hb (by decide)))
  refine v_iload_n hc (i := 1) rfl dL_of_64 rfl ?_
  refine v_iconst hc (v := nI 5) dL_of_65 (by decide) ?_
  refine v_icmp_ne hc (tgt := 77) dL_of_66 (by decide) (fun _ => ?_) (fun hb => False.elim (absurd hb (by decide)))
  refine v_iload_n hc (i := 1) rfl dL_of_77 rfl ?_
  refine v_bipush hc (v := nI 6) dL_of_78 (by decide) ?_
  refine v_icmp_ne hc (tgt := 91) dL_of_80 (by decide) (fun hb => False.elim (absurd hb (by decide))) (fun _ => ?_)
  first | refine v_aload_n hc (i := 0) rfl dL_of_83 rfl ?_ | refine v_aload_nN hc (i := 0) rfl dL_of_83 rfl ?_
  refine v_iload_n hc (i := 2) rfl dL_of_84 rfl ?_
  refine v_xcallVi hc (hM) (cwV 1 hc.1.2.2.2.2 gL_of_X3_dependents rfl rfl rfl (by decide +kernel) ⟨Nat.le_of_ble_eq_true rfl, Nat.le_of_ble_eq_true rfl⟩) (he) rfl rfl rfl (Nat.le_of_ble_eq_true rfl) ⟨(by first | exact Nat.le_of_ble_eq_true rfl | omega | (dsimp only; omega) | (show _ ≤ 600130; omega) | (show _ ≤ 7301080; omega)), (by first | exact Nat.le_of_ble_eq_true rfl | omega | (dsimp only; omega) | (show _ ≤ 600130; omega) | (show _ ≤ 7301080; omega))⟩ dL_of_85 (fun E w' hp => ?_) (fun v w' hp => ?_)
  · rcases h2 E w' hp with ⟨rfl, hx⟩ | ⟨rfl, hx⟩
    · refine v_catch hc (name := "java/lang/IndexOutOfBoundsException") [] ⟨0, 162, 163, 54⟩ [⟨0, 162, 167, 17⟩] htab (fun z hz => (nomatch hz)) rfl (by decide) (by decide +kernel) (by decide +kernel) (fun q => ?_)
      first | refine v_astore_n hc (i := 3) rfl dL_of_163 (by decide) rfl ?_ | refine v_astore_nN hc (i := 3) rfl dL_of_163 (by decide) rfl ?_
      refine v_bipush hc (v := (-101)) dL_of_164 (by decide) ?_
      exact v_iret hc hr dL_of_166 (by first | exact Nat.le_of_ble_eq_true rfl | omega | (dsimp only; omega) | (show _ ≤ 600130; omega) | (show _ ≤ 7301080; omega)) (by first | exact Nat.le_of_ble_eq_true rfl | omega | (dsimp only; omega) | (show _ ≤ 600130; omega) | (show _ ≤ 7301080; omega)) (hx)
    · refine v_catch hc (name := "java/lang/IllegalStateException") [⟨0, 162, 163, 54⟩] ⟨0, 162, 167, 17⟩ [] htab (fun z hz => by
        rcases List.mem_singleton.mp hz with rfl
        exact ⟨by decide, "java/lang/IndexOutOfBoundsException", by decide +kernel, by decide +kernel⟩) rfl (by decide) (by decide +kernel) (by decide +kernel) (fun q => ?_)
      first | refine v_astore_n hc (i := 3) rfl dL_of_167 (by decide) rfl ?_ | refine v_astore_nN hc (i := 3) rfl dL_of_167 (by decide) rfl ?_
      refine v_bipush hc (v := (-103)) dL_of_168 (by decide) ?_
      exact v_iret hc hr dL_of_170 (by first | exact Nat.le_of_ble_eq_true rfl | omega | (dsimp only; omega) | (show _ ≤ 600130; omega) | (show _ ≤ 7301080; omega)) (by first | exact Nat.le_of_ble_eq_true rfl | omega | (dsimp only; omega) | (show _ ≤ 600130; omega) | (show _ ≤ 7301080; omega)) (hx)
  · refine v_goto hc (tgt := 162) dL_of_88 (by decide) ?_
    exact v_iret hc hr dL_of_162 (by first | exact Nat.le_of_ble_eq_true rfl | omega | (dsimp only; omega) | (show _ ≤ 600130; omega) | (show _ ≤ 7301080; omega)) (by first | exact Nat.le_of_ble_eq_true rfl | omega | (dsimp only; omega) | (show _ ≤ 600130; omega) | (show _ ≤ 7301080; omega)) (h1 _ _ hp)
set_option maxRecDepth 100000 in
set_option maxHeartbeats 4000000 in
theorem c_L_of7 (he : w px = some (.inr (6, fs))) (a : Int32) {post post' : Int32 → wd → Prop} {pxx : String → wd → Prop} (hM : vx_Met l yX3_isLive wsX3_isLive ({ frames := 12, cells := 1, slots := 6, locals := 205 } : Room) (Pw G A w [.ref px, .int a]) (va_Qi post (Bw G A) A) (XW G A pxx) 1 6 A) (h1 : ∀ v w', post v w' → post' (if v = 0 then 0 else 1) w') (h2 : ∀ E w', pxx E w' → E = xIO ∧ post' (-101) w' ∨ E = xIS ∧ post' (-103) w') : Met l yL_of wsL_of ({ frames := 14, cells := 3, slots := 18, locals := 250 } : Room) (Pw G A w [.ref px, .int (nI 7), .int a]) (va_Qi (post') (Bw G A) A) 3 18 A := by
  refine m_ofH (cc := cL_of) (maxL := 4) (ret := (some .int)) (hh := [(0, 162, 163, 54), (0, 162, 167, 17)]) (by decide) rfl (Nat.le_of_ble_eq_true rfl) ?_
  intro p e s m args below meth c hc hr htab
  refine v_loc [(0, some (.ref px)), (1, some (.int (nI 7))), (2, some (.int a))] rfl ?_
  refine v_iload_n hc (i := 1) rfl dL_of_0 rfl ?_
  refine v_if_ne hc (tgt := 12) dL_of_1 (by decide) (fun _ => ?_) (fun hb => False.elim (absurd hb (by decide)))
  refine v_iload_n hc (i := 1) rfl dL_of_12 rfl ?_
  refine v_iconst hc (v := nI 1) dL_of_13 (by decide) ?_
  refine v_icmp_ne hc (tgt := 25) dL_of_14 (by decide) (fun _ => ?_) (fun hb => False.elim (absurd hb (by decide)))
  refine v_iload_n hc (i := 1) rfl dL_of_25 rfl ?_
  refine v_iconst hc (v := nI 2) dL_of_26 (by decide) ?_
  refine v_icmp_ne hc (tgt := 38) dL_of_27 (by decide) (fun _ => ?_) (fun hb => False.elim (absurd hb (by decide)))
  refine v_iload_n hc (i := 1) rfl dL_of_38 rfl ?_
  refine v_iconst hc (v := nI 3) dL_of_39 (by decide) ?_
  refine v_icmp_ne hc (tgt := 51) dL_of_40 (by decide) (fun _ => ?_) (fun hb => False.elim (absurd hb (by decide)))
  refine v_iload_n hc (i := 1) rfl dL_of_51 rfl ?_
  refine v_iconst hc (v := nI 4) dL_of_52 (by decide) ?_
  refine v_icmp_ne hc (tgt := 64) dL_of_53 (by decide) (fun _ => ?_) (fun hb => False.elim (absurd hb (by decide)))
  refine v_iload_n hc (i := 1) rfl dL_of_64 rfl ?_
  refine v_iconst hc (v := nI 5) dL_of_65 (by decide) ?_
  refine v_icmp_ne hc (tgt := 77) dL_of_66 (by decide) (fun _ => ?_) (fun hb => False.elim (absurd hb (by decide)))
  refine v_iload_n hc (i := 1) rfl dL_of_77 rfl ?_
  refine v_bipush hc (v := nI 6) dL_of_78 (by decide) ?_
  refine v_icmp_ne hc (tgt := 91) dL_of_80 (by decide) (fun _ => ?_) (fun hb => False.elim (absurd hb (by decide)))
  refine v_iload_n hc (i := 1) rfl dL_of_91 rfl ?_
  refine v_bipush hc (v := nI 7) dL_of_92 (by decide) ?_
  refine v_icmp_ne hc (tgt := 113) dL_of_94 (by decide) (fun hb => False.elim (absurd hb (by decide))) (fun _ => ?_)
  first | refine v_aload_n hc (i := 0) rfl dL_of_97 rfl ?_ | refine v_aload_nN hc (i := 0) rfl dL_of_97 rfl ?_
  refine v_iload_n hc (i := 2) rfl dL_of_98 rfl ?_
  refine v_xcallVi hc (hM) (cwV 1 hc.1.2.2.2.2 gL_of_X3_isLive rfl rfl rfl (by decide +kernel) ⟨Nat.le_of_ble_eq_true rfl, Nat.le_of_ble_eq_true rfl⟩) (he) rfl rfl rfl (Nat.le_of_ble_eq_true rfl) ⟨(by first | exact Nat.le_of_ble_eq_true rfl | omega | (dsimp only; omega) | (show _ ≤ 600130; omega) | (show _ ≤ 7301080; omega)), (by first | exact Nat.le_of_ble_eq_true rfl | omega | (dsimp only; omega) | (show _ ≤ 600130; omega) | (show _ ≤ 7301080; omega))⟩ dL_of_99 (fun E w' hp => ?_) (fun v w' hp => ?_)
  · rcases h2 E w' hp with ⟨rfl, hx⟩ | ⟨rfl, hx⟩
    · refine v_catch hc (name := "java/lang/IndexOutOfBoundsException") [] ⟨0, 162, 163, 54⟩ [⟨0, 162, 167, 17⟩] htab (fun z hz => (nomatch hz)) rfl (by decide) (by decide +kernel) (by decide +kernel) (fun q => ?_)
      first | refine v_astore_n hc (i := 3) rfl dL_of_163 (by decide) rfl ?_ | refine v_astore_nN hc (i := 3) rfl dL_of_163 (by decide) rfl ?_
      refine v_bipush hc (v := (-101)) dL_of_164 (by decide) ?_
      exact v_iret hc hr dL_of_166 (by first | exact Nat.le_of_ble_eq_true rfl | omega | (dsimp only; omega) | (show _ ≤ 600130; omega) | (show _ ≤ 7301080; omega)) (by first | exact Nat.le_of_ble_eq_true rfl | omega | (dsimp only; omega) | (show _ ≤ 600130; omega) | (show _ ≤ 7301080; omega)) (hx)
    · refine v_catch hc (name := "java/lang/IllegalStateException") [⟨0, 162, 163, 54⟩] ⟨0, 162, 167, 17⟩ [] htab (fun z hz => by
        rcases List.mem_singleton.mp hz with rfl
        exact ⟨by decide, "java/lang/IndexOutOfBoundsException", by decide +kernel, by decide +kernel⟩) rfl (by decide) (by decide +kernel) (by decide +kernel) (fun q => ?_)
      first | refine v_astore_n hc (i := 3) rfl dL_of_167 (by decide) rfl ?_ | refine v_astore_nN hc (i := 3) rfl dL_of_167 (by decide) rfl ?_
      refine v_bipush hc (v := (-103)) dL_of_168 (by decide) ?_
      exact v_iret hc hr dL_of_170 (by first | exact Nat.le_of_ble_eq_true rfl | omega | (dsimp only; omega) | (show _ ≤ 600130; omega) | (show _ ≤ 7301080; omega)) (by first | exact Nat.le_of_ble_eq_true rfl | omega | (dsimp only; omega) | (show _ ≤ 600130; omega) | (show _ ≤ 7301080; omega)) (hx)
  · refine v_if_eq hc (tgt := 109) dL_of_102 (by decide) (fun h0 => ?_) (fun h0 => ?_)
    · refine v_iconst hc (v := nI 0) dL_of_109 (by decide) ?_
      refine v_goto hc (tgt := 162) dL_of_110 (by decide) ?_
      exact v_iret hc hr dL_of_162 (by first | exact Nat.le_of_ble_eq_true rfl | omega | (dsimp only; omega) | (show _ ≤ 600130; omega) | (show _ ≤ 7301080; omega)) (by first | exact Nat.le_of_ble_eq_true rfl | omega | (dsimp only; omega) | (show _ ≤ 600130; omega) | (show _ ≤ 7301080; omega)) (by have := h1 _ _ hp; rw [if_pos h0] at this; exact this)
    · refine v_iconst hc (v := nI 1) dL_of_105 (by decide) ?_
      refine v_goto hc (tgt := 162) dL_of_106 (by decide) ?_
      exact v_iret hc hr dL_of_162 (by first | exact Nat.le_of_ble_eq_true rfl | omega | (dsimp only; omega) | (show _ ≤ 600130; omega) | (show _ ≤ 7301080; omega)) (by first | exact Nat.le_of_ble_eq_true rfl | omega | (dsimp only; omega) | (show _ ≤ 600130; omega) | (show _ ≤ 7301080; omega)) (by have := h1 _ _ hp; rw [if_neg h0] at this; exact this)
set_option maxRecDepth 100000 in
set_option maxHeartbeats 4000000 in
theorem c_L_of8 (he : w px = some (.inr (6, fs))) (a : Int32) {post post' : Int32 → wd → Prop} {pxx : String → wd → Prop} (hM : vx_Met l yX3_isLoose wsX3_isLoose ({ frames := 12, cells := 1, slots := 6, locals := 205 } : Room) (Pw G A w [.ref px, .int a]) (va_Qi post (Bw G A) A) (XW G A pxx) 1 6 A) (h1 : ∀ v w', post v w' → post' (if v = 0 then 0 else 1) w') (h2 : ∀ E w', pxx E w' → E = xIO ∧ post' (-101) w' ∨ E = xIS ∧ post' (-103) w') : Met l yL_of wsL_of ({ frames := 14, cells := 3, slots := 18, locals := 250 } : Room) (Pw G A w [.ref px, .int (nI 8), .int a]) (va_Qi (post') (Bw G A) A) 3 18 A := by
  refine m_ofH (cc := cL_of) (maxL := 4) (ret := (some .int)) (hh := [(0, 162, 163, 54), (0, 162, 167, 17)]) (by decide) rfl (Nat.le_of_ble_eq_true rfl) ?_
  intro p e s m args below meth c hc hr htab
  refine v_loc [(0, some (.ref px)), (1, some (.int (nI 8))), (2, some (.int a))] rfl ?_
  refine v_iload_n hc (i := 1) rfl dL_of_0 rfl ?_
  refine v_if_ne hc (tgt := 12) dL_of_1 (by decide) (fun _ => ?_) (fun hb => False.elim (absurd hb (by decide)))
  refine v_iload_n hc (i := 1) rfl dL_of_12 rfl ?_
  refine v_iconst hc (v := nI 1) dL_of_13 (by decide) ?_
  refine v_icmp_ne hc (tgt := 25) dL_of_14 (by decide) (fun _ => ?_) (fun hb => False.elim (absurd hb (by decide)))
  refine v_iload_n hc (i := 1) rfl dL_of_25 rfl ?_
  refine v_iconst hc (v := nI 2) dL_of_26 (by decide) ?_
  refine v_icmp_ne hc (tgt := 38) dL_of_27 (by decide) (fun _ => ?_) (fun hb => False.elim (absurd hb (by decide)))
  refine v_iload_n hc (i := 1) rfl dL_of_38 rfl ?_
  refine v_iconst hc (v := nI 3) dL_of_39 (by decide) ?_
  refine v_icmp_ne hc (tgt := 51) dL_of_40 (by decide) (fun _ => ?_) (fun hb => False.elim (absurd hb (by decide)))
  refine v_iload_n hc (i := 1) rfl dL_of_51 rfl ?_
  refine v_iconst hc (v := nI 4) dL_of_52 (by decide) ?_
  refine v_icmp_ne hc (tgt := 64) dL_of_53 (by decide) (fun _ => ?_) (fun hb => False.elim (absurd hb (by decide)))
  refine v_iload_n hc (i := 1) rfl dL_of_64 rfl ?_
  refine v_iconst hc (v := nI 5) dL_of_65 (by decide) ?_
  refine v_icmp_ne hc (tgt := 77) dL_of_66 (by decide) (fun _ => ?_) (fun hb => False.elim (absurd hb (by decide)))
  refine v_iload_n hc (i := 1) rfl dL_of_77 rfl ?_
  refine v_bipush hc (v := nI 6) dL_of_78 (by decide) ?_
  refine v_icmp_ne hc (tgt := 91) dL_of_80 (by decide) (fun _ => ?_) (fun hb => False.elim (absurd hb (by decide)))
  refine v_iload_n hc (i := 1) rfl dL_of_91 rfl ?_
  refine v_bipush hc (v := nI 7) dL_of_92 (by decide) ?_
  refine v_icmp_ne hc (tgt := 113) dL_of_94 (by decide) (fun _ => ?_) (fun hb => False.elim (absurd hb (by decide)))
  refine v_iload_n hc (i := 1) rfl dL_of_113 rfl ?_
  refine v_bipush hc (v := nI 8) dL_of_114 (by decide) ?_
  refine v_icmp_ne hc (tgt := 135) dL_of_116 (by decide) (fun hb => False.elim (absurd hb (by decide))) (fun _ => ?_)
  first | refine v_aload_n hc (i := 0) rfl dL_of_119 rfl ?_ | refine v_aload_nN hc (i := 0) rfl dL_of_119 rfl ?_
  refine v_iload_n hc (i := 2) rfl dL_of_120 rfl ?_
  refine v_xcallVi hc (hM) (cwV 1 hc.1.2.2.2.2 gL_of_X3_isLoose rfl rfl rfl (by decide +kernel) ⟨Nat.le_of_ble_eq_true rfl, Nat.le_of_ble_eq_true rfl⟩) (he) rfl rfl rfl (Nat.le_of_ble_eq_true rfl) ⟨(by first | exact Nat.le_of_ble_eq_true rfl | omega | (dsimp only; omega) | (show _ ≤ 600130; omega) | (show _ ≤ 7301080; omega)), (by first | exact Nat.le_of_ble_eq_true rfl | omega | (dsimp only; omega) | (show _ ≤ 600130; omega) | (show _ ≤ 7301080; omega))⟩ dL_of_121 (fun E w' hp => ?_) (fun v w' hp => ?_)
  · rcases h2 E w' hp with ⟨rfl, hx⟩ | ⟨rfl, hx⟩
    · refine v_catch hc (name := "java/lang/IndexOutOfBoundsException") [] ⟨0, 162, 163, 54⟩ [⟨0, 162, 167, 17⟩] htab (fun z hz => (nomatch hz)) rfl (by decide) (by decide +kernel) (by decide +kernel) (fun q => ?_)
      first | refine v_astore_n hc (i := 3) rfl dL_of_163 (by decide) rfl ?_ | refine v_astore_nN hc (i := 3) rfl dL_of_163 (by decide) rfl ?_
      refine v_bipush hc (v := (-101)) dL_of_164 (by decide) ?_
      exact v_iret hc hr dL_of_166 (by first | exact Nat.le_of_ble_eq_true rfl | omega | (dsimp only; omega) | (show _ ≤ 600130; omega) | (show _ ≤ 7301080; omega)) (by first | exact Nat.le_of_ble_eq_true rfl | omega | (dsimp only; omega) | (show _ ≤ 600130; omega) | (show _ ≤ 7301080; omega)) (hx)
    · refine v_catch hc (name := "java/lang/IllegalStateException") [⟨0, 162, 163, 54⟩] ⟨0, 162, 167, 17⟩ [] htab (fun z hz => by
        rcases List.mem_singleton.mp hz with rfl
        exact ⟨by decide, "java/lang/IndexOutOfBoundsException", by decide +kernel, by decide +kernel⟩) rfl (by decide) (by decide +kernel) (by decide +kernel) (fun q => ?_)
      first | refine v_astore_n hc (i := 3) rfl dL_of_167 (by decide) rfl ?_ | refine v_astore_nN hc (i := 3) rfl dL_of_167 (by decide) rfl ?_
      refine v_bipush hc (v := (-103)) dL_of_168 (by decide) ?_
      exact v_iret hc hr dL_of_170 (by first | exact Nat.le_of_ble_eq_true rfl | omega | (dsimp only; omega) | (show _ ≤ 600130; omega) | (show _ ≤ 7301080; omega)) (by first | exact Nat.le_of_ble_eq_true rfl | omega | (dsimp only; omega) | (show _ ≤ 600130; omega) | (show _ ≤ 7301080; omega)) (hx)
  · refine v_if_eq hc (tgt := 131) dL_of_124 (by decide) (fun h0 => ?_) (fun h0 => ?_)
    · refine v_iconst hc (v := nI 0) dL_of_131 (by decide) ?_
      refine v_goto hc (tgt := 162) dL_of_132 (by decide) ?_
      exact v_iret hc hr dL_of_162 (by first | exact Nat.le_of_ble_eq_true rfl | omega | (dsimp only; omega) | (show _ ≤ 600130; omega) | (show _ ≤ 7301080; omega)) (by first | exact Nat.le_of_ble_eq_true rfl | omega | (dsimp only; omega) | (show _ ≤ 600130; omega) | (show _ ≤ 7301080; omega)) (by have := h1 _ _ hp; rw [if_pos h0] at this; exact this)
    · refine v_iconst hc (v := nI 1) dL_of_127 (by decide) ?_
      refine v_goto hc (tgt := 162) dL_of_128 (by decide) ?_
      exact v_iret hc hr dL_of_162 (by first | exact Nat.le_of_ble_eq_true rfl | omega | (dsimp only; omega) | (show _ ≤ 600130; omega) | (show _ ≤ 7301080; omega)) (by first | exact Nat.le_of_ble_eq_true rfl | omega | (dsimp only; omega) | (show _ ≤ 600130; omega) | (show _ ≤ 7301080; omega)) (by have := h1 _ _ hp; rw [if_neg h0] at this; exact this)
set_option maxRecDepth 100000 in
set_option maxHeartbeats 4000000 in
theorem c_L_of9 (he : w px = some (.inr (6, fs))) (a : Int32) {post post' : Int32 → wd → Prop} {pxx : String → wd → Prop} (hM : vx_Met l yX3_canRead wsX3_canRead ({ frames := 12, cells := 1, slots := 6, locals := 205 } : Room) (Pw G A w [.ref px, .int a]) (va_Qi post (Bw G A) A) (XW G A pxx) 1 6 A) (h1 : ∀ v w', post v w' → post' (if v = 0 then 0 else 1) w') (h2 : ∀ E w', pxx E w' → E = xIO ∧ post' (-101) w' ∨ E = xIS ∧ post' (-103) w') : Met l yL_of wsL_of ({ frames := 14, cells := 3, slots := 18, locals := 250 } : Room) (Pw G A w [.ref px, .int (nI 9), .int a]) (va_Qi (post') (Bw G A) A) 3 18 A := by
  refine m_ofH (cc := cL_of) (maxL := 4) (ret := (some .int)) (hh := [(0, 162, 163, 54), (0, 162, 167, 17)]) (by decide) rfl (Nat.le_of_ble_eq_true rfl) ?_
  intro p e s m args below meth c hc hr htab
  refine v_loc [(0, some (.ref px)), (1, some (.int (nI 9))), (2, some (.int a))] rfl ?_
  refine v_iload_n hc (i := 1) rfl dL_of_0 rfl ?_
  refine v_if_ne hc (tgt := 12) dL_of_1 (by decide) (fun _ => ?_) (fun hb => False.elim (absurd hb (by decide)))
  refine v_iload_n hc (i := 1) rfl dL_of_12 rfl ?_
  refine v_iconst hc (v := nI 1) dL_of_13 (by decide) ?_
  refine v_icmp_ne hc (tgt := 25) dL_of_14 (by decide) (fun _ => ?_) (fun hb => False.elim (absurd hb (by decide)))
  refine v_iload_n hc (i := 1) rfl dL_of_25 rfl ?_
  refine v_iconst hc (v := nI 2) dL_of_26 (by decide) ?_
  refine v_icmp_ne hc (tgt := 38) dL_of_27 (by decide) (fun _ => ?_) (fun hb => False.elim (absurd hb (by decide)))
  refine v_iload_n hc (i := 1) rfl dL_of_38 rfl ?_
  refine v_iconst hc (v := nI 3) dL_of_39 (by decide) ?_
  refine v_icmp_ne hc (tgt := 51) dL_of_40 (by decide) (fun _ => ?_) (fun hb => False.elim (absurd hb (by decide)))
  refine v_iload_n hc (i := 1) rfl dL_of_51 rfl ?_
  refine v_iconst hc (v := nI 4) dL_of_52 (by decide) ?_
  refine v_icmp_ne hc (tgt := 64) dL_of_53 (by decide) (fun _ => ?_) (fun hb => False.elim (absurd hb (by decide)))
  refine v_iload_n hc (i := 1) rfl dL_of_64 rfl ?_
  refine v_iconst hc (v := nI 5) dL_of_65 (by decide) ?_
  refine v_icmp_ne hc (tgt := 77) dL_of_66 (by decide) (fun _ => ?_) (fun hb => False.elim (absurd hb (by decide)))
  refine v_iload_n hc (i := 1) rfl dL_of_77 rfl ?_
  refine v_bipush hc (v := nI 6) dL_of_78 (by decide) ?_
  refine v_icmp_ne hc (tgt := 91) dL_of_80 (by decide) (fun _ => ?_) (fun hb => False.elim (absurd hb (by decide)))
  refine v_iload_n hc (i := 1) rfl dL_of_91 rfl ?_
  refine v_bipush hc (v := nI 7) dL_of_92 (by decide) ?_
  refine v_icmp_ne hc (tgt := 113) dL_of_94 (by decide) (fun _ => ?_) (fun hb => False.elim (absurd hb (by decide)))
  refine v_iload_n hc (i := 1) rfl dL_of_113 rfl ?_
  refine v_bipush hc (v := nI 8) dL_of_114 (by decide) ?_
  refine v_icmp_ne hc (tgt := 135) dL_of_116 (by decide) (fun _ => ?_) (fun hb => False.elim (absurd hb (by decide)))
  refine v_iload_n hc (i := 1) rfl dL_of_135 rfl ?_
  refine v_bipush hc (v := nI 9) dL_of_136 (by decide) ?_
  refine v_icmp_ne hc (tgt := 157) dL_of_138 (by decide) (fun hb => False.elim (absurd hb (by decide))) (fun _ => ?_)
  first | refine v_aload_n hc (i := 0) rfl dL_of_141 rfl ?_ | refine v_aload_nN hc (i := 0) rfl dL_of_141 rfl ?_
  refine v_iload_n hc (i := 2) rfl dL_of_142 rfl ?_
  refine v_xcallVi hc (hM) (cwV 1 hc.1.2.2.2.2 gL_of_X3_canRead rfl rfl rfl (by decide +kernel) ⟨Nat.le_of_ble_eq_true rfl, Nat.le_of_ble_eq_true rfl⟩) (he) rfl rfl rfl (Nat.le_of_ble_eq_true rfl) ⟨(by first | exact Nat.le_of_ble_eq_true rfl | omega | (dsimp only; omega) | (show _ ≤ 600130; omega) | (show _ ≤ 7301080; omega)), (by first | exact Nat.le_of_ble_eq_true rfl | omega | (dsimp only; omega) | (show _ ≤ 600130; omega) | (show _ ≤ 7301080; omega))⟩ dL_of_143 (fun E w' hp => ?_) (fun v w' hp => ?_)
  · rcases h2 E w' hp with ⟨rfl, hx⟩ | ⟨rfl, hx⟩
    · refine v_catch hc (name := "java/lang/IndexOutOfBoundsException") [] ⟨0, 162, 163, 54⟩ [⟨0, 162, 167, 17⟩] htab (fun z hz => (nomatch hz)) rfl (by decide) (by decide +kernel) (by decide +kernel) (fun q => ?_)
      first | refine v_astore_n hc (i := 3) rfl dL_of_163 (by decide) rfl ?_ | refine v_astore_nN hc (i := 3) rfl dL_of_163 (by decide) rfl ?_
      refine v_bipush hc (v := (-101)) dL_of_164 (by decide) ?_
      exact v_iret hc hr dL_of_166 (by first | exact Nat.le_of_ble_eq_true rfl | omega | (dsimp only; omega) | (show _ ≤ 600130; omega) | (show _ ≤ 7301080; omega)) (by first | exact Nat.le_of_ble_eq_true rfl | omega | (dsimp only; omega) | (show _ ≤ 600130; omega) | (show _ ≤ 7301080; omega)) (hx)
    · refine v_catch hc (name := "java/lang/IllegalStateException") [⟨0, 162, 163, 54⟩] ⟨0, 162, 167, 17⟩ [] htab (fun z hz => by
        rcases List.mem_singleton.mp hz with rfl
        exact ⟨by decide, "java/lang/IndexOutOfBoundsException", by decide +kernel, by decide +kernel⟩) rfl (by decide) (by decide +kernel) (by decide +kernel) (fun q => ?_)
      first | refine v_astore_n hc (i := 3) rfl dL_of_167 (by decide) rfl ?_ | refine v_astore_nN hc (i := 3) rfl dL_of_167 (by decide) rfl ?_
      refine v_bipush hc (v := (-103)) dL_of_168 (by decide) ?_
      exact v_iret hc hr dL_of_170 (by first | exact Nat.le_of_ble_eq_true rfl | omega | (dsimp only; omega) | (show _ ≤ 600130; omega) | (show _ ≤ 7301080; omega)) (by first | exact Nat.le_of_ble_eq_true rfl | omega | (dsimp only; omega) | (show _ ≤ 600130; omega) | (show _ ≤ 7301080; omega)) (hx)
  · refine v_if_eq hc (tgt := 153) dL_of_146 (by decide) (fun h0 => ?_) (fun h0 => ?_)
    · refine v_iconst hc (v := nI 0) dL_of_153 (by decide) ?_
      refine v_goto hc (tgt := 162) dL_of_154 (by decide) ?_
      exact v_iret hc hr dL_of_162 (by first | exact Nat.le_of_ble_eq_true rfl | omega | (dsimp only; omega) | (show _ ≤ 600130; omega) | (show _ ≤ 7301080; omega)) (by first | exact Nat.le_of_ble_eq_true rfl | omega | (dsimp only; omega) | (show _ ≤ 600130; omega) | (show _ ≤ 7301080; omega)) (by have := h1 _ _ hp; rw [if_pos h0] at this; exact this)
    · refine v_iconst hc (v := nI 1) dL_of_149 (by decide) ?_
      refine v_goto hc (tgt := 162) dL_of_150 (by decide) ?_
      exact v_iret hc hr dL_of_162 (by first | exact Nat.le_of_ble_eq_true rfl | omega | (dsimp only; omega) | (show _ ≤ 600130; omega) | (show _ ≤ 7301080; omega)) (by first | exact Nat.le_of_ble_eq_true rfl | omega | (dsimp only; omega) | (show _ ≤ 600130; omega) | (show _ ≤ 7301080; omega)) (by have := h1 _ _ hp; rw [if_neg h0] at this; exact this)
set_option maxRecDepth 100000 in
set_option maxHeartbeats 4000000 in
theorem c_L_of10 (he : w px = some (.inr (6, fs))) (a : Int32) {post post' : Int32 → wd → Prop} {pxx : String → wd → Prop} (hM : vx_Met l yX3_indexAt wsX3_indexAt ({ frames := 11, cells := 1, slots := 6, locals := 184 } : Room) (Pw G A w [.ref px, .int a]) (va_Qi post (Bw G A) A) (XW G A pxx) 1 6 A) (h1 : ∀ v w', post v w' → post' v w') (h2 : ∀ E w', pxx E w' → E = xIO ∧ post' (-101) w' ∨ E = xIS ∧ post' (-103) w') : Met l yL_of wsL_of ({ frames := 14, cells := 3, slots := 18, locals := 250 } : Room) (Pw G A w [.ref px, .int (nI 10), .int a]) (va_Qi (post') (Bw G A) A) 3 18 A := by
  refine m_ofH (cc := cL_of) (maxL := 4) (ret := (some .int)) (hh := [(0, 162, 163, 54), (0, 162, 167, 17)]) (by decide) rfl (Nat.le_of_ble_eq_true rfl) ?_
  intro p e s m args below meth c hc hr htab
  refine v_loc [(0, some (.ref px)), (1, some (.int (nI 10))), (2, some (.int a))] rfl ?_
  refine v_iload_n hc (i := 1) rfl dL_of_0 rfl ?_
  refine v_if_ne hc (tgt := 12) dL_of_1 (by decide) (fun _ => ?_) (fun hb => False.elim (absurd hb (by decide)))
  refine v_iload_n hc (i := 1) rfl dL_of_12 rfl ?_
  refine v_iconst hc (v := nI 1) dL_of_13 (by decide) ?_
  refine v_icmp_ne hc (tgt := 25) dL_of_14 (by decide) (fun _ => ?_) (fun hb => False.elim (absurd hb (by decide)))
  refine v_iload_n hc (i := 1) rfl dL_of_25 rfl ?_
  refine v_iconst hc (v := nI 2) dL_of_26 (by decide) ?_
  refine v_icmp_ne hc (tgt := 38) dL_of_27 (by decide) (fun _ => ?_) (fun hb => False.elim (absurd hb (by decide)))
  refine v_iload_n hc (i := 1) rfl dL_of_38 rfl ?_
  refine v_iconst hc (v := nI 3) dL_of_39 (by decide) ?_
  refine v_icmp_ne hc (tgt := 51) dL_of_40 (by decide) (fun _ => ?_) (fun hb => False.elim (absurd hb (by decide)))
  refine v_iload_n hc (i := 1) rfl dL_of_51 rfl ?_
  refine v_iconst hc (v := nI 4) dL_of_52 (by decide) ?_
  refine v_icmp_ne hc (tgt := 64) dL_of_53 (by decide) (fun _ => ?_) (fun hb => False.elim (absurd hb (by decide)))
  refine v_iload_n hc (i := 1) rfl dL_of_64 rfl ?_
  refine v_iconst hc (v := nI 5) dL_of_65 (by decide) ?_
  refine v_icmp_ne hc (tgt := 77) dL_of_66 (by decide) (fun _ => ?_) (fun hb => False.elim (absurd hb (by decide)))
  refine v_iload_n hc (i := 1) rfl dL_of_77 rfl ?_
  refine v_bipush hc (v := nI 6) dL_of_78 (by decide) ?_
  refine v_icmp_ne hc (tgt := 91) dL_of_80 (by decide) (fun _ => ?_) (fun hb => False.elim (absurd hb (by decide)))
  refine v_iload_n hc (i := 1) rfl dL_of_91 rfl ?_
  refine v_bipush hc (v := nI 7) dL_of_92 (by decide) ?_
  refine v_icmp_ne hc (tgt := 113) dL_of_94 (by decide) (fun _ => ?_) (fun hb => False.elim (absurd hb (by decide)))
  refine v_iload_n hc (i := 1) rfl dL_of_113 rfl ?_
  refine v_bipush hc (v := nI 8) dL_of_114 (by decide) ?_
  refine v_icmp_ne hc (tgt := 135) dL_of_116 (by decide) (fun _ => ?_) (fun hb => False.elim (absurd hb (by decide)))
  refine v_iload_n hc (i := 1) rfl dL_of_135 rfl ?_
  refine v_bipush hc (v := nI 9) dL_of_136 (by decide) ?_
  refine v_icmp_ne hc (tgt := 157) dL_of_138 (by decide) (fun _ => ?_) (fun hb => False.elim (absurd hb (by decide)))
  first | refine v_aload_n hc (i := 0) rfl dL_of_157 rfl ?_ | refine v_aload_nN hc (i := 0) rfl dL_of_157 rfl ?_
  refine v_iload_n hc (i := 2) rfl dL_of_158 rfl ?_
  refine v_xcallVi hc (hM) (cwV 1 hc.1.2.2.2.2 gL_of_X3_indexAt rfl rfl rfl (by decide +kernel) ⟨Nat.le_of_ble_eq_true rfl, Nat.le_of_ble_eq_true rfl⟩) (he) rfl rfl rfl (Nat.le_of_ble_eq_true rfl) ⟨(by first | exact Nat.le_of_ble_eq_true rfl | omega | (dsimp only; omega) | (show _ ≤ 600130; omega) | (show _ ≤ 7301080; omega)), (by first | exact Nat.le_of_ble_eq_true rfl | omega | (dsimp only; omega) | (show _ ≤ 600130; omega) | (show _ ≤ 7301080; omega))⟩ dL_of_159 (fun E w' hp => ?_) (fun v w' hp => ?_)
  · rcases h2 E w' hp with ⟨rfl, hx⟩ | ⟨rfl, hx⟩
    · refine v_catch hc (name := "java/lang/IndexOutOfBoundsException") [] ⟨0, 162, 163, 54⟩ [⟨0, 162, 167, 17⟩] htab (fun z hz => (nomatch hz)) rfl (by decide) (by decide +kernel) (by decide +kernel) (fun q => ?_)
      first | refine v_astore_n hc (i := 3) rfl dL_of_163 (by decide) rfl ?_ | refine v_astore_nN hc (i := 3) rfl dL_of_163 (by decide) rfl ?_
      refine v_bipush hc (v := (-101)) dL_of_164 (by decide) ?_
      exact v_iret hc hr dL_of_166 (by first | exact Nat.le_of_ble_eq_true rfl | omega | (dsimp only; omega) | (show _ ≤ 600130; omega) | (show _ ≤ 7301080; omega)) (by first | exact Nat.le_of_ble_eq_true rfl | omega | (dsimp only; omega) | (show _ ≤ 600130; omega) | (show _ ≤ 7301080; omega)) (hx)
    · refine v_catch hc (name := "java/lang/IllegalStateException") [⟨0, 162, 163, 54⟩] ⟨0, 162, 167, 17⟩ [] htab (fun z hz => by
        rcases List.mem_singleton.mp hz with rfl
        exact ⟨by decide, "java/lang/IndexOutOfBoundsException", by decide +kernel, by decide +kernel⟩) rfl (by decide) (by decide +kernel) (by decide +kernel) (fun q => ?_)
      first | refine v_astore_n hc (i := 3) rfl dL_of_167 (by decide) rfl ?_ | refine v_astore_nN hc (i := 3) rfl dL_of_167 (by decide) rfl ?_
      refine v_bipush hc (v := (-103)) dL_of_168 (by decide) ?_
      exact v_iret hc hr dL_of_170 (by first | exact Nat.le_of_ble_eq_true rfl | omega | (dsimp only; omega) | (show _ ≤ 600130; omega) | (show _ ≤ 7301080; omega)) (by first | exact Nat.le_of_ble_eq_true rfl | omega | (dsimp only; omega) | (show _ ≤ 600130; omega) | (show _ ≤ 7301080; omega)) (hx)
  · exact v_iret hc hr dL_of_162 (by first | exact Nat.le_of_ble_eq_true rfl | omega | (dsimp only; omega) | (show _ ≤ 600130; omega) | (show _ ≤ 7301080; omega)) (by first | exact Nat.le_of_ble_eq_true rfl | omega | (dsimp only; omega) | (show _ ≤ 600130; omega) | (show _ ≤ 7301080; omega)) (h1 _ _ hp)
set_option maxRecDepth 100000 in
set_option maxHeartbeats 4000000 in
theorem c_L_ask0 (he : w px = some (.inr (6, fs))) (a : Int32) (x : Int64) {post post' : Int32 → wd → Prop} {pxx : String → wd → Prop} (hM : vx_Met l yX3_fanOut wsX3_fanOut ({ frames := 12, cells := 1, slots := 6, locals := 207 } : Room) (Pw G A w [.ref px, .int a]) (va_Qi post (Bw G A) A) (XW G A pxx) 1 6 A) (h1 : ∀ v w', post v w' → post' v w') (h2 : ∀ E w', pxx E w' → E = xIA ∧ post' (-102) w') : Met l yL_ask wsL_ask ({ frames := 14, cells := 1, slots := 6, locals := 257 } : Room) (Pw G A w [.ref px, .int (nI 0), .int a, .long x]) (va_Qi (post') (Bw G A) A) 1 6 A := by
  refine m_ofH (cc := cL_ask) (maxL := 6) (ret := (some .int)) (hh := [(0, 43, 44, 15)]) (by decide) rfl (Nat.le_of_ble_eq_true rfl) ?_
  intro p e s m args below meth c hc hr htab
  refine v_loc [(0, some (.ref px)), (1, some (.int (nI 0))), (2, some (.int a)), (3, some (.long x))] rfl ?_
  refine v_iload_n hc (i := 1) rfl dL_ask_0 rfl ?_
  refine v_if_ne hc (tgt := 12) dL_ask_1 (by decide) (fun hb => False.elim (absurd hb (by decide))) (fun _ => ?_)
  first | refine v_aload_n hc (i := 0) rfl dL_ask_4 rfl ?_ | refine v_aload_nN hc (i := 0) rfl dL_ask_4 rfl ?_
  refine v_iload_n hc (i := 2) rfl dL_ask_5 rfl ?_
  refine v_xcallVi hc (hM) (cwV 1 hc.1.2.2.2.2 gL_ask_X3_fanOut rfl rfl rfl (by decide +kernel) ⟨Nat.le_of_ble_eq_true rfl, Nat.le_of_ble_eq_true rfl⟩) (he) rfl rfl rfl (Nat.le_of_ble_eq_true rfl) ⟨(by first | exact Nat.le_of_ble_eq_true rfl | omega | (dsimp only; omega) | (show _ ≤ 600130; omega) | (show _ ≤ 7301080; omega)), (by first | exact Nat.le_of_ble_eq_true rfl | omega | (dsimp only; omega) | (show _ ≤ 600130; omega) | (show _ ≤ 7301080; omega))⟩ dL_ask_6 (fun E w' hp => ?_) (fun v w' hp => ?_)
  · obtain ⟨rfl, hx⟩ := h2 E w' hp
    refine v_catch hc (name := "java/lang/IllegalArgumentException") [] ⟨0, 43, 44, 15⟩ [] htab (fun z hz => (nomatch hz)) rfl (by decide) (by decide +kernel) (by decide +kernel) (fun q => ?_)
    first | refine v_astore hc dL_ask_44 (by decide) rfl ?_ | refine v_astoreN hc dL_ask_44 (by decide) rfl ?_
    refine v_bipush hc (v := (-102)) dL_ask_46 (by decide) ?_
    exact v_iret hc hr dL_ask_48 (by first | exact Nat.le_of_ble_eq_true rfl | omega | (dsimp only; omega) | (show _ ≤ 600130; omega) | (show _ ≤ 7301080; omega)) (by first | exact Nat.le_of_ble_eq_true rfl | omega | (dsimp only; omega) | (show _ ≤ 600130; omega) | (show _ ≤ 7301080; omega)) (hx)
  · refine v_goto hc (tgt := 43) dL_ask_9 (by decide) ?_
    exact v_iret hc hr dL_ask_43 (by first | exact Nat.le_of_ble_eq_true rfl | omega | (dsimp only; omega) | (show _ ≤ 600130; omega) | (show _ ≤ 7301080; omega)) (by first | exact Nat.le_of_ble_eq_true rfl | omega | (dsimp only; omega) | (show _ ≤ 600130; omega) | (show _ ≤ 7301080; omega)) (h1 _ _ hp)
set_option maxRecDepth 100000 in
set_option maxHeartbeats 4000000 in
theorem c_L_ask1 (he : w px = some (.inr (6, fs))) (a : Int32) (x : Int64) {post post' : Int32 → wd → Prop} {pxx : String → wd → Prop} (hM : vx_Met l yX3_find wsX3_find ({ frames := 13, cells := 1, slots := 6, locals := 235 } : Room) (Pw G A w [.ref px, .int a]) (va_Qi post (Bw G A) A) (XW G A pxx) 1 6 A) (h1 : ∀ v w', post v w' → post' v w') (h2 : ∀ E w', pxx E w' → E = xIA ∧ post' (-102) w') : Met l yL_ask wsL_ask ({ frames := 14, cells := 1, slots := 6, locals := 257 } : Room) (Pw G A w [.ref px, .int (nI 1), .int a, .long x]) (va_Qi (post') (Bw G A) A) 1 6 A := by
  refine m_ofH (cc := cL_ask) (maxL := 6) (ret := (some .int)) (hh := [(0, 43, 44, 15)]) (by decide) rfl (Nat.le_of_ble_eq_true rfl) ?_
  intro p e s m args below meth c hc hr htab
  refine v_loc [(0, some (.ref px)), (1, some (.int (nI 1))), (2, some (.int a)), (3, some (.long x))] rfl ?_
  refine v_iload_n hc (i := 1) rfl dL_ask_0 rfl ?_
  refine v_if_ne hc (tgt := 12) dL_ask_1 (by decide) (fun _ => ?_) (fun hb => False.elim (absurd hb (by decide)))
  refine v_iload_n hc (i := 1) rfl dL_ask_12 rfl ?_
  refine v_iconst hc (v := nI 1) dL_ask_13 (by decide) ?_
  refine v_icmp_ne hc (tgt := 25) dL_ask_14 (by decide) (fun hb => False.elim (absurd hb (by decide))) (fun _ => ?_)
  first | refine v_aload_n hc (i := 0) rfl dL_ask_17 rfl ?_ | refine v_aload_nN hc (i := 0) rfl dL_ask_17 rfl ?_
  refine v_iload_n hc (i := 2) rfl dL_ask_18 rfl ?_
  refine v_xcallVi hc (hM) (cwV 1 hc.1.2.2.2.2 gL_ask_X3_find rfl rfl rfl (by decide +kernel) ⟨Nat.le_of_ble_eq_true rfl, Nat.le_of_ble_eq_true rfl⟩) (he) rfl rfl rfl (Nat.le_of_ble_eq_true rfl) ⟨(by first | exact Nat.le_of_ble_eq_true rfl | omega | (dsimp only; omega) | (show _ ≤ 600130; omega) | (show _ ≤ 7301080; omega)), (by first | exact Nat.le_of_ble_eq_true rfl | omega | (dsimp only; omega) | (show _ ≤ 600130; omega) | (show _ ≤ 7301080; omega))⟩ dL_ask_19 (fun E w' hp => ?_) (fun v w' hp => ?_)
  · obtain ⟨rfl, hx⟩ := h2 E w' hp
    refine v_catch hc (name := "java/lang/IllegalArgumentException") [] ⟨0, 43, 44, 15⟩ [] htab (fun z hz => (nomatch hz)) rfl (by decide) (by decide +kernel) (by decide +kernel) (fun q => ?_)
    first | refine v_astore hc dL_ask_44 (by decide) rfl ?_ | refine v_astoreN hc dL_ask_44 (by decide) rfl ?_
    refine v_bipush hc (v := (-102)) dL_ask_46 (by decide) ?_
    exact v_iret hc hr dL_ask_48 (by first | exact Nat.le_of_ble_eq_true rfl | omega | (dsimp only; omega) | (show _ ≤ 600130; omega) | (show _ ≤ 7301080; omega)) (by first | exact Nat.le_of_ble_eq_true rfl | omega | (dsimp only; omega) | (show _ ≤ 600130; omega) | (show _ ≤ 7301080; omega)) (hx)
  · refine v_goto hc (tgt := 43) dL_ask_22 (by decide) ?_
    exact v_iret hc hr dL_ask_43 (by first | exact Nat.le_of_ble_eq_true rfl | omega | (dsimp only; omega) | (show _ ≤ 600130; omega) | (show _ ≤ 7301080; omega)) (by first | exact Nat.le_of_ble_eq_true rfl | omega | (dsimp only; omega) | (show _ ≤ 600130; omega) | (show _ ≤ 7301080; omega)) (h1 _ _ hp)
set_option maxRecDepth 100000 in
set_option maxHeartbeats 4000000 in
theorem c_L_ask2 (he : w px = some (.inr (6, fs))) (a : Int32) (x : Int64) {post post' : Int32 → wd → Prop} {pxx : String → wd → Prop} (hM : vx_Met l yX3_looks wsX3_looks ({ frames := 13, cells := 1, slots := 6, locals := 235 } : Room) (Pw G A w [.ref px, .int a]) (va_Qi post (Bw G A) A) (XW G A pxx) 1 6 A) (h1 : ∀ v w', post v w' → post' v w') (h2 : ∀ E w', pxx E w' → E = xIA ∧ post' (-102) w') : Met l yL_ask wsL_ask ({ frames := 14, cells := 1, slots := 6, locals := 257 } : Room) (Pw G A w [.ref px, .int (nI 2), .int a, .long x]) (va_Qi (post') (Bw G A) A) 1 6 A := by
  refine m_ofH (cc := cL_ask) (maxL := 6) (ret := (some .int)) (hh := [(0, 43, 44, 15)]) (by decide) rfl (Nat.le_of_ble_eq_true rfl) ?_
  intro p e s m args below meth c hc hr htab
  refine v_loc [(0, some (.ref px)), (1, some (.int (nI 2))), (2, some (.int a)), (3, some (.long x))] rfl ?_
  refine v_iload_n hc (i := 1) rfl dL_ask_0 rfl ?_
  refine v_if_ne hc (tgt := 12) dL_ask_1 (by decide) (fun _ => ?_) (fun hb => False.elim (absurd hb (by decide)))
  refine v_iload_n hc (i := 1) rfl dL_ask_12 rfl ?_
  refine v_iconst hc (v := nI 1) dL_ask_13 (by decide) ?_
  refine v_icmp_ne hc (tgt := 25) dL_ask_14 (by decide) (fun _ => ?_) (fun hb => False.elim (absurd hb (by decide)))
  refine v_iload_n hc (i := 1) rfl dL_ask_25 rfl ?_
  refine v_iconst hc (v := nI 2) dL_ask_26 (by decide) ?_
  refine v_icmp_ne hc (tgt := 38) dL_ask_27 (by decide) (fun hb => False.elim (absurd hb (by decide))) (fun _ => ?_)
  first | refine v_aload_n hc (i := 0) rfl dL_ask_30 rfl ?_ | refine v_aload_nN hc (i := 0) rfl dL_ask_30 rfl ?_
  refine v_iload_n hc (i := 2) rfl dL_ask_31 rfl ?_
  refine v_xcallVi hc (hM) (cwV 1 hc.1.2.2.2.2 gL_ask_X3_looks rfl rfl rfl (by decide +kernel) ⟨Nat.le_of_ble_eq_true rfl, Nat.le_of_ble_eq_true rfl⟩) (he) rfl rfl rfl (Nat.le_of_ble_eq_true rfl) ⟨(by first | exact Nat.le_of_ble_eq_true rfl | omega | (dsimp only; omega) | (show _ ≤ 600130; omega) | (show _ ≤ 7301080; omega)), (by first | exact Nat.le_of_ble_eq_true rfl | omega | (dsimp only; omega) | (show _ ≤ 600130; omega) | (show _ ≤ 7301080; omega))⟩ dL_ask_32 (fun E w' hp => ?_) (fun v w' hp => ?_)
  · obtain ⟨rfl, hx⟩ := h2 E w' hp
    refine v_catch hc (name := "java/lang/IllegalArgumentException") [] ⟨0, 43, 44, 15⟩ [] htab (fun z hz => (nomatch hz)) rfl (by decide) (by decide +kernel) (by decide +kernel) (fun q => ?_)
    first | refine v_astore hc dL_ask_44 (by decide) rfl ?_ | refine v_astoreN hc dL_ask_44 (by decide) rfl ?_
    refine v_bipush hc (v := (-102)) dL_ask_46 (by decide) ?_
    exact v_iret hc hr dL_ask_48 (by first | exact Nat.le_of_ble_eq_true rfl | omega | (dsimp only; omega) | (show _ ≤ 600130; omega) | (show _ ≤ 7301080; omega)) (by first | exact Nat.le_of_ble_eq_true rfl | omega | (dsimp only; omega) | (show _ ≤ 600130; omega) | (show _ ≤ 7301080; omega)) (hx)
  · refine v_goto hc (tgt := 43) dL_ask_35 (by decide) ?_
    exact v_iret hc hr dL_ask_43 (by first | exact Nat.le_of_ble_eq_true rfl | omega | (dsimp only; omega) | (show _ ≤ 600130; omega) | (show _ ≤ 7301080; omega)) (by first | exact Nat.le_of_ble_eq_true rfl | omega | (dsimp only; omega) | (show _ ≤ 600130; omega) | (show _ ≤ 7301080; omega)) (h1 _ _ hp)
set_option maxRecDepth 100000 in
set_option maxHeartbeats 4000000 in
theorem c_L_ask3 (he : w px = some (.inr (6, fs))) (a : Int32) (x : Int64) {post post' : Int32 → wd → Prop} {pxx : String → wd → Prop} (hM : vx_Met l yX3_hash wsX3_hash ({ frames := 10, cells := 1, slots := 6, locals := 168 } : Room) (Pw G A w [.ref px, .long x]) (va_Qi post (Bw G A) A) (XW G A pxx) 1 6 A) (h1 : ∀ v w', post v w' → post' v w') (h2 : ∀ E w', pxx E w' → E = xIA ∧ post' (-102) w') : Met l yL_ask wsL_ask ({ frames := 14, cells := 1, slots := 6, locals := 257 } : Room) (Pw G A w [.ref px, .int (nI 3), .int a, .long x]) (va_Qi (post') (Bw G A) A) 1 6 A := by
  refine m_ofH (cc := cL_ask) (maxL := 6) (ret := (some .int)) (hh := [(0, 43, 44, 15)]) (by decide) rfl (Nat.le_of_ble_eq_true rfl) ?_
  intro p e s m args below meth c hc hr htab
  refine v_loc [(0, some (.ref px)), (1, some (.int (nI 3))), (2, some (.int a)), (3, some (.long x))] rfl ?_
  refine v_iload_n hc (i := 1) rfl dL_ask_0 rfl ?_
  refine v_if_ne hc (tgt := 12) dL_ask_1 (by decide) (fun _ => ?_) (fun hb => False.elim (absurd hb (by decide)))
  refine v_iload_n hc (i := 1) rfl dL_ask_12 rfl ?_
  refine v_iconst hc (v := nI 1) dL_ask_13 (by decide) ?_
  refine v_icmp_ne hc (tgt := 25) dL_ask_14 (by decide) (fun _ => ?_) (fun hb => False.elim (absurd hb (by decide)))
  refine v_iload_n hc (i := 1) rfl dL_ask_25 rfl ?_
  refine v_iconst hc (v := nI 2) dL_ask_26 (by decide) ?_
  refine v_icmp_ne hc (tgt := 38) dL_ask_27 (by decide) (fun _ => ?_) (fun hb => False.elim (absurd hb (by decide)))
  first | refine v_aload_n hc (i := 0) rfl dL_ask_38 rfl ?_ | refine v_aload_nN hc (i := 0) rfl dL_ask_38 rfl ?_
  refine v_lload_n hc (i := 3) rfl dL_ask_39 rfl ?_
  refine v_xcallVi hc (hM) (cwV 1 hc.1.2.2.2.2 gL_ask_X3_hash rfl rfl rfl (by decide +kernel) ⟨Nat.le_of_ble_eq_true rfl, Nat.le_of_ble_eq_true rfl⟩) (he) rfl rfl rfl (Nat.le_of_ble_eq_true rfl) ⟨(by first | exact Nat.le_of_ble_eq_true rfl | omega | (dsimp only; omega) | (show _ ≤ 600130; omega) | (show _ ≤ 7301080; omega)), (by first | exact Nat.le_of_ble_eq_true rfl | omega | (dsimp only; omega) | (show _ ≤ 600130; omega) | (show _ ≤ 7301080; omega))⟩ dL_ask_40 (fun E w' hp => ?_) (fun v w' hp => ?_)
  · obtain ⟨rfl, hx⟩ := h2 E w' hp
    refine v_catch hc (name := "java/lang/IllegalArgumentException") [] ⟨0, 43, 44, 15⟩ [] htab (fun z hz => (nomatch hz)) rfl (by decide) (by decide +kernel) (by decide +kernel) (fun q => ?_)
    first | refine v_astore hc dL_ask_44 (by decide) rfl ?_ | refine v_astoreN hc dL_ask_44 (by decide) rfl ?_
    refine v_bipush hc (v := (-102)) dL_ask_46 (by decide) ?_
    exact v_iret hc hr dL_ask_48 (by first | exact Nat.le_of_ble_eq_true rfl | omega | (dsimp only; omega) | (show _ ≤ 600130; omega) | (show _ ≤ 7301080; omega)) (by first | exact Nat.le_of_ble_eq_true rfl | omega | (dsimp only; omega) | (show _ ≤ 600130; omega) | (show _ ≤ 7301080; omega)) (hx)
  · exact v_iret hc hr dL_ask_43 (by first | exact Nat.le_of_ble_eq_true rfl | omega | (dsimp only; omega) | (show _ ≤ 600130; omega) | (show _ ≤ 7301080; omega)) (by first | exact Nat.le_of_ble_eq_true rfl | omega | (dsimp only; omega) | (show _ ≤ 600130; omega) | (show _ ≤ 7301080; omega)) (h1 _ _ hp)
end LH

