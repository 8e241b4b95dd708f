/-! ===== the law's helpers: what a call answers, or how it throws ===== -/
section LH
variable {l : Launch} {G : cG} {A : Nat → Prop} {u : wd} {px oa : Nat} {f : Nat → Int64} {fs : List Value}
set_option maxRecDepth 100000 in
set_option maxHeartbeats 4000000 in
theorem c_L_store (hd : dj (sg oa (aL G 1 f)) u) (he : u px = some (.inr (6, fs))) (a : Int32) (x : Int64) {post : Int32 → wd → Prop} {pxx : String → wd → Prop} (hM : ∀ A : Nat → Prop, vx_Met l yX3_store wsX3_store ({ frames := 14, cells := 2, slots := 69, locals := 252 } : Room) (Pw G A u [.ref px, .int a, .long x]) (va_Qi post (Bw G A) A) (XW G A pxx) 2 69 A) (hE : ∀ E u', pxx E u' → E = "java/lang/IllegalArgumentException" ∨ E = "java/lang/IllegalStateException") : Met l yL_store wsL_store ({ frames := 15, cells := 2, slots := 69, locals := 276 } : Room) (Pw G A (jn (sg oa (aL G 1 f)) u) [.ref px, .int a, .long x, .ref oa]) (va_Qi (fun r w' => ∃ u' f', dj (sg oa (aL G 1 f')) u' ∧ w' = jn (sg oa (aL G 1 f')) u' ∧ ((∃ v, post v u' ∧ f' 0 = v.toInt64 ∧ r = nI 0) ∨ ∃ E, pxx E u' ∧ ((E = "java/lang/IllegalArgumentException" ∧ r = nI 1) ∨ (E = "java/lang/IllegalStateException" ∧ r = nI 2)))) (Bw G A) A) 2 69 A := by
  refine m_ofH (cc := cL_store) (maxL := 6) (ret := (some .int)) (hh := [(0, 11, 14, 13), (0, 11, 18, 15)]) (by decide) rfl (Nat.le_of_ble_eq_true rfl) ?_
  intro p e s m args below meth c hc hr htab
  refine v_loc [(0, some (.ref px)), (1, some (.int a)), (2, some (.long x)), (4, some (.ref oa))] rfl ?_
  first | refine v_aload hc dL_store_0 rfl ?_ | refine v_aloadN hc dL_store_0 rfl ?_
  refine v_iconst hc (v := nI 0) dL_store_2 (by decide) ?_
  first | refine v_aload_n hc (i := 0) rfl dL_store_3 rfl ?_ | refine v_aload_nN hc (i := 0) rfl dL_store_3 rfl ?_
  refine v_iload_n hc (i := 1) rfl dL_store_4 rfl ?_
  refine v_lload_n hc (i := 2) rfl dL_store_5 rfl ?_
  refine v_xfrVi hc hd (hM _) (cwV 2 hc.1.2.2.2.2 gL_store_X3_store rfl rfl rfl (by decide +kernel) ⟨Nat.le_of_ble_eq_true rfl, Nat.le_of_ble_eq_true rfl⟩) (he) rfl rfl rfl (Nat.le_of_ble_eq_true rfl) ⟨(by first | exact Nat.le_of_ble_eq_true rfl | omega | (dsimp only; omega)), (by first | exact Nat.le_of_ble_eq_true rfl | omega | (dsimp only; omega))⟩ dL_store_6 (fun E u' hp hd => ?_) (fun v w' hp hd => ?_)
  · rcases hE E u' hp with rfl | rfl
    · refine v_catch hc (name := "java/lang/IllegalArgumentException") [] ⟨0, 11, 14, 13⟩ [⟨0, 11, 18, 15⟩] htab (fun z hz => (nomatch hz)) rfl (by decide) (by decide +kernel) (by decide +kernel) (fun q => ?_)
      first | refine v_astore hc dL_store_14 (by decide) rfl ?_ | refine v_astoreN hc dL_store_14 (by decide) rfl ?_
      refine v_iconst hc (v := nI 1) dL_store_16 (by decide) ?_
      exact v_iret hc hr dL_store_17 (by first | exact Nat.le_of_ble_eq_true rfl | omega | (dsimp only; omega)) (by first | exact Nat.le_of_ble_eq_true rfl | omega | (dsimp only; omega)) (⟨u', f, hd, rfl, Or.inr ⟨_, hp, Or.inl ⟨rfl, rfl⟩⟩⟩)
    · refine v_catch hc (name := "java/lang/IllegalStateException") [⟨0, 11, 14, 13⟩] ⟨0, 11, 18, 15⟩ [] htab (fun z hz => by
          rcases List.mem_singleton.mp hz with rfl
          exact ⟨by decide, "java/lang/IllegalArgumentException", by decide +kernel, by decide +kernel⟩) rfl (by decide) (by decide +kernel) (by decide +kernel) (fun q => ?_)
      first | refine v_astore hc dL_store_18 (by decide) rfl ?_ | refine v_astoreN hc dL_store_18 (by decide) rfl ?_
      refine v_iconst hc (v := nI 2) dL_store_20 (by decide) ?_
      exact v_iret hc hr dL_store_21 (by first | exact Nat.le_of_ble_eq_true rfl | omega | (dsimp only; omega)) (by first | exact Nat.le_of_ble_eq_true rfl | omega | (dsimp only; omega)) (⟨u', f, hd, rfl, Or.inr ⟨_, hp, Or.inr ⟨rfl, rfl⟩⟩⟩)
  · refine v_i2l hc dL_store_9 ?_
    refine v_last hc (0) dL_store_10 (jn_l (sg_s _ _)) rfl (by decide) (by decide) ?_
    rw [jn_up]
    refine v_goto hc (tgt := 22) dL_store_11 (by decide) ?_
    refine v_iconst hc (v := nI 0) dL_store_22 (by decide) ?_
    exact v_iret hc hr dL_store_23 (by first | exact Nat.le_of_ble_eq_true rfl | omega | (dsimp only; omega)) (by first | exact Nat.le_of_ble_eq_true rfl | omega | (dsimp only; omega)) (⟨w', _, dj_sg hd, rfl, Or.inl ⟨v, hp, va_up_self _ _ _, rfl⟩⟩)
set_option maxRecDepth 100000 in
set_option maxHeartbeats 4000000 in
theorem c_L_delete (hd : dj (sg oa (aL G 1 f)) u) (he : u px = some (.inr (6, fs))) (a : Int32) {post : Int32 → wd → Prop} {pxx : String → wd → Prop} (hM : ∀ A : Nat → Prop, vx_Met l yX3_delete wsX3_delete ({ frames := 12, cells := 2, slots := 12, locals := 206 } : Room) (Pw G A u [.ref px, .int a]) (va_Qi post (Bw G A) A) (XW G A pxx) 2 12 A) (hE : ∀ E u', pxx E u' → E = "java/lang/IndexOutOfBoundsException" ∨ E = "java/lang/IllegalStateException") : Met l yL_delete wsL_delete ({ frames := 13, cells := 2, slots := 12, locals := 228 } : Room) (Pw G A (jn (sg oa (aL G 1 f)) u) [.ref px, .int a, .ref oa]) (va_Qi (fun r w' => ∃ u' f', dj (sg oa (aL G 1 f')) u' ∧ w' = jn (sg oa (aL G 1 f')) u' ∧ ((∃ v, post v u' ∧ f' 0 = v.toInt64 ∧ r = nI 0) ∨ ∃ E, pxx E u' ∧ ((E = "java/lang/IndexOutOfBoundsException" ∧ r = nI 1) ∨ (E = "java/lang/IllegalStateException" ∧ r = nI 2)))) (Bw G A) A) 2 12 A := by
  refine m_ofH (cc := cL_delete) (maxL := 4) (ret := (some .int)) (hh := [(0, 9, 12, 21), (0, 9, 15, 15)]) (by decide) rfl (Nat.le_of_ble_eq_true rfl) ?_
  intro p e s m args below meth c hc hr htab
  refine v_loc [(0, some (.ref px)), (1, some (.int a)), (2, some (.ref oa))] rfl ?_
  first | refine v_aload_n hc (i := 2) rfl dL_delete_0 rfl ?_ | refine v_aload_nN hc (i := 2) rfl dL_delete_0 rfl ?_
  refine v_iconst hc (v := nI 0) dL_delete_1 (by decide) ?_
  first | refine v_aload_n hc (i := 0) rfl dL_delete_2 rfl ?_ | refine v_aload_nN hc (i := 0) rfl dL_delete_2 rfl ?_
  refine v_iload_n hc (i := 1) rfl dL_delete_3 rfl ?_
  refine v_xfrVi hc hd (hM _) (cwV 1 hc.1.2.2.2.2 gL_delete_X3_delete rfl rfl rfl (by decide +kernel) ⟨Nat.le_of_ble_eq_true rfl, Nat.le_of_ble_eq_true rfl⟩) (he) rfl rfl rfl (Nat.le_of_ble_eq_true rfl) ⟨(by first | exact Nat.le_of_ble_eq_true rfl | omega | (dsimp only; omega)), (by first | exact Nat.le_of_ble_eq_true rfl | omega | (dsimp only; omega))⟩ dL_delete_4 (fun E u' hp hd => ?_) (fun v w' hp hd => ?_)
  · rcases hE E u' hp with rfl | rfl
    · refine v_catch hc (name := "java/lang/IndexOutOfBoundsException") [] ⟨0, 9, 12, 21⟩ [⟨0, 9, 15, 15⟩] htab (fun z hz => (nomatch hz)) rfl (by decide) (by decide +kernel) (by decide +kernel) (fun q => ?_)
      first | refine v_astore_n hc (i := 3) rfl dL_delete_12 (by decide) rfl ?_ | refine v_astore_nN hc (i := 3) rfl dL_delete_12 (by decide) rfl ?_
      refine v_iconst hc (v := nI 1) dL_delete_13 (by decide) ?_
      exact v_iret hc hr dL_delete_14 (by first | exact Nat.le_of_ble_eq_true rfl | omega | (dsimp only; omega)) (by first | exact Nat.le_of_ble_eq_true rfl | omega | (dsimp only; omega)) (⟨u', f, hd, rfl, Or.inr ⟨_, hp, Or.inl ⟨rfl, rfl⟩⟩⟩)
    · refine v_catch hc (name := "java/lang/IllegalStateException") [⟨0, 9, 12, 21⟩] ⟨0, 9, 15, 15⟩ [] htab (fun z hz => by
          rcases List.mem_singleton.mp hz with rfl
          exact ⟨by decide, "java/lang/IndexOutOfBoundsException", by decide +kernel, by decide +kernel⟩) rfl (by decide) (by decide +kernel) (by decide +kernel) (fun q => ?_)
      first | refine v_astore_n hc (i := 3) rfl dL_delete_15 (by decide) rfl ?_ | refine v_astore_nN hc (i := 3) rfl dL_delete_15 (by decide) rfl ?_
      refine v_iconst hc (v := nI 2) dL_delete_16 (by decide) ?_
      exact v_iret hc hr dL_delete_17 (by first | exact Nat.le_of_ble_eq_true rfl | omega | (dsimp only; omega)) (by first | exact Nat.le_of_ble_eq_true rfl | omega | (dsimp only; omega)) (⟨u', f, hd, rfl, Or.inr ⟨_, hp, Or.inr ⟨rfl, rfl⟩⟩⟩)
  · refine v_i2l hc dL_delete_7 ?_
    refine v_last hc (0) dL_delete_8 (jn_l (sg_s _ _)) rfl (by decide) (by decide) ?_
    rw [jn_up]
    refine v_goto hc (tgt := 18) dL_delete_9 (by decide) ?_
    refine v_iconst hc (v := nI 0) dL_delete_18 (by decide) ?_
    exact v_iret hc hr dL_delete_19 (by first | exact Nat.le_of_ble_eq_true rfl | omega | (dsimp only; omega)) (by first | exact Nat.le_of_ble_eq_true rfl | omega | (dsimp only; omega)) (⟨w', _, dj_sg hd, rfl, Or.inl ⟨v, hp, va_up_self _ _ _, rfl⟩⟩)
set_option maxRecDepth 100000 in
set_option maxHeartbeats 4000000 in
theorem c_L_isLive (hd : dj (sg oa (aL G 1 f)) u) (he : u px = some (.inr (6, fs))) (a : Int32) {post : Int32 → wd → Prop} {pxx : String → wd → Prop} (hM : ∀ A : Nat → Prop, vx_Met l yX3_isLive wsX3_isLive ({ frames := 12, cells := 1, slots := 6, locals := 205 } : Room) (Pw G A u [.ref px, .int a]) (va_Qi post (Bw G A) A) (XW G A pxx) 1 6 A) (hE : ∀ E u', pxx E u' → E = "java/lang/IndexOutOfBoundsException") : Met l yL_isLive wsL_isLive ({ frames := 13, cells := 1, slots := 6, locals := 226 } : Room) (Pw G A (jn (sg oa (aL G 1 f)) u) [.ref px, .int a, .ref oa]) (va_Qi (fun r w' => ∃ u' f', dj (sg oa (aL G 1 f')) u' ∧ w' = jn (sg oa (aL G 1 f')) u' ∧ ((∃ v, post v u' ∧ f' 0 = (if v = 0 then 0 else 1) ∧ r = nI 0) ∨ ∃ E, pxx E u' ∧ ((E = "java/lang/IndexOutOfBoundsException" ∧ r = nI 1)))) (Bw G A) A) 1 6 A := by
  refine m_ofH (cc := cL_isLive) (maxL := 4) (ret := (some .int)) (hh := [(0, 16, 19, 21)]) (by decide) rfl (Nat.le_of_ble_eq_true rfl) ?_
  intro p e s m args below meth c hc hr htab
  refine v_loc [(0, some (.ref px)), (1, some (.int a)), (2, some (.ref oa))] rfl ?_
  first | refine v_aload_n hc (i := 2) rfl dL_isLive_0 rfl ?_ | refine v_aload_nN hc (i := 2) rfl dL_isLive_0 rfl ?_
  refine v_iconst hc (v := nI 0) dL_isLive_1 (by decide) ?_
  first | refine v_aload_n hc (i := 0) rfl dL_isLive_2 rfl ?_ | refine v_aload_nN hc (i := 0) rfl dL_isLive_2 rfl ?_
  refine v_iload_n hc (i := 1) rfl dL_isLive_3 rfl ?_
  refine v_xfrVi hc hd (hM _) (cwV 1 hc.1.2.2.2.2 gL_isLive_X3_isLive rfl rfl rfl (by decide +kernel) ⟨Nat.le_of_ble_eq_true rfl, Nat.le_of_ble_eq_true rfl⟩) (he) rfl rfl rfl (Nat.le_of_ble_eq_true rfl) ⟨(by first | exact Nat.le_of_ble_eq_true rfl | omega | (dsimp only; omega)), (by first | exact Nat.le_of_ble_eq_true rfl | omega | (dsimp only; omega))⟩ dL_isLive_4 (fun E u' hp hd => ?_) (fun v w' hp hd => ?_)
  · obtain rfl := hE E u' hp
    refine v_catch hc (name := "java/lang/IndexOutOfBoundsException") [] ⟨0, 16, 19, 21⟩ [] htab (fun z hz => (nomatch hz)) rfl (by decide) (by decide +kernel) (by decide +kernel) (fun q => ?_)
    first | refine v_astore_n hc (i := 3) rfl dL_isLive_19 (by decide) rfl ?_ | refine v_astore_nN hc (i := 3) rfl dL_isLive_19 (by decide) rfl ?_
    refine v_iconst hc (v := nI 1) dL_isLive_20 (by decide) ?_
    exact v_iret hc hr dL_isLive_21 (by first | exact Nat.le_of_ble_eq_true rfl | omega | (dsimp only; omega)) (by first | exact Nat.le_of_ble_eq_true rfl | omega | (dsimp only; omega)) (⟨u', f, hd, rfl, Or.inr ⟨_, hp, ⟨rfl, rfl⟩⟩⟩)
  · refine v_if_eq hc (tgt := 14) dL_isLive_7 (by decide) (fun h0 => ?_) (fun h0 => ?_)
    · refine v_lconst hc (v := 0) dL_isLive_14 (by decide) ?_
      refine v_last hc (0) dL_isLive_15 (jn_l (sg_s _ _)) rfl (by decide) (by decide) ?_
      rw [jn_up]
      refine v_goto hc (tgt := 22) dL_isLive_16 (by decide) ?_
      refine v_iconst hc (v := nI 0) dL_isLive_22 (by decide) ?_
      exact v_iret hc hr dL_isLive_23 (by first | exact Nat.le_of_ble_eq_true rfl | omega | (dsimp only; omega)) (by first | exact Nat.le_of_ble_eq_true rfl | omega | (dsimp only; omega)) (⟨w', _, dj_sg hd, rfl, Or.inl ⟨v, hp, by rw [va_up_self, if_pos h0], rfl⟩⟩)
    · refine v_lconst hc (v := 1) dL_isLive_10 (by decide) ?_
      refine v_goto hc (tgt := 15) dL_isLive_11 (by decide) ?_
      refine v_last hc (0) dL_isLive_15 (jn_l (sg_s _ _)) rfl (by decide) (by decide) ?_
      rw [jn_up]
      refine v_goto hc (tgt := 22) dL_isLive_16 (by decide) ?_
      refine v_iconst hc (v := nI 0) dL_isLive_22 (by decide) ?_
      exact v_iret hc hr dL_isLive_23 (by first | exact Nat.le_of_ble_eq_true rfl | omega | (dsimp only; omega)) (by first | exact Nat.le_of_ble_eq_true rfl | omega | (dsimp only; omega)) (⟨w', _, dj_sg hd, rfl, Or.inl ⟨v, hp, by rw [va_up_self, if_neg h0], rfl⟩⟩)
set_option maxRecDepth 100000 in
set_option maxHeartbeats 4000000 in
theorem c_L_isLoose (hd : dj (sg oa (aL G 1 f)) u) (he : u px = some (.inr (6, fs))) (a : Int32) {post : Int32 → wd → Prop} {pxx : String → wd → Prop} (hM : ∀ A : Nat → Prop, vx_Met l yX3_isLoose wsX3_isLoose ({ frames := 12, cells := 1, slots := 6, locals := 205 } : Room) (Pw G A u [.ref px, .int a]) (va_Qi post (Bw G A) A) (XW G A pxx) 1 6 A) (hE : ∀ E u', pxx E u' → E = "java/lang/IndexOutOfBoundsException") : Met l yL_isLoose wsL_isLoose ({ frames := 13, cells := 1, slots := 6, locals := 226 } : Room) (Pw G A (jn (sg oa (aL G 1 f)) u) [.ref px, .int a, .ref oa]) (va_Qi (fun r w' => ∃ u' f', dj (sg oa (aL G 1 f')) u' ∧ w' = jn (sg oa (aL G 1 f')) u' ∧ ((∃ v, post v u' ∧ f' 0 = (if v = 0 then 0 else 1) ∧ r = nI 0) ∨ ∃ E, pxx E u' ∧ ((E = "java/lang/IndexOutOfBoundsException" ∧ r = nI 1)))) (Bw G A) A) 1 6 A := by
  refine m_ofH (cc := cL_isLoose) (maxL := 4) (ret := (some .int)) (hh := [(0, 16, 19, 21)]) (by decide) rfl (Nat.le_of_ble_eq_true rfl) ?_
  intro p e s m args below meth c hc hr htab
  refine v_loc [(0, some (.ref px)), (1, some (.int a)), (2, some (.ref oa))] rfl ?_
  first | refine v_aload_n hc (i := 2) rfl dL_isLoose_0 rfl ?_ | refine v_aload_nN hc (i := 2) rfl dL_isLoose_0 rfl ?_
  refine v_iconst hc (v := nI 0) dL_isLoose_1 (by decide) ?_
  first | refine v_aload_n hc (i := 0) rfl dL_isLoose_2 rfl ?_ | refine v_aload_nN hc (i := 0) rfl dL_isLoose_2 rfl ?_
  refine v_iload_n hc (i := 1) rfl dL_isLoose_3 rfl ?_
  refine v_xfrVi hc hd (hM _) (cwV 1 hc.1.2.2.2.2 gL_isLoose_X3_isLoose rfl rfl rfl (by decide +kernel) ⟨Nat.le_of_ble_eq_true rfl, Nat.le_of_ble_eq_true rfl⟩) (he) rfl rfl rfl (Nat.le_of_ble_eq_true rfl) ⟨(by first | exact Nat.le_of_ble_eq_true rfl | omega | (dsimp only; omega)), (by first | exact Nat.le_of_ble_eq_true rfl | omega | (dsimp only; omega))⟩ dL_isLoose_4 (fun E u' hp hd => ?_) (fun v w' hp hd => ?_)
  · obtain rfl := hE E u' hp
    refine v_catch hc (name := "java/lang/IndexOutOfBoundsException") [] ⟨0, 16, 19, 21⟩ [] htab (fun z hz => (nomatch hz)) rfl (by decide) (by decide +kernel) (by decide +kernel) (fun q => ?_)
    first | refine v_astore_n hc (i := 3) rfl dL_isLoose_19 (by decide) rfl ?_ | refine v_astore_nN hc (i := 3) rfl dL_isLoose_19 (by decide) rfl ?_
    refine v_iconst hc (v := nI 1) dL_isLoose_20 (by decide) ?_
    exact v_iret hc hr dL_isLoose_21 (by first | exact Nat.le_of_ble_eq_true rfl | omega | (dsimp only; omega)) (by first | exact Nat.le_of_ble_eq_true rfl | omega | (dsimp only; omega)) (⟨u', f, hd, rfl, Or.inr ⟨_, hp, ⟨rfl, rfl⟩⟩⟩)
  · refine v_if_eq hc (tgt := 14) dL_isLoose_7 (by decide) (fun h0 => ?_) (fun h0 => ?_)
    · refine v_lconst hc (v := 0) dL_isLoose_14 (by decide) ?_
      refine v_last hc (0) dL_isLoose_15 (jn_l (sg_s _ _)) rfl (by decide) (by decide) ?_
      rw [jn_up]
      refine v_goto hc (tgt := 22) dL_isLoose_16 (by decide) ?_
      refine v_iconst hc (v := nI 0) dL_isLoose_22 (by decide) ?_
      exact v_iret hc hr dL_isLoose_23 (by first | exact Nat.le_of_ble_eq_true rfl | omega | (dsimp only; omega)) (by first | exact Nat.le_of_ble_eq_true rfl | omega | (dsimp only; omega)) (⟨w', _, dj_sg hd, rfl, Or.inl ⟨v, hp, by rw [va_up_self, if_pos h0], rfl⟩⟩)
    · refine v_lconst hc (v := 1) dL_isLoose_10 (by decide) ?_
      refine v_goto hc (tgt := 15) dL_isLoose_11 (by decide) ?_
      refine v_last hc (0) dL_isLoose_15 (jn_l (sg_s _ _)) rfl (by decide) (by decide) ?_
      rw [jn_up]
      refine v_goto hc (tgt := 22) dL_isLoose_16 (by decide) ?_
      refine v_iconst hc (v := nI 0) dL_isLoose_22 (by decide) ?_
      exact v_iret hc hr dL_isLoose_23 (by first | exact Nat.le_of_ble_eq_true rfl | omega | (dsimp only; omega)) (by first | exact Nat.le_of_ble_eq_true rfl | omega | (dsimp only; omega)) (⟨w', _, dj_sg hd, rfl, Or.inl ⟨v, hp, by rw [va_up_self, if_neg h0], rfl⟩⟩)
set_option maxRecDepth 100000 in
set_option maxHeartbeats 4000000 in
theorem c_L_canRead (hd : dj (sg oa (aL G 1 f)) u) (he : u px = some (.inr (6, fs))) (a : Int32) {post : Int32 → wd → Prop} {pxx : String → wd → Prop} (hM : ∀ A : Nat → Prop, vx_Met l yX3_canRead wsX3_canRead ({ frames := 12, cells := 1, slots := 6, locals := 205 } : Room) (Pw G A u [.ref px, .int a]) (va_Qi post (Bw G A) A) (XW G A pxx) 1 6 A) (hE : ∀ E u', pxx E u' → E = "java/lang/IndexOutOfBoundsException") : Met l yL_canRead wsL_canRead ({ frames := 13, cells := 1, slots := 6, locals := 226 } : Room) (Pw G A (jn (sg oa (aL G 1 f)) u) [.ref px, .int a, .ref oa]) (va_Qi (fun r w' => ∃ u' f', dj (sg oa (aL G 1 f')) u' ∧ w' = jn (sg oa (aL G 1 f')) u' ∧ ((∃ v, post v u' ∧ f' 0 = (if v = 0 then 0 else 1) ∧ r = nI 0) ∨ ∃ E, pxx E u' ∧ ((E = "java/lang/IndexOutOfBoundsException" ∧ r = nI 1)))) (Bw G A) A) 1 6 A := by
  refine m_ofH (cc := cL_canRead) (maxL := 4) (ret := (some .int)) (hh := [(0, 16, 19, 21)]) (by decide) rfl (Nat.le_of_ble_eq_true rfl) ?_
  intro p e s m args below meth c hc hr htab
  refine v_loc [(0, some (.ref px)), (1, some (.int a)), (2, some (.ref oa))] rfl ?_
  first | refine v_aload_n hc (i := 2) rfl dL_canRead_0 rfl ?_ | refine v_aload_nN hc (i := 2) rfl dL_canRead_0 rfl ?_
  refine v_iconst hc (v := nI 0) dL_canRead_1 (by decide) ?_
  first | refine v_aload_n hc (i := 0) rfl dL_canRead_2 rfl ?_ | refine v_aload_nN hc (i := 0) rfl dL_canRead_2 rfl ?_
  refine v_iload_n hc (i := 1) rfl dL_canRead_3 rfl ?_
  refine v_xfrVi hc hd (hM _) (cwV 1 hc.1.2.2.2.2 gL_canRead_X3_canRead rfl rfl rfl (by decide +kernel) ⟨Nat.le_of_ble_eq_true rfl, Nat.le_of_ble_eq_true rfl⟩) (he) rfl rfl rfl (Nat.le_of_ble_eq_true rfl) ⟨(by first | exact Nat.le_of_ble_eq_true rfl | omega | (dsimp only; omega)), (by first | exact Nat.le_of_ble_eq_true rfl | omega | (dsimp only; omega))⟩ dL_canRead_4 (fun E u' hp hd => ?_) (fun v w' hp hd => ?_)
  · obtain rfl := hE E u' hp
    refine v_catch hc (name := "java/lang/IndexOutOfBoundsException") [] ⟨0, 16, 19, 21⟩ [] htab (fun z hz => (nomatch hz)) rfl (by decide) (by decide +kernel) (by decide +kernel) (fun q => ?_)
    first | refine v_astore_n hc (i := 3) rfl dL_canRead_19 (by decide) rfl ?_ | refine v_astore_nN hc (i := 3) rfl dL_canRead_19 (by decide) rfl ?_
    refine v_iconst hc (v := nI 1) dL_canRead_20 (by decide) ?_
    exact v_iret hc hr dL_canRead_21 (by first | exact Nat.le_of_ble_eq_true rfl | omega | (dsimp only; omega)) (by first | exact Nat.le_of_ble_eq_true rfl | omega | (dsimp only; omega)) (⟨u', f, hd, rfl, Or.inr ⟨_, hp, ⟨rfl, rfl⟩⟩⟩)
  · refine v_if_eq hc (tgt := 14) dL_canRead_7 (by decide) (fun h0 => ?_) (fun h0 => ?_)
    · refine v_lconst hc (v := 0) dL_canRead_14 (by decide) ?_
      refine v_last hc (0) dL_canRead_15 (jn_l (sg_s _ _)) rfl (by decide) (by decide) ?_
      rw [jn_up]
      refine v_goto hc (tgt := 22) dL_canRead_16 (by decide) ?_
      refine v_iconst hc (v := nI 0) dL_canRead_22 (by decide) ?_
      exact v_iret hc hr dL_canRead_23 (by first | exact Nat.le_of_ble_eq_true rfl | omega | (dsimp only; omega)) (by first | exact Nat.le_of_ble_eq_true rfl | omega | (dsimp only; omega)) (⟨w', _, dj_sg hd, rfl, Or.inl ⟨v, hp, by rw [va_up_self, if_pos h0], rfl⟩⟩)
    · refine v_lconst hc (v := 1) dL_canRead_10 (by decide) ?_
      refine v_goto hc (tgt := 15) dL_canRead_11 (by decide) ?_
      refine v_last hc (0) dL_canRead_15 (jn_l (sg_s _ _)) rfl (by decide) (by decide) ?_
      rw [jn_up]
      refine v_goto hc (tgt := 22) dL_canRead_16 (by decide) ?_
      refine v_iconst hc (v := nI 0) dL_canRead_22 (by decide) ?_
      exact v_iret hc hr dL_canRead_23 (by first | exact Nat.le_of_ble_eq_true rfl | omega | (dsimp only; omega)) (by first | exact Nat.le_of_ble_eq_true rfl | omega | (dsimp only; omega)) (⟨w', _, dj_sg hd, rfl, Or.inl ⟨v, hp, by rw [va_up_self, if_neg h0], rfl⟩⟩)
set_option maxRecDepth 100000 in
set_option maxHeartbeats 4000000 in
theorem c_L_read (hd : dj (sg oa (aL G 1 f)) u) (he : u px = some (.inr (6, fs))) (a : Int32) {post : Int64 → wd → Prop} {pxx : String → wd → Prop} (hM : ∀ A : Nat → Prop, vx_Met l yX3_read wsX3_read ({ frames := 12, cells := 2, slots := 12, locals := 205 } : Room) (Pw G A u [.ref px, .int a]) (va_Ql post (Bw G A) A) (XW G A pxx) 2 12 A) (hE : ∀ E u', pxx E u' → E = "java/lang/IndexOutOfBoundsException" ∨ E = "java/lang/IllegalStateException") : Met l yL_read wsL_read ({ frames := 13, cells := 2, slots := 12, locals := 227 } : Room) (Pw G A (jn (sg oa (aL G 1 f)) u) [.ref px, .int a, .ref oa]) (va_Qi (fun r w' => ∃ u' f', dj (sg oa (aL G 1 f')) u' ∧ w' = jn (sg oa (aL G 1 f')) u' ∧ ((∃ v, post v u' ∧ f' 0 = v ∧ r = nI 0) ∨ ∃ E, pxx E u' ∧ ((E = "java/lang/IndexOutOfBoundsException" ∧ r = nI 1) ∨ (E = "java/lang/IllegalStateException" ∧ r = nI 2)))) (Bw G A) A) 2 12 A := by
  refine m_ofH (cc := cL_read) (maxL := 4) (ret := (some .int)) (hh := [(0, 8, 11, 21), (0, 8, 14, 15)]) (by decide) rfl (Nat.le_of_ble_eq_true rfl) ?_
  intro p e s m args below meth c hc hr htab
  refine v_loc [(0, some (.ref px)), (1, some (.int a)), (2, some (.ref oa))] rfl ?_
  first | refine v_aload_n hc (i := 2) rfl dL_read_0 rfl ?_ | refine v_aload_nN hc (i := 2) rfl dL_read_0 rfl ?_
  refine v_iconst hc (v := nI 0) dL_read_1 (by decide) ?_
  first | refine v_aload_n hc (i := 0) rfl dL_read_2 rfl ?_ | refine v_aload_nN hc (i := 0) rfl dL_read_2 rfl ?_
  refine v_iload_n hc (i := 1) rfl dL_read_3 rfl ?_
  refine v_xfrVl hc hd (hM _) (cwV 1 hc.1.2.2.2.2 gL_read_X3_read rfl rfl rfl (by decide +kernel) ⟨Nat.le_of_ble_eq_true rfl, Nat.le_of_ble_eq_true rfl⟩) (he) rfl rfl rfl (Nat.le_of_ble_eq_true rfl) ⟨(by first | exact Nat.le_of_ble_eq_true rfl | omega | (dsimp only; omega)), (by first | exact Nat.le_of_ble_eq_true rfl | omega | (dsimp only; omega))⟩ dL_read_4 (fun E u' hp hd => ?_) (fun v w' hp hd => ?_)
  · rcases hE E u' hp with rfl | rfl
    · refine v_catch hc (name := "java/lang/IndexOutOfBoundsException") [] ⟨0, 8, 11, 21⟩ [⟨0, 8, 14, 15⟩] htab (fun z hz => (nomatch hz)) rfl (by decide) (by decide +kernel) (by decide +kernel) (fun q => ?_)
      first | refine v_astore_n hc (i := 3) rfl dL_read_11 (by decide) rfl ?_ | refine v_astore_nN hc (i := 3) rfl dL_read_11 (by decide) rfl ?_
      refine v_iconst hc (v := nI 1) dL_read_12 (by decide) ?_
      exact v_iret hc hr dL_read_13 (by first | exact Nat.le_of_ble_eq_true rfl | omega | (dsimp only; omega)) (by first | exact Nat.le_of_ble_eq_true rfl | omega | (dsimp only; omega)) (⟨u', f, hd, rfl, Or.inr ⟨_, hp, Or.inl ⟨rfl, rfl⟩⟩⟩)
    · refine v_catch hc (name := "java/lang/IllegalStateException") [⟨0, 8, 11, 21⟩] ⟨0, 8, 14, 15⟩ [] htab (fun z hz => by
          rcases List.mem_singleton.mp hz with rfl
          exact ⟨by decide, "java/lang/IndexOutOfBoundsException", by decide +kernel, by decide +kernel⟩) rfl (by decide) (by decide +kernel) (by decide +kernel) (fun q => ?_)
      first | refine v_astore_n hc (i := 3) rfl dL_read_14 (by decide) rfl ?_ | refine v_astore_nN hc (i := 3) rfl dL_read_14 (by decide) rfl ?_
      refine v_iconst hc (v := nI 2) dL_read_15 (by decide) ?_
      exact v_iret hc hr dL_read_16 (by first | exact Nat.le_of_ble_eq_true rfl | omega | (dsimp only; omega)) (by first | exact Nat.le_of_ble_eq_true rfl | omega | (dsimp only; omega)) (⟨u', f, hd, rfl, Or.inr ⟨_, hp, Or.inr ⟨rfl, rfl⟩⟩⟩)
  · refine v_last hc (0) dL_read_7 (jn_l (sg_s _ _)) rfl (by decide) (by decide) ?_
    rw [jn_up]
    refine v_goto hc (tgt := 17) dL_read_8 (by decide) ?_
    refine v_iconst hc (v := nI 0) dL_read_17 (by decide) ?_
    exact v_iret hc hr dL_read_18 (by first | exact Nat.le_of_ble_eq_true rfl | omega | (dsimp only; omega)) (by first | exact Nat.le_of_ble_eq_true rfl | omega | (dsimp only; omega)) (⟨w', _, dj_sg hd, rfl, Or.inl ⟨v, hp, va_up_self _ _ _, rfl⟩⟩)
set_option maxRecDepth 100000 in
set_option maxHeartbeats 4000000 in
theorem c_L_pack (hd : dj (sg oa (aL G 1 f)) u) (he : u px = some (.inr (6, fs))) (a b c0 : Int32) {post : Int32 → wd → Prop} {pxx : String → wd → Prop} (hM : ∀ A : Nat → Prop, vx_Met l yX3_pack wsX3_pack ({ frames := 15, cells := 160, slots := 5200, locals := 290 } : Room) (Pw G A u [.ref px, .int a, .int b, .int c0]) (va_Qi post (Bw G A) A) (XW G A pxx) 160 5200 A) (hE : ∀ E u', pxx E u' → E = "java/lang/IllegalArgumentException") : Met l yL_pack wsL_pack ({ frames := 16, cells := 160, slots := 5200, locals := 316 } : Room) (Pw G A (jn (sg oa (aL G 1 f)) u) [.ref px, .int a, .int b, .int c0, .ref oa]) (va_Qi (fun r w' => ∃ u' f', dj (sg oa (aL G 1 f')) u' ∧ w' = jn (sg oa (aL G 1 f')) u' ∧ ((∃ v, post v u' ∧ f' 0 = v.toInt64 ∧ r = nI 0) ∨ ∃ E, pxx E u' ∧ ((E = "java/lang/IllegalArgumentException" ∧ r = nI 1)))) (Bw G A) A) 160 5200 A := by
  refine m_ofH (cc := cL_pack) (maxL := 6) (ret := (some .int)) (hh := [(0, 12, 15, 13)]) (by decide) rfl (Nat.le_of_ble_eq_true rfl) ?_
  intro p e s m args below meth c hc hr htab
  refine v_loc [(0, some (.ref px)), (1, some (.int a)), (2, some (.int b)), (3, some (.int c0)), (4, some (.ref oa))] rfl ?_
  first | refine v_aload hc dL_pack_0 rfl ?_ | refine v_aloadN hc dL_pack_0 rfl ?_
  refine v_iconst hc (v := nI 0) dL_pack_2 (by decide) ?_
  first | refine v_aload_n hc (i := 0) rfl dL_pack_3 rfl ?_ | refine v_aload_nN hc (i := 0) rfl dL_pack_3 rfl ?_
  refine v_iload_n hc (i := 1) rfl dL_pack_4 rfl ?_
  refine v_iload_n hc (i := 2) rfl dL_pack_5 rfl ?_
  refine v_iload_n hc (i := 3) rfl dL_pack_6 rfl ?_
  refine v_xfrVi hc hd (hM _) (cwV 3 hc.1.2.2.2.2 gL_pack_X3_pack rfl rfl rfl (by decide +kernel) ⟨Nat.le_of_ble_eq_true rfl, Nat.le_of_ble_eq_true rfl⟩) (he) rfl rfl rfl (Nat.le_of_ble_eq_true rfl) ⟨(by first | exact Nat.le_of_ble_eq_true rfl | omega | (dsimp only; omega)), (by first | exact Nat.le_of_ble_eq_true rfl | omega | (dsimp only; omega))⟩ dL_pack_7 (fun E u' hp hd => ?_) (fun v w' hp hd => ?_)
  · obtain rfl := hE E u' hp
    refine v_catch hc (name := "java/lang/IllegalArgumentException") [] ⟨0, 12, 15, 13⟩ [] htab (fun z hz => (nomatch hz)) rfl (by decide) (by decide +kernel) (by decide +kernel) (fun q => ?_)
    first | refine v_astore hc dL_pack_15 (by decide) rfl ?_ | refine v_astoreN hc dL_pack_15 (by decide) rfl ?_
    refine v_iconst hc (v := nI 1) dL_pack_17 (by decide) ?_
    exact v_iret hc hr dL_pack_18 (by first | exact Nat.le_of_ble_eq_true rfl | omega | (dsimp only; omega)) (by first | exact Nat.le_of_ble_eq_true rfl | omega | (dsimp only; omega)) (⟨u', f, hd, rfl, Or.inr ⟨_, hp, ⟨rfl, rfl⟩⟩⟩)
  · refine v_i2l hc dL_pack_10 ?_
    refine v_last hc (0) dL_pack_11 (jn_l (sg_s _ _)) rfl (by decide) (by decide) ?_
    rw [jn_up]
    refine v_goto hc (tgt := 19) dL_pack_12 (by decide) ?_
    refine v_iconst hc (v := nI 0) dL_pack_19 (by decide) ?_
    exact v_iret hc hr dL_pack_20 (by first | exact Nat.le_of_ble_eq_true rfl | omega | (dsimp only; omega)) (by first | exact Nat.le_of_ble_eq_true rfl | omega | (dsimp only; omega)) (⟨w', _, dj_sg hd, rfl, Or.inl ⟨v, hp, va_up_self _ _ _, rfl⟩⟩)
set_option maxRecDepth 100000 in
set_option maxHeartbeats 4000000 in
theorem c_L_damage (hd : dj (sg oa (aL G 1 f)) u) (he : u px = some (.inr (6, fs))) (a : Int32) {post : Int32 → wd → Prop} {pxx : String → wd → Prop} (hM : ∀ A : Nat → Prop, vx_Met l yX3_damage wsX3_damage ({ frames := 13, cells := 3, slots := 18, locals := 227 } : Room) (Pw G A u [.ref px, .int a]) (va_Qi post (Bw G A) A) (XW G A pxx) 3 18 A) (hE : ∀ E u', pxx E u' → E = "java/lang/IndexOutOfBoundsException" ∨ E = "java/lang/IllegalStateException") : Met l yL_damage wsL_damage ({ frames := 14, cells := 3, slots := 18, locals := 250 } : Room) (Pw G A (jn (sg oa (aL G 1 f)) u) [.ref px, .int a, .ref oa]) (va_Qi (fun r w' => ∃ u' f', dj (sg oa (aL G 1 f')) u' ∧ w' = jn (sg oa (aL G 1 f')) u' ∧ ((∃ v, post v u' ∧ f' 0 = v.toInt64 ∧ r = nI 0) ∨ ∃ E, pxx E u' ∧ ((E = "java/lang/IndexOutOfBoundsException" ∧ r = nI 1) ∨ (E = "java/lang/IllegalStateException" ∧ r = nI 2)))) (Bw G A) A) 3 18 A := by
  refine m_ofH (cc := cL_damage) (maxL := 4) (ret := (some .int)) (hh := [(0, 9, 12, 21), (0, 9, 15, 15)]) (by decide) rfl (Nat.le_of_ble_eq_true rfl) ?_
  intro p e s m args below meth c hc hr htab
  refine v_loc [(0, some (.ref px)), (1, some (.int a)), (2, some (.ref oa))] rfl ?_
  first | refine v_aload_n hc (i := 2) rfl dL_damage_0 rfl ?_ | refine v_aload_nN hc (i := 2) rfl dL_damage_0 rfl ?_
  refine v_iconst hc (v := nI 0) dL_damage_1 (by decide) ?_
  first | refine v_aload_n hc (i := 0) rfl dL_damage_2 rfl ?_ | refine v_aload_nN hc (i := 0) rfl dL_damage_2 rfl ?_
  refine v_iload_n hc (i := 1) rfl dL_damage_3 rfl ?_
  refine v_xfrVi hc hd (hM _) (cwV 1 hc.1.2.2.2.2 gL_damage_X3_damage rfl rfl rfl (by decide +kernel) ⟨Nat.le_of_ble_eq_true rfl, Nat.le_of_ble_eq_true rfl⟩) (he) rfl rfl rfl (Nat.le_of_ble_eq_true rfl) ⟨(by first | exact Nat.le_of_ble_eq_true rfl | omega | (dsimp only; omega)), (by first | exact Nat.le_of_ble_eq_true rfl | omega | (dsimp only; omega))⟩ dL_damage_4 (fun E u' hp hd => ?_) (fun v w' hp hd => ?_)
  · rcases hE E u' hp with rfl | rfl
    · refine v_catch hc (name := "java/lang/IndexOutOfBoundsException") [] ⟨0, 9, 12, 21⟩ [⟨0, 9, 15, 15⟩] htab (fun z hz => (nomatch hz)) rfl (by decide) (by decide +kernel) (by decide +kernel) (fun q => ?_)
      first | refine v_astore_n hc (i := 3) rfl dL_damage_12 (by decide) rfl ?_ | refine v_astore_nN hc (i := 3) rfl dL_damage_12 (by decide) rfl ?_
      refine v_iconst hc (v := nI 1) dL_damage_13 (by decide) ?_
      exact v_iret hc hr dL_damage_14 (by first | exact Nat.le_of_ble_eq_true rfl | omega | (dsimp only; omega)) (by first | exact Nat.le_of_ble_eq_true rfl | omega | (dsimp only; omega)) (⟨u', f, hd, rfl, Or.inr ⟨_, hp, Or.inl ⟨rfl, rfl⟩⟩⟩)
    · refine v_catch hc (name := "java/lang/IllegalStateException") [⟨0, 9, 12, 21⟩] ⟨0, 9, 15, 15⟩ [] htab (fun z hz => by
          rcases List.mem_singleton.mp hz with rfl
          exact ⟨by decide, "java/lang/IndexOutOfBoundsException", by decide +kernel, by decide +kernel⟩) rfl (by decide) (by decide +kernel) (by decide +kernel) (fun q => ?_)
      first | refine v_astore_n hc (i := 3) rfl dL_damage_15 (by decide) rfl ?_ | refine v_astore_nN hc (i := 3) rfl dL_damage_15 (by decide) rfl ?_
      refine v_iconst hc (v := nI 2) dL_damage_16 (by decide) ?_
      exact v_iret hc hr dL_damage_17 (by first | exact Nat.le_of_ble_eq_true rfl | omega | (dsimp only; omega)) (by first | exact Nat.le_of_ble_eq_true rfl | omega | (dsimp only; omega)) (⟨u', f, hd, rfl, Or.inr ⟨_, hp, Or.inr ⟨rfl, rfl⟩⟩⟩)
  · refine v_i2l hc dL_damage_7 ?_
    refine v_last hc (0) dL_damage_8 (jn_l (sg_s _ _)) rfl (by decide) (by decide) ?_
    rw [jn_up]
    refine v_goto hc (tgt := 18) dL_damage_9 (by decide) ?_
    refine v_iconst hc (v := nI 0) dL_damage_18 (by decide) ?_
    exact v_iret hc hr dL_damage_19 (by first | exact Nat.le_of_ble_eq_true rfl | omega | (dsimp only; omega)) (by first | exact Nat.le_of_ble_eq_true rfl | omega | (dsimp only; omega)) (⟨w', _, dj_sg hd, rfl, Or.inl ⟨v, hp, va_up_self _ _ _, rfl⟩⟩)
set_option maxRecDepth 100000 in
set_option maxHeartbeats 4000000 in
theorem c_L_costOf (hd : dj (sg oa (aL G 1 f)) u) (he : u px = some (.inr (6, fs))) (a : Int32) {post : Int32 → wd → Prop} {pxx : String → wd → Prop} (hM : ∀ A : Nat → Prop, vx_Met l yX3_costOf wsX3_costOf ({ frames := 13, cells := 2, slots := 12, locals := 227 } : Room) (Pw G A u [.ref px, .int a]) (va_Qi post (Bw G A) A) (XW G A pxx) 2 12 A) (hE : ∀ E u', pxx E u' → E = "java/lang/IndexOutOfBoundsException" ∨ E = "java/lang/IllegalStateException") : Met l yL_costOf wsL_costOf ({ frames := 14, cells := 2, slots := 12, locals := 248 } : Room) (Pw G A (jn (sg oa (aL G 1 f)) u) [.ref px, .int a, .ref oa]) (va_Qi (fun r w' => ∃ u' f', dj (sg oa (aL G 1 f')) u' ∧ w' = jn (sg oa (aL G 1 f')) u' ∧ ((∃ v, post v u' ∧ f' 0 = v.toInt64 ∧ r = nI 0) ∨ ∃ E, pxx E u' ∧ ((E = "java/lang/IndexOutOfBoundsException" ∧ r = nI 1) ∨ (E = "java/lang/IllegalStateException" ∧ r = nI 2)))) (Bw G A) A) 2 12 A := by
  refine m_ofH (cc := cL_costOf) (maxL := 4) (ret := (some .int)) (hh := [(0, 9, 12, 21), (0, 9, 15, 15)]) (by decide) rfl (Nat.le_of_ble_eq_true rfl) ?_
  intro p e s m args below meth c hc hr htab
  refine v_loc [(0, some (.ref px)), (1, some (.int a)), (2, some (.ref oa))] rfl ?_
  first | refine v_aload_n hc (i := 2) rfl dL_costOf_0 rfl ?_ | refine v_aload_nN hc (i := 2) rfl dL_costOf_0 rfl ?_
  refine v_iconst hc (v := nI 0) dL_costOf_1 (by decide) ?_
  first | refine v_aload_n hc (i := 0) rfl dL_costOf_2 rfl ?_ | refine v_aload_nN hc (i := 0) rfl dL_costOf_2 rfl ?_
  refine v_iload_n hc (i := 1) rfl dL_costOf_3 rfl ?_
  refine v_xfrVi hc hd (hM _) (cwV 1 hc.1.2.2.2.2 gL_costOf_X3_costOf rfl rfl rfl (by decide +kernel) ⟨Nat.le_of_ble_eq_true rfl, Nat.le_of_ble_eq_true rfl⟩) (he) rfl rfl rfl (Nat.le_of_ble_eq_true rfl) ⟨(by first | exact Nat.le_of_ble_eq_true rfl | omega | (dsimp only; omega)), (by first | exact Nat.le_of_ble_eq_true rfl | omega | (dsimp only; omega))⟩ dL_costOf_4 (fun E u' hp hd => ?_) (fun v w' hp hd => ?_)
  · rcases hE E u' hp with rfl | rfl
    · refine v_catch hc (name := "java/lang/IndexOutOfBoundsException") [] ⟨0, 9, 12, 21⟩ [⟨0, 9, 15, 15⟩] htab (fun z hz => (nomatch hz)) rfl (by decide) (by decide +kernel) (by decide +kernel) (fun q => ?_)
      first | refine v_astore_n hc (i := 3) rfl dL_costOf_12 (by decide) rfl ?_ | refine v_astore_nN hc (i := 3) rfl dL_costOf_12 (by decide) rfl ?_
      refine v_iconst hc (v := nI 1) dL_costOf_13 (by decide) ?_
      exact v_iret hc hr dL_costOf_14 (by first | exact Nat.le_of_ble_eq_true rfl | omega | (dsimp only; omega)) (by first | exact Nat.le_of_ble_eq_true rfl | omega | (dsimp only; omega)) (⟨u', f, hd, rfl, Or.inr ⟨_, hp, Or.inl ⟨rfl, rfl⟩⟩⟩)
    · refine v_catch hc (name := "java/lang/IllegalStateException") [⟨0, 9, 12, 21⟩] ⟨0, 9, 15, 15⟩ [] htab (fun z hz => by
          rcases List.mem_singleton.mp hz with rfl
          exact ⟨by decide, "java/lang/IndexOutOfBoundsException", by decide +kernel, by decide +kernel⟩) rfl (by decide) (by decide +kernel) (by decide +kernel) (fun q => ?_)
      first | refine v_astore_n hc (i := 3) rfl dL_costOf_15 (by decide) rfl ?_ | refine v_astore_nN hc (i := 3) rfl dL_costOf_15 (by decide) rfl ?_
      refine v_iconst hc (v := nI 2) dL_costOf_16 (by decide) ?_
      exact v_iret hc hr dL_costOf_17 (by first | exact Nat.le_of_ble_eq_true rfl | omega | (dsimp only; omega)) (by first | exact Nat.le_of_ble_eq_true rfl | omega | (dsimp only; omega)) (⟨u', f, hd, rfl, Or.inr ⟨_, hp, Or.inr ⟨rfl, rfl⟩⟩⟩)
  · refine v_i2l hc dL_costOf_7 ?_
    refine v_last hc (0) dL_costOf_8 (jn_l (sg_s _ _)) rfl (by decide) (by decide) ?_
    rw [jn_up]
    refine v_goto hc (tgt := 18) dL_costOf_9 (by decide) ?_
    refine v_iconst hc (v := nI 0) dL_costOf_18 (by decide) ?_
    exact v_iret hc hr dL_costOf_19 (by first | exact Nat.le_of_ble_eq_true rfl | omega | (dsimp only; omega)) (by first | exact Nat.le_of_ble_eq_true rfl | omega | (dsimp only; omega)) (⟨w', _, dj_sg hd, rfl, Or.inl ⟨v, hp, va_up_self _ _ _, rfl⟩⟩)
set_option maxRecDepth 100000 in
set_option maxHeartbeats 4000000 in
theorem c_L_base (hd : dj (sg oa (aL G 1 f)) u) (he : u px = some (.inr (6, fs))) (a : Int32) {post : Int32 → wd → Prop} {pxx : String → wd → Prop} (hM : ∀ A : Nat → Prop, vx_Met l yX3_base wsX3_base ({ frames := 13, cells := 2, slots := 12, locals := 227 } : Room) (Pw G A u [.ref px, .int a]) (va_Qi post (Bw G A) A) (XW G A pxx) 2 12 A) (hE : ∀ E u', pxx E u' → E = "java/lang/IndexOutOfBoundsException" ∨ E = "java/lang/IllegalStateException") : Met l yL_base wsL_base ({ frames := 14, cells := 2, slots := 12, locals := 249 } : Room) (Pw G A (jn (sg oa (aL G 1 f)) u) [.ref px, .int a, .ref oa]) (va_Qi (fun r w' => ∃ u' f', dj (sg oa (aL G 1 f')) u' ∧ w' = jn (sg oa (aL G 1 f')) u' ∧ ((∃ v, post v u' ∧ f' 0 = v.toInt64 ∧ r = nI 0) ∨ ∃ E, pxx E u' ∧ ((E = "java/lang/IndexOutOfBoundsException" ∧ r = nI 1) ∨ (E = "java/lang/IllegalStateException" ∧ r = nI 2)))) (Bw G A) A) 2 12 A := by
  refine m_ofH (cc := cL_base) (maxL := 4) (ret := (some .int)) (hh := [(0, 9, 12, 21), (0, 9, 15, 15)]) (by decide) rfl (Nat.le_of_ble_eq_true rfl) ?_
  intro p e s m args below meth c hc hr htab
  refine v_loc [(0, some (.ref px)), (1, some (.int a)), (2, some (.ref oa))] rfl ?_
  first | refine v_aload_n hc (i := 2) rfl dL_base_0 rfl ?_ | refine v_aload_nN hc (i := 2) rfl dL_base_0 rfl ?_
  refine v_iconst hc (v := nI 0) dL_base_1 (by decide) ?_
  first | refine v_aload_n hc (i := 0) rfl dL_base_2 rfl ?_ | refine v_aload_nN hc (i := 0) rfl dL_base_2 rfl ?_
  refine v_iload_n hc (i := 1) rfl dL_base_3 rfl ?_
  refine v_xfrVi hc hd (hM _) (cwV 1 hc.1.2.2.2.2 gL_base_X3_base rfl rfl rfl (by decide +kernel) ⟨Nat.le_of_ble_eq_true rfl, Nat.le_of_ble_eq_true rfl⟩) (he) rfl rfl rfl (Nat.le_of_ble_eq_true rfl) ⟨(by first | exact Nat.le_of_ble_eq_true rfl | omega | (dsimp only; omega)), (by first | exact Nat.le_of_ble_eq_true rfl | omega | (dsimp only; omega))⟩ dL_base_4 (fun E u' hp hd => ?_) (fun v w' hp hd => ?_)
  · rcases hE E u' hp with rfl | rfl
    · refine v_catch hc (name := "java/lang/IndexOutOfBoundsException") [] ⟨0, 9, 12, 21⟩ [⟨0, 9, 15, 15⟩] htab (fun z hz => (nomatch hz)) rfl (by decide) (by decide +kernel) (by decide +kernel) (fun q => ?_)
      first | refine v_astore_n hc (i := 3) rfl dL_base_12 (by decide) rfl ?_ | refine v_astore_nN hc (i := 3) rfl dL_base_12 (by decide) rfl ?_
      refine v_iconst hc (v := nI 1) dL_base_13 (by decide) ?_
      exact v_iret hc hr dL_base_14 (by first | exact Nat.le_of_ble_eq_true rfl | omega | (dsimp only; omega)) (by first | exact Nat.le_of_ble_eq_true rfl | omega | (dsimp only; omega)) (⟨u', f, hd, rfl, Or.inr ⟨_, hp, Or.inl ⟨rfl, rfl⟩⟩⟩)
    · refine v_catch hc (name := "java/lang/IllegalStateException") [⟨0, 9, 12, 21⟩] ⟨0, 9, 15, 15⟩ [] htab (fun z hz => by
          rcases List.mem_singleton.mp hz with rfl
          exact ⟨by decide, "java/lang/IndexOutOfBoundsException", by decide +kernel, by decide +kernel⟩) rfl (by decide) (by decide +kernel) (by decide +kernel) (fun q => ?_)
      first | refine v_astore_n hc (i := 3) rfl dL_base_15 (by decide) rfl ?_ | refine v_astore_nN hc (i := 3) rfl dL_base_15 (by decide) rfl ?_
      refine v_iconst hc (v := nI 2) dL_base_16 (by decide) ?_
      exact v_iret hc hr dL_base_17 (by first | exact Nat.le_of_ble_eq_true rfl | omega | (dsimp only; omega)) (by first | exact Nat.le_of_ble_eq_true rfl | omega | (dsimp only; omega)) (⟨u', f, hd, rfl, Or.inr ⟨_, hp, Or.inr ⟨rfl, rfl⟩⟩⟩)
  · refine v_i2l hc dL_base_7 ?_
    refine v_last hc (0) dL_base_8 (jn_l (sg_s _ _)) rfl (by decide) (by decide) ?_
    rw [jn_up]
    refine v_goto hc (tgt := 18) dL_base_9 (by decide) ?_
    refine v_iconst hc (v := nI 0) dL_base_18 (by decide) ?_
    exact v_iret hc hr dL_base_19 (by first | exact Nat.le_of_ble_eq_true rfl | omega | (dsimp only; omega)) (by first | exact Nat.le_of_ble_eq_true rfl | omega | (dsimp only; omega)) (⟨w', _, dj_sg hd, rfl, Or.inl ⟨v, hp, va_up_self _ _ _, rfl⟩⟩)
set_option maxRecDepth 100000 in
set_option maxHeartbeats 4000000 in
theorem c_L_depth (hd : dj (sg oa (aL G 1 f)) u) (he : u px = some (.inr (6, fs))) (a : Int32) {post : Int32 → wd → Prop} {pxx : String → wd → Prop} (hM : ∀ A : Nat → Prop, vx_Met l yX3_depth wsX3_depth ({ frames := 13, cells := 2, slots := 12, locals := 227 } : Room) (Pw G A u [.ref px, .int a]) (va_Qi post (Bw G A) A) (XW G A pxx) 2 12 A) (hE : ∀ E u', pxx E u' → E = "java/lang/IndexOutOfBoundsException" ∨ E = "java/lang/IllegalStateException") : Met l yL_depth wsL_depth ({ frames := 14, cells := 2, slots := 12, locals := 248 } : Room) (Pw G A (jn (sg oa (aL G 1 f)) u) [.ref px, .int a, .ref oa]) (va_Qi (fun r w' => ∃ u' f', dj (sg oa (aL G 1 f')) u' ∧ w' = jn (sg oa (aL G 1 f')) u' ∧ ((∃ v, post v u' ∧ f' 0 = v.toInt64 ∧ r = nI 0) ∨ ∃ E, pxx E u' ∧ ((E = "java/lang/IndexOutOfBoundsException" ∧ r = nI 1) ∨ (E = "java/lang/IllegalStateException" ∧ r = nI 2)))) (Bw G A) A) 2 12 A := by
  refine m_ofH (cc := cL_depth) (maxL := 4) (ret := (some .int)) (hh := [(0, 9, 12, 21), (0, 9, 15, 15)]) (by decide) rfl (Nat.le_of_ble_eq_true rfl) ?_
  intro p e s m args below meth c hc hr htab
  refine v_loc [(0, some (.ref px)), (1, some (.int a)), (2, some (.ref oa))] rfl ?_
  first | refine v_aload_n hc (i := 2) rfl dL_depth_0 rfl ?_ | refine v_aload_nN hc (i := 2) rfl dL_depth_0 rfl ?_
  refine v_iconst hc (v := nI 0) dL_depth_1 (by decide) ?_
  first | refine v_aload_n hc (i := 0) rfl dL_depth_2 rfl ?_ | refine v_aload_nN hc (i := 0) rfl dL_depth_2 rfl ?_
  refine v_iload_n hc (i := 1) rfl dL_depth_3 rfl ?_
  refine v_xfrVi hc hd (hM _) (cwV 1 hc.1.2.2.2.2 gL_depth_X3_depth rfl rfl rfl (by decide +kernel) ⟨Nat.le_of_ble_eq_true rfl, Nat.le_of_ble_eq_true rfl⟩) (he) rfl rfl rfl (Nat.le_of_ble_eq_true rfl) ⟨(by first | exact Nat.le_of_ble_eq_true rfl | omega | (dsimp only; omega)), (by first | exact Nat.le_of_ble_eq_true rfl | omega | (dsimp only; omega))⟩ dL_depth_4 (fun E u' hp hd => ?_) (fun v w' hp hd => ?_)
  · rcases hE E u' hp with rfl | rfl
    · refine v_catch hc (name := "java/lang/IndexOutOfBoundsException") [] ⟨0, 9, 12, 21⟩ [⟨0, 9, 15, 15⟩] htab (fun z hz => (nomatch hz)) rfl (by decide) (by decide +kernel) (by decide +kernel) (fun q => ?_)
      first | refine v_astore_n hc (i := 3) rfl dL_depth_12 (by decide) rfl ?_ | refine v_astore_nN hc (i := 3) rfl dL_depth_12 (by decide) rfl ?_
      refine v_iconst hc (v := nI 1) dL_depth_13 (by decide) ?_
      exact v_iret hc hr dL_depth_14 (by first | exact Nat.le_of_ble_eq_true rfl | omega | (dsimp only; omega)) (by first | exact Nat.le_of_ble_eq_true rfl | omega | (dsimp only; omega)) (⟨u', f, hd, rfl, Or.inr ⟨_, hp, Or.inl ⟨rfl, rfl⟩⟩⟩)
    · refine v_catch hc (name := "java/lang/IllegalStateException") [⟨0, 9, 12, 21⟩] ⟨0, 9, 15, 15⟩ [] htab (fun z hz => by
          rcases List.mem_singleton.mp hz with rfl
          exact ⟨by decide, "java/lang/IndexOutOfBoundsException", by decide +kernel, by decide +kernel⟩) rfl (by decide) (by decide +kernel) (by decide +kernel) (fun q => ?_)
      first | refine v_astore_n hc (i := 3) rfl dL_depth_15 (by decide) rfl ?_ | refine v_astore_nN hc (i := 3) rfl dL_depth_15 (by decide) rfl ?_
      refine v_iconst hc (v := nI 2) dL_depth_16 (by decide) ?_
      exact v_iret hc hr dL_depth_17 (by first | exact Nat.le_of_ble_eq_true rfl | omega | (dsimp only; omega)) (by first | exact Nat.le_of_ble_eq_true rfl | omega | (dsimp only; omega)) (⟨u', f, hd, rfl, Or.inr ⟨_, hp, Or.inr ⟨rfl, rfl⟩⟩⟩)
  · refine v_i2l hc dL_depth_7 ?_
    refine v_last hc (0) dL_depth_8 (jn_l (sg_s _ _)) rfl (by decide) (by decide) ?_
    rw [jn_up]
    refine v_goto hc (tgt := 18) dL_depth_9 (by decide) ?_
    refine v_iconst hc (v := nI 0) dL_depth_18 (by decide) ?_
    exact v_iret hc hr dL_depth_19 (by first | exact Nat.le_of_ble_eq_true rfl | omega | (dsimp only; omega)) (by first | exact Nat.le_of_ble_eq_true rfl | omega | (dsimp only; omega)) (⟨w', _, dj_sg hd, rfl, Or.inl ⟨v, hp, va_up_self _ _ _, rfl⟩⟩)
set_option maxRecDepth 100000 in
set_option maxHeartbeats 4000000 in
theorem c_L_parts (hd : dj (sg oa (aL G 1 f)) u) (he : u px = some (.inr (6, fs))) (a : Int32) {post : Int32 → wd → Prop} {pxx : String → wd → Prop} (hM : ∀ A : Nat → Prop, vx_Met l yX3_parts wsX3_parts ({ frames := 13, cells := 2, slots := 12, locals := 227 } : Room) (Pw G A u [.ref px, .int a]) (va_Qi post (Bw G A) A) (XW G A pxx) 2 12 A) (hE : ∀ E u', pxx E u' → E = "java/lang/IndexOutOfBoundsException" ∨ E = "java/lang/IllegalStateException") : Met l yL_parts wsL_parts ({ frames := 14, cells := 2, slots := 12, locals := 248 } : Room) (Pw G A (jn (sg oa (aL G 1 f)) u) [.ref px, .int a, .ref oa]) (va_Qi (fun r w' => ∃ u' f', dj (sg oa (aL G 1 f')) u' ∧ w' = jn (sg oa (aL G 1 f')) u' ∧ ((∃ v, post v u' ∧ f' 0 = v.toInt64 ∧ r = nI 0) ∨ ∃ E, pxx E u' ∧ ((E = "java/lang/IndexOutOfBoundsException" ∧ r = nI 1) ∨ (E = "java/lang/IllegalStateException" ∧ r = nI 2)))) (Bw G A) A) 2 12 A := by
  refine m_ofH (cc := cL_parts) (maxL := 4) (ret := (some .int)) (hh := [(0, 9, 12, 21), (0, 9, 15, 15)]) (by decide) rfl (Nat.le_of_ble_eq_true rfl) ?_
  intro p e s m args below meth c hc hr htab
  refine v_loc [(0, some (.ref px)), (1, some (.int a)), (2, some (.ref oa))] rfl ?_
  first | refine v_aload_n hc (i := 2) rfl dL_parts_0 rfl ?_ | refine v_aload_nN hc (i := 2) rfl dL_parts_0 rfl ?_
  refine v_iconst hc (v := nI 0) dL_parts_1 (by decide) ?_
  first | refine v_aload_n hc (i := 0) rfl dL_parts_2 rfl ?_ | refine v_aload_nN hc (i := 0) rfl dL_parts_2 rfl ?_
  refine v_iload_n hc (i := 1) rfl dL_parts_3 rfl ?_
  refine v_xfrVi hc hd (hM _) (cwV 1 hc.1.2.2.2.2 gL_parts_X3_parts rfl rfl rfl (by decide +kernel) ⟨Nat.le_of_ble_eq_true rfl, Nat.le_of_ble_eq_true rfl⟩) (he) rfl rfl rfl (Nat.le_of_ble_eq_true rfl) ⟨(by first | exact Nat.le_of_ble_eq_true rfl | omega | (dsimp only; omega)), (by first | exact Nat.le_of_ble_eq_true rfl | omega | (dsimp only; omega))⟩ dL_parts_4 (fun E u' hp hd => ?_) (fun v w' hp hd => ?_)
  · rcases hE E u' hp with rfl | rfl
    · refine v_catch hc (name := "java/lang/IndexOutOfBoundsException") [] ⟨0, 9, 12, 21⟩ [⟨0, 9, 15, 15⟩] htab (fun z hz => (nomatch hz)) rfl (by decide) (by decide +kernel) (by decide +kernel) (fun q => ?_)
      first | refine v_astore_n hc (i := 3) rfl dL_parts_12 (by decide) rfl ?_ | refine v_astore_nN hc (i := 3) rfl dL_parts_12 (by decide) rfl ?_
      refine v_iconst hc (v := nI 1) dL_parts_13 (by decide) ?_
      exact v_iret hc hr dL_parts_14 (by first | exact Nat.le_of_ble_eq_true rfl | omega | (dsimp only; omega)) (by first | exact Nat.le_of_ble_eq_true rfl | omega | (dsimp only; omega)) (⟨u', f, hd, rfl, Or.inr ⟨_, hp, Or.inl ⟨rfl, rfl⟩⟩⟩)
    · refine v_catch hc (name := "java/lang/IllegalStateException") [⟨0, 9, 12, 21⟩] ⟨0, 9, 15, 15⟩ [] htab (fun z hz => by
          rcases List.mem_singleton.mp hz with rfl
          exact ⟨by decide, "java/lang/IndexOutOfBoundsException", by decide +kernel, by decide +kernel⟩) rfl (by decide) (by decide +kernel) (by decide +kernel) (fun q => ?_)
      first | refine v_astore_n hc (i := 3) rfl dL_parts_15 (by decide) rfl ?_ | refine v_astore_nN hc (i := 3) rfl dL_parts_15 (by decide) rfl ?_
      refine v_iconst hc (v := nI 2) dL_parts_16 (by decide) ?_
      exact v_iret hc hr dL_parts_17 (by first | exact Nat.le_of_ble_eq_true rfl | omega | (dsimp only; omega)) (by first | exact Nat.le_of_ble_eq_true rfl | omega | (dsimp only; omega)) (⟨u', f, hd, rfl, Or.inr ⟨_, hp, Or.inr ⟨rfl, rfl⟩⟩⟩)
  · refine v_i2l hc dL_parts_7 ?_
    refine v_last hc (0) dL_parts_8 (jn_l (sg_s _ _)) rfl (by decide) (by decide) ?_
    rw [jn_up]
    refine v_goto hc (tgt := 18) dL_parts_9 (by decide) ?_
    refine v_iconst hc (v := nI 0) dL_parts_18 (by decide) ?_
    exact v_iret hc hr dL_parts_19 (by first | exact Nat.le_of_ble_eq_true rfl | omega | (dsimp only; omega)) (by first | exact Nat.le_of_ble_eq_true rfl | omega | (dsimp only; omega)) (⟨w', _, dj_sg hd, rfl, Or.inl ⟨v, hp, va_up_self _ _ _, rfl⟩⟩)
set_option maxRecDepth 100000 in
set_option maxHeartbeats 4000000 in
theorem c_L_dependents (hd : dj (sg oa (aL G 1 f)) u) (he : u px = some (.inr (6, fs))) (a : Int32) {post : Int32 → wd → Prop} {pxx : String → wd → Prop} (hM : ∀ A : Nat → Prop, vx_Met l yX3_dependents wsX3_dependents ({ frames := 12, cells := 2, slots := 12, locals := 205 } : Room) (Pw G A u [.ref px, .int a]) (va_Qi post (Bw G A) A) (XW G A pxx) 2 12 A) (hE : ∀ E u', pxx E u' → E = "java/lang/IndexOutOfBoundsException" ∨ E = "java/lang/IllegalStateException") : Met l yL_dependents wsL_dependents ({ frames := 13, cells := 2, slots := 12, locals := 229 } : Room) (Pw G A (jn (sg oa (aL G 1 f)) u) [.ref px, .int a, .ref oa]) (va_Qi (fun r w' => ∃ u' f', dj (sg oa (aL G 1 f')) u' ∧ w' = jn (sg oa (aL G 1 f')) u' ∧ ((∃ v, post v u' ∧ f' 0 = v.toInt64 ∧ r = nI 0) ∨ ∃ E, pxx E u' ∧ ((E = "java/lang/IndexOutOfBoundsException" ∧ r = nI 1) ∨ (E = "java/lang/IllegalStateException" ∧ r = nI 2)))) (Bw G A) A) 2 12 A := by
  refine m_ofH (cc := cL_dependents) (maxL := 4) (ret := (some .int)) (hh := [(0, 9, 12, 21), (0, 9, 15, 15)]) (by decide) rfl (Nat.le_of_ble_eq_true rfl) ?_
  intro p e s m args below meth c hc hr htab
  refine v_loc [(0, some (.ref px)), (1, some (.int a)), (2, some (.ref oa))] rfl ?_
  first | refine v_aload_n hc (i := 2) rfl dL_dependents_0 rfl ?_ | refine v_aload_nN hc (i := 2) rfl dL_dependents_0 rfl ?_
  refine v_iconst hc (v := nI 0) dL_dependents_1 (by decide) ?_
  first | refine v_aload_n hc (i := 0) rfl dL_dependents_2 rfl ?_ | refine v_aload_nN hc (i := 0) rfl dL_dependents_2 rfl ?_
  refine v_iload_n hc (i := 1) rfl dL_dependents_3 rfl ?_
  refine v_xfrVi hc hd (hM _) (cwV 1 hc.1.2.2.2.2 gL_dependents_X3_dependents rfl rfl rfl (by decide +kernel) ⟨Nat.le_of_ble_eq_true rfl, Nat.le_of_ble_eq_true rfl⟩) (he) rfl rfl rfl (Nat.le_of_ble_eq_true rfl) ⟨(by first | exact Nat.le_of_ble_eq_true rfl | omega | (dsimp only; omega)), (by first | exact Nat.le_of_ble_eq_true rfl | omega | (dsimp only; omega))⟩ dL_dependents_4 (fun E u' hp hd => ?_) (fun v w' hp hd => ?_)
  · rcases hE E u' hp with rfl | rfl
    · refine v_catch hc (name := "java/lang/IndexOutOfBoundsException") [] ⟨0, 9, 12, 21⟩ [⟨0, 9, 15, 15⟩] htab (fun z hz => (nomatch hz)) rfl (by decide) (by decide +kernel) (by decide +kernel) (fun q => ?_)
      first | refine v_astore_n hc (i := 3) rfl dL_dependents_12 (by decide) rfl ?_ | refine v_astore_nN hc (i := 3) rfl dL_dependents_12 (by decide) rfl ?_
      refine v_iconst hc (v := nI 1) dL_dependents_13 (by decide) ?_
      exact v_iret hc hr dL_dependents_14 (by first | exact Nat.le_of_ble_eq_true rfl | omega | (dsimp only; omega)) (by first | exact Nat.le_of_ble_eq_true rfl | omega | (dsimp only; omega)) (⟨u', f, hd, rfl, Or.inr ⟨_, hp, Or.inl ⟨rfl, rfl⟩⟩⟩)
    · refine v_catch hc (name := "java/lang/IllegalStateException") [⟨0, 9, 12, 21⟩] ⟨0, 9, 15, 15⟩ [] htab (fun z hz => by
          rcases List.mem_singleton.mp hz with rfl
          exact ⟨by decide, "java/lang/IndexOutOfBoundsException", by decide +kernel, by decide +kernel⟩) rfl (by decide) (by decide +kernel) (by decide +kernel) (fun q => ?_)
      first | refine v_astore_n hc (i := 3) rfl dL_dependents_15 (by decide) rfl ?_ | refine v_astore_nN hc (i := 3) rfl dL_dependents_15 (by decide) rfl ?_
      refine v_iconst hc (v := nI 2) dL_dependents_16 (by decide) ?_
      exact v_iret hc hr dL_dependents_17 (by first | exact Nat.le_of_ble_eq_true rfl | omega | (dsimp only; omega)) (by first | exact Nat.le_of_ble_eq_true rfl | omega | (dsimp only; omega)) (⟨u', f, hd, rfl, Or.inr ⟨_, hp, Or.inr ⟨rfl, rfl⟩⟩⟩)
  · refine v_i2l hc dL_dependents_7 ?_
    refine v_last hc (0) dL_dependents_8 (jn_l (sg_s _ _)) rfl (by decide) (by decide) ?_
    rw [jn_up]
    refine v_goto hc (tgt := 18) dL_dependents_9 (by decide) ?_
    refine v_iconst hc (v := nI 0) dL_dependents_18 (by decide) ?_
    exact v_iret hc hr dL_dependents_19 (by first | exact Nat.le_of_ble_eq_true rfl | omega | (dsimp only; omega)) (by first | exact Nat.le_of_ble_eq_true rfl | omega | (dsimp only; omega)) (⟨w', _, dj_sg hd, rfl, Or.inl ⟨v, hp, va_up_self _ _ _, rfl⟩⟩)
set_option maxRecDepth 100000 in
set_option maxHeartbeats 4000000 in
theorem c_L_deltaCost (hd : dj (sg oa (aL G 1 f)) u) (he : u px = some (.inr (6, fs))) (a b : Int32) {post : Int32 → wd → Prop} {pxx : String → wd → Prop} (hM : ∀ A : Nat → Prop, vx_Met l yX3_deltaCost wsX3_deltaCost ({ frames := 14, cells := 2, slots := 12, locals := 259 } : Room) (Pw G A u [.ref px, .int a, .int b]) (va_Qi post (Bw G A) A) (XW G A pxx) 2 12 A) (hE : ∀ E u', pxx E u' → E = "java/lang/IndexOutOfBoundsException") : Met l yL_deltaCost wsL_deltaCost ({ frames := 15, cells := 2, slots := 12, locals := 281 } : Room) (Pw G A (jn (sg oa (aL G 1 f)) u) [.ref px, .int a, .int b, .ref oa]) (va_Qi (fun r w' => ∃ u' f', dj (sg oa (aL G 1 f')) u' ∧ w' = jn (sg oa (aL G 1 f')) u' ∧ ((∃ v, post v u' ∧ f' 0 = v.toInt64 ∧ r = nI 0) ∨ ∃ E, pxx E u' ∧ ((E = "java/lang/IndexOutOfBoundsException" ∧ r = nI 1)))) (Bw G A) A) 2 12 A := by
  refine m_ofH (cc := cL_deltaCost) (maxL := 5) (ret := (some .int)) (hh := [(0, 10, 13, 21)]) (by decide) rfl (Nat.le_of_ble_eq_true rfl) ?_
  intro p e s m args below meth c hc hr htab
  refine v_loc [(0, some (.ref px)), (1, some (.int a)), (2, some (.int b)), (3, some (.ref oa))] rfl ?_
  first | refine v_aload_n hc (i := 3) rfl dL_deltaCost_0 rfl ?_ | refine v_aload_nN hc (i := 3) rfl dL_deltaCost_0 rfl ?_
  refine v_iconst hc (v := nI 0) dL_deltaCost_1 (by decide) ?_
  first | refine v_aload_n hc (i := 0) rfl dL_deltaCost_2 rfl ?_ | refine v_aload_nN hc (i := 0) rfl dL_deltaCost_2 rfl ?_
  refine v_iload_n hc (i := 1) rfl dL_deltaCost_3 rfl ?_
  refine v_iload_n hc (i := 2) rfl dL_deltaCost_4 rfl ?_
  refine v_xfrVi hc hd (hM _) (cwV 2 hc.1.2.2.2.2 gL_deltaCost_X3_deltaCost rfl rfl rfl (by decide +kernel) ⟨Nat.le_of_ble_eq_true rfl, Nat.le_of_ble_eq_true rfl⟩) (he) rfl rfl rfl (Nat.le_of_ble_eq_true rfl) ⟨(by first | exact Nat.le_of_ble_eq_true rfl | omega | (dsimp only; omega)), (by first | exact Nat.le_of_ble_eq_true rfl | omega | (dsimp only; omega))⟩ dL_deltaCost_5 (fun E u' hp hd => ?_) (fun v w' hp hd => ?_)
  · obtain rfl := hE E u' hp
    refine v_catch hc (name := "java/lang/IndexOutOfBoundsException") [] ⟨0, 10, 13, 21⟩ [] htab (fun z hz => (nomatch hz)) rfl (by decide) (by decide +kernel) (by decide +kernel) (fun q => ?_)
    first | refine v_astore hc dL_deltaCost_13 (by decide) rfl ?_ | refine v_astoreN hc dL_deltaCost_13 (by decide) rfl ?_
    refine v_iconst hc (v := nI 1) dL_deltaCost_15 (by decide) ?_
    exact v_iret hc hr dL_deltaCost_16 (by first | exact Nat.le_of_ble_eq_true rfl | omega | (dsimp only; omega)) (by first | exact Nat.le_of_ble_eq_true rfl | omega | (dsimp only; omega)) (⟨u', f, hd, rfl, Or.inr ⟨_, hp, ⟨rfl, rfl⟩⟩⟩)
  · refine v_i2l hc dL_deltaCost_8 ?_
    refine v_last hc (0) dL_deltaCost_9 (jn_l (sg_s _ _)) rfl (by decide) (by decide) ?_
    rw [jn_up]
    refine v_goto hc (tgt := 17) dL_deltaCost_10 (by decide) ?_
    refine v_iconst hc (v := nI 0) dL_deltaCost_17 (by decide) ?_
    exact v_iret hc hr dL_deltaCost_18 (by first | exact Nat.le_of_ble_eq_true rfl | omega | (dsimp only; omega)) (by first | exact Nat.le_of_ble_eq_true rfl | omega | (dsimp only; omega)) (⟨w', _, dj_sg hd, rfl, Or.inl ⟨v, hp, va_up_self _ _ _, rfl⟩⟩)
set_option maxRecDepth 100000 in
set_option maxHeartbeats 4000000 in
theorem c_L_hash (hd : dj (sg oa (aL G 1 f)) u) (he : u px = some (.inr (6, fs))) (x : Int64) {post : Int32 → wd → Prop} {pxx : String → wd → Prop} (hM : ∀ A : Nat → Prop, vx_Met l yX3_hash wsX3_hash ({ frames := 10, cells := 1, slots := 6, locals := 168 } : Room) (Pw G A u [.ref px, .long x]) (va_Qi post (Bw G A) A) (XW G A pxx) 1 6 A) (hE : ∀ E u', pxx E u' → E = "java/lang/IllegalArgumentException") : Met l yL_hash wsL_hash ({ frames := 11, cells := 1, slots := 6, locals := 190 } : Room) (Pw G A (jn (sg oa (aL G 1 f)) u) [.ref px, .long x, .ref oa]) (va_Qi (fun r w' => ∃ u' f', dj (sg oa (aL G 1 f')) u' ∧ w' = jn (sg oa (aL G 1 f')) u' ∧ ((∃ v, post v u' ∧ f' 0 = v.toInt64 ∧ r = nI 0) ∨ ∃ E, pxx E u' ∧ ((E = "java/lang/IllegalArgumentException" ∧ r = nI 1)))) (Bw G A) A) 1 6 A := by
  refine m_ofH (cc := cL_hash) (maxL := 5) (ret := (some .int)) (hh := [(0, 9, 12, 13)]) (by decide) rfl (Nat.le_of_ble_eq_true rfl) ?_
  intro p e s m args below meth c hc hr htab
  refine v_loc [(0, some (.ref px)), (1, some (.long x)), (3, some (.ref oa))] rfl ?_
  first | refine v_aload_n hc (i := 3) rfl dL_hash_0 rfl ?_ | refine v_aload_nN hc (i := 3) rfl dL_hash_0 rfl ?_
  refine v_iconst hc (v := nI 0) dL_hash_1 (by decide) ?_
  first | refine v_aload_n hc (i := 0) rfl dL_hash_2 rfl ?_ | refine v_aload_nN hc (i := 0) rfl dL_hash_2 rfl ?_
  refine v_lload_n hc (i := 1) rfl dL_hash_3 rfl ?_
  refine v_xfrVi hc hd (hM _) (cwV 1 hc.1.2.2.2.2 gL_hash_X3_hash rfl rfl rfl (by decide +kernel) ⟨Nat.le_of_ble_eq_true rfl, Nat.le_of_ble_eq_true rfl⟩) (he) rfl rfl rfl (Nat.le_of_ble_eq_true rfl) ⟨(by first | exact Nat.le_of_ble_eq_true rfl | omega | (dsimp only; omega)), (by first | exact Nat.le_of_ble_eq_true rfl | omega | (dsimp only; omega))⟩ dL_hash_4 (fun E u' hp hd => ?_) (fun v w' hp hd => ?_)
  · obtain rfl := hE E u' hp
    refine v_catch hc (name := "java/lang/IllegalArgumentException") [] ⟨0, 9, 12, 13⟩ [] htab (fun z hz => (nomatch hz)) rfl (by decide) (by decide +kernel) (by decide +kernel) (fun q => ?_)
    first | refine v_astore hc dL_hash_12 (by decide) rfl ?_ | refine v_astoreN hc dL_hash_12 (by decide) rfl ?_
    refine v_iconst hc (v := nI 1) dL_hash_14 (by decide) ?_
    exact v_iret hc hr dL_hash_15 (by first | exact Nat.le_of_ble_eq_true rfl | omega | (dsimp only; omega)) (by first | exact Nat.le_of_ble_eq_true rfl | omega | (dsimp only; omega)) (⟨u', f, hd, rfl, Or.inr ⟨_, hp, ⟨rfl, rfl⟩⟩⟩)
  · refine v_i2l hc dL_hash_7 ?_
    refine v_last hc (0) dL_hash_8 (jn_l (sg_s _ _)) rfl (by decide) (by decide) ?_
    rw [jn_up]
    refine v_goto hc (tgt := 16) dL_hash_9 (by decide) ?_
    refine v_iconst hc (v := nI 0) dL_hash_16 (by decide) ?_
    exact v_iret hc hr dL_hash_17 (by first | exact Nat.le_of_ble_eq_true rfl | omega | (dsimp only; omega)) (by first | exact Nat.le_of_ble_eq_true rfl | omega | (dsimp only; omega)) (⟨w', _, dj_sg hd, rfl, Or.inl ⟨v, hp, va_up_self _ _ _, rfl⟩⟩)
set_option maxRecDepth 100000 in
set_option maxHeartbeats 4000000 in
theorem c_L_indexAt (hd : dj (sg oa (aL G 1 f)) u) (he : u px = some (.inr (6, fs))) (a : Int32) {post : Int32 → wd → Prop} {pxx : String → wd → Prop} (hM : ∀ A : Nat → Prop, vx_Met l yX3_indexAt wsX3_indexAt ({ frames := 11, cells := 1, slots := 6, locals := 184 } : Room) (Pw G A u [.ref px, .int a]) (va_Qi post (Bw G A) A) (XW G A pxx) 1 6 A) (hE : ∀ E u', pxx E u' → E = "java/lang/IndexOutOfBoundsException") : Met l yL_indexAt wsL_indexAt ({ frames := 12, cells := 1, slots := 6, locals := 205 } : Room) (Pw G A (jn (sg oa (aL G 1 f)) u) [.ref px, .int a, .ref oa]) (va_Qi (fun r w' => ∃ u' f', dj (sg oa (aL G 1 f')) u' ∧ w' = jn (sg oa (aL G 1 f')) u' ∧ ((∃ v, post v u' ∧ f' 0 = v.toInt64 ∧ r = nI 0) ∨ ∃ E, pxx E u' ∧ ((E = "java/lang/IndexOutOfBoundsException" ∧ r = nI 1)))) (Bw G A) A) 1 6 A := by
  refine m_ofH (cc := cL_indexAt) (maxL := 4) (ret := (some .int)) (hh := [(0, 9, 12, 21)]) (by decide) rfl (Nat.le_of_ble_eq_true rfl) ?_
  intro p e s m args below meth c hc hr htab
  refine v_loc [(0, some (.ref px)), (1, some (.int a)), (2, some (.ref oa))] rfl ?_
  first | refine v_aload_n hc (i := 2) rfl dL_indexAt_0 rfl ?_ | refine v_aload_nN hc (i := 2) rfl dL_indexAt_0 rfl ?_
  refine v_iconst hc (v := nI 0) dL_indexAt_1 (by decide) ?_
  first | refine v_aload_n hc (i := 0) rfl dL_indexAt_2 rfl ?_ | refine v_aload_nN hc (i := 0) rfl dL_indexAt_2 rfl ?_
  refine v_iload_n hc (i := 1) rfl dL_indexAt_3 rfl ?_
  refine v_xfrVi hc hd (hM _) (cwV 1 hc.1.2.2.2.2 gL_indexAt_X3_indexAt rfl rfl rfl (by decide +kernel) ⟨Nat.le_of_ble_eq_true rfl, Nat.le_of_ble_eq_true rfl⟩) (he) rfl rfl rfl (Nat.le_of_ble_eq_true rfl) ⟨(by first | exact Nat.le_of_ble_eq_true rfl | omega | (dsimp only; omega)), (by first | exact Nat.le_of_ble_eq_true rfl | omega | (dsimp only; omega))⟩ dL_indexAt_4 (fun E u' hp hd => ?_) (fun v w' hp hd => ?_)
  · obtain rfl := hE E u' hp
    refine v_catch hc (name := "java/lang/IndexOutOfBoundsException") [] ⟨0, 9, 12, 21⟩ [] htab (fun z hz => (nomatch hz)) rfl (by decide) (by decide +kernel) (by decide +kernel) (fun q => ?_)
    first | refine v_astore_n hc (i := 3) rfl dL_indexAt_12 (by decide) rfl ?_ | refine v_astore_nN hc (i := 3) rfl dL_indexAt_12 (by decide) rfl ?_
    refine v_iconst hc (v := nI 1) dL_indexAt_13 (by decide) ?_
    exact v_iret hc hr dL_indexAt_14 (by first | exact Nat.le_of_ble_eq_true rfl | omega | (dsimp only; omega)) (by first | exact Nat.le_of_ble_eq_true rfl | omega | (dsimp only; omega)) (⟨u', f, hd, rfl, Or.inr ⟨_, hp, ⟨rfl, rfl⟩⟩⟩)
  · refine v_i2l hc dL_indexAt_7 ?_
    refine v_last hc (0) dL_indexAt_8 (jn_l (sg_s _ _)) rfl (by decide) (by decide) ?_
    rw [jn_up]
    refine v_goto hc (tgt := 15) dL_indexAt_9 (by decide) ?_
    refine v_iconst hc (v := nI 0) dL_indexAt_15 (by decide) ?_
    exact v_iret hc hr dL_indexAt_16 (by first | exact Nat.le_of_ble_eq_true rfl | omega | (dsimp only; omega)) (by first | exact Nat.le_of_ble_eq_true rfl | omega | (dsimp only; omega)) (⟨w', _, dj_sg hd, rfl, Or.inl ⟨v, hp, va_up_self _ _ _, rfl⟩⟩)
set_option maxRecDepth 100000 in
set_option maxHeartbeats 4000000 in
theorem c_L_fanOut (hd : dj (sg oa (aL G 1 f)) u) (he : u px = some (.inr (6, fs))) (a : Int32) {post : Int32 → wd → Prop} {pxx : String → wd → Prop} (hM : ∀ A : Nat → Prop, vx_Met l yX3_fanOut wsX3_fanOut ({ frames := 12, cells := 1, slots := 6, locals := 207 } : Room) (Pw G A u [.ref px, .int a]) (va_Qi post (Bw G A) A) (XW G A pxx) 1 6 A) (hE : ∀ E u', pxx E u' → E = "java/lang/IllegalArgumentException") : Met l yL_fanOut wsL_fanOut ({ frames := 13, cells := 1, slots := 6, locals := 228 } : Room) (Pw G A (jn (sg oa (aL G 1 f)) u) [.ref px, .int a, .ref oa]) (va_Qi (fun r w' => ∃ u' f', dj (sg oa (aL G 1 f')) u' ∧ w' = jn (sg oa (aL G 1 f')) u' ∧ ((∃ v, post v u' ∧ f' 0 = v.toInt64 ∧ r = nI 0) ∨ ∃ E, pxx E u' ∧ ((E = "java/lang/IllegalArgumentException" ∧ r = nI 1)))) (Bw G A) A) 1 6 A := by
  refine m_ofH (cc := cL_fanOut) (maxL := 4) (ret := (some .int)) (hh := [(0, 9, 12, 13)]) (by decide) rfl (Nat.le_of_ble_eq_true rfl) ?_
  intro p e s m args below meth c hc hr htab
  refine v_loc [(0, some (.ref px)), (1, some (.int a)), (2, some (.ref oa))] rfl ?_
  first | refine v_aload_n hc (i := 2) rfl dL_fanOut_0 rfl ?_ | refine v_aload_nN hc (i := 2) rfl dL_fanOut_0 rfl ?_
  refine v_iconst hc (v := nI 0) dL_fanOut_1 (by decide) ?_
  first | refine v_aload_n hc (i := 0) rfl dL_fanOut_2 rfl ?_ | refine v_aload_nN hc (i := 0) rfl dL_fanOut_2 rfl ?_
  refine v_iload_n hc (i := 1) rfl dL_fanOut_3 rfl ?_
  refine v_xfrVi hc hd (hM _) (cwV 1 hc.1.2.2.2.2 gL_fanOut_X3_fanOut rfl rfl rfl (by decide +kernel) ⟨Nat.le_of_ble_eq_true rfl, Nat.le_of_ble_eq_true rfl⟩) (he) rfl rfl rfl (Nat.le_of_ble_eq_true rfl) ⟨(by first | exact Nat.le_of_ble_eq_true rfl | omega | (dsimp only; omega)), (by first | exact Nat.le_of_ble_eq_true rfl | omega | (dsimp only; omega))⟩ dL_fanOut_4 (fun E u' hp hd => ?_) (fun v w' hp hd => ?_)
  · obtain rfl := hE E u' hp
    refine v_catch hc (name := "java/lang/IllegalArgumentException") [] ⟨0, 9, 12, 13⟩ [] htab (fun z hz => (nomatch hz)) rfl (by decide) (by decide +kernel) (by decide +kernel) (fun q => ?_)
    first | refine v_astore_n hc (i := 3) rfl dL_fanOut_12 (by decide) rfl ?_ | refine v_astore_nN hc (i := 3) rfl dL_fanOut_12 (by decide) rfl ?_
    refine v_iconst hc (v := nI 1) dL_fanOut_13 (by decide) ?_
    exact v_iret hc hr dL_fanOut_14 (by first | exact Nat.le_of_ble_eq_true rfl | omega | (dsimp only; omega)) (by first | exact Nat.le_of_ble_eq_true rfl | omega | (dsimp only; omega)) (⟨u', f, hd, rfl, Or.inr ⟨_, hp, ⟨rfl, rfl⟩⟩⟩)
  · refine v_i2l hc dL_fanOut_7 ?_
    refine v_last hc (0) dL_fanOut_8 (jn_l (sg_s _ _)) rfl (by decide) (by decide) ?_
    rw [jn_up]
    refine v_goto hc (tgt := 15) dL_fanOut_9 (by decide) ?_
    refine v_iconst hc (v := nI 0) dL_fanOut_15 (by decide) ?_
    exact v_iret hc hr dL_fanOut_16 (by first | exact Nat.le_of_ble_eq_true rfl | omega | (dsimp only; omega)) (by first | exact Nat.le_of_ble_eq_true rfl | omega | (dsimp only; omega)) (⟨w', _, dj_sg hd, rfl, Or.inl ⟨v, hp, va_up_self _ _ _, rfl⟩⟩)
set_option maxRecDepth 100000 in
set_option maxHeartbeats 4000000 in
theorem c_L_find (hd : dj (sg oa (aL G 1 f)) u) (he : u px = some (.inr (6, fs))) (a : Int32) {post : Int32 → wd → Prop} {pxx : String → wd → Prop} (hM : ∀ A : Nat → Prop, vx_Met l yX3_find wsX3_find ({ frames := 13, cells := 1, slots := 6, locals := 235 } : Room) (Pw G A u [.ref px, .int a]) (va_Qi post (Bw G A) A) (XW G A pxx) 1 6 A) (hE : ∀ E u', pxx E u' → E = "java/lang/IllegalArgumentException") : Met l yL_find wsL_find ({ frames := 14, cells := 1, slots := 6, locals := 257 } : Room) (Pw G A (jn (sg oa (aL G 1 f)) u) [.ref px, .int a, .ref oa]) (va_Qi (fun r w' => ∃ u' f', dj (sg oa (aL G 1 f')) u' ∧ w' = jn (sg oa (aL G 1 f')) u' ∧ ((∃ v, post v u' ∧ f' 0 = v.toInt64 ∧ r = nI 0) ∨ ∃ E, pxx E u' ∧ ((E = "java/lang/IllegalArgumentException" ∧ r = nI 1)))) (Bw G A) A) 1 6 A := by
  refine m_ofH (cc := cL_find) (maxL := 4) (ret := (some .int)) (hh := [(0, 9, 12, 13)]) (by decide) rfl (Nat.le_of_ble_eq_true rfl) ?_
  intro p e s m args below meth c hc hr htab
  refine v_loc [(0, some (.ref px)), (1, some (.int a)), (2, some (.ref oa))] rfl ?_
  first | refine v_aload_n hc (i := 2) rfl dL_find_0 rfl ?_ | refine v_aload_nN hc (i := 2) rfl dL_find_0 rfl ?_
  refine v_iconst hc (v := nI 0) dL_find_1 (by decide) ?_
  first | refine v_aload_n hc (i := 0) rfl dL_find_2 rfl ?_ | refine v_aload_nN hc (i := 0) rfl dL_find_2 rfl ?_
  refine v_iload_n hc (i := 1) rfl dL_find_3 rfl ?_
  refine v_xfrVi hc hd (hM _) (cwV 1 hc.1.2.2.2.2 gL_find_X3_find rfl rfl rfl (by decide +kernel) ⟨Nat.le_of_ble_eq_true rfl, Nat.le_of_ble_eq_true rfl⟩) (he) rfl rfl rfl (Nat.le_of_ble_eq_true rfl) ⟨(by first | exact Nat.le_of_ble_eq_true rfl | omega | (dsimp only; omega)), (by first | exact Nat.le_of_ble_eq_true rfl | omega | (dsimp only; omega))⟩ dL_find_4 (fun E u' hp hd => ?_) (fun v w' hp hd => ?_)
  · obtain rfl := hE E u' hp
    refine v_catch hc (name := "java/lang/IllegalArgumentException") [] ⟨0, 9, 12, 13⟩ [] htab (fun z hz => (nomatch hz)) rfl (by decide) (by decide +kernel) (by decide +kernel) (fun q => ?_)
    first | refine v_astore_n hc (i := 3) rfl dL_find_12 (by decide) rfl ?_ | refine v_astore_nN hc (i := 3) rfl dL_find_12 (by decide) rfl ?_
    refine v_iconst hc (v := nI 1) dL_find_13 (by decide) ?_
    exact v_iret hc hr dL_find_14 (by first | exact Nat.le_of_ble_eq_true rfl | omega | (dsimp only; omega)) (by first | exact Nat.le_of_ble_eq_true rfl | omega | (dsimp only; omega)) (⟨u', f, hd, rfl, Or.inr ⟨_, hp, ⟨rfl, rfl⟩⟩⟩)
  · refine v_i2l hc dL_find_7 ?_
    refine v_last hc (0) dL_find_8 (jn_l (sg_s _ _)) rfl (by decide) (by decide) ?_
    rw [jn_up]
    refine v_goto hc (tgt := 15) dL_find_9 (by decide) ?_
    refine v_iconst hc (v := nI 0) dL_find_15 (by decide) ?_
    exact v_iret hc hr dL_find_16 (by first | exact Nat.le_of_ble_eq_true rfl | omega | (dsimp only; omega)) (by first | exact Nat.le_of_ble_eq_true rfl | omega | (dsimp only; omega)) (⟨w', _, dj_sg hd, rfl, Or.inl ⟨v, hp, va_up_self _ _ _, rfl⟩⟩)
set_option maxRecDepth 100000 in
set_option maxHeartbeats 4000000 in
theorem c_L_looks (hd : dj (sg oa (aL G 1 f)) u) (he : u px = some (.inr (6, fs))) (a : Int32) {post : Int32 → wd → Prop} {pxx : String → wd → Prop} (hM : ∀ A : Nat → Prop, vx_Met l yX3_looks wsX3_looks ({ frames := 13, cells := 1, slots := 6, locals := 235 } : Room) (Pw G A u [.ref px, .int a]) (va_Qi post (Bw G A) A) (XW G A pxx) 1 6 A) (hE : ∀ E u', pxx E u' → E = "java/lang/IllegalArgumentException") : Met l yL_looks wsL_looks ({ frames := 14, cells := 1, slots := 6, locals := 256 } : Room) (Pw G A (jn (sg oa (aL G 1 f)) u) [.ref px, .int a, .ref oa]) (va_Qi (fun r w' => ∃ u' f', dj (sg oa (aL G 1 f')) u' ∧ w' = jn (sg oa (aL G 1 f')) u' ∧ ((∃ v, post v u' ∧ f' 0 = v.toInt64 ∧ r = nI 0) ∨ ∃ E, pxx E u' ∧ ((E = "java/lang/IllegalArgumentException" ∧ r = nI 1)))) (Bw G A) A) 1 6 A := by
  refine m_ofH (cc := cL_looks) (maxL := 4) (ret := (some .int)) (hh := [(0, 9, 12, 13)]) (by decide) rfl (Nat.le_of_ble_eq_true rfl) ?_
  intro p e s m args below meth c hc hr htab
  refine v_loc [(0, some (.ref px)), (1, some (.int a)), (2, some (.ref oa))] rfl ?_
  first | refine v_aload_n hc (i := 2) rfl dL_looks_0 rfl ?_ | refine v_aload_nN hc (i := 2) rfl dL_looks_0 rfl ?_
  refine v_iconst hc (v := nI 0) dL_looks_1 (by decide) ?_
  first | refine v_aload_n hc (i := 0) rfl dL_looks_2 rfl ?_ | refine v_aload_nN hc (i := 0) rfl dL_looks_2 rfl ?_
  refine v_iload_n hc (i := 1) rfl dL_looks_3 rfl ?_
  refine v_xfrVi hc hd (hM _) (cwV 1 hc.1.2.2.2.2 gL_looks_X3_looks rfl rfl rfl (by decide +kernel) ⟨Nat.le_of_ble_eq_true rfl, Nat.le_of_ble_eq_true rfl⟩) (he) rfl rfl rfl (Nat.le_of_ble_eq_true rfl) ⟨(by first | exact Nat.le_of_ble_eq_true rfl | omega | (dsimp only; omega)), (by first | exact Nat.le_of_ble_eq_true rfl | omega | (dsimp only; omega))⟩ dL_looks_4 (fun E u' hp hd => ?_) (fun v w' hp hd => ?_)
  · obtain rfl := hE E u' hp
    refine v_catch hc (name := "java/lang/IllegalArgumentException") [] ⟨0, 9, 12, 13⟩ [] htab (fun z hz => (nomatch hz)) rfl (by decide) (by decide +kernel) (by decide +kernel) (fun q => ?_)
    first | refine v_astore_n hc (i := 3) rfl dL_looks_12 (by decide) rfl ?_ | refine v_astore_nN hc (i := 3) rfl dL_looks_12 (by decide) rfl ?_
    refine v_iconst hc (v := nI 1) dL_looks_13 (by decide) ?_
    exact v_iret hc hr dL_looks_14 (by first | exact Nat.le_of_ble_eq_true rfl | omega | (dsimp only; omega)) (by first | exact Nat.le_of_ble_eq_true rfl | omega | (dsimp only; omega)) (⟨u', f, hd, rfl, Or.inr ⟨_, hp, ⟨rfl, rfl⟩⟩⟩)
  · refine v_i2l hc dL_looks_7 ?_
    refine v_last hc (0) dL_looks_8 (jn_l (sg_s _ _)) rfl (by decide) (by decide) ?_
    rw [jn_up]
    refine v_goto hc (tgt := 15) dL_looks_9 (by decide) ?_
    refine v_iconst hc (v := nI 0) dL_looks_15 (by decide) ?_
    exact v_iret hc hr dL_looks_16 (by first | exact Nat.le_of_ble_eq_true rfl | omega | (dsimp only; omega)) (by first | exact Nat.le_of_ble_eq_true rfl | omega | (dsimp only; omega)) (⟨w', _, dj_sg hd, rfl, Or.inl ⟨v, hp, va_up_self _ _ _, rfl⟩⟩)
end LH

