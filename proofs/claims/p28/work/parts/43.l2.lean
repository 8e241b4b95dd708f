/-! ===== the law asks of one object ===== -/
theorem b1_1 (x : Bool) : nI (b1 x) = nI 1 ↔ x = true := by cases x <;> decide
theorem e_irem {a b : Bool} {d : Bool} : nI (enc a b d) - nI (enc a b d) / nI 2 * nI 2 = nI (b1 a) := by cases a <;> cases b <;> cases d <;> decide
theorem e_idiv {a b : Bool} {d : Bool} : nI (enc a b d) / nI 2 = nI (enc a b d / 2) := by cases a <;> cases b <;> cases d <;> decide
theorem e_irem2 {a b : Bool} {d : Bool} : nI (enc a b d / 2) - nI (enc a b d / 2) / nI 2 * nI 2 = nI (b1 b) := by cases a <;> cases b <;> cases d <;> decide
theorem e_div4 {a b : Bool} {d : Bool} : nI (enc a b d) / nI 4 = nI (b1 d) := by cases a <;> cases b <;> cases d <;> decide
theorem e_rem4 {a b : Bool} {d : Bool} : nI (enc a b d) - nI (enc a b d) / nI 4 * nI 4 = nI (enc a b false) := by cases a <;> cases b <;> cases d <;> decide
theorem e_mul4 {a b : Bool} {d : Bool} : nI (b1 d) * nI 4 = nI (enc false false d) := by cases d <;> decide
abbrev lO (px ca na sa k : Nat) (h lv lo : Bool) : vLT := [(0, some (.ref px)), (1, some (.ref ca)), (2, some (.ref na)), (3, some (.ref sa)), (4, some (.int (nI k))), (5, some (.int (bI h))), (6, some (.int (bI lv))), (7, some (.int (bI lo)))]
abbrev lP (px ca na sa k : Nat) (h lv lo : Bool) (b : Option Nat) (st : Nat) (sd : Bool) (a : Option Nat) : vLT := [(0, some (.ref px)), (1, some (.ref ca)), (2, some (.ref na)), (3, some (.ref sa)), (4, some (.int (nI k))), (6, some (.int (bI lv))), (7, some (.int (bI lo))), (9, some (.int (nIo b))), (10, some (.int (nI st))), (11, some (.int (bI sd))), (12, some (.int (nIo a)))]
section LW2
variable {l : Launch} {G : cG} {A : Nat → Prop} {w : wd} {px pI pO pX n ca na sa : Nat} {ia : Nat → Nat} {nm : Nat → Int32} {ct fc : Nat → Int64} {fn fs : Nat → Int32} {lv lo : Nat → Bool} {fa fb : Nat → Option Nat} {fm : Nat → Option Frm} {O X : List Nat} {cp ru : Int32}
/-- what can be read hangs on what is whole -/
theorem rdb_noform {i : Nat} (hg : fm i = none) (hl : lo i = false) : rdb lv lo fm i = false := by
  unfold rdb; rw [rpk_none hg, hl]; cases lv i <;> rfl
theorem rdb_loose (hSQ : SI n nm ct lv lo fm O X) {i : Nat} (hiQ : i < n) (hl : lo i = true) : rdb lv lo fm i = true := by
  unfold rdb; rw [hl, hSQ.2.1 i hiQ hl]; rfl
set_option maxRecDepth 100000 in
set_option maxHeartbeats 8000000 in
theorem c_L_isObject (hl : l.stackTraces = false) (hP : PC G w px pI pO pX n ia nm ct lv lo fa fb O X cp ru) (hF : FW w n ia fa fm) (hJ : FJ n fa) (hSQ : SI n nm ct lv lo fm O X) (hca : w ca = some (aL G 40 fc)) (hfc : ∀ i, i < n → fc i = ct i) (hna : w na = some (aI G 40 fn)) (hfn : ∀ i, i < n → fn i = nm i) (hsa : w sa = some (aI G 40 fs)) (hfs : ∀ i, i < n → fs i = nI (enc (lv i) (lo i) (dmg fm i))) {k : Nat} (hk : k < n) : Met l yL_isObject wsL_isObject ({ frames := 16, cells := 66, slots := 420, locals := 294 } : Room) (Pw G A w [.ref px, .ref ca, .ref na, .ref sa, .int (nI k)]) (va_Qi (fun r w' => w = w' ∧ r = bI true) (Bw G A) A) 66 420 A := by
  refine m_of (cc := cL_isObject) (maxL := 13) (ret := (some .boolean)) (by decide) rfl (Nat.le_of_ble_eq_true rfl) ?_
  intro p e s m args below meth c hc hr hmn
  refine v_loc [(0, some (.ref px)), (1, some (.ref ca)), (2, some (.ref na)), (3, some (.ref sa)), (4, some (.int (nI k)))] rfl ?_
  have hn := hP.n40
  have hC := hSQ.1.2.1
  have hps : ∀ i, i < n → ∀ g, fm i = some g → 0 < g.2.2.2.1 ∧ g.2.2.2.1 < 2 ^ 20 := fun i hiQ g hg => ⟨(hSQ.pos i hiQ g hg).1, (hSQ.pos i hiQ g hg).2.1⟩
  have hxk := hSQ.1.1 k hk
  have hs4 := hsh_lt (xN (ct k))
  first | refine v_aload_n hc (i := 0) rfl dL_isObject_0 rfl ?_ | refine v_aload_nN hc (i := 0) rfl dL_isObject_0 rfl ?_
  refine v_iload hc dL_isObject_1 rfl ?_
  refine v_callSi hc (q_hasForm hl hP hF hps hk) (va_cwS 2 hc.1.2.2.2.2 gL_isObject_L_hasForm rfl rfl rfl (by decide +kernel) ⟨Nat.le_of_ble_eq_true rfl, Nat.le_of_ble_eq_true rfl⟩) rfl rfl (Nat.le_of_ble_eq_true rfl) ⟨(by first | exact Nat.le_of_ble_eq_true rfl | omega | (dsimp only; omega) | (show _ ≤ 600130; omega) | (show _ ≤ 7301080; omega)), (by first | exact Nat.le_of_ble_eq_true rfl | omega | (dsimp only; omega) | (show _ ≤ 600130; omega) | (show _ ≤ 7301080; omega))⟩ dL_isObject_3 (fun r w' h => ?_)
  obtain ⟨rfl, rfl⟩ := h
  refine v_istore hc dL_isObject_6 (by decide) rfl ?_
  first | refine v_aload_n hc (i := 3) rfl dL_isObject_8 rfl ?_ | refine v_aload_nN hc (i := 3) rfl dL_isObject_8 rfl ?_
  refine v_iload hc dL_isObject_9 rfl ?_
  refine v_iald hc (k) dL_isObject_11 (hsa) (rfl) (by omega) (by decide) ?_
  rw [hfs k hk]
  refine v_iconst hc (v := nI 2) dL_isObject_12 (by decide) ?_
  refine v_irem hc (by decide) dL_isObject_13 ?_
  refine v_ti e_irem ?_
  refine v_iconst hc (v := nI 1) dL_isObject_14 (by decide) ?_
  refine v_selE hc (x := nI 1) (y := nI 0) (tgt := 22) 23 dL_isObject_15 (by decide) (b1_1 _) (fun KQ => by refine v_iconst hc (v := nI 1) dL_isObject_18 (by decide) ?_; exact v_goto hc (tgt := 23) dL_isObject_19 (by decide) KQ) (fun KQ => by exact v_iconst hc (v := nI 0) dL_isObject_22 (by decide) KQ) ?_
  rw [cnd_B]
  refine v_istore hc dL_isObject_23 (by decide) rfl ?_
  first | refine v_aload_n hc (i := 3) rfl dL_isObject_25 rfl ?_ | refine v_aload_nN hc (i := 3) rfl dL_isObject_25 rfl ?_
  refine v_iload hc dL_isObject_26 rfl ?_
  refine v_iald hc (k) dL_isObject_28 (hsa) (rfl) (by omega) (by decide) ?_
  rw [hfs k hk]
  refine v_iconst hc (v := nI 2) dL_isObject_29 (by decide) ?_
  refine v_idiv hc (by decide) dL_isObject_30 ?_
  refine v_ti e_idiv ?_
  refine v_iconst hc (v := nI 2) dL_isObject_31 (by decide) ?_
  refine v_irem hc (by decide) dL_isObject_32 ?_
  refine v_ti e_irem2 ?_
  refine v_iconst hc (v := nI 1) dL_isObject_33 (by decide) ?_
  refine v_selE hc (x := nI 1) (y := nI 0) (tgt := 41) 42 dL_isObject_34 (by decide) (b1_1 _) (fun KQ => by refine v_iconst hc (v := nI 1) dL_isObject_37 (by decide) ?_; exact v_goto hc (tgt := 42) dL_isObject_38 (by decide) KQ) (fun KQ => by exact v_iconst hc (v := nI 0) dL_isObject_41 (by decide) KQ) ?_
  rw [cnd_B]
  refine v_istore hc dL_isObject_42 (by decide) rfl ?_
  first | refine v_aload_n hc (i := 0) rfl dL_isObject_44 rfl ?_ | refine v_aload_nN hc (i := 0) rfl dL_isObject_44 rfl ?_
  refine v_iload hc dL_isObject_45 rfl ?_
  refine v_callVi hc (q_isLive hl hP hk) (cwV 1 hc.1.2.2.2.2 gL_isObject_X3_isLive rfl rfl rfl (by decide +kernel) ⟨Nat.le_of_ble_eq_true rfl, Nat.le_of_ble_eq_true rfl⟩) (hP.1) rfl rfl rfl (Nat.le_of_ble_eq_true rfl) ⟨(by first | exact Nat.le_of_ble_eq_true rfl | omega | (dsimp only; omega) | (show _ ≤ 600130; omega) | (show _ ≤ 7301080; omega)), (by first | exact Nat.le_of_ble_eq_true rfl | omega | (dsimp only; omega) | (show _ ≤ 600130; omega) | (show _ ≤ 7301080; omega))⟩ dL_isObject_47 (fun r w' h => ?_)
  obtain ⟨rfl, rfl⟩ := h
  refine v_iload hc dL_isObject_50 rfl ?_
  refine v_icmp_ne hc (tgt := 171) dL_isObject_52 (by decide) (fun hb => False.elim (hb rfl)) (fun _ => ?_)
  first | refine v_aload_n hc (i := 0) rfl dL_isObject_55 rfl ?_ | refine v_aload_nN hc (i := 0) rfl dL_isObject_55 rfl ?_
  refine v_iload hc dL_isObject_56 rfl ?_
  refine v_callVi hc (q_isLoose hl hP hk) (cwV 1 hc.1.2.2.2.2 gL_isObject_X3_isLoose rfl rfl rfl (by decide +kernel) ⟨Nat.le_of_ble_eq_true rfl, Nat.le_of_ble_eq_true rfl⟩) (hP.1) rfl rfl rfl (Nat.le_of_ble_eq_true rfl) ⟨(by first | exact Nat.le_of_ble_eq_true rfl | omega | (dsimp only; omega) | (show _ ≤ 600130; omega) | (show _ ≤ 7301080; omega)), (by first | exact Nat.le_of_ble_eq_true rfl | omega | (dsimp only; omega) | (show _ ≤ 600130; omega) | (show _ ≤ 7301080; omega))⟩ dL_isObject_58 (fun r w' h => ?_)
  obtain ⟨rfl, rfl⟩ := h
  refine v_iload hc dL_isObject_61 rfl ?_
  refine v_icmp_ne hc (tgt := 171) dL_isObject_63 (by decide) (fun hb => False.elim (hb rfl)) (fun _ => ?_)
  first | refine v_aload_n hc (i := 0) rfl dL_isObject_66 rfl ?_ | refine v_aload_nN hc (i := 0) rfl dL_isObject_66 rfl ?_
  refine v_iload hc dL_isObject_67 rfl ?_
  refine v_callSWl hc (q_read hl hP hF hC hk) (vx_cwSW 2 hc.1.2.2.2.2 gL_isObject_L_read rfl rfl rfl (by decide +kernel) ⟨Nat.le_of_ble_eq_true rfl, Nat.le_of_ble_eq_true rfl⟩) rfl rfl (Nat.le_of_ble_eq_true rfl) ⟨(by first | exact Nat.le_of_ble_eq_true rfl | omega | (dsimp only; omega) | (show _ ≤ 600130; omega) | (show _ ≤ 7301080; omega)), (by first | exact Nat.le_of_ble_eq_true rfl | omega | (dsimp only; omega) | (show _ ≤ 600130; omega) | (show _ ≤ 7301080; omega))⟩ dL_isObject_69 (fun r w' h => ?_)
  obtain ⟨rfl, rfl⟩ := h
  first | refine v_aload_n hc (i := 0) rfl dL_isObject_72 rfl ?_ | refine v_aload_nN hc (i := 0) rfl dL_isObject_72 rfl ?_
  refine v_iload hc dL_isObject_73 rfl ?_
  refine v_callVi hc (q_canRead hl hP hF hC hk) (cwV 1 hc.1.2.2.2.2 gL_isObject_X3_canRead rfl rfl rfl (by decide +kernel) ⟨Nat.le_of_ble_eq_true rfl, Nat.le_of_ble_eq_true rfl⟩) (hP.1) rfl rfl rfl (Nat.le_of_ble_eq_true rfl) ⟨(by first | exact Nat.le_of_ble_eq_true rfl | omega | (dsimp only; omega) | (show _ ≤ 600130; omega) | (show _ ≤ 7301080; omega)), (by first | exact Nat.le_of_ble_eq_true rfl | omega | (dsimp only; omega) | (show _ ≤ 600130; omega) | (show _ ≤ 7301080; omega))⟩ dL_isObject_75 (fun r w' h => ?_)
  obtain ⟨rfl, rfl⟩ := h
  refine v_cut 10 60 95 (lO px ca na sa k (fm k).isSome (lv k) (lo k)) [] ?_ (fun KQ => ?_)
  · refine v_cut 12 72 109 (lO px ca na sa k (fm k).isSome (lv k) (lo k)) [] ?_ (fun KQ => ?_)
    · refine v_cut 14 84 123 (lO px ca na sa k (fm k).isSome (lv k) (lo k)) [] ?_ (fun KQ => ?_)
      · first | refine v_aload_n hc (i := 0) rfl dL_isObject_123 rfl ?_ | refine v_aload_nN hc (i := 0) rfl dL_isObject_123 rfl ?_
        first | refine v_aload_n hc (i := 1) rfl dL_isObject_124 rfl ?_ | refine v_aload_nN hc (i := 1) rfl dL_isObject_124 rfl ?_
        refine v_iload hc dL_isObject_125 rfl ?_
        refine v_lald hc (k) dL_isObject_127 (hca) (rfl) (by omega) (by decide) ?_
        rw [hfc k hk]
        refine v_callVi hc (q_hash hl hP hxk) (cwV 1 hc.1.2.2.2.2 gL_isObject_X3_hash rfl rfl rfl (by decide +kernel) ⟨Nat.le_of_ble_eq_true rfl, Nat.le_of_ble_eq_true rfl⟩) (hP.1) rfl rfl rfl (Nat.le_of_ble_eq_true rfl) ⟨(by first | exact Nat.le_of_ble_eq_true rfl | omega | (dsimp only; omega) | (show _ ≤ 600130; omega) | (show _ ≤ 7301080; omega)), (by first | exact Nat.le_of_ble_eq_true rfl | omega | (dsimp only; omega) | (show _ ≤ 600130; omega) | (show _ ≤ 7301080; omega))⟩ dL_isObject_128 (fun r w' h => ?_)
        obtain ⟨rfl, rfl⟩ := h
        refine v_if_ltN hc (tgt := 171) dL_isObject_131 (by decide) (by omega) (fun hb => False.elim (hb)) (fun _ => ?_)
        first | refine v_aload_n hc (i := 0) rfl dL_isObject_134 rfl ?_ | refine v_aload_nN hc (i := 0) rfl dL_isObject_134 rfl ?_
        first | refine v_aload_n hc (i := 1) rfl dL_isObject_135 rfl ?_ | refine v_aload_nN hc (i := 1) rfl dL_isObject_135 rfl ?_
        refine v_iload hc dL_isObject_136 rfl ?_
        refine v_lald hc (k) dL_isObject_138 (hca) (rfl) (by omega) (by decide) ?_
        rw [hfc k hk]
        refine v_callVi hc (q_hash hl hP hxk) (cwV 1 hc.1.2.2.2.2 gL_isObject_X3_hash rfl rfl rfl (by decide +kernel) ⟨Nat.le_of_ble_eq_true rfl, Nat.le_of_ble_eq_true rfl⟩) (hP.1) rfl rfl rfl (Nat.le_of_ble_eq_true rfl) ⟨(by first | exact Nat.le_of_ble_eq_true rfl | omega | (dsimp only; omega) | (show _ ≤ 600130; omega) | (show _ ≤ 7301080; omega)), (by first | exact Nat.le_of_ble_eq_true rfl | omega | (dsimp only; omega) | (show _ ≤ 600130; omega) | (show _ ≤ 7301080; omega))⟩ dL_isObject_139 (fun r w' h => ?_)
        obtain ⟨rfl, rfl⟩ := h
        refine v_sipush hc (v := nI 4096) dL_isObject_142 (by decide) ?_
        refine v_icmp_geN hc (tgt := 171) dL_isObject_145 (by decide) (by omega) (by omega) (fun hb => False.elim (by omega)) (fun _ => ?_)
        refine v_cut 17 102 167 (lO px ca na sa k (fm k).isSome (lv k) (lo k)) [] ?_ (fun KQ => ?_)
        · refine v_iconst hc (v := nI 1) dL_isObject_167 (by decide) ?_
          refine v_goto hc (tgt := 172) dL_isObject_168 (by decide) ?_
          refine v_istore hc dL_isObject_172 (by decide) rfl ?_
          refine v_iload hc dL_isObject_174 rfl ?_
          refine v_if_eq hc (tgt := 184) dL_isObject_176 (by decide) (fun hb => False.elim (absurd hb (by decide))) (fun _ => ?_)
          refine v_iload hc dL_isObject_179 rfl ?_
          cases hg : fm k with
          | none =>
            refine v_ifB_ne hc (tgt := 256) dL_isObject_181 (by decide) (fun hb => False.elim (Bool.false_ne_true hb)) (fun _ => ?_)
            refine v_iload hc dL_isObject_184 rfl ?_
            refine v_if_eq hc (tgt := 254) dL_isObject_186 (by decide) (fun hb => False.elim (absurd hb (by decide))) (fun _ => ?_)
            first | refine v_aload_n hc (i := 0) rfl dL_isObject_189 rfl ?_ | refine v_aload_nN hc (i := 0) rfl dL_isObject_189 rfl ?_
            refine v_iconst hc (v := nI 3) dL_isObject_190 (by decide) ?_
            refine v_iload hc dL_isObject_191 rfl ?_
            refine v_callSWi hc (q_of3 hl hP hF hC hk) (vx_cwSW 3 hc.1.2.2.2.2 gL_isObject_L_of rfl rfl rfl (by decide +kernel) ⟨Nat.le_of_ble_eq_true rfl, Nat.le_of_ble_eq_true rfl⟩) rfl rfl (Nat.le_of_ble_eq_true rfl) ⟨(by first | exact Nat.le_of_ble_eq_true rfl | omega | (dsimp only; omega) | (show _ ≤ 600130; omega) | (show _ ≤ 7301080; omega)), (by first | exact Nat.le_of_ble_eq_true rfl | omega | (dsimp only; omega) | (show _ ≤ 600130; omega) | (show _ ≤ 7301080; omega))⟩ dL_isObject_193 (fun r w' h => ?_)
            obtain ⟨rfl, rfl⟩ := h
            rw [ofr_n hg]
            refine v_bipush hc (v := (-103)) dL_isObject_196 (by decide) ?_
            refine v_icmp_ne hc (tgt := 254) dL_isObject_198 (by decide) (fun hb => False.elim (hb rfl)) (fun _ => ?_)
            first | refine v_aload_n hc (i := 0) rfl dL_isObject_201 rfl ?_ | refine v_aload_nN hc (i := 0) rfl dL_isObject_201 rfl ?_
            refine v_iconst hc (v := nI 4) dL_isObject_202 (by decide) ?_
            refine v_iload hc dL_isObject_203 rfl ?_
            refine v_callSWi hc (q_of4 hl hP hF hk) (vx_cwSW 3 hc.1.2.2.2.2 gL_isObject_L_of rfl rfl rfl (by decide +kernel) ⟨Nat.le_of_ble_eq_true rfl, Nat.le_of_ble_eq_true rfl⟩) rfl rfl (Nat.le_of_ble_eq_true rfl) ⟨(by first | exact Nat.le_of_ble_eq_true rfl | omega | (dsimp only; omega) | (show _ ≤ 600130; omega) | (show _ ≤ 7301080; omega)), (by first | exact Nat.le_of_ble_eq_true rfl | omega | (dsimp only; omega) | (show _ ≤ 600130; omega) | (show _ ≤ 7301080; omega))⟩ dL_isObject_205 (fun r w' h => ?_)
            obtain ⟨rfl, rfl⟩ := h
            rw [ofr_n hg]
            refine v_bipush hc (v := (-103)) dL_isObject_208 (by decide) ?_
            refine v_icmp_ne hc (tgt := 254) dL_isObject_210 (by decide) (fun hb => False.elim (hb rfl)) (fun _ => ?_)
            first | refine v_aload_n hc (i := 0) rfl dL_isObject_213 rfl ?_ | refine v_aload_nN hc (i := 0) rfl dL_isObject_213 rfl ?_
            refine v_iconst hc (v := nI 5) dL_isObject_214 (by decide) ?_
            refine v_iload hc dL_isObject_215 rfl ?_
            refine v_callSWi hc (q_of5 hl hP hF hk) (vx_cwSW 3 hc.1.2.2.2.2 gL_isObject_L_of rfl rfl rfl (by decide +kernel) ⟨Nat.le_of_ble_eq_true rfl, Nat.le_of_ble_eq_true rfl⟩) rfl rfl (Nat.le_of_ble_eq_true rfl) ⟨(by first | exact Nat.le_of_ble_eq_true rfl | omega | (dsimp only; omega) | (show _ ≤ 600130; omega) | (show _ ≤ 7301080; omega)), (by first | exact Nat.le_of_ble_eq_true rfl | omega | (dsimp only; omega) | (show _ ≤ 600130; omega) | (show _ ≤ 7301080; omega))⟩ dL_isObject_217 (fun r w' h => ?_)
            obtain ⟨rfl, rfl⟩ := h
            rw [ofr_n hg]
            refine v_bipush hc (v := (-103)) dL_isObject_220 (by decide) ?_
            refine v_icmp_ne hc (tgt := 254) dL_isObject_222 (by decide) (fun hb => False.elim (hb rfl)) (fun _ => ?_)
            first | refine v_aload_n hc (i := 0) rfl dL_isObject_225 rfl ?_ | refine v_aload_nN hc (i := 0) rfl dL_isObject_225 rfl ?_
            refine v_bipush hc (v := nI 6) dL_isObject_226 (by decide) ?_
            refine v_iload hc dL_isObject_228 rfl ?_
            refine v_callSWi hc (q_of6 hl hP hF hC hk) (vx_cwSW 3 hc.1.2.2.2.2 gL_isObject_L_of rfl rfl rfl (by decide +kernel) ⟨Nat.le_of_ble_eq_true rfl, Nat.le_of_ble_eq_true rfl⟩) rfl rfl (Nat.le_of_ble_eq_true rfl) ⟨(by first | exact Nat.le_of_ble_eq_true rfl | omega | (dsimp only; omega) | (show _ ≤ 600130; omega) | (show _ ≤ 7301080; omega)), (by first | exact Nat.le_of_ble_eq_true rfl | omega | (dsimp only; omega) | (show _ ≤ 600130; omega) | (show _ ≤ 7301080; omega))⟩ dL_isObject_230 (fun r w' h => ?_)
            obtain ⟨rfl, rfl⟩ := h
            rw [ofr_n hg]
            refine v_bipush hc (v := (-103)) dL_isObject_233 (by decide) ?_
            refine v_icmp_ne hc (tgt := 254) dL_isObject_235 (by decide) (fun hb => False.elim (hb rfl)) (fun _ => ?_)
            first | refine v_aload_n hc (i := 0) rfl dL_isObject_238 rfl ?_ | refine v_aload_nN hc (i := 0) rfl dL_isObject_238 rfl ?_
            refine v_iconst hc (v := nI 1) dL_isObject_239 (by decide) ?_
            refine v_iload hc dL_isObject_240 rfl ?_
            have hno9 : ∀ g, fm k = some g → g.2.2.2.2 = true := fun g z => by rw [hg] at z; cases z
            refine v_callSWi hc (q_undam hl hP hF hC hJ hk hno9) (vx_cwSW 3 hc.1.2.2.2.2 gL_isObject_L_of rfl rfl rfl (by decide +kernel) ⟨Nat.le_of_ble_eq_true rfl, Nat.le_of_ble_eq_true rfl⟩) rfl rfl (Nat.le_of_ble_eq_true rfl) ⟨(by first | exact Nat.le_of_ble_eq_true rfl | omega | (dsimp only; omega) | (show _ ≤ 600130; omega) | (show _ ≤ 7301080; omega)), (by first | exact Nat.le_of_ble_eq_true rfl | omega | (dsimp only; omega) | (show _ ≤ 600130; omega) | (show _ ≤ 7301080; omega))⟩ dL_isObject_242 (fun r w' h => ?_)
            obtain ⟨rfl, rfl⟩ := h
            refine v_bipush hc (v := (-103)) dL_isObject_245 (by decide) ?_
            refine v_icmp_ne hc (tgt := 254) dL_isObject_247 (by decide) (fun hb => False.elim (hb rfl)) (fun _ => ?_)
            refine v_iconst hc (v := nI 1) dL_isObject_250 (by decide) ?_
            refine v_goto hc (tgt := 255) dL_isObject_251 (by decide) ?_
            exact v_zret hc hr dL_isObject_255 (by first | exact Nat.le_of_ble_eq_true rfl | omega | (dsimp only; omega) | (show _ ≤ 600130; omega) | (show _ ≤ 7301080; omega)) (by first | exact Nat.le_of_ble_eq_true rfl | omega | (dsimp only; omega) | (show _ ≤ 600130; omega) | (show _ ≤ 7301080; omega)) (by first | rfl | exact bI_nar _) (⟨rfl, rfl⟩)
          | some g =>
            refine v_ifB_ne hc (tgt := 256) dL_isObject_181 (by decide) (fun _ => ?_) (fun hb => False.elim (Bool.false_ne_true hb.symm))
            have hp9 := hSQ.pos k hk g hg
            have hC9 := hC k hk g hg
            have hx15 := isC_15 hxk
            have hx1 := isC_ge hxk
            first | refine v_aload_n hc (i := 0) rfl dL_isObject_256 rfl ?_ | refine v_aload_nN hc (i := 0) rfl dL_isObject_256 rfl ?_
            refine v_iload hc dL_isObject_257 rfl ?_
            refine v_callVi hc (q_base hl hP hF hC hk hg) (cwV 1 hc.1.2.2.2.2 gL_isObject_X3_base rfl rfl rfl (by decide +kernel) ⟨Nat.le_of_ble_eq_true rfl, Nat.le_of_ble_eq_true rfl⟩) (hP.1) rfl rfl rfl (Nat.le_of_ble_eq_true rfl) ⟨(by first | exact Nat.le_of_ble_eq_true rfl | omega | (dsimp only; omega) | (show _ ≤ 600130; omega) | (show _ ≤ 7301080; omega)), (by first | exact Nat.le_of_ble_eq_true rfl | omega | (dsimp only; omega) | (show _ ≤ 600130; omega) | (show _ ≤ 7301080; omega))⟩ dL_isObject_259 (fun r w' h => ?_)
            obtain ⟨rfl, rfl⟩ := h
            refine v_istore hc dL_isObject_262 (by decide) rfl ?_
            refine v_iconst hc (v := nI 0) dL_isObject_264 (by decide) ?_
            refine v_istore hc dL_isObject_265 (by decide) rfl ?_
            refine v_iconst hc (v := nI 1) dL_isObject_267 (by decide) ?_
            refine v_istore hc dL_isObject_268 (by decide) rfl ?_
            refine v_iload hc dL_isObject_270 rfl ?_
            refine v_istore hc dL_isObject_272 (by decide) rfl ?_
            refine v_w (show _ = w from rfl) ?_
            refine v_widen (k' := 19 + 0 * 2) (n' := 114 + 0 * 12) (by omega) (by omega) ?_
            refine v_loop (σ := Option Nat × Nat × Bool) (fun a => (∀ j, a.1 = some j → j < n ∧ ∃ gj, fm j = some gj) ∧ a.2.1 + clen fm a.1 = g.2.1 + 1 ∧ (a.2.2 && rpo fm a.1) = rpk fm k) (fun a => clen fm a.1) (fun _ => w) (fun a => 19 + a.2.1 * 2) (fun a => 114 + a.2.1 * 12) (fun a => lP px ca na sa k (some g).isSome (lv k) (lo k) g.1 a.2.1 a.2.2 a.1) (some k, 0, true) rfl ⟨fun j hj => by cases hj; exact ⟨hk, g, hg⟩, by show 0 + (dep fm k + 1) = _; unfold dep; rw [hg]; dsimp only; omega, rfl⟩ ?_
            rintro ⟨at', st, sd⟩ ⟨hI1, hI2, hI3⟩ ihQ
            dsimp only at hI1 hI2 hI3 ihQ ⊢
            refine v_iload hc dL_isObject_274 rfl ?_
            cases at' with
            | some j =>
              obtain ⟨hj, gj, hgj⟩ := hI1 j rfl
              have hCj := hC j hj gj hgj
              have hcl : clen fm (some j) = gj.2.1 + 1 := by show dep fm j + 1 = _; unfold dep; rw [hgj]
              have hst : st < 7 := by omega
              refine v_ti (show _ = nI j from rfl) ?_
              refine v_if_ltN hc (tgt := 321) dL_isObject_276 (by decide) (by omega) (fun hb => False.elim (hb)) (fun _ => ?_)
              refine v_iload hc dL_isObject_279 rfl ?_
              refine v_bipush hc (v := nI 8) dL_isObject_281 (by decide) ?_
              refine v_icmp_geN hc (tgt := 321) dL_isObject_283 (by decide) (by omega) (by omega) (fun hb => False.elim (by omega)) (fun _ => ?_)
              refine v_iload hc dL_isObject_286 rfl ?_
              refine v_cut (19 + st * 2) (114 + st * 12) 305 (lP px ca na sa k (some g).isSome (lv k) (lo k) g.1 st sd (some j)) [.int (bI (sd && !dmg fm j))] ?_ (fun KQ => ?_)
              · refine v_istore hc dL_isObject_305 (by decide) rfl ?_
                first | refine v_iinc1 hc dL_isObject_307 rfl (by decide) rfl ?_ | refine v_iinc hc dL_isObject_307 rfl rfl (by decide) rfl ?_
                first | refine v_aload_n hc (i := 0) rfl dL_isObject_310 rfl ?_ | refine v_aload_nN hc (i := 0) rfl dL_isObject_310 rfl ?_
                refine v_iload hc dL_isObject_311 rfl ?_
                refine v_callVi hc (q_base hl hP hF hC hj hgj) (cwV 1 hc.1.2.2.2.2 gL_isObject_X3_base rfl rfl rfl (by decide +kernel) ⟨Nat.le_of_ble_eq_true rfl, Nat.le_of_ble_eq_true rfl⟩) (hP.1) rfl rfl rfl (Nat.le_of_ble_eq_true rfl) ⟨(by first | exact Nat.le_of_ble_eq_true rfl | omega | (dsimp only; omega) | (show _ ≤ 600130; omega) | (show _ ≤ 7301080; omega)), (by first | exact Nat.le_of_ble_eq_true rfl | omega | (dsimp only; omega) | (show _ ≤ 600130; omega) | (show _ ≤ 7301080; omega))⟩ dL_isObject_313 (fun r w' h => ?_)
                obtain ⟨rfl, rfl⟩ := h
                refine v_istore hc dL_isObject_316 (by decide) rfl ?_
                refine v_goto hc (tgt := 274) dL_isObject_318 (by decide) ?_
                refine v_widen (k' := 19 + (st + 1) * 2) (n' := 114 + (st + 1) * 12) (by omega) (by omega) ?_
                refine ihQ (gj.1, st + 1, sd && !dmg fm j) _ rfl ⟨fun b hb => ?_, ?_, ?_⟩ ?_
                · obtain ⟨h3, g', h4, -⟩ := hCj.2 b hb
                  exact ⟨h3, g', h4⟩
                · dsimp only
                  cases hb : gj.1 with
                  | none =>
                    have := hSQ.2.2.2.2 j hj gj hgj hb
                    show st + 1 + 0 = _
                    omega
                  | some b =>
                    obtain ⟨h3, g', h4, h5⟩ := hCj.2 b hb
                    show st + 1 + (dep fm b + 1) = _
                    unfold dep; rw [h4]; dsimp only; omega
                · dsimp only
                  rw [← hI3, Bool.and_assoc]
                  show _ = (sd && rpk fm j)
                  rw [rpk_some hC hj hgj, show dmg fm j = gj.2.2.2.2 by unfold dmg; rw [hgj]]
                · dsimp only
                  rw [hcl]
                  cases hb : gj.1 with
                  | none => show 0 < _; omega
                  | some b =>
                    obtain ⟨h3, g', h4, h5⟩ := hCj.2 b hb
                    show dep fm b + 1 < _
                    unfold dep; rw [h4]; dsimp only; omega
              · cases sd with
                | false =>
                  refine v_ifB_eq hc (tgt := 304) dL_isObject_288 (by decide) (fun _ => ?_) (fun hb => False.elim (Bool.false_ne_true hb))
                  refine v_iconst hc (v := nI 0) dL_isObject_304 (by decide) ?_
                  exact v_widen (by first | omega | exact Nat.le_of_ble_eq_true rfl | (dsimp only; omega)) (by first | omega | exact Nat.le_of_ble_eq_true rfl | (dsimp only; omega)) (v_loc _ rfl KQ)
                | true =>
                  refine v_ifB_eq hc (tgt := 304) dL_isObject_288 (by decide) (fun hb => False.elim (Bool.false_ne_true hb.symm)) (fun _ => ?_)
                  first | refine v_aload_n hc (i := 3) rfl dL_isObject_291 rfl ?_ | refine v_aload_nN hc (i := 3) rfl dL_isObject_291 rfl ?_
                  refine v_iload hc dL_isObject_292 rfl ?_
                  refine v_iald hc (j) dL_isObject_294 (hsa) (rfl) (by omega) (by decide) ?_
                  rw [hfs j hj]
                  refine v_iconst hc (v := nI 4) dL_isObject_295 (by decide) ?_
                  refine v_idiv hc (by decide) dL_isObject_296 ?_
                  refine v_ti e_div4 ?_
                  cases hdQ : dmg fm j with
                  | true =>
                    rw [hdQ] at KQ
                    refine v_if_ne hc (tgt := 304) dL_isObject_297 (by decide) (fun _ => ?_) (fun hb => False.elim (absurd hb (by decide)))
                    refine v_iconst hc (v := nI 0) dL_isObject_304 (by decide) ?_
                    exact v_widen (by first | omega | exact Nat.le_of_ble_eq_true rfl | (dsimp only; omega)) (by first | omega | exact Nat.le_of_ble_eq_true rfl | (dsimp only; omega)) (v_loc _ rfl KQ)
                  | false =>
                    rw [hdQ] at KQ
                    refine v_if_ne hc (tgt := 304) dL_isObject_297 (by decide) (fun hb => False.elim (absurd hb (by decide))) (fun _ => ?_)
                    refine v_iconst hc (v := nI 1) dL_isObject_300 (by decide) ?_
                    refine v_goto hc (tgt := 305) dL_isObject_301 (by decide) ?_
                    exact v_widen (by first | omega | exact Nat.le_of_ble_eq_true rfl | (dsimp only; omega)) (by first | omega | exact Nat.le_of_ble_eq_true rfl | (dsimp only; omega)) (v_loc _ rfl KQ)
            | none =>
              have hst : st = g.2.1 + 1 := by have : clen fm none = 0 := rfl; omega
              have hsd : sd = rpk fm k := by rw [← hI3]; show _ = (sd && true); rw [Bool.and_true]
              subst hst
              refine v_ti (show _ = (-1 : Int32) from rfl) ?_
              refine v_if_lt hc (tgt := 321) dL_isObject_276 (by decide) (fun _ => ?_) (fun hb => False.elim (absurd hb (by decide)))
              refine v_iload hc dL_isObject_321 rfl ?_
              first | refine v_aload_n hc (i := 0) rfl dL_isObject_323 rfl ?_ | refine v_aload_nN hc (i := 0) rfl dL_isObject_323 rfl ?_
              refine v_iload hc dL_isObject_324 rfl ?_
              refine v_callVi hc (q_depth hl hP hF hk hg) (cwV 1 hc.1.2.2.2.2 gL_isObject_X3_depth rfl rfl rfl (by decide +kernel) ⟨Nat.le_of_ble_eq_true rfl, Nat.le_of_ble_eq_true rfl⟩) (hP.1) rfl rfl rfl (Nat.le_of_ble_eq_true rfl) ⟨(by first | exact Nat.le_of_ble_eq_true rfl | omega | (dsimp only; omega) | (show _ ≤ 600130; omega) | (show _ ≤ 7301080; omega)), (by first | exact Nat.le_of_ble_eq_true rfl | omega | (dsimp only; omega) | (show _ ≤ 600130; omega) | (show _ ≤ 7301080; omega))⟩ dL_isObject_326 (fun r w' h => ?_)
              obtain ⟨rfl, rfl⟩ := h
              refine v_iconst hc (v := nI 1) dL_isObject_329 (by decide) ?_
              first | refine v_iaddN hc dL_isObject_330 ?_ | refine v_iadd hc dL_isObject_330 ?_
              refine v_icmp_ne hc (tgt := 520) dL_isObject_331 (by decide) (fun hb => False.elim (hb rfl)) (fun _ => ?_)
              refine v_iload hc dL_isObject_334 rfl ?_
              refine v_cut (25 + (g.2.1 + 1) * 2) (140 + (g.2.1 + 1) * 12) 355 (lP px ca na sa k (some g).isSome (lv k) (lo k) g.1 (g.2.1 + 1) sd none) [] ?_ (fun KQ => ?_)
              · refine v_iload hc dL_isObject_355 rfl ?_
                cases hb0 : g.1 with
                | none =>
                  have hTQ := (hSQ.1.2.2.1 k hk g hg).1 hb0
                  refine v_ti (show _ = (-1 : Int32) from rfl) ?_
                  refine v_if_ge hc (tgt := 389) dL_isObject_357 (by decide) (fun hb => False.elim (absurd hb (by decide))) (fun _ => ?_)
                  first | refine v_aload_n hc (i := 0) rfl dL_isObject_360 rfl ?_ | refine v_aload_nN hc (i := 0) rfl dL_isObject_360 rfl ?_
                  refine v_iload hc dL_isObject_361 rfl ?_
                  refine v_callVi hc (q_costOf hl hP hF hk hg) (cwV 1 hc.1.2.2.2.2 gL_isObject_X3_costOf rfl rfl rfl (by decide +kernel) ⟨Nat.le_of_ble_eq_true rfl, Nat.le_of_ble_eq_true rfl⟩) (hP.1) rfl rfl rfl (Nat.le_of_ble_eq_true rfl) ⟨(by first | exact Nat.le_of_ble_eq_true rfl | omega | (dsimp only; omega) | (show _ ≤ 600130; omega) | (show _ ≤ 7301080; omega)), (by first | exact Nat.le_of_ble_eq_true rfl | omega | (dsimp only; omega) | (show _ ≤ 600130; omega) | (show _ ≤ 7301080; omega))⟩ dL_isObject_363 (fun r w' h => ?_)
                  obtain ⟨rfl, rfl⟩ := h
                  first | refine v_aload_n hc (i := 1) rfl dL_isObject_366 rfl ?_ | refine v_aload_nN hc (i := 1) rfl dL_isObject_366 rfl ?_
                  refine v_iload hc dL_isObject_367 rfl ?_
                  refine v_lald hc (k) dL_isObject_369 (hca) (rfl) (by omega) (by decide) ?_
                  rw [hfc k hk]
                  refine v_callSi hc (c_L_letters _ hxk) (va_cwS 1 hc.1.2.2.2.2 gL_isObject_L_letters rfl rfl rfl (by decide +kernel) ⟨Nat.le_of_ble_eq_true rfl, Nat.le_of_ble_eq_true rfl⟩) rfl rfl (Nat.le_of_ble_eq_true rfl) ⟨(by first | exact Nat.le_of_ble_eq_true rfl | omega | (dsimp only; omega) | (show _ ≤ 600130; omega) | (show _ ≤ 7301080; omega)), (by first | exact Nat.le_of_ble_eq_true rfl | omega | (dsimp only; omega) | (show _ ≤ 600130; omega) | (show _ ≤ 7301080; omega))⟩ dL_isObject_370 (fun r w' h => ?_)
                  obtain ⟨rfl, rfl⟩ := h
                  refine v_icmp_ne hc (tgt := 520) dL_isObject_373 (by decide) (fun hb => False.elim (hb (by rw [hTQ.2]))) (fun _ => ?_)
                  first | refine v_aload_n hc (i := 0) rfl dL_isObject_376 rfl ?_ | refine v_aload_nN hc (i := 0) rfl dL_isObject_376 rfl ?_
                  refine v_iload hc dL_isObject_377 rfl ?_
                  refine v_callVi hc (q_parts hl hP hF hk hg) (cwV 1 hc.1.2.2.2.2 gL_isObject_X3_parts rfl rfl rfl (by decide +kernel) ⟨Nat.le_of_ble_eq_true rfl, Nat.le_of_ble_eq_true rfl⟩) (hP.1) rfl rfl rfl (Nat.le_of_ble_eq_true rfl) ⟨(by first | exact Nat.le_of_ble_eq_true rfl | omega | (dsimp only; omega) | (show _ ≤ 600130; omega) | (show _ ≤ 7301080; omega)), (by first | exact Nat.le_of_ble_eq_true rfl | omega | (dsimp only; omega) | (show _ ≤ 600130; omega) | (show _ ≤ 7301080; omega))⟩ dL_isObject_379 (fun r w' h => ?_)
                  obtain ⟨rfl, rfl⟩ := h
                  refine v_iconst hc (v := nI 1) dL_isObject_382 (by decide) ?_
                  refine v_icmp_ne hc (tgt := 520) dL_isObject_383 (by decide) (fun hb => False.elim (hb (by rw [hTQ.1]))) (fun _ => ?_)
                  refine v_goto hc (tgt := 516) dL_isObject_386 (by decide) ?_
                  refine v_iconst hc (v := nI 1) dL_isObject_516 (by decide) ?_
                  refine v_goto hc (tgt := 521) dL_isObject_517 (by decide) ?_
                  exact v_zret hc hr dL_isObject_521 (by first | exact Nat.le_of_ble_eq_true rfl | omega | (dsimp only; omega) | (show _ ≤ 600130; omega) | (show _ ≤ 7301080; omega)) (by first | exact Nat.le_of_ble_eq_true rfl | omega | (dsimp only; omega) | (show _ ≤ 600130; omega) | (show _ ≤ 7301080; omega)) (by first | rfl | exact bI_nar _) (⟨rfl, rfl⟩)
                | some b =>
                  have hTQ := (hSQ.1.2.2.1 k hk g hg).2 b hb0
                  obtain ⟨hbn, g', hg', hdp⟩ := hC9.2 b hb0
                  obtain ⟨hah, hlt⟩ := hSQ.2.2.1 k hk g hg b hb0
                  have hmore := dep_more hSQ.1 hk hg hb0
                  have hO40 := hP.o40
                  have hs1 := sumL_b1_le (fun j => dpk fm j k) O
                  have hs2 := sumL_b1_le (fun j => dpk fm j b) O
                  have hbk : b ≠ k := fun z => by subst z; rw [hg] at hg'; cases hg'; omega
                  have hxb := hSQ.1.1 b hbn
                  have hb15 := isC_15 hxb
                  refine v_ti (show _ = nI b from rfl) ?_
                  refine v_if_geN hc (tgt := 389) dL_isObject_357 (by decide) (by omega) (fun _ => ?_) (fun hb => False.elim (hb))
                  first | refine v_aload_n hc (i := 0) rfl dL_isObject_389 rfl ?_ | refine v_aload_nN hc (i := 0) rfl dL_isObject_389 rfl ?_
                  refine v_iload hc dL_isObject_390 rfl ?_
                  refine v_callSi hc (q_hasForm hl hP hF hps hbn) (va_cwS 2 hc.1.2.2.2.2 gL_isObject_L_hasForm rfl rfl rfl (by decide +kernel) ⟨Nat.le_of_ble_eq_true rfl, Nat.le_of_ble_eq_true rfl⟩) rfl rfl (Nat.le_of_ble_eq_true rfl) ⟨(by first | exact Nat.le_of_ble_eq_true rfl | omega | (dsimp only; omega) | (show _ ≤ 600130; omega) | (show _ ≤ 7301080; omega)), (by first | exact Nat.le_of_ble_eq_true rfl | omega | (dsimp only; omega) | (show _ ≤ 600130; omega) | (show _ ≤ 7301080; omega))⟩ dL_isObject_392 (fun r w' h => ?_)
                  obtain ⟨rfl, rfl⟩ := h
                  rw [hg']
                  refine v_ifB_eq hc (tgt := 520) dL_isObject_395 (by decide) (fun hb => False.elim (Bool.false_ne_true hb.symm)) (fun _ => ?_)
                  refine v_iload hc dL_isObject_398 rfl ?_
                  refine v_iload hc dL_isObject_400 rfl ?_
                  refine v_icmp_eqN hc (tgt := 520) dL_isObject_402 (by decide) (by omega) (by omega) (fun hb => False.elim (hbk hb)) (fun _ => ?_)
                  first | refine v_aload_n hc (i := 0) rfl dL_isObject_405 rfl ?_ | refine v_aload_nN hc (i := 0) rfl dL_isObject_405 rfl ?_
                  refine v_iload hc dL_isObject_406 rfl ?_
                  refine v_callVi hc (q_costOf hl hP hF hk hg) (cwV 1 hc.1.2.2.2.2 gL_isObject_X3_costOf rfl rfl rfl (by decide +kernel) ⟨Nat.le_of_ble_eq_true rfl, Nat.le_of_ble_eq_true rfl⟩) (hP.1) rfl rfl rfl (Nat.le_of_ble_eq_true rfl) ⟨(by first | exact Nat.le_of_ble_eq_true rfl | omega | (dsimp only; omega) | (show _ ≤ 600130; omega) | (show _ ≤ 7301080; omega)), (by first | exact Nat.le_of_ble_eq_true rfl | omega | (dsimp only; omega) | (show _ ≤ 600130; omega) | (show _ ≤ 7301080; omega))⟩ dL_isObject_408 (fun r w' h => ?_)
                  obtain ⟨rfl, rfl⟩ := h
                  first | refine v_aload_n hc (i := 0) rfl dL_isObject_411 rfl ?_ | refine v_aload_nN hc (i := 0) rfl dL_isObject_411 rfl ?_
                  refine v_iload hc dL_isObject_412 rfl ?_
                  refine v_iload hc dL_isObject_414 rfl ?_
                  refine v_callVi hc (q_deltaCost hl hP hSQ.1.1 hk hbn) (cwV 2 hc.1.2.2.2.2 gL_isObject_X3_deltaCost rfl rfl rfl (by decide +kernel) ⟨Nat.le_of_ble_eq_true rfl, Nat.le_of_ble_eq_true rfl⟩) (hP.1) rfl rfl rfl (Nat.le_of_ble_eq_true rfl) ⟨(by first | exact Nat.le_of_ble_eq_true rfl | omega | (dsimp only; omega) | (show _ ≤ 600130; omega) | (show _ ≤ 7301080; omega)), (by first | exact Nat.le_of_ble_eq_true rfl | omega | (dsimp only; omega) | (show _ ≤ 600130; omega) | (show _ ≤ 7301080; omega))⟩ dL_isObject_416 (fun r w' h => ?_)
                  obtain ⟨rfl, rfl⟩ := h
                  refine v_icmp_ne hc (tgt := 520) dL_isObject_419 (by decide) (fun hb => False.elim (hb (by rw [hTQ.2]))) (fun _ => ?_)
                  first | refine v_aload_n hc (i := 0) rfl dL_isObject_422 rfl ?_ | refine v_aload_nN hc (i := 0) rfl dL_isObject_422 rfl ?_
                  refine v_iload hc dL_isObject_423 rfl ?_
                  refine v_callVi hc (q_costOf hl hP hF hk hg) (cwV 1 hc.1.2.2.2.2 gL_isObject_X3_costOf rfl rfl rfl (by decide +kernel) ⟨Nat.le_of_ble_eq_true rfl, Nat.le_of_ble_eq_true rfl⟩) (hP.1) rfl rfl rfl (Nat.le_of_ble_eq_true rfl) ⟨(by first | exact Nat.le_of_ble_eq_true rfl | omega | (dsimp only; omega) | (show _ ≤ 600130; omega) | (show _ ≤ 7301080; omega)), (by first | exact Nat.le_of_ble_eq_true rfl | omega | (dsimp only; omega) | (show _ ≤ 600130; omega) | (show _ ≤ 7301080; omega))⟩ dL_isObject_425 (fun r w' h => ?_)
                  obtain ⟨rfl, rfl⟩ := h
                  first | refine v_aload_n hc (i := 1) rfl dL_isObject_428 rfl ?_ | refine v_aload_nN hc (i := 1) rfl dL_isObject_428 rfl ?_
                  refine v_iload hc dL_isObject_429 rfl ?_
                  refine v_lald hc (k) dL_isObject_431 (hca) (rfl) (by omega) (by decide) ?_
                  rw [hfc k hk]
                  refine v_callSi hc (c_L_letters _ hxk) (va_cwS 1 hc.1.2.2.2.2 gL_isObject_L_letters rfl rfl rfl (by decide +kernel) ⟨Nat.le_of_ble_eq_true rfl, Nat.le_of_ble_eq_true rfl⟩) rfl rfl (Nat.le_of_ble_eq_true rfl) ⟨(by first | exact Nat.le_of_ble_eq_true rfl | omega | (dsimp only; omega) | (show _ ≤ 600130; omega) | (show _ ≤ 7301080; omega)), (by first | exact Nat.le_of_ble_eq_true rfl | omega | (dsimp only; omega) | (show _ ≤ 600130; omega) | (show _ ≤ 7301080; omega))⟩ dL_isObject_432 (fun r w' h => ?_)
                  obtain ⟨rfl, rfl⟩ := h
                  refine v_icmp_geN hc (tgt := 520) dL_isObject_435 (by decide) (by omega) (by omega) (fun hb => False.elim (by omega)) (fun _ => ?_)
                  first | refine v_aload_n hc (i := 0) rfl dL_isObject_438 rfl ?_ | refine v_aload_nN hc (i := 0) rfl dL_isObject_438 rfl ?_
                  refine v_iload hc dL_isObject_439 rfl ?_
                  refine v_callVi hc (q_dependents hl hP hF hC hbn hg') (cwV 1 hc.1.2.2.2.2 gL_isObject_X3_dependents rfl rfl rfl (by decide +kernel) ⟨Nat.le_of_ble_eq_true rfl, Nat.le_of_ble_eq_true rfl⟩) (hP.1) rfl rfl rfl (Nat.le_of_ble_eq_true rfl) ⟨(by first | exact Nat.le_of_ble_eq_true rfl | omega | (dsimp only; omega) | (show _ ≤ 600130; omega) | (show _ ≤ 7301080; omega)), (by first | exact Nat.le_of_ble_eq_true rfl | omega | (dsimp only; omega) | (show _ ≤ 600130; omega) | (show _ ≤ 7301080; omega))⟩ dL_isObject_441 (fun r w' h => ?_)
                  obtain ⟨rfl, rfl⟩ := h
                  first | refine v_aload_n hc (i := 0) rfl dL_isObject_444 rfl ?_ | refine v_aload_nN hc (i := 0) rfl dL_isObject_444 rfl ?_
                  refine v_iload hc dL_isObject_445 rfl ?_
                  refine v_callVi hc (q_dependents hl hP hF hC hk hg) (cwV 1 hc.1.2.2.2.2 gL_isObject_X3_dependents rfl rfl rfl (by decide +kernel) ⟨Nat.le_of_ble_eq_true rfl, Nat.le_of_ble_eq_true rfl⟩) (hP.1) rfl rfl rfl (Nat.le_of_ble_eq_true rfl) ⟨(by first | exact Nat.le_of_ble_eq_true rfl | omega | (dsimp only; omega) | (show _ ≤ 600130; omega) | (show _ ≤ 7301080; omega)), (by first | exact Nat.le_of_ble_eq_true rfl | omega | (dsimp only; omega) | (show _ ≤ 600130; omega) | (show _ ≤ 7301080; omega))⟩ dL_isObject_447 (fun r w' h => ?_)
                  obtain ⟨rfl, rfl⟩ := h
                  refine v_icmp_leN hc (tgt := 520) dL_isObject_450 (by decide) (by omega) (by omega) (fun hb => False.elim (by omega)) (fun _ => ?_)
                  obtain ⟨qb, hqb, eb⟩ := hSQ.2.2.2.1 b hbn
                  obtain ⟨qk, hqk, ek⟩ := hSQ.2.2.2.1 k hk
                  have hah := ahd_iff.mp hah
                  rw [eb, ek, nI_toInt (by omega), nI_toInt (by omega)] at hah
                  refine v_cut (50 + (g.2.1 + 1) * 2) (320 + (g.2.1 + 1) * 12) 516 [] [] ?_ (fun KQ => ?_)
                  · refine v_iconst hc (v := nI 1) dL_isObject_516 (by decide) ?_
                    refine v_goto hc (tgt := 521) dL_isObject_517 (by decide) ?_
                    exact v_zret hc hr dL_isObject_521 (by first | exact Nat.le_of_ble_eq_true rfl | omega | (dsimp only; omega) | (show _ ≤ 600130; omega) | (show _ ≤ 7301080; omega)) (by first | exact Nat.le_of_ble_eq_true rfl | omega | (dsimp only; omega) | (show _ ≤ 600130; omega) | (show _ ≤ 7301080; omega)) (by first | rfl | exact bI_nar _) (⟨rfl, rfl⟩)
                  · first | refine v_aload_n hc (i := 2) rfl dL_isObject_453 rfl ?_ | refine v_aload_nN hc (i := 2) rfl dL_isObject_453 rfl ?_
                    refine v_iload hc dL_isObject_454 rfl ?_
                    refine v_iald hc (b) dL_isObject_456 (hna) (rfl) (by omega) (by decide) ?_
                    first | refine v_aload_n hc (i := 2) rfl dL_isObject_457 rfl ?_ | refine v_aload_nN hc (i := 2) rfl dL_isObject_457 rfl ?_
                    refine v_iload hc dL_isObject_458 rfl ?_
                    refine v_iald hc (k) dL_isObject_460 (hna) (rfl) (by omega) (by decide) ?_
                    rw [hfn b hbn, hfn k hk, eb, ek]
                    refine v_icmp_ltN hc (tgt := 516) dL_isObject_461 (by decide) (by omega) (by omega) (fun h1 => ?_) (fun h1 => ?_)
                    · exact v_widen (by first | omega | exact Nat.le_of_ble_eq_true rfl | (dsimp only; omega)) (by first | omega | exact Nat.le_of_ble_eq_true rfl | (dsimp only; omega)) (v_loc _ rfl KQ)
                    · first | refine v_aload_n hc (i := 2) rfl dL_isObject_464 rfl ?_ | refine v_aload_nN hc (i := 2) rfl dL_isObject_464 rfl ?_
                      refine v_iload hc dL_isObject_465 rfl ?_
                      refine v_iald hc (b) dL_isObject_467 (hna) (rfl) (by omega) (by decide) ?_
                      first | refine v_aload_n hc (i := 2) rfl dL_isObject_468 rfl ?_ | refine v_aload_nN hc (i := 2) rfl dL_isObject_468 rfl ?_
                      refine v_iload hc dL_isObject_469 rfl ?_
                      refine v_iald hc (k) dL_isObject_471 (hna) (rfl) (by omega) (by decide) ?_
                      rw [hfn b hbn, hfn k hk, eb, ek]
                      refine v_icmp_neN hc (tgt := 520) dL_isObject_472 (by decide) (by omega) (by omega) (fun hb => False.elim (by omega)) (fun _ => ?_)
                      first | refine v_aload_n hc (i := 1) rfl dL_isObject_475 rfl ?_ | refine v_aload_nN hc (i := 1) rfl dL_isObject_475 rfl ?_
                      refine v_iload hc dL_isObject_476 rfl ?_
                      refine v_lald hc (b) dL_isObject_478 (hca) (rfl) (by omega) (by decide) ?_
                      rw [hfc b hbn]
                      refine v_callSi hc (c_L_letters _ hxb) (va_cwS 1 hc.1.2.2.2.2 gL_isObject_L_letters rfl rfl rfl (by decide +kernel) ⟨Nat.le_of_ble_eq_true rfl, Nat.le_of_ble_eq_true rfl⟩) rfl rfl (Nat.le_of_ble_eq_true rfl) ⟨(by first | exact Nat.le_of_ble_eq_true rfl | omega | (dsimp only; omega) | (show _ ≤ 600130; omega) | (show _ ≤ 7301080; omega)), (by first | exact Nat.le_of_ble_eq_true rfl | omega | (dsimp only; omega) | (show _ ≤ 600130; omega) | (show _ ≤ 7301080; omega))⟩ dL_isObject_479 (fun r w' h => ?_)
                      obtain ⟨rfl, rfl⟩ := h
                      first | refine v_aload_n hc (i := 1) rfl dL_isObject_482 rfl ?_ | refine v_aload_nN hc (i := 1) rfl dL_isObject_482 rfl ?_
                      refine v_iload hc dL_isObject_483 rfl ?_
                      refine v_lald hc (k) dL_isObject_485 (hca) (rfl) (by omega) (by decide) ?_
                      rw [hfc k hk]
                      refine v_callSi hc (c_L_letters _ hxk) (va_cwS 1 hc.1.2.2.2.2 gL_isObject_L_letters rfl rfl rfl (by decide +kernel) ⟨Nat.le_of_ble_eq_true rfl, Nat.le_of_ble_eq_true rfl⟩) rfl rfl (Nat.le_of_ble_eq_true rfl) ⟨(by first | exact Nat.le_of_ble_eq_true rfl | omega | (dsimp only; omega) | (show _ ≤ 600130; omega) | (show _ ≤ 7301080; omega)), (by first | exact Nat.le_of_ble_eq_true rfl | omega | (dsimp only; omega) | (show _ ≤ 600130; omega) | (show _ ≤ 7301080; omega))⟩ dL_isObject_486 (fun r w' h => ?_)
                      obtain ⟨rfl, rfl⟩ := h
                      refine v_icmp_gtN hc (tgt := 516) dL_isObject_489 (by decide) (by omega) (by omega) (fun h2 => ?_) (fun h2 => ?_)
                      · exact v_widen (by first | omega | exact Nat.le_of_ble_eq_true rfl | (dsimp only; omega)) (by first | omega | exact Nat.le_of_ble_eq_true rfl | (dsimp only; omega)) (v_loc _ rfl KQ)
                      · first | refine v_aload_n hc (i := 1) rfl dL_isObject_492 rfl ?_ | refine v_aload_nN hc (i := 1) rfl dL_isObject_492 rfl ?_
                        refine v_iload hc dL_isObject_493 rfl ?_
                        refine v_lald hc (b) dL_isObject_495 (hca) (rfl) (by omega) (by decide) ?_
                        rw [hfc b hbn]
                        refine v_callSi hc (c_L_letters _ hxb) (va_cwS 1 hc.1.2.2.2.2 gL_isObject_L_letters rfl rfl rfl (by decide +kernel) ⟨Nat.le_of_ble_eq_true rfl, Nat.le_of_ble_eq_true rfl⟩) rfl rfl (Nat.le_of_ble_eq_true rfl) ⟨(by first | exact Nat.le_of_ble_eq_true rfl | omega | (dsimp only; omega) | (show _ ≤ 600130; omega) | (show _ ≤ 7301080; omega)), (by first | exact Nat.le_of_ble_eq_true rfl | omega | (dsimp only; omega) | (show _ ≤ 600130; omega) | (show _ ≤ 7301080; omega))⟩ dL_isObject_496 (fun r w' h => ?_)
                        obtain ⟨rfl, rfl⟩ := h
                        first | refine v_aload_n hc (i := 1) rfl dL_isObject_499 rfl ?_ | refine v_aload_nN hc (i := 1) rfl dL_isObject_499 rfl ?_
                        refine v_iload hc dL_isObject_500 rfl ?_
                        refine v_lald hc (k) dL_isObject_502 (hca) (rfl) (by omega) (by decide) ?_
                        rw [hfc k hk]
                        refine v_callSi hc (c_L_letters _ hxk) (va_cwS 1 hc.1.2.2.2.2 gL_isObject_L_letters rfl rfl rfl (by decide +kernel) ⟨Nat.le_of_ble_eq_true rfl, Nat.le_of_ble_eq_true rfl⟩) rfl rfl (Nat.le_of_ble_eq_true rfl) ⟨(by first | exact Nat.le_of_ble_eq_true rfl | omega | (dsimp only; omega) | (show _ ≤ 600130; omega) | (show _ ≤ 7301080; omega)), (by first | exact Nat.le_of_ble_eq_true rfl | omega | (dsimp only; omega) | (show _ ≤ 600130; omega) | (show _ ≤ 7301080; omega))⟩ dL_isObject_503 (fun r w' h => ?_)
                        obtain ⟨rfl, rfl⟩ := h
                        refine v_icmp_neN hc (tgt := 520) dL_isObject_506 (by decide) (by omega) (by omega) (fun hb => False.elim (by omega)) (fun _ => ?_)
                        refine v_iload hc dL_isObject_509 rfl ?_
                        refine v_iload hc dL_isObject_511 rfl ?_
                        refine v_icmp_geN hc (tgt := 520) dL_isObject_513 (by decide) (by omega) (by omega) (fun hb => False.elim (by omega)) (fun _ => ?_)
                        exact v_widen (by first | omega | exact Nat.le_of_ble_eq_true rfl | (dsimp only; omega)) (by first | omega | exact Nat.le_of_ble_eq_true rfl | (dsimp only; omega)) (v_loc _ rfl KQ)
              · cases hlk : lv k with
                | false =>
                  rw [hlk] at KQ
                  refine v_ifB_eq hc (tgt := 355) dL_isObject_336 (by decide) (fun _ => ?_) (fun hb => False.elim (Bool.false_ne_true hb))
                  exact v_widen (by first | omega | exact Nat.le_of_ble_eq_true rfl | (dsimp only; omega)) (by first | omega | exact Nat.le_of_ble_eq_true rfl | (dsimp only; omega)) (v_loc _ rfl KQ)
                | true =>
                  rw [hlk] at KQ
                  refine v_ifB_eq hc (tgt := 355) dL_isObject_336 (by decide) (fun hb => False.elim (Bool.false_ne_true hb.symm)) (fun _ => ?_)
                  refine v_iload hc dL_isObject_339 rfl ?_
                  cases hok : lo k with
                  | true =>
                    rw [hok] at KQ
                    refine v_ifB_ne hc (tgt := 355) dL_isObject_341 (by decide) (fun _ => ?_) (fun hb => False.elim (Bool.false_ne_true hb.symm))
                    exact v_widen (by first | omega | exact Nat.le_of_ble_eq_true rfl | (dsimp only; omega)) (by first | omega | exact Nat.le_of_ble_eq_true rfl | (dsimp only; omega)) (v_loc _ rfl KQ)
                  | false =>
                    rw [hok] at KQ
                    refine v_ifB_ne hc (tgt := 355) dL_isObject_341 (by decide) (fun hb => False.elim (Bool.false_ne_true hb)) (fun _ => ?_)
                    first | refine v_aload_n hc (i := 0) rfl dL_isObject_344 rfl ?_ | refine v_aload_nN hc (i := 0) rfl dL_isObject_344 rfl ?_
                    refine v_iload hc dL_isObject_345 rfl ?_
                    refine v_callVi hc (q_canRead hl hP hF hC hk) (cwV 1 hc.1.2.2.2.2 gL_isObject_X3_canRead rfl rfl rfl (by decide +kernel) ⟨Nat.le_of_ble_eq_true rfl, Nat.le_of_ble_eq_true rfl⟩) (hP.1) rfl rfl rfl (Nat.le_of_ble_eq_true rfl) ⟨(by first | exact Nat.le_of_ble_eq_true rfl | omega | (dsimp only; omega) | (show _ ≤ 600130; omega) | (show _ ≤ 7301080; omega)), (by first | exact Nat.le_of_ble_eq_true rfl | omega | (dsimp only; omega) | (show _ ≤ 600130; omega) | (show _ ≤ 7301080; omega))⟩ dL_isObject_347 (fun r w' h => ?_)
                    obtain ⟨rfl, rfl⟩ := h
                    refine v_iload hc dL_isObject_350 rfl ?_
                    refine v_icmp_ne hc (tgt := 520) dL_isObject_352 (by decide) (fun hb => False.elim (hb (by rw [hsd]; unfold rdb; rw [hlk, hok]; rfl))) (fun _ => ?_)
                    exact v_widen (by first | omega | exact Nat.le_of_ble_eq_true rfl | (dsimp only; omega)) (by first | omega | exact Nat.le_of_ble_eq_true rfl | (dsimp only; omega)) (v_loc _ rfl KQ)
        · refine v_iload hc dL_isObject_148 rfl ?_
          cases hg : (fm k).isSome with
          | true =>
            rw [hg] at KQ
            refine v_ifB_ne hc (tgt := 167) dL_isObject_150 (by decide) (fun _ => ?_) (fun hb => False.elim (Bool.false_ne_true hb.symm))
            exact v_widen (by first | omega | exact Nat.le_of_ble_eq_true rfl | (dsimp only; omega)) (by first | omega | exact Nat.le_of_ble_eq_true rfl | (dsimp only; omega)) (v_loc _ rfl KQ)
          | false =>
            rw [hg] at KQ
            refine v_ifB_ne hc (tgt := 167) dL_isObject_150 (by decide) (fun hb => False.elim (Bool.false_ne_true hb)) (fun _ => ?_)
            refine v_iload hc dL_isObject_153 rfl ?_
            cases hok : lo k with
            | true =>
              rw [hok] at KQ
              refine v_ifB_ne hc (tgt := 167) dL_isObject_155 (by decide) (fun _ => ?_) (fun hb => False.elim (Bool.false_ne_true hb.symm))
              exact v_widen (by first | omega | exact Nat.le_of_ble_eq_true rfl | (dsimp only; omega)) (by first | omega | exact Nat.le_of_ble_eq_true rfl | (dsimp only; omega)) (v_loc _ rfl KQ)
            | false =>
              rw [hok] at KQ
              refine v_ifB_ne hc (tgt := 167) dL_isObject_155 (by decide) (fun hb => False.elim (Bool.false_ne_true hb)) (fun _ => ?_)
              first | refine v_aload_n hc (i := 0) rfl dL_isObject_158 rfl ?_ | refine v_aload_nN hc (i := 0) rfl dL_isObject_158 rfl ?_
              refine v_iload hc dL_isObject_159 rfl ?_
              refine v_callVi hc (q_canRead hl hP hF hC hk) (cwV 1 hc.1.2.2.2.2 gL_isObject_X3_canRead rfl rfl rfl (by decide +kernel) ⟨Nat.le_of_ble_eq_true rfl, Nat.le_of_ble_eq_true rfl⟩) (hP.1) rfl rfl rfl (Nat.le_of_ble_eq_true rfl) ⟨(by first | exact Nat.le_of_ble_eq_true rfl | omega | (dsimp only; omega) | (show _ ≤ 600130; omega) | (show _ ≤ 7301080; omega)), (by first | exact Nat.le_of_ble_eq_true rfl | omega | (dsimp only; omega) | (show _ ≤ 600130; omega) | (show _ ≤ 7301080; omega))⟩ dL_isObject_161 (fun r w' h => ?_)
              obtain ⟨rfl, rfl⟩ := h
              have hg9 : fm k = none := by cases h9 : fm k with | none => rfl | some g => rw [h9] at hg; cases hg
              rw [rdb_noform hg9 hok]
              refine v_ifB_ne hc (tgt := 171) dL_isObject_164 (by decide) (fun hb => False.elim (Bool.false_ne_true hb)) (fun _ => ?_)
              exact v_widen (by first | omega | exact Nat.le_of_ble_eq_true rfl | (dsimp only; omega)) (by first | omega | exact Nat.le_of_ble_eq_true rfl | (dsimp only; omega)) (v_loc _ rfl KQ)
      · refine v_iload hc dL_isObject_109 rfl ?_
        cases hok : lo k with
        | false =>
          rw [hok] at KQ
          refine v_ifB_eq hc (tgt := 123) dL_isObject_111 (by decide) (fun _ => ?_) (fun hb => False.elim (Bool.false_ne_true hb))
          exact v_widen (by first | omega | exact Nat.le_of_ble_eq_true rfl | (dsimp only; omega)) (by first | omega | exact Nat.le_of_ble_eq_true rfl | (dsimp only; omega)) (v_loc _ rfl KQ)
        | true =>
          rw [hok] at KQ
          refine v_ifB_eq hc (tgt := 123) dL_isObject_111 (by decide) (fun hb => False.elim (Bool.false_ne_true hb.symm)) (fun _ => ?_)
          first | refine v_aload_n hc (i := 0) rfl dL_isObject_114 rfl ?_ | refine v_aload_nN hc (i := 0) rfl dL_isObject_114 rfl ?_
          refine v_iload hc dL_isObject_115 rfl ?_
          refine v_callVi hc (q_canRead hl hP hF hC hk) (cwV 1 hc.1.2.2.2.2 gL_isObject_X3_canRead rfl rfl rfl (by decide +kernel) ⟨Nat.le_of_ble_eq_true rfl, Nat.le_of_ble_eq_true rfl⟩) (hP.1) rfl rfl rfl (Nat.le_of_ble_eq_true rfl) ⟨(by first | exact Nat.le_of_ble_eq_true rfl | omega | (dsimp only; omega) | (show _ ≤ 600130; omega) | (show _ ≤ 7301080; omega)), (by first | exact Nat.le_of_ble_eq_true rfl | omega | (dsimp only; omega) | (show _ ≤ 600130; omega) | (show _ ≤ 7301080; omega))⟩ dL_isObject_117 (fun r w' h => ?_)
          obtain ⟨rfl, rfl⟩ := h
          rw [rdb_loose hSQ hk hok]
          refine v_ifB_eq hc (tgt := 171) dL_isObject_120 (by decide) (fun hb => False.elim (Bool.false_ne_true hb.symm)) (fun _ => ?_)
          exact v_widen (by first | omega | exact Nat.le_of_ble_eq_true rfl | (dsimp only; omega)) (by first | omega | exact Nat.le_of_ble_eq_true rfl | (dsimp only; omega)) (v_loc _ rfl KQ)
    · refine v_iload hc dL_isObject_95 rfl ?_
      cases hlk : lv k with
      | true =>
        rw [hlk] at KQ
        refine v_ifB_ne hc (tgt := 109) dL_isObject_97 (by decide) (fun _ => ?_) (fun hb => False.elim (Bool.false_ne_true hb.symm))
        exact v_widen (by first | omega | exact Nat.le_of_ble_eq_true rfl | (dsimp only; omega)) (by first | omega | exact Nat.le_of_ble_eq_true rfl | (dsimp only; omega)) (v_loc _ rfl KQ)
      | false =>
        rw [hlk] at KQ
        refine v_ifB_ne hc (tgt := 109) dL_isObject_97 (by decide) (fun hb => False.elim (Bool.false_ne_true hb)) (fun _ => ?_)
        first | refine v_aload_n hc (i := 0) rfl dL_isObject_100 rfl ?_ | refine v_aload_nN hc (i := 0) rfl dL_isObject_100 rfl ?_
        refine v_iload hc dL_isObject_101 rfl ?_
        refine v_callVi hc (q_canRead hl hP hF hC hk) (cwV 1 hc.1.2.2.2.2 gL_isObject_X3_canRead rfl rfl rfl (by decide +kernel) ⟨Nat.le_of_ble_eq_true rfl, Nat.le_of_ble_eq_true rfl⟩) (hP.1) rfl rfl rfl (Nat.le_of_ble_eq_true rfl) ⟨(by first | exact Nat.le_of_ble_eq_true rfl | omega | (dsimp only; omega) | (show _ ≤ 600130; omega) | (show _ ≤ 7301080; omega)), (by first | exact Nat.le_of_ble_eq_true rfl | omega | (dsimp only; omega) | (show _ ≤ 600130; omega) | (show _ ≤ 7301080; omega))⟩ dL_isObject_103 (fun r w' h => ?_)
        obtain ⟨rfl, rfl⟩ := h
        rw [show rdb lv lo fm k = false by unfold rdb; rw [hlk]; rfl]
        refine v_ifB_ne hc (tgt := 171) dL_isObject_106 (by decide) (fun hb => False.elim (Bool.false_ne_true hb)) (fun _ => ?_)
        exact v_widen (by first | omega | exact Nat.le_of_ble_eq_true rfl | (dsimp only; omega)) (by first | omega | exact Nat.le_of_ble_eq_true rfl | (dsimp only; omega)) (v_loc _ rfl KQ)
  · cases hr : rdb lv lo fm k with
    | false =>
      refine v_ifB_eq hc (tgt := 88) dL_isObject_78 (by decide) (fun _ => ?_) (fun hb => False.elim (Bool.false_ne_true hb))
      refine v_ldc2 hc (v := -103) dL_isObject_88 (by decide +kernel) ?_
      refine v_lcmp hc dL_isObject_91 ?_
      refine v_ifL_ne hc (tgt := 171) dL_isObject_92 (by decide) (fun hb => False.elim (hb rfl)) (fun _ => ?_)
      exact v_widen (by first | omega | exact Nat.le_of_ble_eq_true rfl | (dsimp only; omega)) (by first | omega | exact Nat.le_of_ble_eq_true rfl | (dsimp only; omega)) (v_loc _ rfl KQ)
    | true =>
      refine v_ifB_eq hc (tgt := 88) dL_isObject_78 (by decide) (fun hb => False.elim (Bool.false_ne_true hb.symm)) (fun _ => ?_)
      first | refine v_aload_n hc (i := 1) rfl dL_isObject_81 rfl ?_ | refine v_aload_nN hc (i := 1) rfl dL_isObject_81 rfl ?_
      refine v_iload hc dL_isObject_82 rfl ?_
      refine v_lald hc (k) dL_isObject_84 (hca) (rfl) (by omega) (by decide) ?_
      rw [hfc k hk]
      refine v_goto hc (tgt := 91) dL_isObject_85 (by decide) ?_
      refine v_lcmp hc dL_isObject_91 ?_
      refine v_ifL_ne hc (tgt := 171) dL_isObject_92 (by decide) (fun hb => False.elim (hb rfl)) (fun _ => ?_)
      exact v_widen (by first | omega | exact Nat.le_of_ble_eq_true rfl | (dsimp only; omega)) (by first | omega | exact Nat.le_of_ble_eq_true rfl | (dsimp only; omega)) (v_loc _ rfl KQ)
end LW2

