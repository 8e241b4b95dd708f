/-! ===== the law prunes, damages ===== -/
theorem wle_r {v u : wd} (hdQ : dj v u) : wle u (jn v u) := fun x e h => hdQ.r h
theorem jn_upl {v u : wd} {a : Nat} {e : va_E} : wup (jn v u) a e = jn (wup v a e) u := by
  funext x
  by_cases hx : x = a
  · subst hx; rw [wup_s, jn_l (wup_s _ _ _)]
  · rw [wup_n _ _ hx]
    cases hv : v x with
    | some e' => rw [jn_l hv, jn_l (by rw [wup_n _ _ hx]; exact hv)]
    | none => rw [jn_r hv, jn_r (by rw [wup_n _ _ hx]; exact hv)]
theorem wup_same {v : wd} {a : Nat} {e : va_E} (h : v a = some e) : wup v a e = v := by
  funext x
  by_cases hx : x = a
  · subst hx; rw [wup_s, h]
  · rw [wup_n _ _ hx]
theorem dj_up {v u : wd} {a : Nat} {e e0 : va_E} (hdQ : dj v u) (h : v a = some e0) : dj (wup v a e) u := fun x e' hx => by
  have h1 := hdQ x e' hx
  rw [wup_n _ _ (fun z => by rw [z, h] at h1; cases h1)]
  exact h1
theorem bI_b1 (b : Bool) : bI b = nI (b1 b) := by cases b <;> rfl
theorem e_sub2 (a b d s : Bool) : nI (enc a b d) - nI (2 * b1 (b && s)) = nI (enc a (b && !s) d) := by cases a <;> cases b <;> cases d <;> cases s <;> decide
theorem e_add4 (a b d c : Bool) (h : c = true → d = false) : nI (enc a b d) + cond c (nI 4) (nI 0) = nI (enc a b (d || c)) := by
  cases a <;> cases b <;> cases d <;> cases c <;> first | decide | exact absurd (h rfl) (by decide)
theorem e_lt4 (a b d : Bool) : enc a b d < 4 ↔ d = false := by cases a <;> cases b <;> cases d <;> decide
section LW5
variable {l : Launch} {G : cG} {A : Nat → Prop} {w v u : wd} {px pI pO pX n ca na sa : Nat} {ia : Nat → Nat} {nm : Nat → Int32} {ct fc : Nat → Int64} {fn fs : Nat → Int32} {lv lo : Nat → Bool} {fa fb : Nat → Option Nat} {fm : Nat → Option Frm} {O X : List Nat} {cp ru : Int32}
theorem clen_7 (hC : CH n fm) {k : Nat} (hk : k < n) : clen fm (some k) ≤ 7 := by
  show dep fm k + 1 ≤ 7
  unfold dep
  cases hg : fm k with
  | none => exact Nat.le_of_ble_eq_true rfl
  | some g => have := (hC k hk g hg).1; dsimp only; omega
theorem clen_dn (hC : CH n fm) {j : Nat} {g : Frm} (hj : j < n) (hg : fm j = some g) : clen fm g.1 < clen fm (some j) := by
  show _ < dep fm j + 1
  have h1 : dep fm j = g.2.1 := by unfold dep; rw [hg]
  rw [h1]
  cases hb : g.1 with
  | none => exact Nat.succ_pos _
  | some b =>
    obtain ⟨h3, g', h4, h5⟩ := (hC j hj g hg).2 b hb
    show dep fm b + 1 < _
    have h2 : dep fm b = g'.2.1 := by unfold dep; rw [h4]
    omega
theorem sumN_mono {f : Nat → Nat} {a b : Nat} (h : a ≤ b) : sumN a f ≤ sumN b f := by
  induction b with
  | zero => rw [show a = 0 by omega]; exact Nat.le_refl _
  | succ b ihQ =>
    by_cases he : a = b + 1
    · subst he; exact Nat.le_refl _
    · exact Nat.le_trans (ihQ (by omega)) (Nat.le_add_right _ _)
abbrev lQ (px sa n k : Nat) (due : Nat) : vLT := [(0, some (.ref px)), (1, some (.ref sa)), (2, some (.int (nI n))), (3, some (.int (nI due))), (4, some (.int (nI k)))]
set_option maxRecDepth 100000 in
set_option maxHeartbeats 8000000 in
theorem c_L_isPruned (hl : l.stackTraces = false) (hw : w = jn v u) (hdQ : dj v u) (hP : PC G u px pI pO pX n ia nm ct lv lo fa fb O X cp ru) (hF : FW u n ia fa fm) (hSQ : SI n nm ct lv lo fm O X) (hsa : v sa = some (aI G 40 fs)) (hfs : ∀ i, i < n → fs i = nI (enc (lv i) (lo i) (dmg fm i))) : Met l yL_isPruned wsL_isPruned ({ frames := 16, cells := 720, slots := 4400, locals := 294 } : Room) (Pw G A w [.ref px, .ref sa, .int (nI n)]) (va_Qi (fun r w' => (∃ u' fs', dj (wup v sa (aI G 40 fs')) u' ∧ w' = jn (wup v sa (aI G 40 fs')) u' ∧ PC G u' px pI pO pX n ia nm ct lv (fun i => lo i && !rpk fm i) fa fb O X cp ru ∧ FW u' n ia fa fm ∧ ∀ i, i < n → fs' i = nI (enc (lv i) (lo i && !rpk fm i) (dmg fm i))) ∧ r = bI true) (Bw G A) A) 720 4400 A := by
  subst hw
  refine m_of (cc := cL_isPruned) (maxL := 7) (ret := (some .boolean)) (by decide) rfl (Nat.le_of_ble_eq_true rfl) ?_
  intro p e s m args below meth c hc hr hmn
  refine v_loc [(0, some (.ref px)), (1, some (.ref sa)), (2, some (.int (nI n)))] rfl ?_
  have hn := hP.n40
  have hC := hSQ.1.2.1
  have hps : ∀ i, i < n → ∀ g, fm i = some g → 0 < g.2.2.2.1 ∧ g.2.2.2.1 < 2 ^ 20 := fun i hiQ g hg => ⟨(hSQ.pos i hiQ g hg).1, (hSQ.pos i hiQ g hg).2.1⟩
  have hsb : ∀ k, k ≤ n → sumN k (fun i => b1 (lo i && rpk fm i)) ≤ 40 := fun k hk => Nat.le_trans (sumN_b1_le _ k) (by omega)
  refine v_iconst hc (v := nI 0) dL_isPruned_0 (by decide) ?_
  refine v_istore_n hc (i := 3) rfl dL_isPruned_1 (by decide) rfl ?_
  refine v_iconst hc (v := nI 0) dL_isPruned_2 (by decide) ?_
  refine v_istore hc dL_isPruned_3 (by decide) rfl ?_
  refine v_w (show _ = jn (wup v sa (aI G 40 fs)) u by rw [wup_same hsa]) ?_
  refine v_widen (k' := 0 * 17) (n' := 0 * 102) (by omega) (by omega) ?_
  refine v_loop (σ := Nat × (Nat → Int32)) (fun a => a.1 ≤ n ∧ ∀ i, i < n → a.2 i = nI (enc (lv i) (cond (decide (i < a.1)) (lo i && !rpk fm i) (lo i)) (dmg fm i))) (fun a => n - a.1) (fun a => jn (wup v sa (aI G 40 a.2)) u) (fun a => a.1 * 17) (fun a => a.1 * 102) (fun a => lQ px sa n a.1 (sumN a.1 (fun i => b1 (lo i && rpk fm i)))) (0, fs) rfl ⟨Nat.zero_le _, fun i hiQ => by dsimp only; rw [hfs i hiQ, decide_eq_false (Nat.not_lt_zero i)]; rfl⟩ ?_
  rintro ⟨k, f⟩ ⟨hk0, hf⟩ ihQ
  dsimp only at hk0 hf ihQ ⊢
  have hdQ := dj_up (e := aI G 40 f) hdQ hsa
  have hP1 := hP.le (wle_r hdQ)
  have hF1 := hF.le (wle_r hdQ)
  have hsk := hsb k hk0
  refine v_iload hc dL_isPruned_5 rfl ?_
  refine v_iload_n hc (i := 2) rfl dL_isPruned_7 rfl ?_
  refine v_icmp_geN hc (tgt := 120) dL_isPruned_8 (by decide) (by omega) (by omega) (fun hk => ?_) (fun hk => ?_)
  · have e : k = n := by omega
    subst e
    first | refine v_aload_n hc (i := 0) rfl dL_isPruned_120 rfl ?_ | refine v_aload_nN hc (i := 0) rfl dL_isPruned_120 rfl ?_
    refine v_callVi hc (c_X3_cost hP1 hF1) (cwV 0 hc.1.2.2.2.2 gL_isPruned_X3_cost rfl rfl rfl (by decide +kernel) ⟨Nat.le_of_ble_eq_true rfl, Nat.le_of_ble_eq_true rfl⟩) (hP1.1) rfl rfl rfl (Nat.le_of_ble_eq_true rfl) ⟨(by first | exact Nat.le_of_ble_eq_true rfl | omega | (dsimp only; omega) | (show _ ≤ 600130; omega) | (show _ ≤ 7301080; omega)), (by first | exact Nat.le_of_ble_eq_true rfl | omega | (dsimp only; omega) | (show _ ≤ 600130; omega) | (show _ ≤ 7301080; omega))⟩ dL_isPruned_121 (fun r w' h => ?_)
    obtain ⟨rfl, rfl⟩ := h
    refine v_istore hc dL_isPruned_124 (by decide) rfl ?_
    first | refine v_aload_n hc (i := 0) rfl dL_isPruned_126 rfl ?_ | refine v_aload_nN hc (i := 0) rfl dL_isPruned_126 rfl ?_
    refine v_frVi hc hdQ (c_X3_prune hP hF hC) (cwV 0 hc.1.2.2.2.2 gL_isPruned_X3_prune rfl rfl rfl (by decide +kernel) ⟨Nat.le_of_ble_eq_true rfl, Nat.le_of_ble_eq_true rfl⟩) (hP.1) rfl rfl rfl (Nat.le_of_ble_eq_true rfl) ⟨(by first | exact Nat.le_of_ble_eq_true rfl | omega | (dsimp only; omega) | (show _ ≤ 600130; omega) | (show _ ≤ 7301080; omega)), (by first | exact Nat.le_of_ble_eq_true rfl | omega | (dsimp only; omega) | (show _ ≤ 600130; omega) | (show _ ≤ 7301080; omega))⟩ dL_isPruned_127 (fun r u2 h hd2 => ?_)
    obtain ⟨hP2, hF2, rfl⟩ := h
    refine v_iload_n hc (i := 3) rfl dL_isPruned_130 rfl ?_
    refine v_icmp_ne hc (tgt := 154) dL_isPruned_131 (by decide) (fun hb => False.elim (hb rfl)) (fun _ => ?_)
    have hP3 := hP2.le (wle_r hd2)
    have hF3 := hF2.le (wle_r hd2)
    first | refine v_aload_n hc (i := 0) rfl dL_isPruned_134 rfl ?_ | refine v_aload_nN hc (i := 0) rfl dL_isPruned_134 rfl ?_
    refine v_callVi hc (c_X3_cost hP3 hF3) (cwV 0 hc.1.2.2.2.2 gL_isPruned_X3_cost rfl rfl rfl (by decide +kernel) ⟨Nat.le_of_ble_eq_true rfl, Nat.le_of_ble_eq_true rfl⟩) (hP3.1) rfl rfl rfl (Nat.le_of_ble_eq_true rfl) ⟨(by first | exact Nat.le_of_ble_eq_true rfl | omega | (dsimp only; omega) | (show _ ≤ 600130; omega) | (show _ ≤ 7301080; omega)), (by first | exact Nat.le_of_ble_eq_true rfl | omega | (dsimp only; omega) | (show _ ≤ 600130; omega) | (show _ ≤ 7301080; omega))⟩ dL_isPruned_135 (fun r w' h => ?_)
    obtain ⟨rfl, rfl⟩ := h
    refine v_iload hc dL_isPruned_138 rfl ?_
    refine v_icmp_ne hc (tgt := 154) dL_isPruned_140 (by decide) (fun hb => False.elim (hb rfl)) (fun _ => ?_)
    have hdQ := hd2
    first | refine v_aload_n hc (i := 0) rfl dL_isPruned_143 rfl ?_ | refine v_aload_nN hc (i := 0) rfl dL_isPruned_143 rfl ?_
    refine v_frVi hc hdQ (c_X3_prune hP2 hF2 hC) (cwV 0 hc.1.2.2.2.2 gL_isPruned_X3_prune rfl rfl rfl (by decide +kernel) ⟨Nat.le_of_ble_eq_true rfl, Nat.le_of_ble_eq_true rfl⟩) (hP2.1) rfl rfl rfl (Nat.le_of_ble_eq_true rfl) ⟨(by first | exact Nat.le_of_ble_eq_true rfl | omega | (dsimp only; omega) | (show _ ≤ 600130; omega) | (show _ ≤ 7301080; omega)), (by first | exact Nat.le_of_ble_eq_true rfl | omega | (dsimp only; omega) | (show _ ≤ 600130; omega) | (show _ ≤ 7301080; omega))⟩ dL_isPruned_144 (fun r u3 h hd3 => ?_)
    obtain ⟨hP4, hF4, rfl⟩ := h
    refine v_ti (show _ = nI 0 by rw [sumN_z (fun i _ => by cases lo i <;> cases rpk fm i <;> rfl)]) ?_
    refine v_if_ne hc (tgt := 154) dL_isPruned_147 (by decide) (fun hb => False.elim (absurd hb (by decide))) (fun _ => ?_)
    refine v_iconst hc (v := nI 1) dL_isPruned_150 (by decide) ?_
    refine v_goto hc (tgt := 155) dL_isPruned_151 (by decide) ?_
    have hlo : (fun i => (lo i && !rpk fm i) && !rpk fm i) = (fun i => lo i && !rpk fm i) := funext (fun i => by cases lo i <;> cases rpk fm i <;> rfl)
    rw [hlo] at hP4
    exact v_zret hc hr dL_isPruned_155 (by first | exact Nat.le_of_ble_eq_true rfl | omega | (dsimp only; omega) | (show _ ≤ 600130; omega) | (show _ ≤ 7301080; omega)) (by first | exact Nat.le_of_ble_eq_true rfl | omega | (dsimp only; omega) | (show _ ≤ 600130; omega) | (show _ ≤ 7301080; omega)) (by first | rfl | exact bI_nar _) (⟨⟨u3, f, hd3, rfl, hP4, hF4, fun i hiQ => by rw [hf i hiQ, decide_eq_true hiQ]; rfl⟩, rfl⟩)
  · have hkf : f k = nI (enc (lv k) (lo k) (dmg fm k)) := by rw [hf k hk, decide_eq_false (Nat.lt_irrefl k)]; rfl
    have hf4 : ∀ j, j < n → f j / nI 4 = nI (b1 (dmg fm j)) := fun j hj => by rw [hf j hj, e_div4]
    have hsv : jn (wup v sa (aI G 40 f)) u sa = some (aI G 40 f) := jn_l (wup_s _ _ _)
    first | refine v_aload_n hc (i := 0) rfl dL_isPruned_11 rfl ?_ | refine v_aload_nN hc (i := 0) rfl dL_isPruned_11 rfl ?_
    refine v_iload hc dL_isPruned_12 rfl ?_
    refine v_callSi hc (q_hasForm hl hP1 hF1 hps hk) (va_cwS 2 hc.1.2.2.2.2 gL_isPruned_L_hasForm rfl rfl rfl (by decide +kernel) ⟨Nat.le_of_ble_eq_true rfl, Nat.le_of_ble_eq_true rfl⟩) rfl rfl (Nat.le_of_ble_eq_true rfl) ⟨(by first | exact Nat.le_of_ble_eq_true rfl | omega | (dsimp only; omega) | (show _ ≤ 600130; omega) | (show _ ≤ 7301080; omega)), (by first | exact Nat.le_of_ble_eq_true rfl | omega | (dsimp only; omega) | (show _ ≤ 600130; omega) | (show _ ≤ 7301080; omega))⟩ dL_isPruned_14 (fun r w' h => ?_)
    obtain ⟨rfl, rfl⟩ := h
    refine v_istore hc dL_isPruned_17 (by decide) rfl ?_
    refine v_iload hc dL_isPruned_19 rfl ?_
    refine v_istore hc dL_isPruned_21 (by decide) rfl ?_
    refine v_cut (k * 17 + 17) (k * 102 + 102) 60 (lQ px sa n k (sumN k (fun i => b1 (lo i && rpk fm i))) ++ [(5, some (.int (bI (rpk fm k))))]) [] ?_ (fun KQ => ?_)
    · refine v_iload_n hc (i := 3) rfl dL_isPruned_60 rfl ?_
      refine v_iload hc dL_isPruned_61 rfl ?_
      refine v_cut (k * 17 + 17) (k * 102 + 102) 83 (lQ px sa n k (sumN k (fun i => b1 (lo i && rpk fm i))) ++ [(5, some (.int (bI (rpk fm k))))]) [.int (nI (b1 (lo k && rpk fm k))), .int (nI (sumN k (fun i => b1 (lo i && rpk fm i))))] ?_ (fun KQ => ?_)
      · first | refine v_iaddN hc dL_isPruned_83 ?_ | refine v_iadd hc dL_isPruned_83 ?_
        refine v_istore_n hc (i := 3) rfl dL_isPruned_84 (by decide) rfl ?_
        refine v_loc (lQ px sa n k (sumN (k + 1) (fun i => b1 (lo i && rpk fm i))) ++ [(5, some (.int (bI (rpk fm k))))]) rfl ?_
        first | refine v_aload_n hc (i := 1) rfl dL_isPruned_85 rfl ?_ | refine v_aload_nN hc (i := 1) rfl dL_isPruned_85 rfl ?_
        refine v_iload hc dL_isPruned_86 rfl ?_
        refine v_dup2 hc dL_isPruned_88 rfl rfl ?_
        refine v_iald hc k dL_isPruned_89 hsv rfl (by omega) (by decide) ?_
        rw [hkf]
        refine v_iload hc dL_isPruned_90 rfl ?_
        refine v_cut (k * 17 + 17) (k * 102 + 102) 112 (lQ px sa n k (sumN (k + 1) (fun i => b1 (lo i && rpk fm i)))) [.int (nI (2 * b1 (lo k && rpk fm k))), .int (nI (enc (lv k) (lo k) (dmg fm k))), .int (nI k), .ref sa] ?_ (fun KQ => ?_)
        · refine v_isub hc dL_isPruned_112 ?_
          refine v_ti (e_sub2 _ _ _ _) ?_
          refine v_iast hc k dL_isPruned_113 hsv rfl (by omega) (by decide) ?_
          refine v_w (show _ = jn (wup v sa (aI G 40 (va_up f k (nI (enc (lv k) (lo k && !rpk fm k) (dmg fm k)))))) u by rw [jn_upl, wup_up]) ?_
          first | refine v_iinc1 hc dL_isPruned_114 rfl (by decide) rfl ?_ | refine v_iinc hc dL_isPruned_114 rfl rfl (by decide) rfl ?_
          refine v_goto hc (tgt := 5) dL_isPruned_117 (by decide) ?_
          refine v_widen (k' := (k + 1) * 17) (n' := (k + 1) * 102) (by omega) (by omega) ?_
          refine ihQ (k + 1, va_up f k (nI (enc (lv k) (lo k && !rpk fm k) (dmg fm k)))) _ rfl ⟨hk, fun i hiQ => ?_⟩ (by dsimp only; omega)
          dsimp only
          by_cases hik : i = k
          · subst hik
            rw [va_up_self, decide_eq_true (Nat.lt_succ_self i)]; rfl
          · rw [up_n hik, hf i hiQ]
            by_cases h9 : i < k
            · rw [decide_eq_true h9, decide_eq_true (by omega)]
            · rw [decide_eq_false h9, decide_eq_false (by omega)]
        · cases hr : rpk fm k with
          | false =>
            rw [hr, Bool.and_false] at KQ
            refine v_ifB_eq hc (tgt := 111) dL_isPruned_92 (by decide) (fun _ => ?_) (fun hb => False.elim (Bool.false_ne_true hb))
            refine v_iconst hc (v := nI 0) dL_isPruned_111 (by decide) ?_
            exact v_widen (by first | omega | exact Nat.le_of_ble_eq_true rfl | (dsimp only; omega)) (by first | omega | exact Nat.le_of_ble_eq_true rfl | (dsimp only; omega)) (v_loc _ rfl KQ)
          | true =>
            rw [hr, Bool.and_true] at KQ
            refine v_ifB_eq hc (tgt := 111) dL_isPruned_92 (by decide) (fun hb => False.elim (Bool.false_ne_true hb.symm)) (fun _ => ?_)
            first | refine v_aload_n hc (i := 1) rfl dL_isPruned_95 rfl ?_ | refine v_aload_nN hc (i := 1) rfl dL_isPruned_95 rfl ?_
            refine v_iload hc dL_isPruned_96 rfl ?_
            refine v_iald hc k dL_isPruned_98 hsv rfl (by omega) (by decide) ?_
            rw [hkf]
            refine v_iconst hc (v := nI 2) dL_isPruned_99 (by decide) ?_
            refine v_idiv hc (by decide) dL_isPruned_100 ?_
            refine v_ti e_idiv ?_
            refine v_iconst hc (v := nI 2) dL_isPruned_101 (by decide) ?_
            refine v_irem hc (by decide) dL_isPruned_102 ?_
            refine v_ti e_irem2 ?_
            refine v_iconst hc (v := nI 1) dL_isPruned_103 (by decide) ?_
            cases hok : lo k with
            | true =>
              rw [hok] at KQ
              refine v_icmp_ne hc (tgt := 111) dL_isPruned_104 (by decide) (fun hb => False.elim (hb rfl)) (fun _ => ?_)
              refine v_iconst hc (v := nI 2) dL_isPruned_107 (by decide) ?_
              refine v_goto hc (tgt := 112) dL_isPruned_108 (by decide) ?_
              exact v_widen (by first | omega | exact Nat.le_of_ble_eq_true rfl | (dsimp only; omega)) (by first | omega | exact Nat.le_of_ble_eq_true rfl | (dsimp only; omega)) (v_loc _ rfl KQ)
            | false =>
              rw [hok] at KQ
              refine v_icmp_ne hc (tgt := 111) dL_isPruned_104 (by decide) (fun _ => ?_) (fun hb => False.elim (absurd hb (by decide)))
              refine v_iconst hc (v := nI 0) dL_isPruned_111 (by decide) ?_
              exact v_widen (by first | omega | exact Nat.le_of_ble_eq_true rfl | (dsimp only; omega)) (by first | omega | exact Nat.le_of_ble_eq_true rfl | (dsimp only; omega)) (v_loc _ rfl KQ)
      · cases hr : rpk fm k with
        | false =>
          rw [hr, Bool.and_false] at KQ
          refine v_ifB_eq hc (tgt := 82) dL_isPruned_63 (by decide) (fun _ => ?_) (fun hb => False.elim (Bool.false_ne_true hb))
          refine v_iconst hc (v := nI 0) dL_isPruned_82 (by decide) ?_
          exact v_widen (by first | omega | exact Nat.le_of_ble_eq_true rfl | (dsimp only; omega)) (by first | omega | exact Nat.le_of_ble_eq_true rfl | (dsimp only; omega)) (v_loc _ rfl KQ)
        | true =>
          rw [hr, Bool.and_true] at KQ
          refine v_ifB_eq hc (tgt := 82) dL_isPruned_63 (by decide) (fun hb => False.elim (Bool.false_ne_true hb.symm)) (fun _ => ?_)
          first | refine v_aload_n hc (i := 1) rfl dL_isPruned_66 rfl ?_ | refine v_aload_nN hc (i := 1) rfl dL_isPruned_66 rfl ?_
          refine v_iload hc dL_isPruned_67 rfl ?_
          refine v_iald hc k dL_isPruned_69 hsv rfl (by omega) (by decide) ?_
          rw [hkf]
          refine v_iconst hc (v := nI 2) dL_isPruned_70 (by decide) ?_
          refine v_idiv hc (by decide) dL_isPruned_71 ?_
          refine v_ti e_idiv ?_
          refine v_iconst hc (v := nI 2) dL_isPruned_72 (by decide) ?_
          refine v_irem hc (by decide) dL_isPruned_73 ?_
          refine v_ti e_irem2 ?_
          refine v_iconst hc (v := nI 1) dL_isPruned_74 (by decide) ?_
          cases hok : lo k with
          | true =>
            rw [hok] at KQ
            refine v_icmp_ne hc (tgt := 82) dL_isPruned_75 (by decide) (fun hb => False.elim (hb rfl)) (fun _ => ?_)
            refine v_iconst hc (v := nI 1) dL_isPruned_78 (by decide) ?_
            refine v_goto hc (tgt := 83) dL_isPruned_79 (by decide) ?_
            exact v_widen (by first | omega | exact Nat.le_of_ble_eq_true rfl | (dsimp only; omega)) (by first | omega | exact Nat.le_of_ble_eq_true rfl | (dsimp only; omega)) (v_loc _ rfl KQ)
          | false =>
            rw [hok] at KQ
            refine v_icmp_ne hc (tgt := 82) dL_isPruned_75 (by decide) (fun _ => ?_) (fun hb => False.elim (absurd hb (by decide)))
            refine v_iconst hc (v := nI 0) dL_isPruned_82 (by decide) ?_
            exact v_widen (by first | omega | exact Nat.le_of_ble_eq_true rfl | (dsimp only; omega)) (by first | omega | exact Nat.le_of_ble_eq_true rfl | (dsimp only; omega)) (v_loc _ rfl KQ)
    · have hc7 := clen_7 hC hk
      refine v_widen (k' := k * 17 + 3 + (7 - 7) * 2) (n' := k * 102 + 18 + (7 - 7) * 12) (by omega) (by omega) ?_
      refine v_loop (σ := Option Nat × Bool × Nat) (fun a => (∀ j, a.1 = some j → j < n ∧ (a.2.1 = true → ∃ gj, fm j = some gj)) ∧ (a.2.1 && rpo fm a.1) = rpk fm k ∧ clen fm a.1 ≤ a.2.2 ∧ a.2.2 ≤ 7) (fun a => a.2.2) (fun _ => jn (wup v sa (aI G 40 f)) u) (fun a => k * 17 + 3 + (7 - a.2.2) * 2) (fun a => k * 102 + 18 + (7 - a.2.2) * 12) (fun a => lQ px sa n k (sumN k (fun i => b1 (lo i && rpk fm i))) ++ [(5, some (.int (bI a.2.1))), (6, some (.int (nIo a.1)))]) (some k, (fm k).isSome, 7) rfl ⟨fun j hj => by cases hj; exact ⟨hk, fun h9 => by cases hg : fm k with | none => rw [hg] at h9; cases h9 | some g => exact ⟨g, rfl⟩⟩, by
        cases hg : fm k with
        | none => rw [rpk_none hg]; rfl
        | some g => rfl, hc7, Nat.le_refl _⟩ ?_
      rintro ⟨at', sd, cl⟩ ⟨hI1, hI2, hI3, hI4⟩ ih2
      dsimp only at hI1 hI2 hI3 hI4 ih2 ⊢
      refine v_iload hc dL_isPruned_23 rfl ?_
      cases sd with
      | false =>
        rw [← hI2] at KQ
        refine v_ifB_eq hc (tgt := 60) dL_isPruned_25 (by decide) (fun _ => ?_) (fun hb => False.elim (Bool.false_ne_true hb))
        exact v_widen (by first | omega | exact Nat.le_of_ble_eq_true rfl | (dsimp only; omega)) (by first | omega | exact Nat.le_of_ble_eq_true rfl | (dsimp only; omega)) (v_loc _ rfl KQ)
      | true =>
        refine v_ifB_eq hc (tgt := 60) dL_isPruned_25 (by decide) (fun hb => False.elim (Bool.false_ne_true hb.symm)) (fun _ => ?_)
        refine v_iload hc dL_isPruned_28 rfl ?_
        cases at' with
        | none =>
          rw [← hI2] at KQ
          refine v_ti (show _ = (-1 : Int32) from rfl) ?_
          refine v_if_lt hc (tgt := 60) dL_isPruned_30 (by decide) (fun _ => ?_) (fun hb => False.elim (absurd hb (by decide)))
          exact v_widen (by first | omega | exact Nat.le_of_ble_eq_true rfl | (dsimp only; omega)) (by first | omega | exact Nat.le_of_ble_eq_true rfl | (dsimp only; omega)) (v_loc _ rfl KQ)
        | some j =>
          obtain ⟨hj, hj2⟩ := hI1 j rfl
          obtain ⟨gj, hgj⟩ := hj2 rfl
          have hdn := clen_dn hC hj hgj
          refine v_ti (show _ = nI j from rfl) ?_
          refine v_if_ltN hc (tgt := 60) dL_isPruned_30 (by decide) (by omega) (fun hb => False.elim (hb)) (fun _ => ?_)
          first | refine v_aload_n hc (i := 1) rfl dL_isPruned_33 rfl ?_ | refine v_aload_nN hc (i := 1) rfl dL_isPruned_33 rfl ?_
          refine v_iload hc dL_isPruned_34 rfl ?_
          refine v_iald hc j dL_isPruned_36 hsv rfl (by omega) (by decide) ?_
          refine v_iconst hc (v := nI 4) dL_isPruned_37 (by decide) ?_
          refine v_idiv hc (by decide) dL_isPruned_38 ?_
          refine v_ti (hf4 j hj) ?_
          refine v_cut (k * 17 + 3 + (7 - cl) * 2) (k * 102 + 18 + (7 - cl) * 12) 47 (lQ px sa n k (sumN k (fun i => b1 (lo i && rpk fm i))) ++ [(6, some (.int (nI j)))]) [.int (bI (!dmg fm j))] ?_ (fun K2 => ?_)
          · refine v_istore hc dL_isPruned_47 (by decide) rfl ?_
            first | refine v_aload_n hc (i := 0) rfl dL_isPruned_49 rfl ?_ | refine v_aload_nN hc (i := 0) rfl dL_isPruned_49 rfl ?_
            refine v_iload hc dL_isPruned_50 rfl ?_
            refine v_callVi hc (q_base hl hP1 hF1 hC hj hgj) (cwV 1 hc.1.2.2.2.2 gL_isPruned_X3_base rfl rfl rfl (by decide +kernel) ⟨Nat.le_of_ble_eq_true rfl, Nat.le_of_ble_eq_true rfl⟩) (hP1.1) rfl rfl rfl (Nat.le_of_ble_eq_true rfl) ⟨(by first | exact Nat.le_of_ble_eq_true rfl | omega | (dsimp only; omega) | (show _ ≤ 600130; omega) | (show _ ≤ 7301080; omega)), (by first | exact Nat.le_of_ble_eq_true rfl | omega | (dsimp only; omega) | (show _ ≤ 600130; omega) | (show _ ≤ 7301080; omega))⟩ dL_isPruned_52 (fun r w' h => ?_)
            obtain ⟨rfl, rfl⟩ := h
            refine v_istore hc dL_isPruned_55 (by decide) rfl ?_
            refine v_goto hc (tgt := 23) dL_isPruned_57 (by decide) ?_
            refine v_widen (k' := k * 17 + 3 + (7 - (cl - 1)) * 2) (n' := k * 102 + 18 + (7 - (cl - 1)) * 12) (by omega) (by omega) ?_
            refine ih2 (gj.1, !dmg fm j, cl - 1) _ rfl ⟨fun b hb => ?_, ?_, by dsimp only; omega, by dsimp only; omega⟩ (by dsimp only; omega)
            · obtain ⟨h3, g', h4, -⟩ := (hC j hj gj hgj).2 b hb
              exact ⟨h3, fun _ => ⟨g', h4⟩⟩
            · dsimp only
              rw [← hI2]
              show _ = (true && rpk fm j)
              rw [Bool.true_and, rpk_some hC hj hgj, show dmg fm j = gj.2.2.2.2 by unfold dmg; rw [hgj]]
          · cases hdm : dmg fm j with
            | true =>
              rw [hdm] at K2
              refine v_if_ne hc (tgt := 46) dL_isPruned_39 (by decide) (fun _ => ?_) (fun hb => False.elim (absurd hb (by decide)))
              refine v_iconst hc (v := nI 0) dL_isPruned_46 (by decide) ?_
              exact v_widen (by first | omega | exact Nat.le_of_ble_eq_true rfl | (dsimp only; omega)) (by first | omega | exact Nat.le_of_ble_eq_true rfl | (dsimp only; omega)) (v_loc _ rfl K2)
            | false =>
              rw [hdm] at K2
              refine v_if_ne hc (tgt := 46) dL_isPruned_39 (by decide) (fun hb => False.elim (absurd hb (by decide))) (fun _ => ?_)
              refine v_iconst hc (v := nI 1) dL_isPruned_42 (by decide) ?_
              refine v_goto hc (tgt := 47) dL_isPruned_43 (by decide) ?_
              exact v_widen (by first | omega | exact Nat.le_of_ble_eq_true rfl | (dsimp only; omega)) (by first | omega | exact Nat.le_of_ble_eq_true rfl | (dsimp only; omega)) (v_loc _ rfl K2)
end LW5

