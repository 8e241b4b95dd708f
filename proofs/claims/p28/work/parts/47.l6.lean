/-! ===== the law damages ===== -/
abbrev lD (px sa n t k : Nat) (can : Bool) (due rd : Nat) : vLT := [(0, some (.ref px)), (1, some (.ref sa)), (2, some (.int (nI n))), (3, some (.int (nI t))), (4, some (.int (bI can))), (5, some (.int (nI due))), (6, some (.int (nI rd))), (7, some (.int (nI k)))]
section LW6
variable {l : Launch} {G : cG} {A : Nat → Prop} {w v u : wd} {px pI pO pX n ca na sa : Nat} {ia : Nat → Nat} {nm : Nat → Int32} {ct fc : Nat → Int64} {fn fs : Nat → Int32} {lv lo : Nat → Bool} {fa fb : Nat → Option Nat} {fm : Nat → Option Frm} {O X : List Nat} {cp ru : Int32}
/-- the damaging call itself, within its range -/
theorem q_damage (hl : l.stackTraces = false) (hP : PC G w px pI pO pX n ia nm ct lv lo fa fb O X cp ru) (hF : FW w n ia fa fm) (hC : CH n fm) (hJ : FJ n fa) {i : Nat} {g : Frm} (hiQ : i < n) (hg : fm i = some g) (hdQ : g.2.2.2.2 = false) : Met l yL_of wsL_of ({ frames := 14, cells := 3, slots := 18, locals := 250 } : Room) (Pw G A w [.ref px, .int (nI 1), .int (nI i)]) (va_Qi (fun r w' => PC G w' px pI pO pX n ia nm ct lv lo fa fb O X cp ru ∧ FW w' n ia fa (va_up fm i (some (dmgF g))) ∧ r = nI (sumL (fun j => b1 (rpk fm j)) O) - nI (sumL (fun j => b1 (rpk (va_up fm i (some (dmgF g))) j)) O)) (Bw G A) A) 3 18 A := c_L_of1 hP.1 _ (c_X3_damage hl hP hF hC hJ _) (fun r w' h => by
  obtain ⟨j, g', hj, e, hg', hf, hP2, hF2, rfl⟩ := h
  obtain rfl := nI_inj hP.n40 hiQ hj e
  rw [hg] at hg'; cases hg'
  exact ⟨hP2, hF2, rfl⟩) (fun E w' h => by
  rcases h with ⟨rfl, ⟨rfl, h⟩ | ⟨rfl, j, hj, e, h⟩⟩
  · exact (isO_f hP.n40 h hiQ rfl).elim
  · obtain rfl := nI_inj hP.n40 hiQ hj e
    rcases h with h | ⟨g', h, h2⟩
    · rw [hg] at h; cases h
    · rw [hg] at h; cases h; rw [hdQ] at h2; cases h2)
/-- what a damage costs -/
theorem dam_sum (hI : INV n ct fm O X) {t : Nat} {g : Frm} (hg : fm t = some g) : sumL (fun j => b1 (rpk fm j)) O = sumL (fun j => b1 (rpk (va_up fm t (some (dmgF g))) j)) O + sumN n (fun j => b1 (rpk fm j && ovr fm t j)) := by
  rw [sumL_addM (L := O) (fun j _ => rpk_split hg j)]
  congr 1
  exact sumO hI _ (fun i hiQ => by rw [rpk_none hiQ]; rfl)
theorem rdb_dam {t : Nat} {g : Frm} (hg : fm t = some g) (k : Nat) : b1 (rdb lv lo fm k) ≤ b1 (rdb lv lo (va_up fm t (some (dmgF g))) k) + b1 (rpk fm k && ovr fm t k) ∧ b1 (rdb lv lo (va_up fm t (some (dmgF g))) k) ≤ b1 (rdb lv lo fm k) := by
  unfold rdb
  rw [rpk_dm hg k]
  cases lv k <;> cases lo k <;> cases rpk fm k <;> cases ovr fm t k <;> decide
theorem dmg_dam {t : Nat} {g : Frm} (k : Nat) : dmg (va_up fm t (some (dmgF g))) k = (dmg fm k || decide (k = t)) := by
  by_cases h : k = t
  · subst h
    rw [decide_eq_true rfl, Bool.or_true]
    unfold dmg; rw [va_up_self]; rfl
  · rw [decide_eq_false h, Bool.or_false]
    unfold dmg; rw [up_n h]
set_option maxRecDepth 100000 in
set_option maxHeartbeats 8000000 in
theorem c_L_isDamaged (hl : l.stackTraces = false) (hw : w = jn v u) (hdQ : dj v u) (hP : PC G u px pI pO pX n ia nm ct lv lo fa fb O X cp ru) (hF : FW u n ia fa fm) (hJ : FJ n fa) (hSQ : SI n nm ct lv lo fm O X) (hsa : v sa = some (aI G 40 fs)) (hfs : ∀ i, i < n → fs i = nI (enc (lv i) (lo i) (dmg fm i))) {t : Nat} (ht : t < n) : Met l yL_isDamaged wsL_isDamaged ({ frames := 16, cells := 820, slots := 4900, locals := 294 } : Room) (Pw G A w [.ref px, .ref sa, .int (nI n), .int (nI t)]) (va_Qi (fun r w' => (∃ u' fs' fm', dj (wup v sa (aI G 40 fs')) u' ∧ w' = jn (wup v sa (aI G 40 fs')) u' ∧ PC G u' px pI pO pX n ia nm ct lv lo fa fb O X cp ru ∧ FW u' n ia fa fm' ∧ SI n nm ct lv lo fm' O X ∧ ∀ i, i < n → fs' i = nI (enc (lv i) (lo i) (dmg fm' i))) ∧ r = bI true) (Bw G A) A) 820 4900 A := by
  subst hw
  refine m_of (cc := cL_isDamaged) (maxL := 11) (ret := (some .boolean)) (by decide) rfl (Nat.le_of_ble_eq_true rfl) ?_
  intro p e s m args below meth c hc hr hmn
  refine v_loc [(0, some (.ref px)), (1, some (.ref sa)), (2, some (.int (nI n))), (3, some (.int (nI t)))] rfl ?_
  have hn := hP.n40
  have hC := hSQ.1.2.1
  have hps : ∀ i, i < n → ∀ g, fm i = some g → 0 < g.2.2.2.1 ∧ g.2.2.2.1 < 2 ^ 20 := fun i hiQ g hg => ⟨(hSQ.pos i hiQ g hg).1, (hSQ.pos i hiQ g hg).2.1⟩
  have hP1 := hP.le (wle_r hdQ)
  have hF1 := hF.le (wle_r hdQ)
  have hsv : jn v u sa = some (aI G 40 fs) := jn_l hsa
  have hf4 : ∀ j, j < n → fs j / nI 4 = nI (b1 (dmg fm j)) := fun j hj => by rw [hfs j hj, e_div4]
  have hsd : ∀ k, k ≤ n → sumN k (fun i => b1 (rpk fm i && ovr fm t i)) ≤ 40 := fun k hk => Nat.le_trans (sumN_b1_le _ k) (by omega)
  have hsr : ∀ k, k ≤ n → sumN k (fun i => b1 (rdb lv lo fm i)) ≤ 40 := fun k hk => Nat.le_trans (sumN_b1_le _ k) (by omega)
  obtain ⟨can, hcan⟩ : ∃ can : Bool, can = ((fm t).isSome && !dmg fm t) := ⟨_, rfl⟩
  first | refine v_aload_n hc (i := 0) rfl dL_isDamaged_0 rfl ?_ | refine v_aload_nN hc (i := 0) rfl dL_isDamaged_0 rfl ?_
  refine v_iload_n hc (i := 3) rfl dL_isDamaged_1 rfl ?_
  refine v_callSi hc (q_hasForm hl hP1 hF1 hps ht) (va_cwS 2 hc.1.2.2.2.2 gL_isDamaged_L_hasForm rfl rfl rfl (by decide +kernel) ⟨Nat.le_of_ble_eq_true rfl, Nat.le_of_ble_eq_true rfl⟩) rfl rfl (Nat.le_of_ble_eq_true rfl) ⟨(by first | exact Nat.le_of_ble_eq_true rfl | omega | (dsimp only; omega) | (show _ ≤ 600130; omega) | (show _ ≤ 7301080; omega)), (by first | exact Nat.le_of_ble_eq_true rfl | omega | (dsimp only; omega) | (show _ ≤ 600130; omega) | (show _ ≤ 7301080; omega))⟩ dL_isDamaged_2 (fun r w' h => ?_)
  obtain ⟨rfl, rfl⟩ := h
  refine v_cut 3 18 20 [(0, some (.ref px)), (1, some (.ref sa)), (2, some (.int (nI n))), (3, some (.int (nI t)))] [.int (bI can)] ?_ (fun KQ => ?_)
  · refine v_istore hc dL_isDamaged_20 (by decide) rfl ?_
    refine v_iconst hc (v := nI 0) dL_isDamaged_22 (by decide) ?_
    refine v_istore hc dL_isDamaged_23 (by decide) rfl ?_
    refine v_iconst hc (v := nI 0) dL_isDamaged_25 (by decide) ?_
    refine v_istore hc dL_isDamaged_26 (by decide) rfl ?_
    refine v_iconst hc (v := nI 0) dL_isDamaged_28 (by decide) ?_
    refine v_istore hc dL_isDamaged_29 (by decide) rfl ?_
    refine v_widen (k' := 3 + 0 * 18) (n' := 18 + 0 * 108) (by omega) (by omega) ?_
    refine v_loop (σ := Nat) (fun k => k ≤ n) (fun k => n - k) (fun _ => jn v u) (fun k => 3 + k * 18) (fun k => 18 + k * 108) (fun k => lD px sa n t k can (sumN k (fun i => b1 (rpk fm i && ovr fm t i))) (sumN k (fun i => b1 (rdb lv lo fm i)))) 0 rfl (Nat.zero_le _) ?_
    intro k hk0 ihQ
    have hsd1 := hsd k hk0
    have hsr1 := hsr k hk0
    refine v_iload hc dL_isDamaged_31 rfl ?_
    refine v_iload_n hc (i := 2) rfl dL_isDamaged_33 rfl ?_
    refine v_icmp_geN hc (tgt := 152) dL_isDamaged_34 (by decide) (by omega) (by omega) (fun hk => ?_) (fun hk => ?_)
    · have e : k = n := by omega
      subst e
      refine v_cutS (σ := wd × (Nat → Option Frm) × Int32) (fun a => dj v a.1 ∧ PC G a.1 px pI pO pX k ia nm ct lv lo fa fb O X cp ru ∧ FW a.1 k ia fa a.2.1 ∧ SI k nm ct lv lo a.2.1 O X ∧ (∀ i, i < k → dmg a.2.1 i = (dmg fm i || (can && decide (i = t)))) ∧ a.2.2 = cond can (nI (sumN k (fun i => b1 (rpk fm i && ovr fm t i)))) (-103) ∧ (∀ i, b1 (rdb lv lo a.2.1 i) ≤ b1 (rdb lv lo fm i)) ∧ sumN k (fun i => b1 (rdb lv lo fm i)) ≤ sumN k (fun i => b1 (rdb lv lo a.2.1 i)) + cond can (sumN k (fun i => b1 (rpk fm i && ovr fm t i))) 0) (fun a => jn v a.1) (fun _ => 723 + 3) (fun _ => 4338 + 18) 160 (fun a => [(0, some (.ref px)), (1, some (.ref sa)), (2, some (.int (nI k))), (3, some (.int (nI t))), (4, some (.int (bI can))), (5, some (.int (nI (sumN k (fun i => b1 (rpk fm i && ovr fm t i)))))), (6, some (.int (nI (sumN k (fun i => b1 (rdb lv lo fm i)))))), (7, some (.int a.2.2))]) ?_ (fun KQ => ?_)
      · rintro ⟨u2, fm2, told⟩ ⟨hd2, hP2, hF2, hS2, hdm2, htold, hle, hsum⟩
        dsimp only at hd2 hP2 hF2 hS2 hdm2 htold hle hsum ⊢
        subst htold
        have hsv2 : jn v u2 sa = some (aI G 40 fs) := jn_l hsa
        have hmono : ∀ m, m ≤ k → sumN m (fun i => b1 (rdb lv lo fm2 i)) ≤ sumN k (fun i => b1 (rdb lv lo fm i)) := fun m hmQ => Nat.le_trans (sumN_mono hmQ) (sumN_le (fun i _ => hle i))
        first | refine v_aload_n hc (i := 1) rfl dL_isDamaged_160 rfl ?_ | refine v_aload_nN hc (i := 1) rfl dL_isDamaged_160 rfl ?_
        refine v_iload_n hc (i := 3) rfl dL_isDamaged_161 rfl ?_
        refine v_dup2 hc dL_isDamaged_162 rfl rfl ?_
        refine v_iald hc t dL_isDamaged_163 hsv2 rfl (by omega) (by decide) ?_
        rw [hfs t ht]
        refine v_iload hc dL_isDamaged_164 rfl ?_
        refine v_selI hc (x := nI 4) (y := nI 0) (tgt := 173) 174 dL_isDamaged_166 (by decide) (fun KQ => by refine v_iconst hc (v := nI 4) dL_isDamaged_169 (by decide) ?_; exact v_goto hc (tgt := 174) dL_isDamaged_170 (by decide) KQ) (fun KQ => by exact v_iconst hc (v := nI 0) dL_isDamaged_173 (by decide) KQ) ?_
        first | refine v_iaddN hc dL_isDamaged_174 ?_ | refine v_iadd hc dL_isDamaged_174 ?_
        refine v_ti (e_add4 _ _ _ can (fun z => by rw [hcan] at z; cases hx : dmg fm t with | false => rfl | true => rw [hx, Bool.not_true, Bool.and_false] at z; cases z)) ?_
        refine v_iast hc t dL_isDamaged_175 hsv2 rfl (by omega) (by decide) ?_
        refine v_w jn_upl ?_
        have hd3 := dj_up (e := aI G 40 (va_up fs t (nI (enc (lv t) (lo t) (dmg fm t || can))))) hd2 hsa
        have hP3 := hP2.le (wle_r hd3)
        have hF3 := hF2.le (wle_r hd3)
        refine v_iconst hc (v := nI 0) dL_isDamaged_176 (by decide) ?_
        refine v_istore hc dL_isDamaged_177 (by decide) rfl ?_
        refine v_widen (k' := 726 + 0 * 1) (n' := 4356 + 0 * 6) (by omega) (by omega) ?_
        refine v_loop (σ := Nat) (fun m => m ≤ k) (fun m => k - m) (fun _ => jn (wup v sa (aI G 40 (va_up fs t (nI (enc (lv t) (lo t) (dmg fm t || can)))))) u2) (fun m => 726 + m * 1) (fun m => 4356 + m * 6) (fun m => [(0, some (.ref px)), (2, some (.int (nI k))), (4, some (.int (bI can))), (5, some (.int (nI (sumN k (fun i => b1 (rpk fm i && ovr fm t i)))))), (6, some (.int (nI (sumN k (fun i => b1 (rdb lv lo fm i)) - sumN m (fun i => b1 (rdb lv lo fm2 i)))))), (7, some (.int (cond can (nI (sumN k (fun i => b1 (rpk fm i && ovr fm t i)))) (-103)))), (8, some (.int (nI m)))]) 0 rfl (Nat.zero_le _) ?_
        intro m hmQ ih2
        refine v_iload hc dL_isDamaged_179 rfl ?_
        refine v_iload_n hc (i := 2) rfl dL_isDamaged_181 rfl ?_
        refine v_icmp_geN hc (tgt := 210) dL_isDamaged_182 (by decide) (by omega) (by omega) (fun hmk => ?_) (fun hmk => ?_)
        · have e : m = k := by omega
          subst e
          have hfin : ∀ i, i < m → va_up fs t (nI (enc (lv t) (lo t) (dmg fm t || can))) i = nI (enc (lv i) (lo i) (dmg fm2 i)) := fun i hiQ => by
            rw [hdm2 i hiQ]
            by_cases hit : i = t
            · subst hit
              rw [va_up_self, decide_eq_true rfl, Bool.and_true]
            · rw [up_n hit, hfs i hiQ, decide_eq_false hit, Bool.and_false, Bool.or_false]
          have hmm := hmono m (Nat.le_refl _)
          refine v_iload hc dL_isDamaged_210 rfl ?_
          refine v_iload hc dL_isDamaged_212 rfl ?_
          cases can with
          | true =>
            have hsum : sumN m (fun i => b1 (rdb lv lo fm i)) ≤ sumN m (fun i => b1 (rdb lv lo fm2 i)) + sumN m (fun i => b1 (rpk fm i && ovr fm t i)) := hsum
            refine v_ifB_eq hc (tgt := 222) dL_isDamaged_214 (by decide) (fun hb => False.elim (Bool.false_ne_true hb.symm)) (fun _ => ?_)
            refine v_iload hc dL_isDamaged_217 rfl ?_
            refine v_goto hc (tgt := 224) dL_isDamaged_219 (by decide) ?_
            refine v_icmp_ne hc (tgt := 256) dL_isDamaged_224 (by decide) (fun hb => False.elim (hb rfl)) (fun _ => ?_)
            refine v_iload hc dL_isDamaged_227 rfl ?_
            refine v_ifB_eq hc (tgt := 247) dL_isDamaged_229 (by decide) (fun hb => False.elim (Bool.false_ne_true hb.symm)) (fun _ => ?_)
            refine v_iload hc dL_isDamaged_232 rfl ?_
            refine v_if_ltN hc (tgt := 256) dL_isDamaged_234 (by decide) (by omega) (fun hb => False.elim (hb)) (fun _ => ?_)
            refine v_iload hc dL_isDamaged_237 rfl ?_
            refine v_iload hc dL_isDamaged_239 rfl ?_
            refine v_icmp_gtN hc (tgt := 256) dL_isDamaged_241 (by decide) (by omega) (by omega) (fun hb => False.elim (by omega)) (fun _ => ?_)
            refine v_goto hc (tgt := 252) dL_isDamaged_244 (by decide) ?_
            refine v_iconst hc (v := nI 1) dL_isDamaged_252 (by decide) ?_
            refine v_goto hc (tgt := 257) dL_isDamaged_253 (by decide) ?_
            exact v_zret hc hr dL_isDamaged_257 (by first | exact Nat.le_of_ble_eq_true rfl | omega | (dsimp only; omega) | (show _ ≤ 600130; omega) | (show _ ≤ 7301080; omega)) (by first | exact Nat.le_of_ble_eq_true rfl | omega | (dsimp only; omega) | (show _ ≤ 600130; omega) | (show _ ≤ 7301080; omega)) (by first | rfl | exact bI_nar _) (⟨⟨u2, _, fm2, hd3, rfl, hP2, hF2, hS2, hfin⟩, rfl⟩)
          | false =>
            have hsum : sumN m (fun i => b1 (rdb lv lo fm i)) ≤ sumN m (fun i => b1 (rdb lv lo fm2 i)) + 0 := hsum
            refine v_ifB_eq hc (tgt := 222) dL_isDamaged_214 (by decide) (fun _ => ?_) (fun hb => False.elim (Bool.false_ne_true hb))
            refine v_bipush hc (v := (-103)) dL_isDamaged_222 (by decide) ?_
            refine v_icmp_ne hc (tgt := 256) dL_isDamaged_224 (by decide) (fun hb => False.elim (hb rfl)) (fun _ => ?_)
            refine v_iload hc dL_isDamaged_227 rfl ?_
            refine v_ifB_eq hc (tgt := 247) dL_isDamaged_229 (by decide) (fun _ => ?_) (fun hb => False.elim (Bool.false_ne_true hb))
            refine v_iload hc dL_isDamaged_247 rfl ?_
            refine v_ti (show _ = nI 0 from congrArg nI (by omega)) ?_
            refine v_if_ne hc (tgt := 256) dL_isDamaged_249 (by decide) (fun hb => False.elim (absurd hb (by decide))) (fun _ => ?_)
            refine v_iconst hc (v := nI 1) dL_isDamaged_252 (by decide) ?_
            refine v_goto hc (tgt := 257) dL_isDamaged_253 (by decide) ?_
            exact v_zret hc hr dL_isDamaged_257 (by first | exact Nat.le_of_ble_eq_true rfl | omega | (dsimp only; omega) | (show _ ≤ 600130; omega) | (show _ ≤ 7301080; omega)) (by first | exact Nat.le_of_ble_eq_true rfl | omega | (dsimp only; omega) | (show _ ≤ 600130; omega) | (show _ ≤ 7301080; omega)) (by first | rfl | exact bI_nar _) (⟨⟨u2, _, fm2, hd3, rfl, hP2, hF2, hS2, hfin⟩, rfl⟩)
        · have hm1 := hmono (m + 1) hmk
          have hm2 : sumN (m + 1) (fun i => b1 (rdb lv lo fm2 i)) = sumN m (fun i => b1 (rdb lv lo fm2 i)) + b1 (rdb lv lo fm2 m) := rfl
          refine v_iload hc dL_isDamaged_185 rfl ?_
          first | refine v_aload_n hc (i := 0) rfl dL_isDamaged_187 rfl ?_ | refine v_aload_nN hc (i := 0) rfl dL_isDamaged_187 rfl ?_
          refine v_iload hc dL_isDamaged_188 rfl ?_
          refine v_callVi hc (q_canRead hl hP3 hF3 hS2.1.2.1 hmk) (cwV 1 hc.1.2.2.2.2 gL_isDamaged_X3_canRead rfl rfl rfl (by decide +kernel) ⟨Nat.le_of_ble_eq_true rfl, Nat.le_of_ble_eq_true rfl⟩) (hP3.1) rfl rfl rfl (Nat.le_of_ble_eq_true rfl) ⟨(by first | exact Nat.le_of_ble_eq_true rfl | omega | (dsimp only; omega) | (show _ ≤ 600130; omega) | (show _ ≤ 7301080; omega)), (by first | exact Nat.le_of_ble_eq_true rfl | omega | (dsimp only; omega) | (show _ ≤ 600130; omega) | (show _ ≤ 7301080; omega))⟩ dL_isDamaged_190 (fun r w' h => ?_)
          obtain ⟨rfl, rfl⟩ := h
          refine v_selI hc (x := nI 1) (y := nI 0) (tgt := 200) 201 dL_isDamaged_193 (by decide) (fun KQ => by refine v_iconst hc (v := nI 1) dL_isDamaged_196 (by decide) ?_; exact v_goto hc (tgt := 201) dL_isDamaged_197 (by decide) KQ) (fun KQ => by exact v_iconst hc (v := nI 0) dL_isDamaged_200 (by decide) KQ) ?_
          rw [cnd_B, bI_b1 (rdb lv lo fm2 m)]
          refine v_isubN hc (by omega) dL_isDamaged_201 ?_
          refine v_ti (show _ = nI (sumN k (fun i => b1 (rdb lv lo fm i)) - sumN (m + 1) (fun i => b1 (rdb lv lo fm2 i))) from congrArg nI (by omega)) ?_
          refine v_istore hc dL_isDamaged_202 (by decide) rfl ?_
          first | refine v_iinc1 hc dL_isDamaged_204 rfl (by decide) rfl ?_ | refine v_iinc hc dL_isDamaged_204 rfl rfl (by decide) rfl ?_
          refine v_goto hc (tgt := 179) dL_isDamaged_207 (by decide) ?_
          refine v_widen (k' := 726 + (m + 1) * 1) (n' := 4356 + (m + 1) * 6) (by omega) (by omega) ?_
          exact ih2 (m + 1) _ rfl hmk (by omega)
      · first | refine v_aload_n hc (i := 0) rfl dL_isDamaged_152 rfl ?_ | refine v_aload_nN hc (i := 0) rfl dL_isDamaged_152 rfl ?_
        refine v_iconst hc (v := nI 1) dL_isDamaged_153 (by decide) ?_
        refine v_iload_n hc (i := 3) rfl dL_isDamaged_154 rfl ?_
        cases hx : can with
        | true =>
          rw [hx] at hcan
          have h9 := hcan.symm
          rw [Bool.and_eq_true] at h9
          obtain ⟨g, hg⟩ := Option.isSome_iff_exists.mp h9.1
          have hgd : g.2.2.2.2 = false := by
            have := h9.2
            unfold dmg at this
            rw [hg] at this
            cases hy : g.2.2.2.2 with
            | false => rfl
            | true => dsimp only at this; rw [hy] at this; cases this
          have hds := dam_sum hSQ.1 hg
          refine v_frSWi hc hdQ (q_damage hl hP hF hC hJ ht hg hgd) (vx_cwSW 3 hc.1.2.2.2.2 gL_isDamaged_L_of rfl rfl rfl (by decide +kernel) ⟨Nat.le_of_ble_eq_true rfl, Nat.le_of_ble_eq_true rfl⟩) rfl rfl (Nat.le_of_ble_eq_true rfl) ⟨(by first | exact Nat.le_of_ble_eq_true rfl | omega | (dsimp only; omega) | (show _ ≤ 600130; omega) | (show _ ≤ 7301080; omega)), (by first | exact Nat.le_of_ble_eq_true rfl | omega | (dsimp only; omega) | (show _ ≤ 600130; omega) | (show _ ≤ 7301080; omega))⟩ dL_isDamaged_155 (fun r u2 h hd2 => ?_)
          obtain ⟨hP2, hF2, rfl⟩ := h
          refine v_istore hc dL_isDamaged_158 (by decide) rfl ?_
          have KKQ := KQ (u2, va_up fm t (some (dmgF g)), nI (sumL (fun j => b1 (rpk fm j)) O) - nI (sumL (fun j => b1 (rpk (va_up fm t (some (dmgF g))) j)) O)) ⟨hd2, hP2, hF2, hSQ.dam hg, fun i hiQ => by rw [hx]; exact dmg_dam i, by
            rw [hx]
            dsimp only
            rw [pk_sub (by omega)]
            exact congrArg nI (by omega), fun i => (rdb_dam hg i).2, by
            rw [hx]
            dsimp only
            show _ ≤ _ + sumN k (fun i => b1 (rpk fm i && ovr fm t i))
            rw [← sumN_add]
            exact sumN_le (fun i _ => (rdb_dam hg i).1)⟩
          rw [hx] at KKQ
          exact v_widen (by first | omega | exact Nat.le_of_ble_eq_true rfl | (dsimp only; omega)) (by first | omega | exact Nat.le_of_ble_eq_true rfl | (dsimp only; omega)) (v_loc _ rfl KKQ)
        | false =>
          have hnd : ∀ g, fm t = some g → g.2.2.2.2 = true := fun g hg => by
            rw [hx] at hcan
            unfold dmg at hcan
            rw [hg] at hcan
            cases hy : g.2.2.2.2 with
            | true => rfl
            | false => dsimp only at hcan; rw [hy] at hcan; cases hcan
          refine v_callSWi hc (q_undam hl hP1 hF1 hC hJ ht hnd) (vx_cwSW 3 hc.1.2.2.2.2 gL_isDamaged_L_of rfl rfl rfl (by decide +kernel) ⟨Nat.le_of_ble_eq_true rfl, Nat.le_of_ble_eq_true rfl⟩) rfl rfl (Nat.le_of_ble_eq_true rfl) ⟨(by first | exact Nat.le_of_ble_eq_true rfl | omega | (dsimp only; omega) | (show _ ≤ 600130; omega) | (show _ ≤ 7301080; omega)), (by first | exact Nat.le_of_ble_eq_true rfl | omega | (dsimp only; omega) | (show _ ≤ 600130; omega) | (show _ ≤ 7301080; omega))⟩ dL_isDamaged_155 (fun r w' h => ?_)
          obtain ⟨rfl, rfl⟩ := h
          refine v_istore hc dL_isDamaged_158 (by decide) rfl ?_
          have KKQ := KQ (u, fm, -103) ⟨hdQ, hP, hF, hSQ, fun i hiQ => by rw [hx]; simp, by rw [hx]; rfl, fun i => Nat.le_refl _, Nat.le_add_right _ _⟩
          rw [hx] at KKQ
          exact v_widen (by first | omega | exact Nat.le_of_ble_eq_true rfl | (dsimp only; omega)) (by first | omega | exact Nat.le_of_ble_eq_true rfl | (dsimp only; omega)) (v_loc _ rfl KKQ)
    · first | refine v_aload_n hc (i := 0) rfl dL_isDamaged_37 rfl ?_ | refine v_aload_nN hc (i := 0) rfl dL_isDamaged_37 rfl ?_
      refine v_iload hc dL_isDamaged_38 rfl ?_
      refine v_callSi hc (q_hasForm hl hP1 hF1 hps hk) (va_cwS 2 hc.1.2.2.2.2 gL_isDamaged_L_hasForm rfl rfl rfl (by decide +kernel) ⟨Nat.le_of_ble_eq_true rfl, Nat.le_of_ble_eq_true rfl⟩) rfl rfl (Nat.le_of_ble_eq_true rfl) ⟨(by first | exact Nat.le_of_ble_eq_true rfl | omega | (dsimp only; omega) | (show _ ≤ 600130; omega) | (show _ ≤ 7301080; omega)), (by first | exact Nat.le_of_ble_eq_true rfl | omega | (dsimp only; omega) | (show _ ≤ 600130; omega) | (show _ ≤ 7301080; omega))⟩ dL_isDamaged_40 (fun r w' h => ?_)
      obtain ⟨rfl, rfl⟩ := h
      refine v_istore hc dL_isDamaged_43 (by decide) rfl ?_
      refine v_iconst hc (v := nI 0) dL_isDamaged_45 (by decide) ?_
      refine v_istore hc dL_isDamaged_46 (by decide) rfl ?_
      refine v_iload hc dL_isDamaged_48 rfl ?_
      refine v_istore hc dL_isDamaged_50 (by decide) rfl ?_
      refine v_cutS (σ := Bool × Bool) (fun a => (a.1 && a.2) = (rpk fm k && ovr fm t k)) (fun _ => jn v u) (fun _ => 3 + k * 18 + 17) (fun _ => 18 + k * 108 + 102) 107 (fun a => lD px sa n t k can (sumN k (fun i => b1 (rpk fm i && ovr fm t i))) (sumN k (fun i => b1 (rdb lv lo fm i))) ++ [(8, some (.int (bI a.1))), (9, some (.int (bI a.2)))]) ?_ (fun KQ => ?_)
      · rintro ⟨sd, ov⟩ hso
        dsimp only at hso ⊢
        refine v_iload hc dL_isDamaged_107 rfl ?_
        refine v_iload hc dL_isDamaged_109 rfl ?_
        refine v_cut (3 + k * 18 + 17) (18 + k * 108 + 102) 124 (lD px sa n t k can (sumN k (fun i => b1 (rpk fm i && ovr fm t i))) (sumN k (fun i => b1 (rdb lv lo fm i)))) [.int (nI (b1 (sd && ov))), .int (nI (sumN k (fun i => b1 (rpk fm i && ovr fm t i))))] ?_ (fun KQ => ?_)
        · rw [hso]
          first | refine v_iaddN hc dL_isDamaged_124 ?_ | refine v_iadd hc dL_isDamaged_124 ?_
          refine v_istore hc dL_isDamaged_125 (by decide) rfl ?_
          refine v_iload hc dL_isDamaged_127 rfl ?_
          first | refine v_aload_n hc (i := 0) rfl dL_isDamaged_129 rfl ?_ | refine v_aload_nN hc (i := 0) rfl dL_isDamaged_129 rfl ?_
          refine v_iload hc dL_isDamaged_130 rfl ?_
          refine v_callVi hc (q_canRead hl hP1 hF1 hC hk) (cwV 1 hc.1.2.2.2.2 gL_isDamaged_X3_canRead rfl rfl rfl (by decide +kernel) ⟨Nat.le_of_ble_eq_true rfl, Nat.le_of_ble_eq_true rfl⟩) (hP1.1) rfl rfl rfl (Nat.le_of_ble_eq_true rfl) ⟨(by first | exact Nat.le_of_ble_eq_true rfl | omega | (dsimp only; omega) | (show _ ≤ 600130; omega) | (show _ ≤ 7301080; omega)), (by first | exact Nat.le_of_ble_eq_true rfl | omega | (dsimp only; omega) | (show _ ≤ 600130; omega) | (show _ ≤ 7301080; omega))⟩ dL_isDamaged_132 (fun r w' h => ?_)
          obtain ⟨rfl, rfl⟩ := h
          refine v_selI hc (x := nI 1) (y := nI 0) (tgt := 142) 143 dL_isDamaged_135 (by decide) (fun KQ => by refine v_iconst hc (v := nI 1) dL_isDamaged_138 (by decide) ?_; exact v_goto hc (tgt := 143) dL_isDamaged_139 (by decide) KQ) (fun KQ => by exact v_iconst hc (v := nI 0) dL_isDamaged_142 (by decide) KQ) ?_
          rw [cnd_B, bI_b1 (rdb lv lo fm k)]
          first | refine v_iaddN hc dL_isDamaged_143 ?_ | refine v_iadd hc dL_isDamaged_143 ?_
          refine v_istore hc dL_isDamaged_144 (by decide) rfl ?_
          first | refine v_iinc1 hc dL_isDamaged_146 rfl (by decide) rfl ?_ | refine v_iinc hc dL_isDamaged_146 rfl rfl (by decide) rfl ?_
          refine v_goto hc (tgt := 31) dL_isDamaged_149 (by decide) ?_
          refine v_widen (k' := 3 + (k + 1) * 18) (n' := 18 + (k + 1) * 108) (by omega) (by omega) ?_
          exact ihQ (k + 1) _ rfl hk (by omega)
        · cases sd with
          | false =>
            refine v_ifB_eq hc (tgt := 123) dL_isDamaged_111 (by decide) (fun _ => ?_) (fun hb => False.elim (Bool.false_ne_true hb))
            refine v_iconst hc (v := nI 0) dL_isDamaged_123 (by decide) ?_
            exact v_widen (by first | omega | exact Nat.le_of_ble_eq_true rfl | (dsimp only; omega)) (by first | omega | exact Nat.le_of_ble_eq_true rfl | (dsimp only; omega)) (v_loc _ rfl KQ)
          | true =>
            refine v_ifB_eq hc (tgt := 123) dL_isDamaged_111 (by decide) (fun hb => False.elim (Bool.false_ne_true hb.symm)) (fun _ => ?_)
            refine v_iload hc dL_isDamaged_114 rfl ?_
            cases ov with
            | false =>
              refine v_ifB_eq hc (tgt := 123) dL_isDamaged_116 (by decide) (fun _ => ?_) (fun hb => False.elim (Bool.false_ne_true hb))
              refine v_iconst hc (v := nI 0) dL_isDamaged_123 (by decide) ?_
              exact v_widen (by first | omega | exact Nat.le_of_ble_eq_true rfl | (dsimp only; omega)) (by first | omega | exact Nat.le_of_ble_eq_true rfl | (dsimp only; omega)) (v_loc _ rfl KQ)
            | true =>
              refine v_ifB_eq hc (tgt := 123) dL_isDamaged_116 (by decide) (fun hb => False.elim (Bool.false_ne_true hb.symm)) (fun _ => ?_)
              refine v_iconst hc (v := nI 1) dL_isDamaged_119 (by decide) ?_
              refine v_goto hc (tgt := 124) dL_isDamaged_120 (by decide) ?_
              exact v_widen (by first | omega | exact Nat.le_of_ble_eq_true rfl | (dsimp only; omega)) (by first | omega | exact Nat.le_of_ble_eq_true rfl | (dsimp only; omega)) (v_loc _ rfl KQ)
      · have hc7 := clen_7 hC hk
        refine v_widen (k' := 3 + k * 18 + 3 + (7 - 7) * 2) (n' := 18 + k * 108 + 18 + (7 - 7) * 12) (by omega) (by omega) ?_
        refine v_loop (σ := Option Nat × Bool × Bool × Nat) (fun a => (∀ j, a.1 = some j → j < n ∧ (a.2.1 = true → ∃ gj, fm j = some gj)) ∧ (a.2.1 && rpo fm a.1) = rpk fm k ∧ (a.2.1 = true → (a.2.2.1 || ovo fm t a.1) = ovr fm t k) ∧ clen fm a.1 ≤ a.2.2.2 ∧ a.2.2.2 ≤ 7) (fun a => a.2.2.2) (fun _ => jn v u) (fun a => 3 + k * 18 + 3 + (7 - a.2.2.2) * 2) (fun a => 18 + k * 108 + 18 + (7 - a.2.2.2) * 12) (fun a => lD px sa n t k can (sumN k (fun i => b1 (rpk fm i && ovr fm t i))) (sumN k (fun i => b1 (rdb lv lo fm i))) ++ [(8, some (.int (bI a.2.1))), (9, some (.int (bI a.2.2.1))), (10, some (.int (nIo a.1)))]) (some k, (fm k).isSome, false, 7) rfl ⟨fun j hj => by cases hj; exact ⟨hk, fun h9 => by cases hg : fm k with | none => rw [hg] at h9; cases h9 | some g => exact ⟨g, rfl⟩⟩, by
          cases hg : fm k with
          | none => rw [rpk_none hg]; rfl
          | some g => rfl, fun _ => rfl, hc7, Nat.le_refl _⟩ ?_
        rintro ⟨at', sd, ov, cl⟩ ⟨hI1, hI2, hI3, hI4, hI5⟩ ih2
        dsimp only at hI1 hI2 hI3 hI4 hI5 ih2 ⊢
        refine v_iload hc dL_isDamaged_52 rfl ?_
        cases sd with
        | false =>
          have KKQ := KQ (false, ov) (by rw [← hI2]; rfl)
          refine v_ifB_eq hc (tgt := 107) dL_isDamaged_54 (by decide) (fun _ => ?_) (fun hb => False.elim (Bool.false_ne_true hb))
          exact v_widen (by first | omega | exact Nat.le_of_ble_eq_true rfl | (dsimp only; omega)) (by first | omega | exact Nat.le_of_ble_eq_true rfl | (dsimp only; omega)) (v_loc _ rfl KKQ)
        | true =>
          refine v_ifB_eq hc (tgt := 107) dL_isDamaged_54 (by decide) (fun hb => False.elim (Bool.false_ne_true hb.symm)) (fun _ => ?_)
          refine v_iload hc dL_isDamaged_57 rfl ?_
          cases at' with
          | none =>
            have h3 := hI3 rfl
            have KKQ := KQ (true, ov) (by
              rw [← hI2, ← h3]
              show (true && ov) = ((true && true) && (ov || false))
              rw [Bool.or_false]; rfl)
            refine v_ti (show _ = (-1 : Int32) from rfl) ?_
            refine v_if_lt hc (tgt := 107) dL_isDamaged_59 (by decide) (fun _ => ?_) (fun hb => False.elim (absurd hb (by decide)))
            exact v_widen (by first | omega | exact Nat.le_of_ble_eq_true rfl | (dsimp only; omega)) (by first | omega | exact Nat.le_of_ble_eq_true rfl | (dsimp only; omega)) (v_loc _ rfl KKQ)
          | some j =>
            obtain ⟨hj, hj2⟩ := hI1 j rfl
            obtain ⟨gj, hgj⟩ := hj2 rfl
            have hdn := clen_dn hC hj hgj
            refine v_ti (show _ = nI j from rfl) ?_
            refine v_if_ltN hc (tgt := 107) dL_isDamaged_59 (by decide) (by omega) (fun hb => False.elim (hb)) (fun _ => ?_)
            first | refine v_aload_n hc (i := 1) rfl dL_isDamaged_62 rfl ?_ | refine v_aload_nN hc (i := 1) rfl dL_isDamaged_62 rfl ?_
            refine v_iload hc dL_isDamaged_63 rfl ?_
            refine v_iald hc j dL_isDamaged_65 hsv rfl (by omega) (by decide) ?_
            refine v_iconst hc (v := nI 4) dL_isDamaged_66 (by decide) ?_
            refine v_idiv hc (by decide) dL_isDamaged_67 ?_
            refine v_ti (hf4 j hj) ?_
            refine v_cut (3 + k * 18 + 3 + (7 - cl) * 2) (18 + k * 108 + 18 + (7 - cl) * 12) 76 (lD px sa n t k can (sumN k (fun i => b1 (rpk fm i && ovr fm t i))) (sumN k (fun i => b1 (rdb lv lo fm i))) ++ [(9, some (.int (bI ov))), (10, some (.int (nI j)))]) [.int (bI (!dmg fm j))] ?_ (fun K2 => ?_)
            · refine v_istore hc dL_isDamaged_76 (by decide) rfl ?_
              refine v_iload hc dL_isDamaged_78 rfl ?_
              refine v_cut (3 + k * 18 + 3 + (7 - cl) * 2) (18 + k * 108 + 18 + (7 - cl) * 12) 94 (lD px sa n t k can (sumN k (fun i => b1 (rpk fm i && ovr fm t i))) (sumN k (fun i => b1 (rdb lv lo fm i))) ++ [(8, some (.int (bI (!dmg fm j)))), (10, some (.int (nI j)))]) [.int (bI (ov || decide (j = t)))] ?_ (fun K2 => ?_)
              · refine v_istore hc dL_isDamaged_94 (by decide) rfl ?_
                first | refine v_aload_n hc (i := 0) rfl dL_isDamaged_96 rfl ?_ | refine v_aload_nN hc (i := 0) rfl dL_isDamaged_96 rfl ?_
                refine v_iload hc dL_isDamaged_97 rfl ?_
                refine v_callVi hc (q_base hl hP1 hF1 hC hj hgj) (cwV 1 hc.1.2.2.2.2 gL_isDamaged_X3_base rfl rfl rfl (by decide +kernel) ⟨Nat.le_of_ble_eq_true rfl, Nat.le_of_ble_eq_true rfl⟩) (hP1.1) rfl rfl rfl (Nat.le_of_ble_eq_true rfl) ⟨(by first | exact Nat.le_of_ble_eq_true rfl | omega | (dsimp only; omega) | (show _ ≤ 600130; omega) | (show _ ≤ 7301080; omega)), (by first | exact Nat.le_of_ble_eq_true rfl | omega | (dsimp only; omega) | (show _ ≤ 600130; omega) | (show _ ≤ 7301080; omega))⟩ dL_isDamaged_99 (fun r w' h => ?_)
                obtain ⟨rfl, rfl⟩ := h
                refine v_istore hc dL_isDamaged_102 (by decide) rfl ?_
                refine v_goto hc (tgt := 52) dL_isDamaged_104 (by decide) ?_
                refine v_widen (k' := 3 + k * 18 + 3 + (7 - (cl - 1)) * 2) (n' := 18 + k * 108 + 18 + (7 - (cl - 1)) * 12) (by omega) (by omega) ?_
                refine ih2 (gj.1, !dmg fm j, (ov || decide (j = t)), cl - 1) _ rfl ⟨fun b hb => ?_, ?_, fun _ => ?_, by dsimp only; omega, by dsimp only; omega⟩ (by dsimp only; omega)
                · obtain ⟨h3, g', h4, -⟩ := (hC j hj gj hgj).2 b hb
                  exact ⟨h3, fun _ => ⟨g', h4⟩⟩
                · dsimp only
                  rw [← hI2]
                  show _ = (true && rpk fm j)
                  rw [Bool.true_and, rpk_some hC hj hgj, show dmg fm j = gj.2.2.2.2 by unfold dmg; rw [hgj]]
                · dsimp only
                  rw [← hI3 rfl]
                  show _ = (ov || (decide (j = t) || dpk fm j t))
                  rw [dpk_some hC hj hgj, Bool.or_assoc]
              · cases ov with
                | true =>
                  refine v_ifB_ne hc (tgt := 89) dL_isDamaged_80 (by decide) (fun _ => ?_) (fun hb => False.elim (Bool.false_ne_true hb.symm))
                  refine v_iconst hc (v := nI 1) dL_isDamaged_89 (by decide) ?_
                  refine v_goto hc (tgt := 94) dL_isDamaged_90 (by decide) ?_
                  exact v_widen (by first | omega | exact Nat.le_of_ble_eq_true rfl | (dsimp only; omega)) (by first | omega | exact Nat.le_of_ble_eq_true rfl | (dsimp only; omega)) (v_loc _ rfl K2)
                | false =>
                  refine v_ifB_ne hc (tgt := 89) dL_isDamaged_80 (by decide) (fun hb => False.elim (Bool.false_ne_true hb)) (fun _ => ?_)
                  refine v_iload hc dL_isDamaged_83 rfl ?_
                  refine v_iload_n hc (i := 3) rfl dL_isDamaged_85 rfl ?_
                  by_cases hjt : j = t
                  · rw [decide_eq_true hjt] at K2
                    refine v_icmp_neN hc (tgt := 93) dL_isDamaged_86 (by decide) (by omega) (by omega) (fun hb => False.elim (hb hjt)) (fun _ => ?_)
                    refine v_iconst hc (v := nI 1) dL_isDamaged_89 (by decide) ?_
                    refine v_goto hc (tgt := 94) dL_isDamaged_90 (by decide) ?_
                    exact v_widen (by first | omega | exact Nat.le_of_ble_eq_true rfl | (dsimp only; omega)) (by first | omega | exact Nat.le_of_ble_eq_true rfl | (dsimp only; omega)) (v_loc _ rfl K2)
                  · rw [decide_eq_false hjt] at K2
                    refine v_icmp_neN hc (tgt := 93) dL_isDamaged_86 (by decide) (by omega) (by omega) (fun _ => ?_) (fun hb => False.elim (hjt hb))
                    refine v_iconst hc (v := nI 0) dL_isDamaged_93 (by decide) ?_
                    exact v_widen (by first | omega | exact Nat.le_of_ble_eq_true rfl | (dsimp only; omega)) (by first | omega | exact Nat.le_of_ble_eq_true rfl | (dsimp only; omega)) (v_loc _ rfl K2)
            · cases hdm : dmg fm j with
              | true =>
                rw [hdm] at K2
                refine v_if_ne hc (tgt := 75) dL_isDamaged_68 (by decide) (fun _ => ?_) (fun hb => False.elim (absurd hb (by decide)))
                refine v_iconst hc (v := nI 0) dL_isDamaged_75 (by decide) ?_
                exact v_widen (by first | omega | exact Nat.le_of_ble_eq_true rfl | (dsimp only; omega)) (by first | omega | exact Nat.le_of_ble_eq_true rfl | (dsimp only; omega)) (v_loc _ rfl K2)
              | false =>
                rw [hdm] at K2
                refine v_if_ne hc (tgt := 75) dL_isDamaged_68 (by decide) (fun hb => False.elim (absurd hb (by decide))) (fun _ => ?_)
                refine v_iconst hc (v := nI 1) dL_isDamaged_71 (by decide) ?_
                refine v_goto hc (tgt := 76) dL_isDamaged_72 (by decide) ?_
                exact v_widen (by first | omega | exact Nat.le_of_ble_eq_true rfl | (dsimp only; omega)) (by first | omega | exact Nat.le_of_ble_eq_true rfl | (dsimp only; omega)) (v_loc _ rfl K2)
  · cases hg : (fm t).isSome with
    | false =>
      rw [hg, Bool.false_and] at hcan
      rw [hcan] at KQ
      refine v_ifB_eq hc (tgt := 19) dL_isDamaged_5 (by decide) (fun _ => ?_) (fun hb => False.elim (Bool.false_ne_true hb))
      refine v_iconst hc (v := nI 0) dL_isDamaged_19 (by decide) ?_
      exact v_widen (by first | omega | exact Nat.le_of_ble_eq_true rfl | (dsimp only; omega)) (by first | omega | exact Nat.le_of_ble_eq_true rfl | (dsimp only; omega)) (v_loc _ rfl KQ)
    | true =>
      rw [hg, Bool.true_and] at hcan
      have he8 := enc_lt (lv t) (lo t) (dmg fm t)
      refine v_ifB_eq hc (tgt := 19) dL_isDamaged_5 (by decide) (fun hb => False.elim (Bool.false_ne_true hb.symm)) (fun _ => ?_)
      first | refine v_aload_n hc (i := 1) rfl dL_isDamaged_8 rfl ?_ | refine v_aload_nN hc (i := 1) rfl dL_isDamaged_8 rfl ?_
      refine v_iload_n hc (i := 3) rfl dL_isDamaged_9 rfl ?_
      refine v_iald hc t dL_isDamaged_10 hsv rfl (by omega) (by decide) ?_
      rw [hfs t ht]
      refine v_iconst hc (v := nI 4) dL_isDamaged_11 (by decide) ?_
      cases hdm : dmg fm t with
      | false =>
        rw [hdm] at hcan he8
        have h4 := (e_lt4 (lv t) (lo t) false).mpr rfl
        rw [hcan] at KQ
        refine v_icmp_geN hc (tgt := 19) dL_isDamaged_12 (by decide) (by omega) (by omega) (fun hb => False.elim (by omega)) (fun _ => ?_)
        refine v_iconst hc (v := nI 1) dL_isDamaged_15 (by decide) ?_
        refine v_goto hc (tgt := 20) dL_isDamaged_16 (by decide) ?_
        exact v_widen (by first | omega | exact Nat.le_of_ble_eq_true rfl | (dsimp only; omega)) (by first | omega | exact Nat.le_of_ble_eq_true rfl | (dsimp only; omega)) (v_loc _ rfl KQ)
      | true =>
        rw [hdm] at hcan he8
        have h4 : ¬ enc (lv t) (lo t) true < 4 := fun z => by cases (e_lt4 _ _ _).mp z
        rw [hcan] at KQ
        refine v_icmp_geN hc (tgt := 19) dL_isDamaged_12 (by decide) (by omega) (by omega) (fun _ => ?_) (fun hb => False.elim (by omega))
        refine v_iconst hc (v := nI 0) dL_isDamaged_19 (by decide) ?_
        exact v_widen (by first | omega | exact Nat.le_of_ble_eq_true rfl | (dsimp only; omega)) (by first | omega | exact Nat.le_of_ble_eq_true rfl | (dsimp only; omega)) (v_loc _ rfl KQ)
end LW6

