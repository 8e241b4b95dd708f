/-! ===== the law's own frame ===== -/
def lA (s : State) : Nat → Prop := fun q => s.heap.size ≤ q
abbrev LV (p : Program) (l : Launch) (e : Env) (s : State) (m : MethodId) (b : Nat) (below : List Frame) (meth : Method) (c : Code) (G : cG) (w : wd) (k n pc : Nat) (L : vLT) (st : List Value) : Prop := V p l e room_1 s m #[Value.ref b] below meth c 18 G (lA s) (lw_Z below #[Value.ref b] s) w k n pc L st
theorem v_end {p : Program} {l : Launch} {e : Env} {s : State} {m : MethodId} {below : List Frame} {meth : Method} {c : Code} {G : cG} {w : wd} {b k n pc : Nat} {L : vLT} (hc : cxt p s m #[Value.ref b] meth c cL_law 18 RL wsL_law G (lA s)) (hr : meth.sig.returnType = ret) (hdg : decode cL_law pc = .ok (.ireturn, 1)) (hk : k ≤ 600130) (hn : n ≤ 7301080) : LV p l e s m b below meth c G w k n pc L [.int (nI 1)] := fun H locs ls h1 h2 h3 =>
  va_forget (fun q hq => h2.2.2 q hq) (W.widen hk hn (lw_ret hc.1.1 hc.1.2.1 hr hc.2.2.2 hdg))
/-- what the law keeps beside the class -/
def LSx (G : cG) (v u : wd) (px ca na sa m : Nat) : Prop := dj v u ∧ ∃ pI pO pX ia nm ct lv lo fa fb fm O X cp ru fc fn fs, PC G u px pI pO pX m ia nm ct lv lo fa fb O X cp ru ∧ FW u m ia fa fm ∧ FJ m fa ∧ SI m nm ct lv lo fm O X ∧ v ca = some (aL G 40 fc) ∧ v na = some (aI G 40 fn) ∧ v sa = some (aI G 40 fs) ∧ (ca ≠ na ∧ ca ≠ sa ∧ na ≠ sa) ∧ (∀ i, i < m → fc i = ct i) ∧ (∀ i, i < m → fn i = nm i) ∧ ∀ i, i < m → fs i = nI (enc (lv i) (lo i) (dmg fm i))
def LWd (G : cG) (w : wd) (px ca na sa m : Nat) : Prop := ∃ v u, w = jn v u ∧ LSx G v u px ca na sa m
theorem wle_split {v u w : wd} (hdQ : dj v u) (h : wle (jn v u) w) : ∃ u', dj v u' ∧ w = jn v u' ∧ wle u u' := by
  refine ⟨fun a => match v a with | some _ => none | none => w a, fun a e he => ?_, ?_, fun a e he => ?_⟩
  · dsimp only at he
    cases hv : v a with
    | none => rfl
    | some e' => rw [hv] at he; cases he
  · funext a
    cases hv : v a with
    | some e => rw [jn_l hv, h a e (jn_l hv)]
    | none => rw [jn_r hv, hv]
  · dsimp only
    rw [hdQ a e he]
    exact h a e (hdQ.r he)
theorem LWd.le {G : cG} {w w' : wd} {px ca na sa m : Nat} (hL : LWd G w px ca na sa m) (h : wle w w') : LWd G w' px ca na sa m := by
  obtain ⟨v, u, rfl, hdQ, pI, pO, pX, ia, nm, ct, lv, lo, fa, fb, fm, O, X, cp, ru, fc, fn, fs, h1, h2, h3⟩ := hL
  obtain ⟨u', hd', rfl, hu⟩ := wle_split hdQ h
  exact ⟨v, u', rfl, hd', pI, pO, pX, ia, nm, ct, lv, lo, fa, fb, fm, O, X, cp, ru, fc, fn, fs, h1.le hu, h2.le hu, h3⟩
abbrev lZ (b px ca na sa m t x y : Nat) : vLT := [(0, some (.ref b)), (1, some (.ref px)), (2, some (.ref ca)), (3, some (.ref na)), (4, some (.ref sa)), (5, some (.int (nI m))), (7, some (.int (nI t))), (8, some (.int (nI x))), (9, some (.int (nI y)))]
abbrev lY (b px ca na sa m t x y z j : Nat) : vLT := lZ b px ca na sa m t x y ++ [(14, some (.int (nI z))), (15, some (.int (nI j)))]
/-- where the branches meet -/
def CT (p : Program) (l : Launch) (e : Env) (s : State) (m : MethodId) (b : Nat) (below : List Frame) (meth : Method) (c : Code) (G : cG) (px ca na sa t x y k' n' : Nat) : Prop := ∀ (m' : Nat) (w' : wd), LWd G w' px ca na sa m' → LV p l e s m b below meth c G w' k' n' 543 (lZ b px ca na sa m' t x y ++ [(6, some (.int (nI 1)))]) []
/-! the contents that the law makes -/
def isK (c k : Nat) : Prop := c < 16 ^ k ∧ hxn c = k ∧ nzd 16 c = true
theorem isK_0 : isK 0 0 := ⟨by decide, by decide, rfl⟩
theorem nzd_less : ∀ (f g c : Nat), f ≤ g → nzd g c = true → nzd f c = true
  | 0, _, _, _, _ => rfl
  | f + 1, 0, _, h, _ => absurd h (by omega)
  | f + 1, g + 1, c, h, hz => by
    unfold nzd at hz ⊢
    by_cases h0 : c = 0
    · rw [if_pos h0]
    · rw [if_neg h0] at hz ⊢
      rw [Bool.and_eq_true] at hz ⊢
      exact ⟨hz.1, nzd_less f g _ (by omega) hz.2⟩
theorem isK_s {c k d : Nat} (h : isK c k) (hk : k < 15) (hdQ : d < 15) : isK (16 * c + 1 + d) (k + 1) := by
  obtain ⟨h1, h2, h3⟩ := h
  have h5 : 16 ^ k ≤ 16 ^ 14 := Nat.pow_le_pow_right (by decide) (by omega)
  have h6 : (16 : Nat) ^ 14 = 72057594037927936 := by decide
  have h7 := e63
  have e1 : (16 * c + 1 + d) / 16 = c := by omega
  refine ⟨by rw [p16]; omega, ?_, ?_⟩
  · rw [hxn_step (by omega) (by omega), e1, h2]
  · show (if 16 * c + 1 + d = 0 then true else (decide ((16 * c + 1 + d) % 16 ≠ 0) && nzd 15 ((16 * c + 1 + d) / 16))) = true
    rw [if_neg (by omega), e1, nzd_less 15 16 c (by decide) h3, decide_eq_true (show (16 * c + 1 + d) % 16 ≠ 0 by omega)]; rfl
theorem isK_C {c k : Nat} (h : isK c k) (h1 : 1 ≤ k) (hk : k ≤ 15) : isC (lN c) = true := by
  obtain ⟨h1, h2, h3⟩ := h
  have h5 : 16 ^ k ≤ 16 ^ 15 := Nat.pow_le_pow_right (by decide) hk
  have h6 := e1615
  have h7 := e63
  have h8 : 0 < c := by
    rcases Nat.eq_zero_or_pos c with z | z
    · subst z; rw [hxn_0] at h2; omega
    · exact z
  unfold isC
  rw [xN_lN (by omega), decide_eq_true h8, decide_eq_true (show hxn c ≤ 15 by omega), h3]; rfl
theorem lN_16 {c d : Nat} (hdQ : d < 15) : (16 : Int64) * lN c + 1 + (nI d).toInt64 = lN (16 * c + 1 + d) := by
  rw [i2l_nI (by omega), show (16 : Int64) = lN 16 by decide, lN_mul, show (1 : Int64) = lN 1 by decide, lN_add, lN_add]
theorem va_up_id {α : Type} {f : Nat → α} {k : Nat} {v : α} (h : f k = v) : va_up f k v = f := by
  funext j
  by_cases hj : j = k
  · subst hj; rw [va_up_self, h]
  · rw [up_n hj]
section LB
variable {l : Launch} {G : cG} {A : Nat → Prop} {w : wd} {px pI pO pX n : Nat} {ia : Nat → Nat} {nm : Nat → Int32} {ct : Nat → Int64} {lv lo : Nat → Bool} {fa fb : Nat → Option Nat} {fm : Nat → Option Frm} {O X : List Nat} {cp ru : Int32}
theorem q_store (hl : l.stackTraces = false) (hP : PC G w px pI pO pX n ia nm ct lv lo fa fb O X cp ru) (hF : FW w n ia fa fm) (hC : CH n fm) {a : Nat} {x : Int64} (hn : n < 40) (haQ : a < 4) (hx : isC x = true) : Met l yL_store wsL_store ({ frames := 15, cells := 2, slots := 69, locals := 276 } : Room) (Pw G A w [.ref px, .int (nI a), .long x]) (va_Qi (fun r w' => (∃ q, PC G w' px pI pO pX (n + 1) (va_up ia n q) (va_up nm n (nI a)) (va_up ct n x) (va_up lv n true) (va_up lo n true) (va_up fa n none) (va_up fb n none) O X cp ru ∧ FW w' (n + 1) (va_up ia n q) (va_up fa n none) (va_up fm n none)) ∧ r = nI n) (Bw G A) A) 2 69 A := c_L_store hP.1 _ _ (c_X3_store hl hP hF hC _ _) (fun r w' h => ⟨h.2.2.1, h.2.2.2⟩) (fun E w' h => by
  have i1 : (isin (nI a) (nI 0) (nI 99) && isC x) = true := by
    rw [hx]
    unfold isin
    rw [decide_eq_true ((nI_leI (by decide) (by omega)).mpr (Nat.zero_le _)), decide_eq_true ((nI_leI (by omega) (by decide)).mpr (by omega))]; rfl
  rcases h with ⟨rfl, ⟨rfl, h⟩ | ⟨rfl, -, h⟩⟩
  · rw [i1] at h; cases h
  · omega)
theorem q_delete (hl : l.stackTraces = false) (hP : PC G w px pI pO pX n ia nm ct lv lo fa fb O X cp ru) (hF : FW w n ia fa fm) {i : Nat} (hiQ : i < n) (hv : lv i = true) : Met l yL_of wsL_of ({ frames := 14, cells := 3, slots := 18, locals := 250 } : Room) (Pw G A w [.ref px, .int (nI 0), .int (nI i)]) (va_Qi (fun r w' => PC G w' px pI pO pX n ia nm ct (va_up lv i false) (va_up lo i false) fa fb O X cp ru ∧ FW w' n ia fa fm ∧ r = nI (sumN n (fun j => b1 (va_up lv i false j)))) (Bw G A) A) 3 18 A := c_L_of0 hP.1 _ (c_X3_delete hl hP hF _) (fun r w' h => by
  obtain ⟨j, hj, e, -, h1, h2, rfl⟩ := h
  obtain rfl := nI_inj hP.n40 hiQ hj e
  exact ⟨h1, h2, rfl⟩) (fun E w' h => by
  rcases h with ⟨rfl, ⟨rfl, h⟩ | ⟨rfl, j, hj, e, h⟩⟩
  · exact (isO_f hP.n40 h hiQ rfl).elim
  · obtain rfl := nI_inj hP.n40 hiQ hj e
    rw [hv] at h; cases h)
end LB
theorem FJ.sto {n : Nat} {fa : Nat → Option Nat} (h : FJ n fa) : FJ (n + 1) (va_up fa n none) := fun i j f hiQ hj h1 h2 => by
  by_cases hin : i = n
  · subst hin; rw [va_up_self] at h1; cases h1
  · by_cases hjn : j = n
    · subst hjn; rw [va_up_self] at h2; cases h2
    · rw [up_n hin] at h1; rw [up_n hjn] at h2
      exact h i j f (by omega) (by omega) h1 h2
section LAWS
variable {p : Program} {l : Launch} {e : Env} {s : State} {m : MethodId} {below : List Frame} {meth : Method} {c : Code} {G : cG} {w : wd} {b px ca na sa M t x y k n : Nat}
set_option maxRecDepth 100000 in
set_option maxHeartbeats 8000000 in
theorem k_store (hl : l.stackTraces = false) (hc : cxt p s m #[Value.ref b] meth c cL_law 18 RL wsL_law G (lA s)) (hL : LWd G w px ca na sa M) (hy : y < 2 ^ 27) (hk : k ≤ 560000) (hn : n ≤ 6000000) (ct : CT p l e s m b below meth c G px ca na sa t x y (k + 1500) (n + 18000)) : LV p l e s m b below meth c G w k n 129 (lZ b px ca na sa M t x y) [] := by
  obtain ⟨v, u, rfl, hdQ, pI, pO, pX, ia, nm, ctt, lv, lo, fa, fb, fm, O, X, cp, ru, fc, fn, fs, hP, hF, hJ, hSQ, hca, hna, hsa, ⟨hn1, hn2, hn3⟩, hfc, hfn, hfs⟩ := hL
  have hP1 := hP.le (wle_r hdQ)
  have hF1 := hF.le (wle_r hdQ)
  have hMQ := hP.n40
  have hcv : jn v u ca = some (aL G 40 fc) := jn_l hca
  obtain ⟨z, hz, hzd⟩ : ∃ z, z ≤ 15 ∧ z = 1 + y / 3 % 15 := ⟨_, by omega, rfl⟩

  refine v_lconst hc (v := 0) dL_law_129 (by decide) ?_
  refine v_lstore hc dL_law_130 (by decide) rfl ?_
  refine v_iconst hc (v := nI 1) dL_law_132 (by decide) ?_
  refine v_iload hc dL_law_133 rfl ?_
  refine v_iconst hc (v := nI 3) dL_law_135 (by decide) ?_
  refine v_idiv hc (by decide) dL_law_136 ?_
  refine v_ti (pk_div (by omega) (by decide) (by decide)) ?_
  refine v_bipush hc (v := nI 15) dL_law_137 (by decide) ?_
  refine v_irem hc (by decide) dL_law_139 ?_
  refine v_ti (pk_rem (by omega) (by decide) (by decide)) ?_
  first | refine v_iaddN hc dL_law_140 ?_ | refine v_iadd hc dL_law_140 ?_
  refine v_istore hc dL_law_141 (by decide) rfl ?_
  refine v_iconst hc (v := nI 0) dL_law_143 (by decide) ?_
  refine v_istore hc dL_law_144 (by decide) rfl ?_
  rw [← hzd]
  refine v_cutT (σ := Int64) (fun a => isC a = true) k n 245 (fun _ => lZ b px ca na sa M t x y) (fun a => [.long a]) ?_ (fun KQ => ?_)
  · intro a haQ
    refine v_lstore hc dL_law_245 (by decide) rfl ?_
    first | refine v_aload_n hc (i := 1) rfl dL_law_247 rfl ?_ | refine v_aload_nN hc (i := 1) rfl dL_law_247 rfl ?_
    refine v_callSl hc (c_L_all hl hP1 hF1 hSQ.1.2.1) (va_cwS 1 hc.1.2.2.2.2 gL_law_L_all rfl rfl rfl (by decide +kernel) ⟨Nat.le_of_ble_eq_true rfl, Nat.le_of_ble_eq_true rfl⟩) rfl rfl (Nat.le_of_ble_eq_true rfl) ⟨(by first | exact Nat.le_of_ble_eq_true rfl | omega | (dsimp only; omega) | (show _ ≤ 600130; omega) | (show _ ≤ 7301080; omega)), (by first | exact Nat.le_of_ble_eq_true rfl | omega | (dsimp only; omega) | (show _ ≤ 600130; omega) | (show _ ≤ 7301080; omega))⟩ dL_law_248 (fun r w' h => ?_)
    obtain ⟨rfl, rfl⟩ := h
    refine v_lstore hc dL_law_251 (by decide) rfl ?_
    first | refine v_aload_n hc (i := 1) rfl dL_law_253 rfl ?_ | refine v_aload_nN hc (i := 1) rfl dL_law_253 rfl ?_
    refine v_iload hc dL_law_254 rfl ?_
    refine v_iconst hc (v := nI 4) dL_law_256 (by decide) ?_
    refine v_irem hc (by decide) dL_law_257 ?_
    refine v_ti (pk_rem (by omega) (by decide) (by decide)) ?_
    refine v_lload hc dL_law_258 rfl ?_
    by_cases hM40 : M = 40
    · have hin : (isin (nI (y % 4)) (nI 0) (nI 99) && isC a) = true := by
        rw [haQ]
        unfold isin
        rw [decide_eq_true ((nI_leI (by decide) (by omega)).mpr (Nat.zero_le _)), decide_eq_true ((nI_leI (by omega) (by decide)).mpr (by omega))]; rfl
      refine v_callSWi hc (q_full hl hP1 hF1 hSQ.1.2.1 hM40 hin) (vx_cwSW 3 hc.1.2.2.2.2 gL_law_L_store rfl rfl rfl (by decide +kernel) ⟨Nat.le_of_ble_eq_true rfl, Nat.le_of_ble_eq_true rfl⟩) rfl rfl (Nat.le_of_ble_eq_true rfl) ⟨(by first | exact Nat.le_of_ble_eq_true rfl | omega | (dsimp only; omega) | (show _ ≤ 600130; omega) | (show _ ≤ 7301080; omega)), (by first | exact Nat.le_of_ble_eq_true rfl | omega | (dsimp only; omega) | (show _ ≤ 600130; omega) | (show _ ≤ 7301080; omega))⟩ dL_law_260 (fun r w' h => ?_)
      obtain ⟨rfl, rfl⟩ := h
      refine v_istore hc dL_law_263 (by decide) rfl ?_
      refine v_iload hc dL_law_265 rfl ?_
      refine v_iload hc dL_law_267 rfl ?_
      refine v_bipush hc (v := nI 40) dL_law_269 (by decide) ?_
      refine v_icmp_neN hc (tgt := 279) dL_law_271 (by decide) (by omega) (by omega) (fun hb => False.elim (hb hM40)) (fun _ => ?_)
      refine v_bipush hc (v := (-103)) dL_law_274 (by decide) ?_
      refine v_goto hc (tgt := 281) dL_law_276 (by decide) ?_
      refine v_icmp_ne hc (tgt := 305) dL_law_281 (by decide) (fun hb => False.elim (hb rfl)) (fun _ => ?_)
      refine v_iload hc dL_law_284 rfl ?_
      refine v_bipush hc (v := nI 40) dL_law_286 (by decide) ?_
      refine v_icmp_ltN hc (tgt := 301) dL_law_288 (by decide) (by omega) (by omega) (fun hb => False.elim (by omega)) (fun _ => ?_)
      first | refine v_aload_n hc (i := 1) rfl dL_law_291 rfl ?_ | refine v_aload_nN hc (i := 1) rfl dL_law_291 rfl ?_
      refine v_callSl hc (c_L_all hl hP1 hF1 hSQ.1.2.1) (va_cwS 1 hc.1.2.2.2.2 gL_law_L_all rfl rfl rfl (by decide +kernel) ⟨Nat.le_of_ble_eq_true rfl, Nat.le_of_ble_eq_true rfl⟩) rfl rfl (Nat.le_of_ble_eq_true rfl) ⟨(by first | exact Nat.le_of_ble_eq_true rfl | omega | (dsimp only; omega) | (show _ ≤ 600130; omega) | (show _ ≤ 7301080; omega)), (by first | exact Nat.le_of_ble_eq_true rfl | omega | (dsimp only; omega) | (show _ ≤ 600130; omega) | (show _ ≤ 7301080; omega))⟩ dL_law_292 (fun r w' h => ?_)
      obtain ⟨rfl, rfl⟩ := h
      refine v_lload hc dL_law_295 rfl ?_
      refine v_lcmp hc dL_law_297 ?_
      refine v_ifL_ne hc (tgt := 305) dL_law_298 (by decide) (fun hb => False.elim (hb rfl)) (fun _ => ?_)
      refine v_iconst hc (v := nI 1) dL_law_301 (by decide) ?_
      refine v_goto hc (tgt := 306) dL_law_302 (by decide) ?_
      refine v_istore hc dL_law_306 (by decide) rfl ?_
      refine v_iload hc dL_law_308 rfl ?_
      refine v_bipush hc (v := nI 40) dL_law_310 (by decide) ?_
      refine v_icmp_geN hc (tgt := 338) dL_law_312 (by decide) (by omega) (by omega) (fun _ => ?_) (fun hb => False.elim (by omega))
      refine v_goto hc (tgt := 543) dL_law_338 (by decide) ?_
      have KKQ := ct M _ ⟨v, u, rfl, hdQ, pI, pO, pX, ia, nm, ctt, lv, lo, fa, fb, fm, O, X, cp, ru, fc, fn, fs, hP, hF, hJ, hSQ, hca, hna, hsa, ⟨hn1, hn2, hn3⟩, hfc, hfn, hfs⟩
      exact v_widen (by first | omega | exact Nat.le_of_ble_eq_true rfl | (dsimp only; omega)) (by first | omega | exact Nat.le_of_ble_eq_true rfl | (dsimp only; omega)) (v_loc _ rfl KKQ)
    · refine v_frSWi hc hdQ (q_store hl hP hF hSQ.1.2.1 (show M < 40 by omega) (Nat.mod_lt _ (by decide)) haQ) (vx_cwSW 3 hc.1.2.2.2.2 gL_law_L_store rfl rfl rfl (by decide +kernel) ⟨Nat.le_of_ble_eq_true rfl, Nat.le_of_ble_eq_true rfl⟩) rfl rfl (Nat.le_of_ble_eq_true rfl) ⟨(by first | exact Nat.le_of_ble_eq_true rfl | omega | (dsimp only; omega) | (show _ ≤ 600130; omega) | (show _ ≤ 7301080; omega)), (by first | exact Nat.le_of_ble_eq_true rfl | omega | (dsimp only; omega) | (show _ ≤ 600130; omega) | (show _ ≤ 7301080; omega))⟩ dL_law_260 (fun r u2 h hd2 => ?_)
      obtain ⟨⟨q, hP2, hF2⟩, rfl⟩ := h
      refine v_istore hc dL_law_263 (by decide) rfl ?_
      refine v_iload hc dL_law_265 rfl ?_
      refine v_iload hc dL_law_267 rfl ?_
      refine v_bipush hc (v := nI 40) dL_law_269 (by decide) ?_
      refine v_icmp_neN hc (tgt := 279) dL_law_271 (by decide) (by omega) (by omega) (fun _ => ?_) (fun hb => False.elim (hM40 hb))
      refine v_iload hc dL_law_279 rfl ?_
      refine v_icmp_ne hc (tgt := 305) dL_law_281 (by decide) (fun hb => False.elim (hb rfl)) (fun _ => ?_)
      refine v_iload hc dL_law_284 rfl ?_
      refine v_bipush hc (v := nI 40) dL_law_286 (by decide) ?_
      refine v_icmp_ltN hc (tgt := 301) dL_law_288 (by decide) (by omega) (by omega) (fun _ => ?_) (fun hb => False.elim (by omega))
      refine v_iconst hc (v := nI 1) dL_law_301 (by decide) ?_
      refine v_goto hc (tgt := 306) dL_law_302 (by decide) ?_
      refine v_istore hc dL_law_306 (by decide) rfl ?_
      refine v_iload hc dL_law_308 rfl ?_
      refine v_bipush hc (v := nI 40) dL_law_310 (by decide) ?_
      refine v_icmp_geN hc (tgt := 338) dL_law_312 (by decide) (by omega) (by omega) (fun hb => False.elim (by omega)) (fun _ => ?_)
      first | refine v_aload_n hc (i := 2) rfl dL_law_315 rfl ?_ | refine v_aload_nN hc (i := 2) rfl dL_law_315 rfl ?_
      refine v_iload hc dL_law_316 rfl ?_
      refine v_lload hc dL_law_318 rfl ?_
      refine v_last hc M dL_law_320 (jn_l hca) rfl (by omega) (by decide) ?_
      refine v_w jn_upl ?_
      first | refine v_aload_n hc (i := 3) rfl dL_law_321 rfl ?_ | refine v_aload_nN hc (i := 3) rfl dL_law_321 rfl ?_
      refine v_iload hc dL_law_322 rfl ?_
      refine v_iload hc dL_law_324 rfl ?_
      refine v_iconst hc (v := nI 4) dL_law_326 (by decide) ?_
      refine v_irem hc (by decide) dL_law_327 ?_
      refine v_ti (pk_rem (by omega) (by decide) (by decide)) ?_
      refine v_iast hc M dL_law_328 (jn_l (e := aI G 40 fn) (by rw [wup_n _ _ hn1.symm]; exact hna)) rfl (by omega) (by decide) ?_
      refine v_w jn_upl ?_
      first | refine v_aload hc dL_law_329 rfl ?_ | refine v_aloadN hc dL_law_329 rfl ?_
      refine v_iload hc dL_law_331 rfl ?_
      refine v_iconst hc (v := nI 3) dL_law_333 (by decide) ?_
      refine v_iast hc M dL_law_334 (jn_l (e := aI G 40 fs) (by rw [wup_n _ _ hn3.symm, wup_n _ _ hn2.symm]; exact hsa)) rfl (by omega) (by decide) ?_
      refine v_w jn_upl ?_
      first | refine v_iinc1 hc dL_law_335 rfl (by decide) rfl ?_ | refine v_iinc hc dL_law_335 rfl rfl (by decide) rfl ?_
      refine v_goto hc (tgt := 543) dL_law_338 (by decide) ?_
      have hd3 := dj_up (e := aL G 40 (va_up fc M a)) hd2 hca
      have hd4 := dj_up (e := aI G 40 (va_up fn M (nI (y % 4)))) hd3 (e0 := aI G 40 fn) (by rw [wup_n _ _ hn1.symm]; exact hna)
      have hd5 := dj_up (e := aI G 40 (va_up fs M (nI 3))) hd4 (e0 := aI G 40 fs) (by rw [wup_n _ _ hn3.symm, wup_n _ _ hn2.symm]; exact hsa)
      have KKQ := ct (M + 1) _ ⟨_, u2, rfl, hd5, pI, pO, pX, _, _, _, _, _, _, _, _, O, X, cp, ru, va_up fc M a, va_up fn M (nI (y % 4)), va_up fs M (nI 3), hP2, hF2, hJ.sto, hSQ.sto haQ (Nat.mod_lt _ (by decide)), by rw [wup_n _ _ hn2, wup_n _ _ hn1, wup_s], by rw [wup_n _ _ hn3, wup_s], wup_s _ _ _, ⟨hn1, hn2, hn3⟩, fun i hiQ => by
        by_cases hiM : i = M
        · subst hiM; rw [va_up_self, va_up_self]
        · rw [up_n hiM, up_n hiM]; exact hfc i (by omega), fun i hiQ => by
        by_cases hiM : i = M
        · subst hiM; rw [va_up_self, va_up_self]
        · rw [up_n hiM, up_n hiM]; exact hfn i (by omega), fun i hiQ => by
        by_cases hiM : i = M
        · subst hiM
          rw [va_up_self, va_up_self, va_up_self, show dmg (va_up fm i none) i = false by unfold dmg; rw [va_up_self]]; rfl
        · rw [up_n hiM, up_n hiM, up_n hiM, hfs i (by omega), show dmg (va_up fm M none) i = dmg fm i by unfold dmg; rw [up_n hiM]]⟩
      exact v_widen (by first | omega | exact Nat.le_of_ble_eq_true rfl | (dsimp only; omega)) (by first | omega | exact Nat.le_of_ble_eq_true rfl | (dsimp only; omega)) (v_loc _ rfl KKQ)
  · refine v_loop (σ := Nat × Nat) (fun a => a.1 ≤ z ∧ isK a.2 a.1) (fun a => z - a.1) (fun _ => jn v u) (fun _ => k) (fun _ => n) (fun a => lZ b px ca na sa M t x y ++ [(12, some (.long (lN a.2))), (14, some (.int (nI z))), (15, some (.int (nI a.1)))]) (0, 0) rfl ⟨Nat.zero_le _, isK_0⟩ ?_
    rintro ⟨j, cc⟩ ⟨hj0, hcc⟩ ihQ
    dsimp only at hj0 hcc ihQ ⊢
    refine v_iload hc dL_law_146 rfl ?_
    refine v_iload hc dL_law_148 rfl ?_
    refine v_icmp_geN hc (tgt := 217) dL_law_150 (by decide) (by omega) (by omega) (fun hj => ?_) (fun hj => ?_)
    · have e : j = z := by omega
      subst e
      have hC := isK_C hcc (by omega) hz
      refine v_iload hc dL_law_217 rfl ?_
      refine v_if_leN hc (tgt := 243) dL_law_219 (by decide) (by omega) (fun h0 => ?_) (fun h0 => ?_)
      · refine v_lload hc dL_law_243 rfl ?_
        have KKQ := KQ _ hC
        exact v_widen (by first | omega | exact Nat.le_of_ble_eq_true rfl | (dsimp only; omega)) (by first | omega | exact Nat.le_of_ble_eq_true rfl | (dsimp only; omega)) (v_loc _ rfl KKQ)
      · refine v_iload hc dL_law_222 rfl ?_
        refine v_bipush hc (v := nI 11) dL_law_224 (by decide) ?_
        refine v_irem hc (by decide) dL_law_226 ?_
        refine v_ti (pk_rem (by omega) (by decide) (by decide)) ?_
        refine v_if_neN hc (tgt := 243) dL_law_227 (by decide) (by omega) (fun h11 => ?_) (fun h11 => ?_)
        · refine v_lload hc dL_law_243 rfl ?_
          have KKQ := KQ _ hC
          exact v_widen (by first | omega | exact Nat.le_of_ble_eq_true rfl | (dsimp only; omega)) (by first | omega | exact Nat.le_of_ble_eq_true rfl | (dsimp only; omega)) (v_loc _ rfl KKQ)
        · first | refine v_aload_n hc (i := 2) rfl dL_law_230 rfl ?_ | refine v_aload_nN hc (i := 2) rfl dL_law_230 rfl ?_
          refine v_iload hc dL_law_231 rfl ?_
          refine v_bipush hc (v := nI 11) dL_law_233 (by decide) ?_
          refine v_idiv hc (by decide) dL_law_235 ?_
          refine v_ti (pk_div (by omega) (by decide) (by decide)) ?_
          refine v_iload hc dL_law_236 rfl ?_
          refine v_irem hc (fun z => by have := (nI_eq (a := M) (b := 0) (by omega) (by decide)).mp z; omega) dL_law_238 ?_
          refine v_ti (pk_rem (by omega) (by omega) (by omega)) ?_
          have hlt : y / 11 % M < M := Nat.mod_lt _ h0
          refine v_lald hc (y / 11 % M) dL_law_239 hcv rfl (by omega) (by decide) ?_
          rw [hfc _ hlt]
          refine v_goto hc (tgt := 245) dL_law_240 (by decide) ?_
          have KKQ := KQ _ (hSQ.1.1 _ hlt)
          exact v_widen (by first | omega | exact Nat.le_of_ble_eq_true rfl | (dsimp only; omega)) (by first | omega | exact Nat.le_of_ble_eq_true rfl | (dsimp only; omega)) (v_loc _ rfl KKQ)
    · have next : ∀ (d : Nat), d < 15 → ∀ (L' : vLT), (lY b px ca na sa M t x y z j).map (fun q => vl L' q.1) = (lY b px ca na sa M t x y z j).map (fun q => q.2) → LV p l e s m b below meth c G (jn v u) k n 207 L' [.int (nI d), .long ((16 : Int64) * lN cc + 1)] := fun d hd15 L' hL' => v_loc _ hL' (by
        refine v_i2l hc dL_law_207 ?_
        refine v_ladd hc dL_law_208 ?_
        refine v_tl (lN_16 hd15) ?_
        refine v_lstore hc dL_law_209 (by decide) rfl ?_
        first | refine v_iinc1 hc dL_law_211 rfl (by decide) rfl ?_ | refine v_iinc hc dL_law_211 rfl rfl (by decide) rfl ?_
        refine v_goto hc (tgt := 146) dL_law_214 (by decide) ?_
        exact ihQ (j + 1, 16 * cc + 1 + d) _ rfl ⟨hj, isK_s hcc (by omega) hd15⟩ (by dsimp only; omega))
      refine v_ldc2 hc (v := 16) dL_law_153 (by decide +kernel) ?_
      refine v_lload hc dL_law_156 rfl ?_
      refine v_lmul hc dL_law_158 ?_
      refine v_lconst hc (v := 1) dL_law_159 (by decide) ?_
      refine v_ladd hc dL_law_160 ?_
      refine v_iload hc dL_law_161 rfl ?_
      refine v_bipush hc (v := nI 7) dL_law_163 (by decide) ?_
      refine v_irem hc (by decide) dL_law_165 ?_
      refine v_ti (pk_rem (by omega) (by decide) (by decide)) ?_
      refine v_iconst hc (v := nI 4) dL_law_166 (by decide) ?_
      refine v_icmp_geN hc (tgt := 186) dL_law_167 (by decide) (by omega) (by omega) (fun h7 => ?_) (fun h7 => ?_)
      · refine v_iload hc dL_law_186 rfl ?_
        refine v_bipush hc (v := nI 45) dL_law_188 (by decide) ?_
        refine v_idiv hc (by decide) dL_law_190 ?_
        refine v_ti (pk_div (by omega) (by decide) (by decide)) ?_
        refine v_iload hc dL_law_191 rfl ?_
        refine v_iload hc dL_law_193 rfl ?_
        refine v_sipush hc (v := nI 800) dL_law_195 (by decide) ?_
        refine v_idiv hc (by decide) dL_law_198 ?_
        refine v_ti (pk_div (by omega) (by decide) (by decide)) ?_
        refine v_bipush hc (v := nI 11) dL_law_199 (by decide) ?_
        refine v_irem hc (by decide) dL_law_201 ?_
        refine v_ti (pk_rem (by omega) (by decide) (by decide)) ?_
        have hjm : j * (y / 800 % 11) ≤ 15 * 11 := Nat.mul_le_mul (by omega) (by omega)
        first | refine v_imulN hc dL_law_202 ?_ | refine v_imul hc dL_law_202 ?_
        first | refine v_iaddN hc dL_law_203 ?_ | refine v_iadd hc dL_law_203 ?_
        refine v_bipush hc (v := nI 15) dL_law_204 (by decide) ?_
        refine v_irem hc (by decide) dL_law_206 ?_
        refine v_ti (pk_rem (by omega) (by decide) (by decide)) ?_
        exact next _ (Nat.mod_lt _ (by decide)) _ rfl
      · refine v_iload hc dL_law_170 rfl ?_
        refine v_iload hc dL_law_172 rfl ?_
        refine v_bipush hc (v := nI 45) dL_law_174 (by decide) ?_
        refine v_idiv hc (by decide) dL_law_176 ?_
        refine v_ti (pk_div (by omega) (by decide) (by decide)) ?_
        refine v_iconst hc (v := nI 5) dL_law_177 (by decide) ?_
        refine v_irem hc (by decide) dL_law_178 ?_
        refine v_ti (pk_rem (by omega) (by decide) (by decide)) ?_
        first | refine v_iaddN hc dL_law_179 ?_ | refine v_iadd hc dL_law_179 ?_
        refine v_bipush hc (v := nI 15) dL_law_180 (by decide) ?_
        refine v_irem hc (by decide) dL_law_182 ?_
        refine v_ti (pk_rem (by omega) (by decide) (by decide)) ?_
        refine v_goto hc (tgt := 207) dL_law_183 (by decide) ?_
        exact next _ (Nat.mod_lt _ (by decide)) _ rfl
end LAWS

