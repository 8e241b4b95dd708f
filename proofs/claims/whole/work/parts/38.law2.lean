/-! ===== the law, case by case ===== -/
theorem LR.mono {G : cG} {u vm : wd} {px h : Nat} {ad : Nat → Nat} {P Q : (Nat → Int32) → Prop} (hL : LR G u vm px h ad P) (hPQ : ∀ sc, P sc → Q sc) : LR G u vm px h ad Q := by
  obtain ⟨pI, pO, pX, n, ia, nm, ct, lv, lo, fa, fb, fm, O, X, cp, ru, sc, ai, al, h1, h2, h3, h4, h5, h6, h7, h8, h9⟩ := hL
  exact ⟨pI, pO, pX, n, ia, nm, ct, lv, lo, fa, fb, fm, O, X, cp, ru, sc, ai, al, h1, h2, h3, h4, h5, h6, h7, h8, hPQ sc h9⟩
theorem dj.symm {v u : wd} (h : dj v u) : dj u v := fun a e hv => by
  cases hu : u a with
  | none => rfl
  | some e' => rw [h a e' hu] at hv; cases hv
theorem jn_assoc {v w u : wd} : jn v (jn w u) = jn (jn v w) u := by
  funext a
  cases hv : v a with
  | some e => rw [jn_l hv, jn_l (jn_l hv)]
  | none =>
    rw [jn_r hv]
    cases hw : w a with
    | some e => rw [jn_l hw, jn_l (by rw [jn_r hv]; exact hw)]
    | none => rw [jn_r hw, jn_r (by rw [jn_r hv]; exact hw)]
theorem dj.jr {v w u : wd} (h : dj v (jn w u)) (h2 : dj w u) : dj v w ∧ dj v u := ⟨fun a e hw => h a e (jn_l hw), fun a e hu => h a e (h2.r hu)⟩
theorem dj.jl {v w u : wd} (h : dj v u) (h2 : dj w u) : dj (jn v w) u := fun a e hu => by rw [jn_r (h a e hu)]; exact h2 a e hu
theorem dj.jl' {v w u : wd} (h : dj (jn v w) u) : dj v u := fun a e hu => by
  have h1 := h a e hu
  cases hv : v a with
  | none => rfl
  | some e' => rw [jn_l hv] at h1; cases h1
theorem dj.jl2 {v w u : wd} (hvw : dj v w) (h : dj (jn v w) u) : dj w u := fun a e hu => by
  have h1 := h a e hu
  cases hw : w a with
  | none => rfl
  | some e' => rw [hvw.r hw] at h1; cases h1
theorem dj.jn {v w u : wd} (h : dj v w) (h2 : dj v u) : dj v (jn w u) := fun a e hx => by
  cases hw : w a with
  | some e' => exact h a e' hw
  | none => rw [jn_r hw] at hx; exact h2 a e hx
abbrev lL (b px h oa i : Nat) : vLT := [(0, some (.ref b)), (1, some (.ref px)), (2, some (.ref h)), (3, some (.ref oa)), (4, some (.int (nI i)))]
def CT (p : Program) (l : Launch) (e : Env) (s : State) (m : MethodId) (b : Nat) (below : List Frame) (meth : Method) (c : Code) (G : cG) (px h oa : Nat) (ad : Nat → Nat) (i : Nat) : Prop := ∀ (u' vm' : wd) (f' : Nat → Int64) (L' : vLT), (lL b px h oa i).map (fun q => vl L' q.1) = (lL b px h oa i).map (fun q => q.2) → LR G u' vm' px h ad (fun _ => True) → dj vm' (jn (sg oa (aL G 1 f')) u') → dj (sg oa (aL G 1 f')) u' → LV p l e s m b below meth c G (jn vm' (jn (sg oa (aL G 1 f')) u')) (30 + (i + 4) * 40) (700 + (i + 4) * 1300) 1442 L' []
section LAWC
variable {p : Program} {l : Launch} {e : Env} {s : State} {m : MethodId} {below : List Frame} {meth : Method} {c : Code} {G : cG} {u vm : wd} {b N px h oa i : Nat} {xs : Nat → Int32} {ad : Nat → Nat} {f : Nat → Int64}
set_option maxRecDepth 100000 in
set_option maxHeartbeats 4000000 in
theorem k_store (hl : l.stackTraces = false) (hc : cxt p s m #[Value.ref b] meth c cL_law 8 RL wsL_law G (lA s)) (hr : meth.sig.returnType = ret) (hX : va_X b N xs s s.heap) (hbl : b < s.heap.size) (hN : N ≤ 2048) (hi : i + 4 ≤ N) (hLR : LR G u vm px h ad (fun _ => True)) (hd : dj vm (jn (sg oa (aL G 1 f)) u)) (hd1 : dj (sg oa (aL G 1 f)) u) (ct : CT p l e s m b below meth c G px h oa ad i) : LV p l e s m b below meth c G (jn vm (jn (sg oa (aL G 1 f)) u)) (30 + i * 40) (700 + i * 1300) 152 (lL b px h oa i) [] := by
  obtain ⟨pI, pO, pX, n, ia, nm, ctt, lv, lo, fa, fb, fm, O, X, cp, ru, sc, ai, al, hI, hP, hF, hJ, hM, hD, h16, h17, -⟩ := hLR
  first | refine v_aload_n hc (i := 1) rfl dL_law_152 rfl ?_ | refine v_aload_nN hc (i := 1) rfl dL_law_152 rfl ?_
  first | refine v_aload_n hc (i := 0) rfl dL_law_153 rfl ?_ | refine v_aload_nN hc (i := 0) rfl dL_law_153 rfl ?_
  refine v_iload hc dL_law_154 rfl ?_
  refine v_iconst hc (v := nI 1) dL_law_156 (by decide) ?_
  first | refine v_iaddN hc dL_law_157 ?_ | refine v_iadd hc dL_law_157 ?_
  refine v_sld hc hX hbl (by omega) hN dL_law_158 ?_
  first | refine v_aload_n hc (i := 0) rfl dL_law_159 rfl ?_ | refine v_aload_nN hc (i := 0) rfl dL_law_159 rfl ?_
  refine v_iload hc dL_law_160 rfl ?_
  refine v_iconst hc (v := nI 2) dL_law_162 (by decide) ?_
  first | refine v_iaddN hc dL_law_163 ?_ | refine v_iadd hc dL_law_163 ?_
  refine v_sld hc hX hbl (by omega) hN dL_law_164 ?_
  refine v_i2l hc dL_law_165 ?_
  refine v_bipush hc (v := nI 32) dL_law_166 (by decide) ?_
  refine v_lshl hc dL_law_168 ?_
  first | refine v_aload_n hc (i := 0) rfl dL_law_169 rfl ?_ | refine v_aload_nN hc (i := 0) rfl dL_law_169 rfl ?_
  refine v_iload hc dL_law_170 rfl ?_
  refine v_iconst hc (v := nI 3) dL_law_172 (by decide) ?_
  first | refine v_iaddN hc dL_law_173 ?_ | refine v_iadd hc dL_law_173 ?_
  refine v_sld hc hX hbl (by omega) hN dL_law_174 ?_
  refine v_i2l hc dL_law_175 ?_
  refine v_ldc2 hc (v := 4294967295) dL_law_176 (by decide +kernel) ?_
  refine v_land hc dL_law_179 ?_
  refine v_lor hc dL_law_180 ?_
  first | refine v_aload_n hc (i := 3) rfl dL_law_181 rfl ?_ | refine v_aload_nN hc (i := 3) rfl dL_law_181 rfl ?_
  refine v_frSWi hc hd (c_L_store (l := l) hd1 hP.1 _ _ (fun A => c_X3_store hl hP hF hI.2.1 _ _) (fun E u' hx => hx.2.imp And.left And.left)) (vx_cwSW 4 hc.1.2.2.2.2 gL_law_L_store rfl rfl rfl (by decide +kernel) ⟨Nat.le_of_ble_eq_true rfl, Nat.le_of_ble_eq_true rfl⟩) rfl rfl (Nat.le_of_ble_eq_true rfl) ⟨by show _ ≤ 601024; omega, by show _ ≤ 7293034; omega⟩ dL_law_182 (fun r5 w9 hp hd9 => ?_)
  obtain ⟨u2, f2, hd2, rfl, h1⟩ := hp
  refine v_istore hc dL_law_185 (by decide) rfl ?_
  first | refine v_aload_n hc (i := 2) rfl dL_law_187 rfl ?_ | refine v_aload_nN hc (i := 2) rfl dL_law_187 rfl ?_
  first | refine v_aload_n hc (i := 0) rfl dL_law_188 rfl ?_ | refine v_aload_nN hc (i := 0) rfl dL_law_188 rfl ?_
  refine v_iload hc dL_law_189 rfl ?_
  refine v_iconst hc (v := nI 1) dL_law_191 (by decide) ?_
  first | refine v_iaddN hc dL_law_192 ?_ | refine v_iadd hc dL_law_192 ?_
  refine v_sld hc hX hbl (by omega) hN dL_law_193 ?_
  first | refine v_aload_n hc (i := 0) rfl dL_law_194 rfl ?_ | refine v_aload_nN hc (i := 0) rfl dL_law_194 rfl ?_
  refine v_iload hc dL_law_195 rfl ?_
  refine v_iconst hc (v := nI 2) dL_law_197 (by decide) ?_
  first | refine v_iaddN hc dL_law_198 ?_ | refine v_iadd hc dL_law_198 ?_
  refine v_sld hc hX hbl (by omega) hN dL_law_199 ?_
  refine v_i2l hc dL_law_200 ?_
  refine v_bipush hc (v := nI 32) dL_law_201 (by decide) ?_
  refine v_lshl hc dL_law_203 ?_
  first | refine v_aload_n hc (i := 0) rfl dL_law_204 rfl ?_ | refine v_aload_nN hc (i := 0) rfl dL_law_204 rfl ?_
  refine v_iload hc dL_law_205 rfl ?_
  refine v_iconst hc (v := nI 3) dL_law_207 (by decide) ?_
  first | refine v_iaddN hc dL_law_208 ?_ | refine v_iadd hc dL_law_208 ?_
  refine v_sld hc hX hbl (by omega) hN dL_law_209 ?_
  refine v_i2l hc dL_law_210 ?_
  refine v_ldc2 hc (v := 4294967295) dL_law_211 (by decide +kernel) ?_
  refine v_land hc dL_law_214 ?_
  refine v_lor hc dL_law_215 ?_
  refine v_w (jn_comm hd9) ?_
  refine v_frVi hc hd9.symm (c_X4_store hM hD _ _) (cwV 2 hc.1.2.2.2.2 gL_law_X4_store rfl rfl rfl (by decide +kernel) ⟨Nat.le_of_ble_eq_true rfl, Nat.le_of_ble_eq_true rfl⟩) hM.1 rfl rfl rfl (Nat.le_of_ble_eq_true rfl) ⟨by show _ ≤ 601024; omega, by show _ ≤ 7293034; omega⟩ dL_law_216 (fun r6 vm2 hp2 hdv => ?_)
  obtain ⟨⟨qI, qO, qX, n2, ia2, nm2, ct2, lv2, lo2, fa2, fb2, fm2, O2, X2, cp2, ru2, sc2, ai2, al2, hI2, hP2, hF2, hJ2, hM2, hD2, h162, h172, h24⟩, hxy⟩ := ag_store hI hP hF hJ hD h16 h17 _ _ h1 hp2
  have hLR2 : LR G u2 vm2 px h ad (fun _ => True) := ⟨qI, qO, qX, n2, ia2, nm2, ct2, lv2, lo2, fa2, fb2, fm2, O2, X2, cp2, ru2, sc2, ai2, al2, hI2, hP2, hF2, hJ2, hM2, hD2, h162, h172, trivial⟩
  refine v_istore hc dL_law_219 (by decide) rfl ?_
  first | refine v_aload_n hc (i := 2) rfl dL_law_221 rfl ?_ | refine v_aload_nN hc (i := 2) rfl dL_law_221 rfl ?_
  refine v_frVi hc hdv (c_X4_thrown hM2) (cwV 0 hc.1.2.2.2.2 gL_law_X4_thrown rfl rfl rfl (by decide +kernel) ⟨Nat.le_of_ble_eq_true rfl, Nat.le_of_ble_eq_true rfl⟩) hM2.1 rfl rfl rfl (Nat.le_of_ble_eq_true rfl) ⟨by show _ ≤ 601024; omega, by show _ ≤ 7293034; omega⟩ dL_law_222 (fun th vm3 hp3 hdv => ?_)
  obtain ⟨rfl, rfl⟩ := hp3
  rw [h24]
  refine v_iload hc dL_law_225 rfl ?_
  refine v_icmp_eq hc (tgt := 232) dL_law_227 (by decide) (fun _ => ?_) (fun z => absurd rfl z)
  refine v_iload hc dL_law_232 rfl ?_
  refine v_if_ne hc (tgt := 249) dL_law_234 (by decide) (fun _ => ?_) (fun z => ?_)
  · refine v_goto hc (tgt := 1442) dL_law_249 (by decide) ?_
    refine v_widen (k' := 30 + (i + 4) * 40) (n' := 700 + (i + 4) * 1300) (by omega) (by omega) ?_
    refine v_w (jn_comm hdv) ?_
    exact ct u2 _ f2 _ rfl hLR2 hdv.symm hd2
  · have hz : r5 = nI 0 := by first | exact z | exact Classical.byContradiction z
    have hxy := hxy hz
    first | refine v_aload_n hc (i := 3) rfl dL_law_237 rfl ?_ | refine v_aload_nN hc (i := 3) rfl dL_law_237 rfl ?_
    refine v_iconst hc (v := nI 0) dL_law_238 (by decide) ?_
    refine v_lald hc (0) dL_law_239 (jn_l (jn_l (sg_s _ _))) rfl (by decide) (by decide) ?_
    refine v_iload hc dL_law_240 rfl ?_
    refine v_i2l hc dL_law_242 ?_
    refine v_lcmp hc dL_law_243 ?_
    refine v_ifL_eq hc (tgt := 249) dL_law_244 (by decide) (fun _ => ?_) (fun z => absurd hxy z)
    refine v_goto hc (tgt := 1442) dL_law_249 (by decide) ?_
    refine v_widen (k' := 30 + (i + 4) * 40) (n' := 700 + (i + 4) * 1300) (by omega) (by omega) ?_
    refine v_w (jn_comm hdv) ?_
    exact ct u2 _ f2 _ rfl hLR2 hdv.symm hd2
set_option maxRecDepth 100000 in
set_option maxHeartbeats 4000000 in
theorem k_delete (hl : l.stackTraces = false) (hc : cxt p s m #[Value.ref b] meth c cL_law 8 RL wsL_law G (lA s)) (hr : meth.sig.returnType = ret) (hX : va_X b N xs s s.heap) (hbl : b < s.heap.size) (hN : N ≤ 2048) (hi : i + 4 ≤ N) (hLR : LR G u vm px h ad (fun _ => True)) (hd : dj vm (jn (sg oa (aL G 1 f)) u)) (hd1 : dj (sg oa (aL G 1 f)) u) (ct : CT p l e s m b below meth c G px h oa ad i) : LV p l e s m b below meth c G (jn vm (jn (sg oa (aL G 1 f)) u)) (30 + i * 40) (700 + i * 1300) 252 (lL b px h oa i) [] := by
  obtain ⟨pI, pO, pX, n, ia, nm, ctt, lv, lo, fa, fb, fm, O, X, cp, ru, sc, ai, al, hI, hP, hF, hJ, hM, hD, h16, h17, -⟩ := hLR
  first | refine v_aload_n hc (i := 1) rfl dL_law_252 rfl ?_ | refine v_aload_nN hc (i := 1) rfl dL_law_252 rfl ?_
  first | refine v_aload_n hc (i := 0) rfl dL_law_253 rfl ?_ | refine v_aload_nN hc (i := 0) rfl dL_law_253 rfl ?_
  refine v_iload hc dL_law_254 rfl ?_
  refine v_iconst hc (v := nI 1) dL_law_256 (by decide) ?_
  first | refine v_iaddN hc dL_law_257 ?_ | refine v_iadd hc dL_law_257 ?_
  refine v_sld hc hX hbl (by omega) hN dL_law_258 ?_
  first | refine v_aload_n hc (i := 3) rfl dL_law_259 rfl ?_ | refine v_aload_nN hc (i := 3) rfl dL_law_259 rfl ?_
  refine v_frSWi hc hd (c_L_delete (l := l) hd1 hP.1 _ (fun A => c_X3_delete hl hP hF _) (fun E u' hx => hx.2.imp And.left And.left)) (vx_cwSW 3 hc.1.2.2.2.2 gL_law_L_delete rfl rfl rfl (by decide +kernel) ⟨Nat.le_of_ble_eq_true rfl, Nat.le_of_ble_eq_true rfl⟩) rfl rfl (Nat.le_of_ble_eq_true rfl) ⟨by show _ ≤ 601024; omega, by show _ ≤ 7293034; omega⟩ dL_law_260 (fun r5 w9 hp hd9 => ?_)
  obtain ⟨u2, f2, hd2, rfl, h1⟩ := hp
  refine v_istore hc dL_law_263 (by decide) rfl ?_
  first | refine v_aload_n hc (i := 2) rfl dL_law_265 rfl ?_ | refine v_aload_nN hc (i := 2) rfl dL_law_265 rfl ?_
  first | refine v_aload_n hc (i := 0) rfl dL_law_266 rfl ?_ | refine v_aload_nN hc (i := 0) rfl dL_law_266 rfl ?_
  refine v_iload hc dL_law_267 rfl ?_
  refine v_iconst hc (v := nI 1) dL_law_269 (by decide) ?_
  first | refine v_iaddN hc dL_law_270 ?_ | refine v_iadd hc dL_law_270 ?_
  refine v_sld hc hX hbl (by omega) hN dL_law_271 ?_
  refine v_w (jn_comm hd9) ?_
  refine v_frVi hc hd9.symm (c_X4_delete hM hD _) (cwV 1 hc.1.2.2.2.2 gL_law_X4_delete rfl rfl rfl (by decide +kernel) ⟨Nat.le_of_ble_eq_true rfl, Nat.le_of_ble_eq_true rfl⟩) hM.1 rfl rfl rfl (Nat.le_of_ble_eq_true rfl) ⟨by show _ ≤ 601024; omega, by show _ ≤ 7293034; omega⟩ dL_law_272 (fun r6 vm2 hp2 hdv => ?_)
  obtain ⟨⟨qI, qO, qX, n2, ia2, nm2, ct2, lv2, lo2, fa2, fb2, fm2, O2, X2, cp2, ru2, sc2, ai2, al2, hI2, hP2, hF2, hJ2, hM2, hD2, h162, h172, h24⟩, hxy⟩ := ag_delete hI hP hF hJ hD h16 h17 _ h1 hp2
  have hLR2 : LR G u2 vm2 px h ad (fun _ => True) := ⟨qI, qO, qX, n2, ia2, nm2, ct2, lv2, lo2, fa2, fb2, fm2, O2, X2, cp2, ru2, sc2, ai2, al2, hI2, hP2, hF2, hJ2, hM2, hD2, h162, h172, trivial⟩
  refine v_istore hc dL_law_275 (by decide) rfl ?_
  first | refine v_aload_n hc (i := 2) rfl dL_law_277 rfl ?_ | refine v_aload_nN hc (i := 2) rfl dL_law_277 rfl ?_
  refine v_frVi hc hdv (c_X4_thrown hM2) (cwV 0 hc.1.2.2.2.2 gL_law_X4_thrown rfl rfl rfl (by decide +kernel) ⟨Nat.le_of_ble_eq_true rfl, Nat.le_of_ble_eq_true rfl⟩) hM2.1 rfl rfl rfl (Nat.le_of_ble_eq_true rfl) ⟨by show _ ≤ 601024; omega, by show _ ≤ 7293034; omega⟩ dL_law_278 (fun th vm3 hp3 hdv => ?_)
  obtain ⟨rfl, rfl⟩ := hp3
  rw [h24]
  refine v_iload hc dL_law_281 rfl ?_
  refine v_icmp_eq hc (tgt := 288) dL_law_283 (by decide) (fun _ => ?_) (fun z => absurd rfl z)
  refine v_iload hc dL_law_288 rfl ?_
  refine v_if_ne hc (tgt := 305) dL_law_290 (by decide) (fun _ => ?_) (fun z => ?_)
  · refine v_goto hc (tgt := 1442) dL_law_305 (by decide) ?_
    refine v_widen (k' := 30 + (i + 4) * 40) (n' := 700 + (i + 4) * 1300) (by omega) (by omega) ?_
    refine v_w (jn_comm hdv) ?_
    exact ct u2 _ f2 _ rfl hLR2 hdv.symm hd2
  · have hz : r5 = nI 0 := by first | exact z | exact Classical.byContradiction z
    have hxy := hxy hz
    first | refine v_aload_n hc (i := 3) rfl dL_law_293 rfl ?_ | refine v_aload_nN hc (i := 3) rfl dL_law_293 rfl ?_
    refine v_iconst hc (v := nI 0) dL_law_294 (by decide) ?_
    refine v_lald hc (0) dL_law_295 (jn_l (jn_l (sg_s _ _))) rfl (by decide) (by decide) ?_
    refine v_iload hc dL_law_296 rfl ?_
    refine v_i2l hc dL_law_298 ?_
    refine v_lcmp hc dL_law_299 ?_
    refine v_ifL_eq hc (tgt := 305) dL_law_300 (by decide) (fun _ => ?_) (fun z => absurd hxy z)
    refine v_goto hc (tgt := 1442) dL_law_305 (by decide) ?_
    refine v_widen (k' := 30 + (i + 4) * 40) (n' := 700 + (i + 4) * 1300) (by omega) (by omega) ?_
    refine v_w (jn_comm hdv) ?_
    exact ct u2 _ f2 _ rfl hLR2 hdv.symm hd2
set_option maxRecDepth 100000 in
set_option maxHeartbeats 4000000 in
theorem k_isLive (hl : l.stackTraces = false) (hc : cxt p s m #[Value.ref b] meth c cL_law 8 RL wsL_law G (lA s)) (hr : meth.sig.returnType = ret) (hX : va_X b N xs s s.heap) (hbl : b < s.heap.size) (hN : N ≤ 2048) (hi : i + 4 ≤ N) (hLR : LR G u vm px h ad (fun _ => True)) (hd : dj vm (jn (sg oa (aL G 1 f)) u)) (hd1 : dj (sg oa (aL G 1 f)) u) (ct : CT p l e s m b below meth c G px h oa ad i) : LV p l e s m b below meth c G (jn vm (jn (sg oa (aL G 1 f)) u)) (30 + i * 40) (700 + i * 1300) 321 (lL b px h oa i) [] := by
  obtain ⟨pI, pO, pX, n, ia, nm, ctt, lv, lo, fa, fb, fm, O, X, cp, ru, sc, ai, al, hI, hP, hF, hJ, hM, hD, h16, h17, -⟩ := hLR
  first | refine v_aload_n hc (i := 1) rfl dL_law_321 rfl ?_ | refine v_aload_nN hc (i := 1) rfl dL_law_321 rfl ?_
  first | refine v_aload_n hc (i := 0) rfl dL_law_322 rfl ?_ | refine v_aload_nN hc (i := 0) rfl dL_law_322 rfl ?_
  refine v_iload hc dL_law_323 rfl ?_
  refine v_iconst hc (v := nI 1) dL_law_325 (by decide) ?_
  first | refine v_iaddN hc dL_law_326 ?_ | refine v_iadd hc dL_law_326 ?_
  refine v_sld hc hX hbl (by omega) hN dL_law_327 ?_
  first | refine v_aload_n hc (i := 3) rfl dL_law_328 rfl ?_ | refine v_aload_nN hc (i := 3) rfl dL_law_328 rfl ?_
  refine v_frSWi hc hd (c_L_isLive (l := l) hd1 hP.1 _ (fun A => c_X3_isLive hl hP _) (fun E u' hx => hx.2.1)) (vx_cwSW 3 hc.1.2.2.2.2 gL_law_L_isLive rfl rfl rfl (by decide +kernel) ⟨Nat.le_of_ble_eq_true rfl, Nat.le_of_ble_eq_true rfl⟩) rfl rfl (Nat.le_of_ble_eq_true rfl) ⟨by show _ ≤ 601024; omega, by show _ ≤ 7293034; omega⟩ dL_law_329 (fun r5 w9 hp hd9 => ?_)
  obtain ⟨u2, f2, hd2, rfl, h1⟩ := hp
  refine v_istore hc dL_law_332 (by decide) rfl ?_
  first | refine v_aload_n hc (i := 2) rfl dL_law_334 rfl ?_ | refine v_aload_nN hc (i := 2) rfl dL_law_334 rfl ?_
  first | refine v_aload_n hc (i := 0) rfl dL_law_335 rfl ?_ | refine v_aload_nN hc (i := 0) rfl dL_law_335 rfl ?_
  refine v_iload hc dL_law_336 rfl ?_
  refine v_iconst hc (v := nI 1) dL_law_338 (by decide) ?_
  first | refine v_iaddN hc dL_law_339 ?_ | refine v_iadd hc dL_law_339 ?_
  refine v_sld hc hX hbl (by omega) hN dL_law_340 ?_
  refine v_w (jn_comm hd9) ?_
  refine v_frVi hc hd9.symm (c_X4_isLive hM hD _) (cwV 1 hc.1.2.2.2.2 gL_law_X4_isLive rfl rfl rfl (by decide +kernel) ⟨Nat.le_of_ble_eq_true rfl, Nat.le_of_ble_eq_true rfl⟩) hM.1 rfl rfl rfl (Nat.le_of_ble_eq_true rfl) ⟨by show _ ≤ 601024; omega, by show _ ≤ 7293034; omega⟩ dL_law_341 (fun r6 vm2 hp2 hdv => ?_)
  obtain ⟨⟨qI, qO, qX, n2, ia2, nm2, ct2, lv2, lo2, fa2, fb2, fm2, O2, X2, cp2, ru2, sc2, ai2, al2, hI2, hP2, hF2, hJ2, hM2, hD2, h162, h172, h24⟩, hxy⟩ := ag_isLive hI hP hF hJ hD h16 h17 _ h1 hp2
  have hLR2 : LR G u2 vm2 px h ad (fun _ => True) := ⟨qI, qO, qX, n2, ia2, nm2, ct2, lv2, lo2, fa2, fb2, fm2, O2, X2, cp2, ru2, sc2, ai2, al2, hI2, hP2, hF2, hJ2, hM2, hD2, h162, h172, trivial⟩
  refine v_istore hc dL_law_344 (by decide) rfl ?_
  first | refine v_aload_n hc (i := 2) rfl dL_law_346 rfl ?_ | refine v_aload_nN hc (i := 2) rfl dL_law_346 rfl ?_
  refine v_frVi hc hdv (c_X4_thrown hM2) (cwV 0 hc.1.2.2.2.2 gL_law_X4_thrown rfl rfl rfl (by decide +kernel) ⟨Nat.le_of_ble_eq_true rfl, Nat.le_of_ble_eq_true rfl⟩) hM2.1 rfl rfl rfl (Nat.le_of_ble_eq_true rfl) ⟨by show _ ≤ 601024; omega, by show _ ≤ 7293034; omega⟩ dL_law_347 (fun th vm3 hp3 hdv => ?_)
  obtain ⟨rfl, rfl⟩ := hp3
  rw [h24]
  refine v_iload hc dL_law_350 rfl ?_
  refine v_icmp_eq hc (tgt := 357) dL_law_352 (by decide) (fun _ => ?_) (fun z => absurd rfl z)
  refine v_iload hc dL_law_357 rfl ?_
  refine v_if_ne hc (tgt := 381) dL_law_359 (by decide) (fun _ => ?_) (fun z => ?_)
  · refine v_goto hc (tgt := 1442) dL_law_381 (by decide) ?_
    refine v_widen (k' := 30 + (i + 4) * 40) (n' := 700 + (i + 4) * 1300) (by omega) (by omega) ?_
    refine v_w (jn_comm hdv) ?_
    exact ct u2 _ f2 _ rfl hLR2 hdv.symm hd2
  · have hz : r5 = nI 0 := by first | exact z | exact Classical.byContradiction z
    have hxy := hxy hz
    first | refine v_aload_n hc (i := 3) rfl dL_law_362 rfl ?_ | refine v_aload_nN hc (i := 3) rfl dL_law_362 rfl ?_
    refine v_iconst hc (v := nI 0) dL_law_363 (by decide) ?_
    refine v_lald hc (0) dL_law_364 (jn_l (jn_l (sg_s _ _))) rfl (by decide) (by decide) ?_
    refine v_iload hc dL_law_365 rfl ?_
    refine v_if_eq hc (tgt := 374) dL_law_367 (by decide) (fun h0 => ?_) (fun h0 => ?_)
    · refine v_lconst hc (v := 0) dL_law_374 (by decide) ?_
      refine v_lcmp hc dL_law_375 ?_
      refine v_ifL_eq hc (tgt := 381) dL_law_376 (by decide) (fun _ => ?_) (fun z => absurd (by rw [hxy, if_pos h0]) z)
      refine v_goto hc (tgt := 1442) dL_law_381 (by decide) ?_
      refine v_widen (k' := 30 + (i + 4) * 40) (n' := 700 + (i + 4) * 1300) (by omega) (by omega) ?_
      refine v_w (jn_comm hdv) ?_
      exact ct u2 _ f2 _ rfl hLR2 hdv.symm hd2
    · refine v_lconst hc (v := 1) dL_law_370 (by decide) ?_
      refine v_goto hc (tgt := 375) dL_law_371 (by decide) ?_
      refine v_lcmp hc dL_law_375 ?_
      refine v_ifL_eq hc (tgt := 381) dL_law_376 (by decide) (fun _ => ?_) (fun z => absurd (by rw [hxy, if_neg h0]) z)
      refine v_goto hc (tgt := 1442) dL_law_381 (by decide) ?_
      refine v_widen (k' := 30 + (i + 4) * 40) (n' := 700 + (i + 4) * 1300) (by omega) (by omega) ?_
      refine v_w (jn_comm hdv) ?_
      exact ct u2 _ f2 _ rfl hLR2 hdv.symm hd2
set_option maxRecDepth 100000 in
set_option maxHeartbeats 4000000 in
theorem k_isLoose (hl : l.stackTraces = false) (hc : cxt p s m #[Value.ref b] meth c cL_law 8 RL wsL_law G (lA s)) (hr : meth.sig.returnType = ret) (hX : va_X b N xs s s.heap) (hbl : b < s.heap.size) (hN : N ≤ 2048) (hi : i + 4 ≤ N) (hLR : LR G u vm px h ad (fun _ => True)) (hd : dj vm (jn (sg oa (aL G 1 f)) u)) (hd1 : dj (sg oa (aL G 1 f)) u) (ct : CT p l e s m b below meth c G px h oa ad i) : LV p l e s m b below meth c G (jn vm (jn (sg oa (aL G 1 f)) u)) (30 + i * 40) (700 + i * 1300) 384 (lL b px h oa i) [] := by
  obtain ⟨pI, pO, pX, n, ia, nm, ctt, lv, lo, fa, fb, fm, O, X, cp, ru, sc, ai, al, hI, hP, hF, hJ, hM, hD, h16, h17, -⟩ := hLR
  first | refine v_aload_n hc (i := 1) rfl dL_law_384 rfl ?_ | refine v_aload_nN hc (i := 1) rfl dL_law_384 rfl ?_
  first | refine v_aload_n hc (i := 0) rfl dL_law_385 rfl ?_ | refine v_aload_nN hc (i := 0) rfl dL_law_385 rfl ?_
  refine v_iload hc dL_law_386 rfl ?_
  refine v_iconst hc (v := nI 1) dL_law_388 (by decide) ?_
  first | refine v_iaddN hc dL_law_389 ?_ | refine v_iadd hc dL_law_389 ?_
  refine v_sld hc hX hbl (by omega) hN dL_law_390 ?_
  first | refine v_aload_n hc (i := 3) rfl dL_law_391 rfl ?_ | refine v_aload_nN hc (i := 3) rfl dL_law_391 rfl ?_
  refine v_frSWi hc hd (c_L_isLoose (l := l) hd1 hP.1 _ (fun A => c_X3_isLoose hl hP _) (fun E u' hx => hx.2.1)) (vx_cwSW 3 hc.1.2.2.2.2 gL_law_L_isLoose rfl rfl rfl (by decide +kernel) ⟨Nat.le_of_ble_eq_true rfl, Nat.le_of_ble_eq_true rfl⟩) rfl rfl (Nat.le_of_ble_eq_true rfl) ⟨by show _ ≤ 601024; omega, by show _ ≤ 7293034; omega⟩ dL_law_392 (fun r5 w9 hp hd9 => ?_)
  obtain ⟨u2, f2, hd2, rfl, h1⟩ := hp
  refine v_istore hc dL_law_395 (by decide) rfl ?_
  first | refine v_aload_n hc (i := 2) rfl dL_law_397 rfl ?_ | refine v_aload_nN hc (i := 2) rfl dL_law_397 rfl ?_
  first | refine v_aload_n hc (i := 0) rfl dL_law_398 rfl ?_ | refine v_aload_nN hc (i := 0) rfl dL_law_398 rfl ?_
  refine v_iload hc dL_law_399 rfl ?_
  refine v_iconst hc (v := nI 1) dL_law_401 (by decide) ?_
  first | refine v_iaddN hc dL_law_402 ?_ | refine v_iadd hc dL_law_402 ?_
  refine v_sld hc hX hbl (by omega) hN dL_law_403 ?_
  refine v_w (jn_comm hd9) ?_
  refine v_frVi hc hd9.symm (c_X4_isLoose hM hD _) (cwV 1 hc.1.2.2.2.2 gL_law_X4_isLoose rfl rfl rfl (by decide +kernel) ⟨Nat.le_of_ble_eq_true rfl, Nat.le_of_ble_eq_true rfl⟩) hM.1 rfl rfl rfl (Nat.le_of_ble_eq_true rfl) ⟨by show _ ≤ 601024; omega, by show _ ≤ 7293034; omega⟩ dL_law_404 (fun r6 vm2 hp2 hdv => ?_)
  obtain ⟨⟨qI, qO, qX, n2, ia2, nm2, ct2, lv2, lo2, fa2, fb2, fm2, O2, X2, cp2, ru2, sc2, ai2, al2, hI2, hP2, hF2, hJ2, hM2, hD2, h162, h172, h24⟩, hxy⟩ := ag_isLoose hI hP hF hJ hD h16 h17 _ h1 hp2
  have hLR2 : LR G u2 vm2 px h ad (fun _ => True) := ⟨qI, qO, qX, n2, ia2, nm2, ct2, lv2, lo2, fa2, fb2, fm2, O2, X2, cp2, ru2, sc2, ai2, al2, hI2, hP2, hF2, hJ2, hM2, hD2, h162, h172, trivial⟩
  refine v_istore hc dL_law_407 (by decide) rfl ?_
  first | refine v_aload_n hc (i := 2) rfl dL_law_409 rfl ?_ | refine v_aload_nN hc (i := 2) rfl dL_law_409 rfl ?_
  refine v_frVi hc hdv (c_X4_thrown hM2) (cwV 0 hc.1.2.2.2.2 gL_law_X4_thrown rfl rfl rfl (by decide +kernel) ⟨Nat.le_of_ble_eq_true rfl, Nat.le_of_ble_eq_true rfl⟩) hM2.1 rfl rfl rfl (Nat.le_of_ble_eq_true rfl) ⟨by show _ ≤ 601024; omega, by show _ ≤ 7293034; omega⟩ dL_law_410 (fun th vm3 hp3 hdv => ?_)
  obtain ⟨rfl, rfl⟩ := hp3
  rw [h24]
  refine v_iload hc dL_law_413 rfl ?_
  refine v_icmp_eq hc (tgt := 420) dL_law_415 (by decide) (fun _ => ?_) (fun z => absurd rfl z)
  refine v_iload hc dL_law_420 rfl ?_
  refine v_if_ne hc (tgt := 444) dL_law_422 (by decide) (fun _ => ?_) (fun z => ?_)
  · refine v_goto hc (tgt := 1442) dL_law_444 (by decide) ?_
    refine v_widen (k' := 30 + (i + 4) * 40) (n' := 700 + (i + 4) * 1300) (by omega) (by omega) ?_
    refine v_w (jn_comm hdv) ?_
    exact ct u2 _ f2 _ rfl hLR2 hdv.symm hd2
  · have hz : r5 = nI 0 := by first | exact z | exact Classical.byContradiction z
    have hxy := hxy hz
    first | refine v_aload_n hc (i := 3) rfl dL_law_425 rfl ?_ | refine v_aload_nN hc (i := 3) rfl dL_law_425 rfl ?_
    refine v_iconst hc (v := nI 0) dL_law_426 (by decide) ?_
    refine v_lald hc (0) dL_law_427 (jn_l (jn_l (sg_s _ _))) rfl (by decide) (by decide) ?_
    refine v_iload hc dL_law_428 rfl ?_
    refine v_if_eq hc (tgt := 437) dL_law_430 (by decide) (fun h0 => ?_) (fun h0 => ?_)
    · refine v_lconst hc (v := 0) dL_law_437 (by decide) ?_
      refine v_lcmp hc dL_law_438 ?_
      refine v_ifL_eq hc (tgt := 444) dL_law_439 (by decide) (fun _ => ?_) (fun z => absurd (by rw [hxy, if_pos h0]) z)
      refine v_goto hc (tgt := 1442) dL_law_444 (by decide) ?_
      refine v_widen (k' := 30 + (i + 4) * 40) (n' := 700 + (i + 4) * 1300) (by omega) (by omega) ?_
      refine v_w (jn_comm hdv) ?_
      exact ct u2 _ f2 _ rfl hLR2 hdv.symm hd2
    · refine v_lconst hc (v := 1) dL_law_433 (by decide) ?_
      refine v_goto hc (tgt := 438) dL_law_434 (by decide) ?_
      refine v_lcmp hc dL_law_438 ?_
      refine v_ifL_eq hc (tgt := 444) dL_law_439 (by decide) (fun _ => ?_) (fun z => absurd (by rw [hxy, if_neg h0]) z)
      refine v_goto hc (tgt := 1442) dL_law_444 (by decide) ?_
      refine v_widen (k' := 30 + (i + 4) * 40) (n' := 700 + (i + 4) * 1300) (by omega) (by omega) ?_
      refine v_w (jn_comm hdv) ?_
      exact ct u2 _ f2 _ rfl hLR2 hdv.symm hd2
set_option maxRecDepth 100000 in
set_option maxHeartbeats 4000000 in
theorem k_canRead (hl : l.stackTraces = false) (hc : cxt p s m #[Value.ref b] meth c cL_law 8 RL wsL_law G (lA s)) (hr : meth.sig.returnType = ret) (hX : va_X b N xs s s.heap) (hbl : b < s.heap.size) (hN : N ≤ 2048) (hi : i + 4 ≤ N) (hLR : LR G u vm px h ad (fun _ => True)) (hd : dj vm (jn (sg oa (aL G 1 f)) u)) (hd1 : dj (sg oa (aL G 1 f)) u) (ct : CT p l e s m b below meth c G px h oa ad i) : LV p l e s m b below meth c G (jn vm (jn (sg oa (aL G 1 f)) u)) (30 + i * 40) (700 + i * 1300) 447 (lL b px h oa i) [] := by
  obtain ⟨pI, pO, pX, n, ia, nm, ctt, lv, lo, fa, fb, fm, O, X, cp, ru, sc, ai, al, hI, hP, hF, hJ, hM, hD, h16, h17, -⟩ := hLR
  first | refine v_aload_n hc (i := 1) rfl dL_law_447 rfl ?_ | refine v_aload_nN hc (i := 1) rfl dL_law_447 rfl ?_
  first | refine v_aload_n hc (i := 0) rfl dL_law_448 rfl ?_ | refine v_aload_nN hc (i := 0) rfl dL_law_448 rfl ?_
  refine v_iload hc dL_law_449 rfl ?_
  refine v_iconst hc (v := nI 1) dL_law_451 (by decide) ?_
  first | refine v_iaddN hc dL_law_452 ?_ | refine v_iadd hc dL_law_452 ?_
  refine v_sld hc hX hbl (by omega) hN dL_law_453 ?_
  first | refine v_aload_n hc (i := 3) rfl dL_law_454 rfl ?_ | refine v_aload_nN hc (i := 3) rfl dL_law_454 rfl ?_
  refine v_frSWi hc hd (c_L_canRead (l := l) hd1 hP.1 _ (fun A => c_X3_canRead hl hP hF hI.2.1 _) (fun E u' hx => hx.2.1)) (vx_cwSW 3 hc.1.2.2.2.2 gL_law_L_canRead rfl rfl rfl (by decide +kernel) ⟨Nat.le_of_ble_eq_true rfl, Nat.le_of_ble_eq_true rfl⟩) rfl rfl (Nat.le_of_ble_eq_true rfl) ⟨by show _ ≤ 601024; omega, by show _ ≤ 7293034; omega⟩ dL_law_455 (fun r5 w9 hp hd9 => ?_)
  obtain ⟨u2, f2, hd2, rfl, h1⟩ := hp
  refine v_istore hc dL_law_458 (by decide) rfl ?_
  first | refine v_aload_n hc (i := 2) rfl dL_law_460 rfl ?_ | refine v_aload_nN hc (i := 2) rfl dL_law_460 rfl ?_
  first | refine v_aload_n hc (i := 0) rfl dL_law_461 rfl ?_ | refine v_aload_nN hc (i := 0) rfl dL_law_461 rfl ?_
  refine v_iload hc dL_law_462 rfl ?_
  refine v_iconst hc (v := nI 1) dL_law_464 (by decide) ?_
  first | refine v_iaddN hc dL_law_465 ?_ | refine v_iadd hc dL_law_465 ?_
  refine v_sld hc hX hbl (by omega) hN dL_law_466 ?_
  refine v_w (jn_comm hd9) ?_
  refine v_frVi hc hd9.symm (c_X4_canRead hM hD hI.2.1 _) (cwV 1 hc.1.2.2.2.2 gL_law_X4_canRead rfl rfl rfl (by decide +kernel) ⟨Nat.le_of_ble_eq_true rfl, Nat.le_of_ble_eq_true rfl⟩) hM.1 rfl rfl rfl (Nat.le_of_ble_eq_true rfl) ⟨by show _ ≤ 601024; omega, by show _ ≤ 7293034; omega⟩ dL_law_467 (fun r6 vm2 hp2 hdv => ?_)
  obtain ⟨⟨qI, qO, qX, n2, ia2, nm2, ct2, lv2, lo2, fa2, fb2, fm2, O2, X2, cp2, ru2, sc2, ai2, al2, hI2, hP2, hF2, hJ2, hM2, hD2, h162, h172, h24⟩, hxy⟩ := ag_canRead hI hP hF hJ hD h16 h17 _ h1 hp2
  have hLR2 : LR G u2 vm2 px h ad (fun _ => True) := ⟨qI, qO, qX, n2, ia2, nm2, ct2, lv2, lo2, fa2, fb2, fm2, O2, X2, cp2, ru2, sc2, ai2, al2, hI2, hP2, hF2, hJ2, hM2, hD2, h162, h172, trivial⟩
  refine v_istore hc dL_law_470 (by decide) rfl ?_
  first | refine v_aload_n hc (i := 2) rfl dL_law_472 rfl ?_ | refine v_aload_nN hc (i := 2) rfl dL_law_472 rfl ?_
  refine v_frVi hc hdv (c_X4_thrown hM2) (cwV 0 hc.1.2.2.2.2 gL_law_X4_thrown rfl rfl rfl (by decide +kernel) ⟨Nat.le_of_ble_eq_true rfl, Nat.le_of_ble_eq_true rfl⟩) hM2.1 rfl rfl rfl (Nat.le_of_ble_eq_true rfl) ⟨by show _ ≤ 601024; omega, by show _ ≤ 7293034; omega⟩ dL_law_473 (fun th vm3 hp3 hdv => ?_)
  obtain ⟨rfl, rfl⟩ := hp3
  rw [h24]
  refine v_iload hc dL_law_476 rfl ?_
  refine v_icmp_eq hc (tgt := 483) dL_law_478 (by decide) (fun _ => ?_) (fun z => absurd rfl z)
  refine v_iload hc dL_law_483 rfl ?_
  refine v_if_ne hc (tgt := 507) dL_law_485 (by decide) (fun _ => ?_) (fun z => ?_)
  · refine v_goto hc (tgt := 1442) dL_law_507 (by decide) ?_
    refine v_widen (k' := 30 + (i + 4) * 40) (n' := 700 + (i + 4) * 1300) (by omega) (by omega) ?_
    refine v_w (jn_comm hdv) ?_
    exact ct u2 _ f2 _ rfl hLR2 hdv.symm hd2
  · have hz : r5 = nI 0 := by first | exact z | exact Classical.byContradiction z
    have hxy := hxy hz
    first | refine v_aload_n hc (i := 3) rfl dL_law_488 rfl ?_ | refine v_aload_nN hc (i := 3) rfl dL_law_488 rfl ?_
    refine v_iconst hc (v := nI 0) dL_law_489 (by decide) ?_
    refine v_lald hc (0) dL_law_490 (jn_l (jn_l (sg_s _ _))) rfl (by decide) (by decide) ?_
    refine v_iload hc dL_law_491 rfl ?_
    refine v_if_eq hc (tgt := 500) dL_law_493 (by decide) (fun h0 => ?_) (fun h0 => ?_)
    · refine v_lconst hc (v := 0) dL_law_500 (by decide) ?_
      refine v_lcmp hc dL_law_501 ?_
      refine v_ifL_eq hc (tgt := 507) dL_law_502 (by decide) (fun _ => ?_) (fun z => absurd (by rw [hxy, if_pos h0]) z)
      refine v_goto hc (tgt := 1442) dL_law_507 (by decide) ?_
      refine v_widen (k' := 30 + (i + 4) * 40) (n' := 700 + (i + 4) * 1300) (by omega) (by omega) ?_
      refine v_w (jn_comm hdv) ?_
      exact ct u2 _ f2 _ rfl hLR2 hdv.symm hd2
    · refine v_lconst hc (v := 1) dL_law_496 (by decide) ?_
      refine v_goto hc (tgt := 501) dL_law_497 (by decide) ?_
      refine v_lcmp hc dL_law_501 ?_
      refine v_ifL_eq hc (tgt := 507) dL_law_502 (by decide) (fun _ => ?_) (fun z => absurd (by rw [hxy, if_neg h0]) z)
      refine v_goto hc (tgt := 1442) dL_law_507 (by decide) ?_
      refine v_widen (k' := 30 + (i + 4) * 40) (n' := 700 + (i + 4) * 1300) (by omega) (by omega) ?_
      refine v_w (jn_comm hdv) ?_
      exact ct u2 _ f2 _ rfl hLR2 hdv.symm hd2
set_option maxRecDepth 100000 in
set_option maxHeartbeats 4000000 in
theorem k_read (hl : l.stackTraces = false) (hc : cxt p s m #[Value.ref b] meth c cL_law 8 RL wsL_law G (lA s)) (hr : meth.sig.returnType = ret) (hX : va_X b N xs s s.heap) (hbl : b < s.heap.size) (hN : N ≤ 2048) (hi : i + 4 ≤ N) (hLR : LR G u vm px h ad (fun _ => True)) (hd : dj vm (jn (sg oa (aL G 1 f)) u)) (hd1 : dj (sg oa (aL G 1 f)) u) (ct : CT p l e s m b below meth c G px h oa ad i) : LV p l e s m b below meth c G (jn vm (jn (sg oa (aL G 1 f)) u)) (30 + i * 40) (700 + i * 1300) 510 (lL b px h oa i) [] := by
  obtain ⟨pI, pO, pX, n, ia, nm, ctt, lv, lo, fa, fb, fm, O, X, cp, ru, sc, ai, al, hI, hP, hF, hJ, hM, hD, h16, h17, -⟩ := hLR
  first | refine v_aload_n hc (i := 1) rfl dL_law_510 rfl ?_ | refine v_aload_nN hc (i := 1) rfl dL_law_510 rfl ?_
  first | refine v_aload_n hc (i := 0) rfl dL_law_511 rfl ?_ | refine v_aload_nN hc (i := 0) rfl dL_law_511 rfl ?_
  refine v_iload hc dL_law_512 rfl ?_
  refine v_iconst hc (v := nI 1) dL_law_514 (by decide) ?_
  first | refine v_iaddN hc dL_law_515 ?_ | refine v_iadd hc dL_law_515 ?_
  refine v_sld hc hX hbl (by omega) hN dL_law_516 ?_
  first | refine v_aload_n hc (i := 3) rfl dL_law_517 rfl ?_ | refine v_aload_nN hc (i := 3) rfl dL_law_517 rfl ?_
  refine v_frSWi hc hd (c_L_read (l := l) hd1 hP.1 _ (fun A => c_X3_read hl hP hF hI.2.1 _) (fun E u' hx => hx.2.imp And.left And.left)) (vx_cwSW 3 hc.1.2.2.2.2 gL_law_L_read rfl rfl rfl (by decide +kernel) ⟨Nat.le_of_ble_eq_true rfl, Nat.le_of_ble_eq_true rfl⟩) rfl rfl (Nat.le_of_ble_eq_true rfl) ⟨by show _ ≤ 601024; omega, by show _ ≤ 7293034; omega⟩ dL_law_518 (fun r5 w9 hp hd9 => ?_)
  obtain ⟨u2, f2, hd2, rfl, h1⟩ := hp
  refine v_istore hc dL_law_521 (by decide) rfl ?_
  first | refine v_aload_n hc (i := 2) rfl dL_law_523 rfl ?_ | refine v_aload_nN hc (i := 2) rfl dL_law_523 rfl ?_
  first | refine v_aload_n hc (i := 0) rfl dL_law_524 rfl ?_ | refine v_aload_nN hc (i := 0) rfl dL_law_524 rfl ?_
  refine v_iload hc dL_law_525 rfl ?_
  refine v_iconst hc (v := nI 1) dL_law_527 (by decide) ?_
  first | refine v_iaddN hc dL_law_528 ?_ | refine v_iadd hc dL_law_528 ?_
  refine v_sld hc hX hbl (by omega) hN dL_law_529 ?_
  refine v_w (jn_comm hd9) ?_
  refine v_frVl hc hd9.symm (c_X4_read hM hD hI.2.1 _) (cwV 1 hc.1.2.2.2.2 gL_law_X4_read rfl rfl rfl (by decide +kernel) ⟨Nat.le_of_ble_eq_true rfl, Nat.le_of_ble_eq_true rfl⟩) hM.1 rfl rfl rfl (Nat.le_of_ble_eq_true rfl) ⟨by show _ ≤ 601024; omega, by show _ ≤ 7293034; omega⟩ dL_law_530 (fun r6 vm2 hp2 hdv => ?_)
  obtain ⟨⟨qI, qO, qX, n2, ia2, nm2, ct2, lv2, lo2, fa2, fb2, fm2, O2, X2, cp2, ru2, sc2, ai2, al2, hI2, hP2, hF2, hJ2, hM2, hD2, h162, h172, h24⟩, hxy⟩ := ag_read hI hP hF hJ hD h16 h17 _ h1 hp2
  have hLR2 : LR G u2 vm2 px h ad (fun _ => True) := ⟨qI, qO, qX, n2, ia2, nm2, ct2, lv2, lo2, fa2, fb2, fm2, O2, X2, cp2, ru2, sc2, ai2, al2, hI2, hP2, hF2, hJ2, hM2, hD2, h162, h172, trivial⟩
  refine v_lstore hc dL_law_533 (by decide) rfl ?_
  first | refine v_aload_n hc (i := 2) rfl dL_law_535 rfl ?_ | refine v_aload_nN hc (i := 2) rfl dL_law_535 rfl ?_
  refine v_frVi hc hdv (c_X4_thrown hM2) (cwV 0 hc.1.2.2.2.2 gL_law_X4_thrown rfl rfl rfl (by decide +kernel) ⟨Nat.le_of_ble_eq_true rfl, Nat.le_of_ble_eq_true rfl⟩) hM2.1 rfl rfl rfl (Nat.le_of_ble_eq_true rfl) ⟨by show _ ≤ 601024; omega, by show _ ≤ 7293034; omega⟩ dL_law_536 (fun th vm3 hp3 hdv => ?_)
  obtain ⟨rfl, rfl⟩ := hp3
  rw [h24]
  refine v_iload hc dL_law_539 rfl ?_
  refine v_icmp_eq hc (tgt := 546) dL_law_541 (by decide) (fun _ => ?_) (fun z => absurd rfl z)
  refine v_iload hc dL_law_546 rfl ?_
  refine v_if_ne hc (tgt := 562) dL_law_548 (by decide) (fun _ => ?_) (fun z => ?_)
  · refine v_goto hc (tgt := 1442) dL_law_562 (by decide) ?_
    refine v_widen (k' := 30 + (i + 4) * 40) (n' := 700 + (i + 4) * 1300) (by omega) (by omega) ?_
    refine v_w (jn_comm hdv) ?_
    exact ct u2 _ f2 _ rfl hLR2 hdv.symm hd2
  · have hz : r5 = nI 0 := by first | exact z | exact Classical.byContradiction z
    have hxy := hxy hz
    first | refine v_aload_n hc (i := 3) rfl dL_law_551 rfl ?_ | refine v_aload_nN hc (i := 3) rfl dL_law_551 rfl ?_
    refine v_iconst hc (v := nI 0) dL_law_552 (by decide) ?_
    refine v_lald hc (0) dL_law_553 (jn_l (jn_l (sg_s _ _))) rfl (by decide) (by decide) ?_
    refine v_lload hc dL_law_554 rfl ?_
    refine v_lcmp hc dL_law_556 ?_
    refine v_ifL_eq hc (tgt := 562) dL_law_557 (by decide) (fun _ => ?_) (fun z => absurd hxy z)
    refine v_goto hc (tgt := 1442) dL_law_562 (by decide) ?_
    refine v_widen (k' := 30 + (i + 4) * 40) (n' := 700 + (i + 4) * 1300) (by omega) (by omega) ?_
    refine v_w (jn_comm hdv) ?_
    exact ct u2 _ f2 _ rfl hLR2 hdv.symm hd2
set_option maxRecDepth 100000 in
set_option maxHeartbeats 4000000 in
theorem k_damage (hl : l.stackTraces = false) (hc : cxt p s m #[Value.ref b] meth c cL_law 8 RL wsL_law G (lA s)) (hr : meth.sig.returnType = ret) (hX : va_X b N xs s s.heap) (hbl : b < s.heap.size) (hN : N ≤ 2048) (hi : i + 4 ≤ N) (hLR : LR G u vm px h ad (fun _ => True)) (hd : dj vm (jn (sg oa (aL G 1 f)) u)) (hd1 : dj (sg oa (aL G 1 f)) u) (ct : CT p l e s m b below meth c G px h oa ad i) : LV p l e s m b below meth c G (jn vm (jn (sg oa (aL G 1 f)) u)) (30 + i * 40) (700 + i * 1300) 674 (lL b px h oa i) [] := by
  obtain ⟨pI, pO, pX, n, ia, nm, ctt, lv, lo, fa, fb, fm, O, X, cp, ru, sc, ai, al, hI, hP, hF, hJ, hM, hD, h16, h17, -⟩ := hLR
  first | refine v_aload_n hc (i := 1) rfl dL_law_674 rfl ?_ | refine v_aload_nN hc (i := 1) rfl dL_law_674 rfl ?_
  first | refine v_aload_n hc (i := 0) rfl dL_law_675 rfl ?_ | refine v_aload_nN hc (i := 0) rfl dL_law_675 rfl ?_
  refine v_iload hc dL_law_676 rfl ?_
  refine v_iconst hc (v := nI 1) dL_law_678 (by decide) ?_
  first | refine v_iaddN hc dL_law_679 ?_ | refine v_iadd hc dL_law_679 ?_
  refine v_sld hc hX hbl (by omega) hN dL_law_680 ?_
  first | refine v_aload_n hc (i := 3) rfl dL_law_681 rfl ?_ | refine v_aload_nN hc (i := 3) rfl dL_law_681 rfl ?_
  refine v_frSWi hc hd (c_L_damage (l := l) hd1 hP.1 _ (fun A => c_X3_damage hl hP hF hI.2.1 hJ _) (fun E u' hx => hx.2.imp And.left And.left)) (vx_cwSW 3 hc.1.2.2.2.2 gL_law_L_damage rfl rfl rfl (by decide +kernel) ⟨Nat.le_of_ble_eq_true rfl, Nat.le_of_ble_eq_true rfl⟩) rfl rfl (Nat.le_of_ble_eq_true rfl) ⟨by show _ ≤ 601024; omega, by show _ ≤ 7293034; omega⟩ dL_law_682 (fun r5 w9 hp hd9 => ?_)
  obtain ⟨u2, f2, hd2, rfl, h1⟩ := hp
  refine v_istore hc dL_law_685 (by decide) rfl ?_
  first | refine v_aload_n hc (i := 2) rfl dL_law_687 rfl ?_ | refine v_aload_nN hc (i := 2) rfl dL_law_687 rfl ?_
  first | refine v_aload_n hc (i := 0) rfl dL_law_688 rfl ?_ | refine v_aload_nN hc (i := 0) rfl dL_law_688 rfl ?_
  refine v_iload hc dL_law_689 rfl ?_
  refine v_iconst hc (v := nI 1) dL_law_691 (by decide) ?_
  first | refine v_iaddN hc dL_law_692 ?_ | refine v_iadd hc dL_law_692 ?_
  refine v_sld hc hX hbl (by omega) hN dL_law_693 ?_
  refine v_w (jn_comm hd9) ?_
  refine v_frVi hc hd9.symm (c_X4_damage hM hD hI.2.1 _) (cwV 1 hc.1.2.2.2.2 gL_law_X4_damage rfl rfl rfl (by decide +kernel) ⟨Nat.le_of_ble_eq_true rfl, Nat.le_of_ble_eq_true rfl⟩) hM.1 rfl rfl rfl (Nat.le_of_ble_eq_true rfl) ⟨by show _ ≤ 601024; omega, by show _ ≤ 7293034; omega⟩ dL_law_694 (fun r6 vm2 hp2 hdv => ?_)
  obtain ⟨⟨qI, qO, qX, n2, ia2, nm2, ct2, lv2, lo2, fa2, fb2, fm2, O2, X2, cp2, ru2, sc2, ai2, al2, hI2, hP2, hF2, hJ2, hM2, hD2, h162, h172, h24⟩, hxy⟩ := ag_damage hI hP hF hJ hD h16 h17 _ h1 hp2
  have hLR2 : LR G u2 vm2 px h ad (fun _ => True) := ⟨qI, qO, qX, n2, ia2, nm2, ct2, lv2, lo2, fa2, fb2, fm2, O2, X2, cp2, ru2, sc2, ai2, al2, hI2, hP2, hF2, hJ2, hM2, hD2, h162, h172, trivial⟩
  refine v_istore hc dL_law_697 (by decide) rfl ?_
  first | refine v_aload_n hc (i := 2) rfl dL_law_699 rfl ?_ | refine v_aload_nN hc (i := 2) rfl dL_law_699 rfl ?_
  refine v_frVi hc hdv (c_X4_thrown hM2) (cwV 0 hc.1.2.2.2.2 gL_law_X4_thrown rfl rfl rfl (by decide +kernel) ⟨Nat.le_of_ble_eq_true rfl, Nat.le_of_ble_eq_true rfl⟩) hM2.1 rfl rfl rfl (Nat.le_of_ble_eq_true rfl) ⟨by show _ ≤ 601024; omega, by show _ ≤ 7293034; omega⟩ dL_law_700 (fun th vm3 hp3 hdv => ?_)
  obtain ⟨rfl, rfl⟩ := hp3
  rw [h24]
  refine v_iload hc dL_law_703 rfl ?_
  refine v_icmp_eq hc (tgt := 710) dL_law_705 (by decide) (fun _ => ?_) (fun z => absurd rfl z)
  refine v_iload hc dL_law_710 rfl ?_
  refine v_if_ne hc (tgt := 727) dL_law_712 (by decide) (fun _ => ?_) (fun z => ?_)
  · refine v_goto hc (tgt := 1442) dL_law_727 (by decide) ?_
    refine v_widen (k' := 30 + (i + 4) * 40) (n' := 700 + (i + 4) * 1300) (by omega) (by omega) ?_
    refine v_w (jn_comm hdv) ?_
    exact ct u2 _ f2 _ rfl hLR2 hdv.symm hd2
  · have hz : r5 = nI 0 := by first | exact z | exact Classical.byContradiction z
    have hxy := hxy hz
    first | refine v_aload_n hc (i := 3) rfl dL_law_715 rfl ?_ | refine v_aload_nN hc (i := 3) rfl dL_law_715 rfl ?_
    refine v_iconst hc (v := nI 0) dL_law_716 (by decide) ?_
    refine v_lald hc (0) dL_law_717 (jn_l (jn_l (sg_s _ _))) rfl (by decide) (by decide) ?_
    refine v_iload hc dL_law_718 rfl ?_
    refine v_i2l hc dL_law_720 ?_
    refine v_lcmp hc dL_law_721 ?_
    refine v_ifL_eq hc (tgt := 727) dL_law_722 (by decide) (fun _ => ?_) (fun z => absurd hxy z)
    refine v_goto hc (tgt := 1442) dL_law_727 (by decide) ?_
    refine v_widen (k' := 30 + (i + 4) * 40) (n' := 700 + (i + 4) * 1300) (by omega) (by omega) ?_
    refine v_w (jn_comm hdv) ?_
    exact ct u2 _ f2 _ rfl hLR2 hdv.symm hd2
set_option maxRecDepth 100000 in
set_option maxHeartbeats 4000000 in
theorem k_costOf (hl : l.stackTraces = false) (hc : cxt p s m #[Value.ref b] meth c cL_law 8 RL wsL_law G (lA s)) (hr : meth.sig.returnType = ret) (hX : va_X b N xs s s.heap) (hbl : b < s.heap.size) (hN : N ≤ 2048) (hi : i + 4 ≤ N) (hLR : LR G u vm px h ad (fun _ => True)) (hd : dj vm (jn (sg oa (aL G 1 f)) u)) (hd1 : dj (sg oa (aL G 1 f)) u) (ct : CT p l e s m b below meth c G px h oa ad i) : LV p l e s m b below meth c G (jn vm (jn (sg oa (aL G 1 f)) u)) (30 + i * 40) (700 + i * 1300) 782 (lL b px h oa i) [] := by
  obtain ⟨pI, pO, pX, n, ia, nm, ctt, lv, lo, fa, fb, fm, O, X, cp, ru, sc, ai, al, hI, hP, hF, hJ, hM, hD, h16, h17, -⟩ := hLR
  first | refine v_aload_n hc (i := 1) rfl dL_law_782 rfl ?_ | refine v_aload_nN hc (i := 1) rfl dL_law_782 rfl ?_
  first | refine v_aload_n hc (i := 0) rfl dL_law_783 rfl ?_ | refine v_aload_nN hc (i := 0) rfl dL_law_783 rfl ?_
  refine v_iload hc dL_law_784 rfl ?_
  refine v_iconst hc (v := nI 1) dL_law_786 (by decide) ?_
  first | refine v_iaddN hc dL_law_787 ?_ | refine v_iadd hc dL_law_787 ?_
  refine v_sld hc hX hbl (by omega) hN dL_law_788 ?_
  first | refine v_aload_n hc (i := 3) rfl dL_law_789 rfl ?_ | refine v_aload_nN hc (i := 3) rfl dL_law_789 rfl ?_
  refine v_frSWi hc hd (c_L_costOf (l := l) hd1 hP.1 _ (fun A => c_X3_costOf hl hP hF _) (fun E u' hx => hx.2.imp And.left And.left)) (vx_cwSW 3 hc.1.2.2.2.2 gL_law_L_costOf rfl rfl rfl (by decide +kernel) ⟨Nat.le_of_ble_eq_true rfl, Nat.le_of_ble_eq_true rfl⟩) rfl rfl (Nat.le_of_ble_eq_true rfl) ⟨by show _ ≤ 601024; omega, by show _ ≤ 7293034; omega⟩ dL_law_790 (fun r5 w9 hp hd9 => ?_)
  obtain ⟨u2, f2, hd2, rfl, h1⟩ := hp
  refine v_istore hc dL_law_793 (by decide) rfl ?_
  first | refine v_aload_n hc (i := 2) rfl dL_law_795 rfl ?_ | refine v_aload_nN hc (i := 2) rfl dL_law_795 rfl ?_
  first | refine v_aload_n hc (i := 0) rfl dL_law_796 rfl ?_ | refine v_aload_nN hc (i := 0) rfl dL_law_796 rfl ?_
  refine v_iload hc dL_law_797 rfl ?_
  refine v_iconst hc (v := nI 1) dL_law_799 (by decide) ?_
  first | refine v_iaddN hc dL_law_800 ?_ | refine v_iadd hc dL_law_800 ?_
  refine v_sld hc hX hbl (by omega) hN dL_law_801 ?_
  refine v_w (jn_comm hd9) ?_
  refine v_frVi hc hd9.symm (c_X4_costOf hM hD _) (cwV 1 hc.1.2.2.2.2 gL_law_X4_costOf rfl rfl rfl (by decide +kernel) ⟨Nat.le_of_ble_eq_true rfl, Nat.le_of_ble_eq_true rfl⟩) hM.1 rfl rfl rfl (Nat.le_of_ble_eq_true rfl) ⟨by show _ ≤ 601024; omega, by show _ ≤ 7293034; omega⟩ dL_law_802 (fun r6 vm2 hp2 hdv => ?_)
  obtain ⟨⟨qI, qO, qX, n2, ia2, nm2, ct2, lv2, lo2, fa2, fb2, fm2, O2, X2, cp2, ru2, sc2, ai2, al2, hI2, hP2, hF2, hJ2, hM2, hD2, h162, h172, h24⟩, hxy⟩ := ag_costOf hI hP hF hJ hD h16 h17 _ h1 hp2
  have hLR2 : LR G u2 vm2 px h ad (fun _ => True) := ⟨qI, qO, qX, n2, ia2, nm2, ct2, lv2, lo2, fa2, fb2, fm2, O2, X2, cp2, ru2, sc2, ai2, al2, hI2, hP2, hF2, hJ2, hM2, hD2, h162, h172, trivial⟩
  refine v_istore hc dL_law_805 (by decide) rfl ?_
  first | refine v_aload_n hc (i := 2) rfl dL_law_807 rfl ?_ | refine v_aload_nN hc (i := 2) rfl dL_law_807 rfl ?_
  refine v_frVi hc hdv (c_X4_thrown hM2) (cwV 0 hc.1.2.2.2.2 gL_law_X4_thrown rfl rfl rfl (by decide +kernel) ⟨Nat.le_of_ble_eq_true rfl, Nat.le_of_ble_eq_true rfl⟩) hM2.1 rfl rfl rfl (Nat.le_of_ble_eq_true rfl) ⟨by show _ ≤ 601024; omega, by show _ ≤ 7293034; omega⟩ dL_law_808 (fun th vm3 hp3 hdv => ?_)
  obtain ⟨rfl, rfl⟩ := hp3
  rw [h24]
  refine v_iload hc dL_law_811 rfl ?_
  refine v_icmp_eq hc (tgt := 818) dL_law_813 (by decide) (fun _ => ?_) (fun z => absurd rfl z)
  refine v_iload hc dL_law_818 rfl ?_
  refine v_if_ne hc (tgt := 835) dL_law_820 (by decide) (fun _ => ?_) (fun z => ?_)
  · refine v_goto hc (tgt := 1442) dL_law_835 (by decide) ?_
    refine v_widen (k' := 30 + (i + 4) * 40) (n' := 700 + (i + 4) * 1300) (by omega) (by omega) ?_
    refine v_w (jn_comm hdv) ?_
    exact ct u2 _ f2 _ rfl hLR2 hdv.symm hd2
  · have hz : r5 = nI 0 := by first | exact z | exact Classical.byContradiction z
    have hxy := hxy hz
    first | refine v_aload_n hc (i := 3) rfl dL_law_823 rfl ?_ | refine v_aload_nN hc (i := 3) rfl dL_law_823 rfl ?_
    refine v_iconst hc (v := nI 0) dL_law_824 (by decide) ?_
    refine v_lald hc (0) dL_law_825 (jn_l (jn_l (sg_s _ _))) rfl (by decide) (by decide) ?_
    refine v_iload hc dL_law_826 rfl ?_
    refine v_i2l hc dL_law_828 ?_
    refine v_lcmp hc dL_law_829 ?_
    refine v_ifL_eq hc (tgt := 835) dL_law_830 (by decide) (fun _ => ?_) (fun z => absurd hxy z)
    refine v_goto hc (tgt := 1442) dL_law_835 (by decide) ?_
    refine v_widen (k' := 30 + (i + 4) * 40) (n' := 700 + (i + 4) * 1300) (by omega) (by omega) ?_
    refine v_w (jn_comm hdv) ?_
    exact ct u2 _ f2 _ rfl hLR2 hdv.symm hd2
set_option maxRecDepth 100000 in
set_option maxHeartbeats 4000000 in
theorem k_base (hl : l.stackTraces = false) (hc : cxt p s m #[Value.ref b] meth c cL_law 8 RL wsL_law G (lA s)) (hr : meth.sig.returnType = ret) (hX : va_X b N xs s s.heap) (hbl : b < s.heap.size) (hN : N ≤ 2048) (hi : i + 4 ≤ N) (hLR : LR G u vm px h ad (fun _ => True)) (hd : dj vm (jn (sg oa (aL G 1 f)) u)) (hd1 : dj (sg oa (aL G 1 f)) u) (ct : CT p l e s m b below meth c G px h oa ad i) : LV p l e s m b below meth c G (jn vm (jn (sg oa (aL G 1 f)) u)) (30 + i * 40) (700 + i * 1300) 838 (lL b px h oa i) [] := by
  obtain ⟨pI, pO, pX, n, ia, nm, ctt, lv, lo, fa, fb, fm, O, X, cp, ru, sc, ai, al, hI, hP, hF, hJ, hM, hD, h16, h17, -⟩ := hLR
  first | refine v_aload_n hc (i := 1) rfl dL_law_838 rfl ?_ | refine v_aload_nN hc (i := 1) rfl dL_law_838 rfl ?_
  first | refine v_aload_n hc (i := 0) rfl dL_law_839 rfl ?_ | refine v_aload_nN hc (i := 0) rfl dL_law_839 rfl ?_
  refine v_iload hc dL_law_840 rfl ?_
  refine v_iconst hc (v := nI 1) dL_law_842 (by decide) ?_
  first | refine v_iaddN hc dL_law_843 ?_ | refine v_iadd hc dL_law_843 ?_
  refine v_sld hc hX hbl (by omega) hN dL_law_844 ?_
  first | refine v_aload_n hc (i := 3) rfl dL_law_845 rfl ?_ | refine v_aload_nN hc (i := 3) rfl dL_law_845 rfl ?_
  refine v_frSWi hc hd (c_L_base (l := l) hd1 hP.1 _ (fun A => c_X3_base hl hP hF hI.2.1 _) (fun E u' hx => hx.2.imp And.left And.left)) (vx_cwSW 3 hc.1.2.2.2.2 gL_law_L_base rfl rfl rfl (by decide +kernel) ⟨Nat.le_of_ble_eq_true rfl, Nat.le_of_ble_eq_true rfl⟩) rfl rfl (Nat.le_of_ble_eq_true rfl) ⟨by show _ ≤ 601024; omega, by show _ ≤ 7293034; omega⟩ dL_law_846 (fun r5 w9 hp hd9 => ?_)
  obtain ⟨u2, f2, hd2, rfl, h1⟩ := hp
  refine v_istore hc dL_law_849 (by decide) rfl ?_
  first | refine v_aload_n hc (i := 2) rfl dL_law_851 rfl ?_ | refine v_aload_nN hc (i := 2) rfl dL_law_851 rfl ?_
  first | refine v_aload_n hc (i := 0) rfl dL_law_852 rfl ?_ | refine v_aload_nN hc (i := 0) rfl dL_law_852 rfl ?_
  refine v_iload hc dL_law_853 rfl ?_
  refine v_iconst hc (v := nI 1) dL_law_855 (by decide) ?_
  first | refine v_iaddN hc dL_law_856 ?_ | refine v_iadd hc dL_law_856 ?_
  refine v_sld hc hX hbl (by omega) hN dL_law_857 ?_
  refine v_w (jn_comm hd9) ?_
  refine v_frVi hc hd9.symm (c_X4_base hM hD _) (cwV 1 hc.1.2.2.2.2 gL_law_X4_base rfl rfl rfl (by decide +kernel) ⟨Nat.le_of_ble_eq_true rfl, Nat.le_of_ble_eq_true rfl⟩) hM.1 rfl rfl rfl (Nat.le_of_ble_eq_true rfl) ⟨by show _ ≤ 601024; omega, by show _ ≤ 7293034; omega⟩ dL_law_858 (fun r6 vm2 hp2 hdv => ?_)
  obtain ⟨⟨qI, qO, qX, n2, ia2, nm2, ct2, lv2, lo2, fa2, fb2, fm2, O2, X2, cp2, ru2, sc2, ai2, al2, hI2, hP2, hF2, hJ2, hM2, hD2, h162, h172, h24⟩, hxy⟩ := ag_base hI hP hF hJ hD h16 h17 _ h1 hp2
  have hLR2 : LR G u2 vm2 px h ad (fun _ => True) := ⟨qI, qO, qX, n2, ia2, nm2, ct2, lv2, lo2, fa2, fb2, fm2, O2, X2, cp2, ru2, sc2, ai2, al2, hI2, hP2, hF2, hJ2, hM2, hD2, h162, h172, trivial⟩
  refine v_istore hc dL_law_861 (by decide) rfl ?_
  first | refine v_aload_n hc (i := 2) rfl dL_law_863 rfl ?_ | refine v_aload_nN hc (i := 2) rfl dL_law_863 rfl ?_
  refine v_frVi hc hdv (c_X4_thrown hM2) (cwV 0 hc.1.2.2.2.2 gL_law_X4_thrown rfl rfl rfl (by decide +kernel) ⟨Nat.le_of_ble_eq_true rfl, Nat.le_of_ble_eq_true rfl⟩) hM2.1 rfl rfl rfl (Nat.le_of_ble_eq_true rfl) ⟨by show _ ≤ 601024; omega, by show _ ≤ 7293034; omega⟩ dL_law_864 (fun th vm3 hp3 hdv => ?_)
  obtain ⟨rfl, rfl⟩ := hp3
  rw [h24]
  refine v_iload hc dL_law_867 rfl ?_
  refine v_icmp_eq hc (tgt := 874) dL_law_869 (by decide) (fun _ => ?_) (fun z => absurd rfl z)
  refine v_iload hc dL_law_874 rfl ?_
  refine v_if_ne hc (tgt := 891) dL_law_876 (by decide) (fun _ => ?_) (fun z => ?_)
  · refine v_goto hc (tgt := 1442) dL_law_891 (by decide) ?_
    refine v_widen (k' := 30 + (i + 4) * 40) (n' := 700 + (i + 4) * 1300) (by omega) (by omega) ?_
    refine v_w (jn_comm hdv) ?_
    exact ct u2 _ f2 _ rfl hLR2 hdv.symm hd2
  · have hz : r5 = nI 0 := by first | exact z | exact Classical.byContradiction z
    have hxy := hxy hz
    first | refine v_aload_n hc (i := 3) rfl dL_law_879 rfl ?_ | refine v_aload_nN hc (i := 3) rfl dL_law_879 rfl ?_
    refine v_iconst hc (v := nI 0) dL_law_880 (by decide) ?_
    refine v_lald hc (0) dL_law_881 (jn_l (jn_l (sg_s _ _))) rfl (by decide) (by decide) ?_
    refine v_iload hc dL_law_882 rfl ?_
    refine v_i2l hc dL_law_884 ?_
    refine v_lcmp hc dL_law_885 ?_
    refine v_ifL_eq hc (tgt := 891) dL_law_886 (by decide) (fun _ => ?_) (fun z => absurd hxy z)
    refine v_goto hc (tgt := 1442) dL_law_891 (by decide) ?_
    refine v_widen (k' := 30 + (i + 4) * 40) (n' := 700 + (i + 4) * 1300) (by omega) (by omega) ?_
    refine v_w (jn_comm hdv) ?_
    exact ct u2 _ f2 _ rfl hLR2 hdv.symm hd2
set_option maxRecDepth 100000 in
set_option maxHeartbeats 4000000 in
theorem k_depth (hl : l.stackTraces = false) (hc : cxt p s m #[Value.ref b] meth c cL_law 8 RL wsL_law G (lA s)) (hr : meth.sig.returnType = ret) (hX : va_X b N xs s s.heap) (hbl : b < s.heap.size) (hN : N ≤ 2048) (hi : i + 4 ≤ N) (hLR : LR G u vm px h ad (fun _ => True)) (hd : dj vm (jn (sg oa (aL G 1 f)) u)) (hd1 : dj (sg oa (aL G 1 f)) u) (ct : CT p l e s m b below meth c G px h oa ad i) : LV p l e s m b below meth c G (jn vm (jn (sg oa (aL G 1 f)) u)) (30 + i * 40) (700 + i * 1300) 894 (lL b px h oa i) [] := by
  obtain ⟨pI, pO, pX, n, ia, nm, ctt, lv, lo, fa, fb, fm, O, X, cp, ru, sc, ai, al, hI, hP, hF, hJ, hM, hD, h16, h17, -⟩ := hLR
  first | refine v_aload_n hc (i := 1) rfl dL_law_894 rfl ?_ | refine v_aload_nN hc (i := 1) rfl dL_law_894 rfl ?_
  first | refine v_aload_n hc (i := 0) rfl dL_law_895 rfl ?_ | refine v_aload_nN hc (i := 0) rfl dL_law_895 rfl ?_
  refine v_iload hc dL_law_896 rfl ?_
  refine v_iconst hc (v := nI 1) dL_law_898 (by decide) ?_
  first | refine v_iaddN hc dL_law_899 ?_ | refine v_iadd hc dL_law_899 ?_
  refine v_sld hc hX hbl (by omega) hN dL_law_900 ?_
  first | refine v_aload_n hc (i := 3) rfl dL_law_901 rfl ?_ | refine v_aload_nN hc (i := 3) rfl dL_law_901 rfl ?_
  refine v_frSWi hc hd (c_L_depth (l := l) hd1 hP.1 _ (fun A => c_X3_depth hl hP hF _) (fun E u' hx => hx.2.imp And.left And.left)) (vx_cwSW 3 hc.1.2.2.2.2 gL_law_L_depth rfl rfl rfl (by decide +kernel) ⟨Nat.le_of_ble_eq_true rfl, Nat.le_of_ble_eq_true rfl⟩) rfl rfl (Nat.le_of_ble_eq_true rfl) ⟨by show _ ≤ 601024; omega, by show _ ≤ 7293034; omega⟩ dL_law_902 (fun r5 w9 hp hd9 => ?_)
  obtain ⟨u2, f2, hd2, rfl, h1⟩ := hp
  refine v_istore hc dL_law_905 (by decide) rfl ?_
  first | refine v_aload_n hc (i := 2) rfl dL_law_907 rfl ?_ | refine v_aload_nN hc (i := 2) rfl dL_law_907 rfl ?_
  first | refine v_aload_n hc (i := 0) rfl dL_law_908 rfl ?_ | refine v_aload_nN hc (i := 0) rfl dL_law_908 rfl ?_
  refine v_iload hc dL_law_909 rfl ?_
  refine v_iconst hc (v := nI 1) dL_law_911 (by decide) ?_
  first | refine v_iaddN hc dL_law_912 ?_ | refine v_iadd hc dL_law_912 ?_
  refine v_sld hc hX hbl (by omega) hN dL_law_913 ?_
  refine v_w (jn_comm hd9) ?_
  refine v_frVi hc hd9.symm (c_X4_depth hM hD _) (cwV 1 hc.1.2.2.2.2 gL_law_X4_depth rfl rfl rfl (by decide +kernel) ⟨Nat.le_of_ble_eq_true rfl, Nat.le_of_ble_eq_true rfl⟩) hM.1 rfl rfl rfl (Nat.le_of_ble_eq_true rfl) ⟨by show _ ≤ 601024; omega, by show _ ≤ 7293034; omega⟩ dL_law_914 (fun r6 vm2 hp2 hdv => ?_)
  obtain ⟨⟨qI, qO, qX, n2, ia2, nm2, ct2, lv2, lo2, fa2, fb2, fm2, O2, X2, cp2, ru2, sc2, ai2, al2, hI2, hP2, hF2, hJ2, hM2, hD2, h162, h172, h24⟩, hxy⟩ := ag_depth hI hP hF hJ hD h16 h17 _ h1 hp2
  have hLR2 : LR G u2 vm2 px h ad (fun _ => True) := ⟨qI, qO, qX, n2, ia2, nm2, ct2, lv2, lo2, fa2, fb2, fm2, O2, X2, cp2, ru2, sc2, ai2, al2, hI2, hP2, hF2, hJ2, hM2, hD2, h162, h172, trivial⟩
  refine v_istore hc dL_law_917 (by decide) rfl ?_
  first | refine v_aload_n hc (i := 2) rfl dL_law_919 rfl ?_ | refine v_aload_nN hc (i := 2) rfl dL_law_919 rfl ?_
  refine v_frVi hc hdv (c_X4_thrown hM2) (cwV 0 hc.1.2.2.2.2 gL_law_X4_thrown rfl rfl rfl (by decide +kernel) ⟨Nat.le_of_ble_eq_true rfl, Nat.le_of_ble_eq_true rfl⟩) hM2.1 rfl rfl rfl (Nat.le_of_ble_eq_true rfl) ⟨by show _ ≤ 601024; omega, by show _ ≤ 7293034; omega⟩ dL_law_920 (fun th vm3 hp3 hdv => ?_)
  obtain ⟨rfl, rfl⟩ := hp3
  rw [h24]
  refine v_iload hc dL_law_923 rfl ?_
  refine v_icmp_eq hc (tgt := 930) dL_law_925 (by decide) (fun _ => ?_) (fun z => absurd rfl z)
  refine v_iload hc dL_law_930 rfl ?_
  refine v_if_ne hc (tgt := 947) dL_law_932 (by decide) (fun _ => ?_) (fun z => ?_)
  · refine v_goto hc (tgt := 1442) dL_law_947 (by decide) ?_
    refine v_widen (k' := 30 + (i + 4) * 40) (n' := 700 + (i + 4) * 1300) (by omega) (by omega) ?_
    refine v_w (jn_comm hdv) ?_
    exact ct u2 _ f2 _ rfl hLR2 hdv.symm hd2
  · have hz : r5 = nI 0 := by first | exact z | exact Classical.byContradiction z
    have hxy := hxy hz
    first | refine v_aload_n hc (i := 3) rfl dL_law_935 rfl ?_ | refine v_aload_nN hc (i := 3) rfl dL_law_935 rfl ?_
    refine v_iconst hc (v := nI 0) dL_law_936 (by decide) ?_
    refine v_lald hc (0) dL_law_937 (jn_l (jn_l (sg_s _ _))) rfl (by decide) (by decide) ?_
    refine v_iload hc dL_law_938 rfl ?_
    refine v_i2l hc dL_law_940 ?_
    refine v_lcmp hc dL_law_941 ?_
    refine v_ifL_eq hc (tgt := 947) dL_law_942 (by decide) (fun _ => ?_) (fun z => absurd hxy z)
    refine v_goto hc (tgt := 1442) dL_law_947 (by decide) ?_
    refine v_widen (k' := 30 + (i + 4) * 40) (n' := 700 + (i + 4) * 1300) (by omega) (by omega) ?_
    refine v_w (jn_comm hdv) ?_
    exact ct u2 _ f2 _ rfl hLR2 hdv.symm hd2
set_option maxRecDepth 100000 in
set_option maxHeartbeats 4000000 in
theorem k_parts (hl : l.stackTraces = false) (hc : cxt p s m #[Value.ref b] meth c cL_law 8 RL wsL_law G (lA s)) (hr : meth.sig.returnType = ret) (hX : va_X b N xs s s.heap) (hbl : b < s.heap.size) (hN : N ≤ 2048) (hi : i + 4 ≤ N) (hLR : LR G u vm px h ad (fun _ => True)) (hd : dj vm (jn (sg oa (aL G 1 f)) u)) (hd1 : dj (sg oa (aL G 1 f)) u) (ct : CT p l e s m b below meth c G px h oa ad i) : LV p l e s m b below meth c G (jn vm (jn (sg oa (aL G 1 f)) u)) (30 + i * 40) (700 + i * 1300) 950 (lL b px h oa i) [] := by
  obtain ⟨pI, pO, pX, n, ia, nm, ctt, lv, lo, fa, fb, fm, O, X, cp, ru, sc, ai, al, hI, hP, hF, hJ, hM, hD, h16, h17, -⟩ := hLR
  first | refine v_aload_n hc (i := 1) rfl dL_law_950 rfl ?_ | refine v_aload_nN hc (i := 1) rfl dL_law_950 rfl ?_
  first | refine v_aload_n hc (i := 0) rfl dL_law_951 rfl ?_ | refine v_aload_nN hc (i := 0) rfl dL_law_951 rfl ?_
  refine v_iload hc dL_law_952 rfl ?_
  refine v_iconst hc (v := nI 1) dL_law_954 (by decide) ?_
  first | refine v_iaddN hc dL_law_955 ?_ | refine v_iadd hc dL_law_955 ?_
  refine v_sld hc hX hbl (by omega) hN dL_law_956 ?_
  first | refine v_aload_n hc (i := 3) rfl dL_law_957 rfl ?_ | refine v_aload_nN hc (i := 3) rfl dL_law_957 rfl ?_
  refine v_frSWi hc hd (c_L_parts (l := l) hd1 hP.1 _ (fun A => c_X3_parts hl hP hF _) (fun E u' hx => hx.2.imp And.left And.left)) (vx_cwSW 3 hc.1.2.2.2.2 gL_law_L_parts rfl rfl rfl (by decide +kernel) ⟨Nat.le_of_ble_eq_true rfl, Nat.le_of_ble_eq_true rfl⟩) rfl rfl (Nat.le_of_ble_eq_true rfl) ⟨by show _ ≤ 601024; omega, by show _ ≤ 7293034; omega⟩ dL_law_958 (fun r5 w9 hp hd9 => ?_)
  obtain ⟨u2, f2, hd2, rfl, h1⟩ := hp
  refine v_istore hc dL_law_961 (by decide) rfl ?_
  first | refine v_aload_n hc (i := 2) rfl dL_law_963 rfl ?_ | refine v_aload_nN hc (i := 2) rfl dL_law_963 rfl ?_
  first | refine v_aload_n hc (i := 0) rfl dL_law_964 rfl ?_ | refine v_aload_nN hc (i := 0) rfl dL_law_964 rfl ?_
  refine v_iload hc dL_law_965 rfl ?_
  refine v_iconst hc (v := nI 1) dL_law_967 (by decide) ?_
  first | refine v_iaddN hc dL_law_968 ?_ | refine v_iadd hc dL_law_968 ?_
  refine v_sld hc hX hbl (by omega) hN dL_law_969 ?_
  refine v_w (jn_comm hd9) ?_
  refine v_frVi hc hd9.symm (c_X4_parts hM hD _) (cwV 1 hc.1.2.2.2.2 gL_law_X4_parts rfl rfl rfl (by decide +kernel) ⟨Nat.le_of_ble_eq_true rfl, Nat.le_of_ble_eq_true rfl⟩) hM.1 rfl rfl rfl (Nat.le_of_ble_eq_true rfl) ⟨by show _ ≤ 601024; omega, by show _ ≤ 7293034; omega⟩ dL_law_970 (fun r6 vm2 hp2 hdv => ?_)
  obtain ⟨⟨qI, qO, qX, n2, ia2, nm2, ct2, lv2, lo2, fa2, fb2, fm2, O2, X2, cp2, ru2, sc2, ai2, al2, hI2, hP2, hF2, hJ2, hM2, hD2, h162, h172, h24⟩, hxy⟩ := ag_parts hI hP hF hJ hD h16 h17 _ h1 hp2
  have hLR2 : LR G u2 vm2 px h ad (fun _ => True) := ⟨qI, qO, qX, n2, ia2, nm2, ct2, lv2, lo2, fa2, fb2, fm2, O2, X2, cp2, ru2, sc2, ai2, al2, hI2, hP2, hF2, hJ2, hM2, hD2, h162, h172, trivial⟩
  refine v_istore hc dL_law_973 (by decide) rfl ?_
  first | refine v_aload_n hc (i := 2) rfl dL_law_975 rfl ?_ | refine v_aload_nN hc (i := 2) rfl dL_law_975 rfl ?_
  refine v_frVi hc hdv (c_X4_thrown hM2) (cwV 0 hc.1.2.2.2.2 gL_law_X4_thrown rfl rfl rfl (by decide +kernel) ⟨Nat.le_of_ble_eq_true rfl, Nat.le_of_ble_eq_true rfl⟩) hM2.1 rfl rfl rfl (Nat.le_of_ble_eq_true rfl) ⟨by show _ ≤ 601024; omega, by show _ ≤ 7293034; omega⟩ dL_law_976 (fun th vm3 hp3 hdv => ?_)
  obtain ⟨rfl, rfl⟩ := hp3
  rw [h24]
  refine v_iload hc dL_law_979 rfl ?_
  refine v_icmp_eq hc (tgt := 986) dL_law_981 (by decide) (fun _ => ?_) (fun z => absurd rfl z)
  refine v_iload hc dL_law_986 rfl ?_
  refine v_if_ne hc (tgt := 1003) dL_law_988 (by decide) (fun _ => ?_) (fun z => ?_)
  · refine v_goto hc (tgt := 1442) dL_law_1003 (by decide) ?_
    refine v_widen (k' := 30 + (i + 4) * 40) (n' := 700 + (i + 4) * 1300) (by omega) (by omega) ?_
    refine v_w (jn_comm hdv) ?_
    exact ct u2 _ f2 _ rfl hLR2 hdv.symm hd2
  · have hz : r5 = nI 0 := by first | exact z | exact Classical.byContradiction z
    have hxy := hxy hz
    first | refine v_aload_n hc (i := 3) rfl dL_law_991 rfl ?_ | refine v_aload_nN hc (i := 3) rfl dL_law_991 rfl ?_
    refine v_iconst hc (v := nI 0) dL_law_992 (by decide) ?_
    refine v_lald hc (0) dL_law_993 (jn_l (jn_l (sg_s _ _))) rfl (by decide) (by decide) ?_
    refine v_iload hc dL_law_994 rfl ?_
    refine v_i2l hc dL_law_996 ?_
    refine v_lcmp hc dL_law_997 ?_
    refine v_ifL_eq hc (tgt := 1003) dL_law_998 (by decide) (fun _ => ?_) (fun z => absurd hxy z)
    refine v_goto hc (tgt := 1442) dL_law_1003 (by decide) ?_
    refine v_widen (k' := 30 + (i + 4) * 40) (n' := 700 + (i + 4) * 1300) (by omega) (by omega) ?_
    refine v_w (jn_comm hdv) ?_
    exact ct u2 _ f2 _ rfl hLR2 hdv.symm hd2
set_option maxRecDepth 100000 in
set_option maxHeartbeats 4000000 in
theorem k_dependents (hl : l.stackTraces = false) (hc : cxt p s m #[Value.ref b] meth c cL_law 8 RL wsL_law G (lA s)) (hr : meth.sig.returnType = ret) (hX : va_X b N xs s s.heap) (hbl : b < s.heap.size) (hN : N ≤ 2048) (hi : i + 4 ≤ N) (hLR : LR G u vm px h ad (fun _ => True)) (hd : dj vm (jn (sg oa (aL G 1 f)) u)) (hd1 : dj (sg oa (aL G 1 f)) u) (ct : CT p l e s m b below meth c G px h oa ad i) : LV p l e s m b below meth c G (jn vm (jn (sg oa (aL G 1 f)) u)) (30 + i * 40) (700 + i * 1300) 1006 (lL b px h oa i) [] := by
  obtain ⟨pI, pO, pX, n, ia, nm, ctt, lv, lo, fa, fb, fm, O, X, cp, ru, sc, ai, al, hI, hP, hF, hJ, hM, hD, h16, h17, -⟩ := hLR
  first | refine v_aload_n hc (i := 1) rfl dL_law_1006 rfl ?_ | refine v_aload_nN hc (i := 1) rfl dL_law_1006 rfl ?_
  first | refine v_aload_n hc (i := 0) rfl dL_law_1007 rfl ?_ | refine v_aload_nN hc (i := 0) rfl dL_law_1007 rfl ?_
  refine v_iload hc dL_law_1008 rfl ?_
  refine v_iconst hc (v := nI 1) dL_law_1010 (by decide) ?_
  first | refine v_iaddN hc dL_law_1011 ?_ | refine v_iadd hc dL_law_1011 ?_
  refine v_sld hc hX hbl (by omega) hN dL_law_1012 ?_
  first | refine v_aload_n hc (i := 3) rfl dL_law_1013 rfl ?_ | refine v_aload_nN hc (i := 3) rfl dL_law_1013 rfl ?_
  refine v_frSWi hc hd (c_L_dependents (l := l) hd1 hP.1 _ (fun A => c_X3_dependents hl hP hF hI.2.1 _) (fun E u' hx => hx.2.imp And.left And.left)) (vx_cwSW 3 hc.1.2.2.2.2 gL_law_L_dependents rfl rfl rfl (by decide +kernel) ⟨Nat.le_of_ble_eq_true rfl, Nat.le_of_ble_eq_true rfl⟩) rfl rfl (Nat.le_of_ble_eq_true rfl) ⟨by show _ ≤ 601024; omega, by show _ ≤ 7293034; omega⟩ dL_law_1014 (fun r5 w9 hp hd9 => ?_)
  obtain ⟨u2, f2, hd2, rfl, h1⟩ := hp
  refine v_istore hc dL_law_1017 (by decide) rfl ?_
  first | refine v_aload_n hc (i := 2) rfl dL_law_1019 rfl ?_ | refine v_aload_nN hc (i := 2) rfl dL_law_1019 rfl ?_
  first | refine v_aload_n hc (i := 0) rfl dL_law_1020 rfl ?_ | refine v_aload_nN hc (i := 0) rfl dL_law_1020 rfl ?_
  refine v_iload hc dL_law_1021 rfl ?_
  refine v_iconst hc (v := nI 1) dL_law_1023 (by decide) ?_
  first | refine v_iaddN hc dL_law_1024 ?_ | refine v_iadd hc dL_law_1024 ?_
  refine v_sld hc hX hbl (by omega) hN dL_law_1025 ?_
  refine v_w (jn_comm hd9) ?_
  refine v_frVi hc hd9.symm (c_X4_dependents hM hD hI.2.1 _) (cwV 1 hc.1.2.2.2.2 gL_law_X4_dependents rfl rfl rfl (by decide +kernel) ⟨Nat.le_of_ble_eq_true rfl, Nat.le_of_ble_eq_true rfl⟩) hM.1 rfl rfl rfl (Nat.le_of_ble_eq_true rfl) ⟨by show _ ≤ 601024; omega, by show _ ≤ 7293034; omega⟩ dL_law_1026 (fun r6 vm2 hp2 hdv => ?_)
  obtain ⟨⟨qI, qO, qX, n2, ia2, nm2, ct2, lv2, lo2, fa2, fb2, fm2, O2, X2, cp2, ru2, sc2, ai2, al2, hI2, hP2, hF2, hJ2, hM2, hD2, h162, h172, h24⟩, hxy⟩ := ag_dependents hI hP hF hJ hD h16 h17 _ h1 hp2
  have hLR2 : LR G u2 vm2 px h ad (fun _ => True) := ⟨qI, qO, qX, n2, ia2, nm2, ct2, lv2, lo2, fa2, fb2, fm2, O2, X2, cp2, ru2, sc2, ai2, al2, hI2, hP2, hF2, hJ2, hM2, hD2, h162, h172, trivial⟩
  refine v_istore hc dL_law_1029 (by decide) rfl ?_
  first | refine v_aload_n hc (i := 2) rfl dL_law_1031 rfl ?_ | refine v_aload_nN hc (i := 2) rfl dL_law_1031 rfl ?_
  refine v_frVi hc hdv (c_X4_thrown hM2) (cwV 0 hc.1.2.2.2.2 gL_law_X4_thrown rfl rfl rfl (by decide +kernel) ⟨Nat.le_of_ble_eq_true rfl, Nat.le_of_ble_eq_true rfl⟩) hM2.1 rfl rfl rfl (Nat.le_of_ble_eq_true rfl) ⟨by show _ ≤ 601024; omega, by show _ ≤ 7293034; omega⟩ dL_law_1032 (fun th vm3 hp3 hdv => ?_)
  obtain ⟨rfl, rfl⟩ := hp3
  rw [h24]
  refine v_iload hc dL_law_1035 rfl ?_
  refine v_icmp_eq hc (tgt := 1042) dL_law_1037 (by decide) (fun _ => ?_) (fun z => absurd rfl z)
  refine v_iload hc dL_law_1042 rfl ?_
  refine v_if_ne hc (tgt := 1059) dL_law_1044 (by decide) (fun _ => ?_) (fun z => ?_)
  · refine v_goto hc (tgt := 1442) dL_law_1059 (by decide) ?_
    refine v_widen (k' := 30 + (i + 4) * 40) (n' := 700 + (i + 4) * 1300) (by omega) (by omega) ?_
    refine v_w (jn_comm hdv) ?_
    exact ct u2 _ f2 _ rfl hLR2 hdv.symm hd2
  · have hz : r5 = nI 0 := by first | exact z | exact Classical.byContradiction z
    have hxy := hxy hz
    first | refine v_aload_n hc (i := 3) rfl dL_law_1047 rfl ?_ | refine v_aload_nN hc (i := 3) rfl dL_law_1047 rfl ?_
    refine v_iconst hc (v := nI 0) dL_law_1048 (by decide) ?_
    refine v_lald hc (0) dL_law_1049 (jn_l (jn_l (sg_s _ _))) rfl (by decide) (by decide) ?_
    refine v_iload hc dL_law_1050 rfl ?_
    refine v_i2l hc dL_law_1052 ?_
    refine v_lcmp hc dL_law_1053 ?_
    refine v_ifL_eq hc (tgt := 1059) dL_law_1054 (by decide) (fun _ => ?_) (fun z => absurd hxy z)
    refine v_goto hc (tgt := 1442) dL_law_1059 (by decide) ?_
    refine v_widen (k' := 30 + (i + 4) * 40) (n' := 700 + (i + 4) * 1300) (by omega) (by omega) ?_
    refine v_w (jn_comm hdv) ?_
    exact ct u2 _ f2 _ rfl hLR2 hdv.symm hd2
set_option maxRecDepth 100000 in
set_option maxHeartbeats 4000000 in
theorem k_deltaCost (hl : l.stackTraces = false) (hc : cxt p s m #[Value.ref b] meth c cL_law 8 RL wsL_law G (lA s)) (hr : meth.sig.returnType = ret) (hX : va_X b N xs s s.heap) (hbl : b < s.heap.size) (hN : N ≤ 2048) (hi : i + 4 ≤ N) (hLR : LR G u vm px h ad (fun _ => True)) (hd : dj vm (jn (sg oa (aL G 1 f)) u)) (hd1 : dj (sg oa (aL G 1 f)) u) (ct : CT p l e s m b below meth c G px h oa ad i) : LV p l e s m b below meth c G (jn vm (jn (sg oa (aL G 1 f)) u)) (30 + i * 40) (700 + i * 1300) 1062 (lL b px h oa i) [] := by
  obtain ⟨pI, pO, pX, n, ia, nm, ctt, lv, lo, fa, fb, fm, O, X, cp, ru, sc, ai, al, hI, hP, hF, hJ, hM, hD, h16, h17, -⟩ := hLR
  first | refine v_aload_n hc (i := 1) rfl dL_law_1062 rfl ?_ | refine v_aload_nN hc (i := 1) rfl dL_law_1062 rfl ?_
  first | refine v_aload_n hc (i := 0) rfl dL_law_1063 rfl ?_ | refine v_aload_nN hc (i := 0) rfl dL_law_1063 rfl ?_
  refine v_iload hc dL_law_1064 rfl ?_
  refine v_iconst hc (v := nI 1) dL_law_1066 (by decide) ?_
  first | refine v_iaddN hc dL_law_1067 ?_ | refine v_iadd hc dL_law_1067 ?_
  refine v_sld hc hX hbl (by omega) hN dL_law_1068 ?_
  first | refine v_aload_n hc (i := 0) rfl dL_law_1069 rfl ?_ | refine v_aload_nN hc (i := 0) rfl dL_law_1069 rfl ?_
  refine v_iload hc dL_law_1070 rfl ?_
  refine v_iconst hc (v := nI 2) dL_law_1072 (by decide) ?_
  first | refine v_iaddN hc dL_law_1073 ?_ | refine v_iadd hc dL_law_1073 ?_
  refine v_sld hc hX hbl (by omega) hN dL_law_1074 ?_
  first | refine v_aload_n hc (i := 3) rfl dL_law_1075 rfl ?_ | refine v_aload_nN hc (i := 3) rfl dL_law_1075 rfl ?_
  refine v_frSWi hc hd (c_L_deltaCost (l := l) hd1 hP.1 _ _ (fun A => c_X3_deltaCost hl hP hI.1 _ _) (fun E u' hx => hx.2.1)) (vx_cwSW 4 hc.1.2.2.2.2 gL_law_L_deltaCost rfl rfl rfl (by decide +kernel) ⟨Nat.le_of_ble_eq_true rfl, Nat.le_of_ble_eq_true rfl⟩) rfl rfl (Nat.le_of_ble_eq_true rfl) ⟨by show _ ≤ 601024; omega, by show _ ≤ 7293034; omega⟩ dL_law_1076 (fun r5 w9 hp hd9 => ?_)
  obtain ⟨u2, f2, hd2, rfl, h1⟩ := hp
  refine v_istore hc dL_law_1079 (by decide) rfl ?_
  first | refine v_aload_n hc (i := 2) rfl dL_law_1081 rfl ?_ | refine v_aload_nN hc (i := 2) rfl dL_law_1081 rfl ?_
  first | refine v_aload_n hc (i := 0) rfl dL_law_1082 rfl ?_ | refine v_aload_nN hc (i := 0) rfl dL_law_1082 rfl ?_
  refine v_iload hc dL_law_1083 rfl ?_
  refine v_iconst hc (v := nI 1) dL_law_1085 (by decide) ?_
  first | refine v_iaddN hc dL_law_1086 ?_ | refine v_iadd hc dL_law_1086 ?_
  refine v_sld hc hX hbl (by omega) hN dL_law_1087 ?_
  first | refine v_aload_n hc (i := 0) rfl dL_law_1088 rfl ?_ | refine v_aload_nN hc (i := 0) rfl dL_law_1088 rfl ?_
  refine v_iload hc dL_law_1089 rfl ?_
  refine v_iconst hc (v := nI 2) dL_law_1091 (by decide) ?_
  first | refine v_iaddN hc dL_law_1092 ?_ | refine v_iadd hc dL_law_1092 ?_
  refine v_sld hc hX hbl (by omega) hN dL_law_1093 ?_
  refine v_w (jn_comm hd9) ?_
  refine v_frVi hc hd9.symm (c_X4_deltaCost hM hD hI.1 _ _) (cwV 2 hc.1.2.2.2.2 gL_law_X4_deltaCost rfl rfl rfl (by decide +kernel) ⟨Nat.le_of_ble_eq_true rfl, Nat.le_of_ble_eq_true rfl⟩) hM.1 rfl rfl rfl (Nat.le_of_ble_eq_true rfl) ⟨by show _ ≤ 601024; omega, by show _ ≤ 7293034; omega⟩ dL_law_1094 (fun r6 vm2 hp2 hdv => ?_)
  obtain ⟨⟨qI, qO, qX, n2, ia2, nm2, ct2, lv2, lo2, fa2, fb2, fm2, O2, X2, cp2, ru2, sc2, ai2, al2, hI2, hP2, hF2, hJ2, hM2, hD2, h162, h172, h24⟩, hxy⟩ := ag_deltaCost hI hP hF hJ hD h16 h17 _ _ h1 hp2
  have hLR2 : LR G u2 vm2 px h ad (fun _ => True) := ⟨qI, qO, qX, n2, ia2, nm2, ct2, lv2, lo2, fa2, fb2, fm2, O2, X2, cp2, ru2, sc2, ai2, al2, hI2, hP2, hF2, hJ2, hM2, hD2, h162, h172, trivial⟩
  refine v_istore hc dL_law_1097 (by decide) rfl ?_
  first | refine v_aload_n hc (i := 2) rfl dL_law_1099 rfl ?_ | refine v_aload_nN hc (i := 2) rfl dL_law_1099 rfl ?_
  refine v_frVi hc hdv (c_X4_thrown hM2) (cwV 0 hc.1.2.2.2.2 gL_law_X4_thrown rfl rfl rfl (by decide +kernel) ⟨Nat.le_of_ble_eq_true rfl, Nat.le_of_ble_eq_true rfl⟩) hM2.1 rfl rfl rfl (Nat.le_of_ble_eq_true rfl) ⟨by show _ ≤ 601024; omega, by show _ ≤ 7293034; omega⟩ dL_law_1100 (fun th vm3 hp3 hdv => ?_)
  obtain ⟨rfl, rfl⟩ := hp3
  rw [h24]
  refine v_iload hc dL_law_1103 rfl ?_
  refine v_icmp_eq hc (tgt := 1110) dL_law_1105 (by decide) (fun _ => ?_) (fun z => absurd rfl z)
  refine v_iload hc dL_law_1110 rfl ?_
  refine v_if_ne hc (tgt := 1127) dL_law_1112 (by decide) (fun _ => ?_) (fun z => ?_)
  · refine v_goto hc (tgt := 1442) dL_law_1127 (by decide) ?_
    refine v_widen (k' := 30 + (i + 4) * 40) (n' := 700 + (i + 4) * 1300) (by omega) (by omega) ?_
    refine v_w (jn_comm hdv) ?_
    exact ct u2 _ f2 _ rfl hLR2 hdv.symm hd2
  · have hz : r5 = nI 0 := by first | exact z | exact Classical.byContradiction z
    have hxy := hxy hz
    first | refine v_aload_n hc (i := 3) rfl dL_law_1115 rfl ?_ | refine v_aload_nN hc (i := 3) rfl dL_law_1115 rfl ?_
    refine v_iconst hc (v := nI 0) dL_law_1116 (by decide) ?_
    refine v_lald hc (0) dL_law_1117 (jn_l (jn_l (sg_s _ _))) rfl (by decide) (by decide) ?_
    refine v_iload hc dL_law_1118 rfl ?_
    refine v_i2l hc dL_law_1120 ?_
    refine v_lcmp hc dL_law_1121 ?_
    refine v_ifL_eq hc (tgt := 1127) dL_law_1122 (by decide) (fun _ => ?_) (fun z => absurd hxy z)
    refine v_goto hc (tgt := 1442) dL_law_1127 (by decide) ?_
    refine v_widen (k' := 30 + (i + 4) * 40) (n' := 700 + (i + 4) * 1300) (by omega) (by omega) ?_
    refine v_w (jn_comm hdv) ?_
    exact ct u2 _ f2 _ rfl hLR2 hdv.symm hd2
set_option maxRecDepth 100000 in
set_option maxHeartbeats 4000000 in
theorem k_hash (hl : l.stackTraces = false) (hc : cxt p s m #[Value.ref b] meth c cL_law 8 RL wsL_law G (lA s)) (hr : meth.sig.returnType = ret) (hX : va_X b N xs s s.heap) (hbl : b < s.heap.size) (hN : N ≤ 2048) (hi : i + 4 ≤ N) (hLR : LR G u vm px h ad (fun _ => True)) (hd : dj vm (jn (sg oa (aL G 1 f)) u)) (hd1 : dj (sg oa (aL G 1 f)) u) (ct : CT p l e s m b below meth c G px h oa ad i) : LV p l e s m b below meth c G (jn vm (jn (sg oa (aL G 1 f)) u)) (30 + i * 40) (700 + i * 1300) 1130 (lL b px h oa i) [] := by
  obtain ⟨pI, pO, pX, n, ia, nm, ctt, lv, lo, fa, fb, fm, O, X, cp, ru, sc, ai, al, hI, hP, hF, hJ, hM, hD, h16, h17, -⟩ := hLR
  first | refine v_aload_n hc (i := 1) rfl dL_law_1130 rfl ?_ | refine v_aload_nN hc (i := 1) rfl dL_law_1130 rfl ?_
  first | refine v_aload_n hc (i := 0) rfl dL_law_1131 rfl ?_ | refine v_aload_nN hc (i := 0) rfl dL_law_1131 rfl ?_
  refine v_iload hc dL_law_1132 rfl ?_
  refine v_iconst hc (v := nI 1) dL_law_1134 (by decide) ?_
  first | refine v_iaddN hc dL_law_1135 ?_ | refine v_iadd hc dL_law_1135 ?_
  refine v_sld hc hX hbl (by omega) hN dL_law_1136 ?_
  refine v_i2l hc dL_law_1137 ?_
  refine v_bipush hc (v := nI 32) dL_law_1138 (by decide) ?_
  refine v_lshl hc dL_law_1140 ?_
  first | refine v_aload_n hc (i := 0) rfl dL_law_1141 rfl ?_ | refine v_aload_nN hc (i := 0) rfl dL_law_1141 rfl ?_
  refine v_iload hc dL_law_1142 rfl ?_
  refine v_iconst hc (v := nI 2) dL_law_1144 (by decide) ?_
  first | refine v_iaddN hc dL_law_1145 ?_ | refine v_iadd hc dL_law_1145 ?_
  refine v_sld hc hX hbl (by omega) hN dL_law_1146 ?_
  refine v_i2l hc dL_law_1147 ?_
  refine v_ldc2 hc (v := 4294967295) dL_law_1148 (by decide +kernel) ?_
  refine v_land hc dL_law_1151 ?_
  refine v_lor hc dL_law_1152 ?_
  first | refine v_aload_n hc (i := 3) rfl dL_law_1153 rfl ?_ | refine v_aload_nN hc (i := 3) rfl dL_law_1153 rfl ?_
  refine v_frSWi hc hd (c_L_hash (l := l) hd1 hP.1 _ (fun A => c_X3_hash hl hP _) (fun E u' hx => hx.2.1)) (vx_cwSW 3 hc.1.2.2.2.2 gL_law_L_hash rfl rfl rfl (by decide +kernel) ⟨Nat.le_of_ble_eq_true rfl, Nat.le_of_ble_eq_true rfl⟩) rfl rfl (Nat.le_of_ble_eq_true rfl) ⟨by show _ ≤ 601024; omega, by show _ ≤ 7293034; omega⟩ dL_law_1154 (fun r5 w9 hp hd9 => ?_)
  obtain ⟨u2, f2, hd2, rfl, h1⟩ := hp
  refine v_istore hc dL_law_1157 (by decide) rfl ?_
  first | refine v_aload_n hc (i := 2) rfl dL_law_1159 rfl ?_ | refine v_aload_nN hc (i := 2) rfl dL_law_1159 rfl ?_
  first | refine v_aload_n hc (i := 0) rfl dL_law_1160 rfl ?_ | refine v_aload_nN hc (i := 0) rfl dL_law_1160 rfl ?_
  refine v_iload hc dL_law_1161 rfl ?_
  refine v_iconst hc (v := nI 1) dL_law_1163 (by decide) ?_
  first | refine v_iaddN hc dL_law_1164 ?_ | refine v_iadd hc dL_law_1164 ?_
  refine v_sld hc hX hbl (by omega) hN dL_law_1165 ?_
  refine v_i2l hc dL_law_1166 ?_
  refine v_bipush hc (v := nI 32) dL_law_1167 (by decide) ?_
  refine v_lshl hc dL_law_1169 ?_
  first | refine v_aload_n hc (i := 0) rfl dL_law_1170 rfl ?_ | refine v_aload_nN hc (i := 0) rfl dL_law_1170 rfl ?_
  refine v_iload hc dL_law_1171 rfl ?_
  refine v_iconst hc (v := nI 2) dL_law_1173 (by decide) ?_
  first | refine v_iaddN hc dL_law_1174 ?_ | refine v_iadd hc dL_law_1174 ?_
  refine v_sld hc hX hbl (by omega) hN dL_law_1175 ?_
  refine v_i2l hc dL_law_1176 ?_
  refine v_ldc2 hc (v := 4294967295) dL_law_1177 (by decide +kernel) ?_
  refine v_land hc dL_law_1180 ?_
  refine v_lor hc dL_law_1181 ?_
  refine v_w (jn_comm hd9) ?_
  refine v_frVi hc hd9.symm (c_X4_hash hM _) (cwV 1 hc.1.2.2.2.2 gL_law_X4_hash rfl rfl rfl (by decide +kernel) ⟨Nat.le_of_ble_eq_true rfl, Nat.le_of_ble_eq_true rfl⟩) hM.1 rfl rfl rfl (Nat.le_of_ble_eq_true rfl) ⟨by show _ ≤ 601024; omega, by show _ ≤ 7293034; omega⟩ dL_law_1182 (fun r6 vm2 hp2 hdv => ?_)
  obtain ⟨⟨qI, qO, qX, n2, ia2, nm2, ct2, lv2, lo2, fa2, fb2, fm2, O2, X2, cp2, ru2, sc2, ai2, al2, hI2, hP2, hF2, hJ2, hM2, hD2, h162, h172, h24⟩, hxy⟩ := ag_hash hI hP hF hJ hD h16 h17 _ h1 hp2
  have hLR2 : LR G u2 vm2 px h ad (fun _ => True) := ⟨qI, qO, qX, n2, ia2, nm2, ct2, lv2, lo2, fa2, fb2, fm2, O2, X2, cp2, ru2, sc2, ai2, al2, hI2, hP2, hF2, hJ2, hM2, hD2, h162, h172, trivial⟩
  refine v_istore hc dL_law_1185 (by decide) rfl ?_
  first | refine v_aload_n hc (i := 2) rfl dL_law_1187 rfl ?_ | refine v_aload_nN hc (i := 2) rfl dL_law_1187 rfl ?_
  refine v_frVi hc hdv (c_X4_thrown hM2) (cwV 0 hc.1.2.2.2.2 gL_law_X4_thrown rfl rfl rfl (by decide +kernel) ⟨Nat.le_of_ble_eq_true rfl, Nat.le_of_ble_eq_true rfl⟩) hM2.1 rfl rfl rfl (Nat.le_of_ble_eq_true rfl) ⟨by show _ ≤ 601024; omega, by show _ ≤ 7293034; omega⟩ dL_law_1188 (fun th vm3 hp3 hdv => ?_)
  obtain ⟨rfl, rfl⟩ := hp3
  rw [h24]
  refine v_iload hc dL_law_1191 rfl ?_
  refine v_icmp_eq hc (tgt := 1198) dL_law_1193 (by decide) (fun _ => ?_) (fun z => absurd rfl z)
  refine v_iload hc dL_law_1198 rfl ?_
  refine v_if_ne hc (tgt := 1215) dL_law_1200 (by decide) (fun _ => ?_) (fun z => ?_)
  · refine v_goto hc (tgt := 1442) dL_law_1215 (by decide) ?_
    refine v_widen (k' := 30 + (i + 4) * 40) (n' := 700 + (i + 4) * 1300) (by omega) (by omega) ?_
    refine v_w (jn_comm hdv) ?_
    exact ct u2 _ f2 _ rfl hLR2 hdv.symm hd2
  · have hz : r5 = nI 0 := by first | exact z | exact Classical.byContradiction z
    have hxy := hxy hz
    first | refine v_aload_n hc (i := 3) rfl dL_law_1203 rfl ?_ | refine v_aload_nN hc (i := 3) rfl dL_law_1203 rfl ?_
    refine v_iconst hc (v := nI 0) dL_law_1204 (by decide) ?_
    refine v_lald hc (0) dL_law_1205 (jn_l (jn_l (sg_s _ _))) rfl (by decide) (by decide) ?_
    refine v_iload hc dL_law_1206 rfl ?_
    refine v_i2l hc dL_law_1208 ?_
    refine v_lcmp hc dL_law_1209 ?_
    refine v_ifL_eq hc (tgt := 1215) dL_law_1210 (by decide) (fun _ => ?_) (fun z => absurd hxy z)
    refine v_goto hc (tgt := 1442) dL_law_1215 (by decide) ?_
    refine v_widen (k' := 30 + (i + 4) * 40) (n' := 700 + (i + 4) * 1300) (by omega) (by omega) ?_
    refine v_w (jn_comm hdv) ?_
    exact ct u2 _ f2 _ rfl hLR2 hdv.symm hd2
set_option maxRecDepth 100000 in
set_option maxHeartbeats 4000000 in
theorem k_indexAt (hl : l.stackTraces = false) (hc : cxt p s m #[Value.ref b] meth c cL_law 8 RL wsL_law G (lA s)) (hr : meth.sig.returnType = ret) (hX : va_X b N xs s s.heap) (hbl : b < s.heap.size) (hN : N ≤ 2048) (hi : i + 4 ≤ N) (hLR : LR G u vm px h ad (fun _ => True)) (hd : dj vm (jn (sg oa (aL G 1 f)) u)) (hd1 : dj (sg oa (aL G 1 f)) u) (ct : CT p l e s m b below meth c G px h oa ad i) : LV p l e s m b below meth c G (jn vm (jn (sg oa (aL G 1 f)) u)) (30 + i * 40) (700 + i * 1300) 1218 (lL b px h oa i) [] := by
  obtain ⟨pI, pO, pX, n, ia, nm, ctt, lv, lo, fa, fb, fm, O, X, cp, ru, sc, ai, al, hI, hP, hF, hJ, hM, hD, h16, h17, -⟩ := hLR
  first | refine v_aload_n hc (i := 1) rfl dL_law_1218 rfl ?_ | refine v_aload_nN hc (i := 1) rfl dL_law_1218 rfl ?_
  first | refine v_aload_n hc (i := 0) rfl dL_law_1219 rfl ?_ | refine v_aload_nN hc (i := 0) rfl dL_law_1219 rfl ?_
  refine v_iload hc dL_law_1220 rfl ?_
  refine v_iconst hc (v := nI 1) dL_law_1222 (by decide) ?_
  first | refine v_iaddN hc dL_law_1223 ?_ | refine v_iadd hc dL_law_1223 ?_
  refine v_sld hc hX hbl (by omega) hN dL_law_1224 ?_
  first | refine v_aload_n hc (i := 3) rfl dL_law_1225 rfl ?_ | refine v_aload_nN hc (i := 3) rfl dL_law_1225 rfl ?_
  refine v_frSWi hc hd (c_L_indexAt (l := l) hd1 hP.1 _ (fun A => c_X3_indexAt hl hP _) (fun E u' hx => hx.2.1)) (vx_cwSW 3 hc.1.2.2.2.2 gL_law_L_indexAt rfl rfl rfl (by decide +kernel) ⟨Nat.le_of_ble_eq_true rfl, Nat.le_of_ble_eq_true rfl⟩) rfl rfl (Nat.le_of_ble_eq_true rfl) ⟨by show _ ≤ 601024; omega, by show _ ≤ 7293034; omega⟩ dL_law_1226 (fun r5 w9 hp hd9 => ?_)
  obtain ⟨u2, f2, hd2, rfl, h1⟩ := hp
  refine v_istore hc dL_law_1229 (by decide) rfl ?_
  first | refine v_aload_n hc (i := 2) rfl dL_law_1231 rfl ?_ | refine v_aload_nN hc (i := 2) rfl dL_law_1231 rfl ?_
  first | refine v_aload_n hc (i := 0) rfl dL_law_1232 rfl ?_ | refine v_aload_nN hc (i := 0) rfl dL_law_1232 rfl ?_
  refine v_iload hc dL_law_1233 rfl ?_
  refine v_iconst hc (v := nI 1) dL_law_1235 (by decide) ?_
  first | refine v_iaddN hc dL_law_1236 ?_ | refine v_iadd hc dL_law_1236 ?_
  refine v_sld hc hX hbl (by omega) hN dL_law_1237 ?_
  refine v_w (jn_comm hd9) ?_
  refine v_frVi hc hd9.symm (c_X4_indexAt hM hD hI.1 _) (cwV 1 hc.1.2.2.2.2 gL_law_X4_indexAt rfl rfl rfl (by decide +kernel) ⟨Nat.le_of_ble_eq_true rfl, Nat.le_of_ble_eq_true rfl⟩) hM.1 rfl rfl rfl (Nat.le_of_ble_eq_true rfl) ⟨by show _ ≤ 601024; omega, by show _ ≤ 7293034; omega⟩ dL_law_1238 (fun r6 vm2 hp2 hdv => ?_)
  obtain ⟨⟨qI, qO, qX, n2, ia2, nm2, ct2, lv2, lo2, fa2, fb2, fm2, O2, X2, cp2, ru2, sc2, ai2, al2, hI2, hP2, hF2, hJ2, hM2, hD2, h162, h172, h24⟩, hxy⟩ := ag_indexAt hI hP hF hJ hD h16 h17 _ h1 hp2
  have hLR2 : LR G u2 vm2 px h ad (fun _ => True) := ⟨qI, qO, qX, n2, ia2, nm2, ct2, lv2, lo2, fa2, fb2, fm2, O2, X2, cp2, ru2, sc2, ai2, al2, hI2, hP2, hF2, hJ2, hM2, hD2, h162, h172, trivial⟩
  refine v_istore hc dL_law_1241 (by decide) rfl ?_
  first | refine v_aload_n hc (i := 2) rfl dL_law_1243 rfl ?_ | refine v_aload_nN hc (i := 2) rfl dL_law_1243 rfl ?_
  refine v_frVi hc hdv (c_X4_thrown hM2) (cwV 0 hc.1.2.2.2.2 gL_law_X4_thrown rfl rfl rfl (by decide +kernel) ⟨Nat.le_of_ble_eq_true rfl, Nat.le_of_ble_eq_true rfl⟩) hM2.1 rfl rfl rfl (Nat.le_of_ble_eq_true rfl) ⟨by show _ ≤ 601024; omega, by show _ ≤ 7293034; omega⟩ dL_law_1244 (fun th vm3 hp3 hdv => ?_)
  obtain ⟨rfl, rfl⟩ := hp3
  rw [h24]
  refine v_iload hc dL_law_1247 rfl ?_
  refine v_icmp_eq hc (tgt := 1254) dL_law_1249 (by decide) (fun _ => ?_) (fun z => absurd rfl z)
  refine v_iload hc dL_law_1254 rfl ?_
  refine v_if_ne hc (tgt := 1271) dL_law_1256 (by decide) (fun _ => ?_) (fun z => ?_)
  · refine v_goto hc (tgt := 1442) dL_law_1271 (by decide) ?_
    refine v_widen (k' := 30 + (i + 4) * 40) (n' := 700 + (i + 4) * 1300) (by omega) (by omega) ?_
    refine v_w (jn_comm hdv) ?_
    exact ct u2 _ f2 _ rfl hLR2 hdv.symm hd2
  · have hz : r5 = nI 0 := by first | exact z | exact Classical.byContradiction z
    have hxy := hxy hz
    first | refine v_aload_n hc (i := 3) rfl dL_law_1259 rfl ?_ | refine v_aload_nN hc (i := 3) rfl dL_law_1259 rfl ?_
    refine v_iconst hc (v := nI 0) dL_law_1260 (by decide) ?_
    refine v_lald hc (0) dL_law_1261 (jn_l (jn_l (sg_s _ _))) rfl (by decide) (by decide) ?_
    refine v_iload hc dL_law_1262 rfl ?_
    refine v_i2l hc dL_law_1264 ?_
    refine v_lcmp hc dL_law_1265 ?_
    refine v_ifL_eq hc (tgt := 1271) dL_law_1266 (by decide) (fun _ => ?_) (fun z => absurd hxy z)
    refine v_goto hc (tgt := 1442) dL_law_1271 (by decide) ?_
    refine v_widen (k' := 30 + (i + 4) * 40) (n' := 700 + (i + 4) * 1300) (by omega) (by omega) ?_
    refine v_w (jn_comm hdv) ?_
    exact ct u2 _ f2 _ rfl hLR2 hdv.symm hd2
set_option maxRecDepth 100000 in
set_option maxHeartbeats 4000000 in
theorem k_fanOut (hl : l.stackTraces = false) (hc : cxt p s m #[Value.ref b] meth c cL_law 8 RL wsL_law G (lA s)) (hr : meth.sig.returnType = ret) (hX : va_X b N xs s s.heap) (hbl : b < s.heap.size) (hN : N ≤ 2048) (hi : i + 4 ≤ N) (hLR : LR G u vm px h ad (fun _ => True)) (hd : dj vm (jn (sg oa (aL G 1 f)) u)) (hd1 : dj (sg oa (aL G 1 f)) u) (ct : CT p l e s m b below meth c G px h oa ad i) : LV p l e s m b below meth c G (jn vm (jn (sg oa (aL G 1 f)) u)) (30 + i * 40) (700 + i * 1300) 1274 (lL b px h oa i) [] := by
  obtain ⟨pI, pO, pX, n, ia, nm, ctt, lv, lo, fa, fb, fm, O, X, cp, ru, sc, ai, al, hI, hP, hF, hJ, hM, hD, h16, h17, -⟩ := hLR
  first | refine v_aload_n hc (i := 1) rfl dL_law_1274 rfl ?_ | refine v_aload_nN hc (i := 1) rfl dL_law_1274 rfl ?_
  first | refine v_aload_n hc (i := 0) rfl dL_law_1275 rfl ?_ | refine v_aload_nN hc (i := 0) rfl dL_law_1275 rfl ?_
  refine v_iload hc dL_law_1276 rfl ?_
  refine v_iconst hc (v := nI 1) dL_law_1278 (by decide) ?_
  first | refine v_iaddN hc dL_law_1279 ?_ | refine v_iadd hc dL_law_1279 ?_
  refine v_sld hc hX hbl (by omega) hN dL_law_1280 ?_
  first | refine v_aload_n hc (i := 3) rfl dL_law_1281 rfl ?_ | refine v_aload_nN hc (i := 3) rfl dL_law_1281 rfl ?_
  refine v_frSWi hc hd (c_L_fanOut (l := l) hd1 hP.1 _ (fun A => c_X3_fanOut hl hP _) (fun E u' hx => hx.2.1)) (vx_cwSW 3 hc.1.2.2.2.2 gL_law_L_fanOut rfl rfl rfl (by decide +kernel) ⟨Nat.le_of_ble_eq_true rfl, Nat.le_of_ble_eq_true rfl⟩) rfl rfl (Nat.le_of_ble_eq_true rfl) ⟨by show _ ≤ 601024; omega, by show _ ≤ 7293034; omega⟩ dL_law_1282 (fun r5 w9 hp hd9 => ?_)
  obtain ⟨u2, f2, hd2, rfl, h1⟩ := hp
  refine v_istore hc dL_law_1285 (by decide) rfl ?_
  first | refine v_aload_n hc (i := 2) rfl dL_law_1287 rfl ?_ | refine v_aload_nN hc (i := 2) rfl dL_law_1287 rfl ?_
  first | refine v_aload_n hc (i := 0) rfl dL_law_1288 rfl ?_ | refine v_aload_nN hc (i := 0) rfl dL_law_1288 rfl ?_
  refine v_iload hc dL_law_1289 rfl ?_
  refine v_iconst hc (v := nI 1) dL_law_1291 (by decide) ?_
  first | refine v_iaddN hc dL_law_1292 ?_ | refine v_iadd hc dL_law_1292 ?_
  refine v_sld hc hX hbl (by omega) hN dL_law_1293 ?_
  refine v_w (jn_comm hd9) ?_
  refine v_frVi hc hd9.symm (c_X4_fanOut hM hD hI.1 _) (cwV 1 hc.1.2.2.2.2 gL_law_X4_fanOut rfl rfl rfl (by decide +kernel) ⟨Nat.le_of_ble_eq_true rfl, Nat.le_of_ble_eq_true rfl⟩) hM.1 rfl rfl rfl (Nat.le_of_ble_eq_true rfl) ⟨by show _ ≤ 601024; omega, by show _ ≤ 7293034; omega⟩ dL_law_1294 (fun r6 vm2 hp2 hdv => ?_)
  obtain ⟨⟨qI, qO, qX, n2, ia2, nm2, ct2, lv2, lo2, fa2, fb2, fm2, O2, X2, cp2, ru2, sc2, ai2, al2, hI2, hP2, hF2, hJ2, hM2, hD2, h162, h172, h24⟩, hxy⟩ := ag_fanOut hI hP hF hJ hD h16 h17 _ h1 hp2
  have hLR2 : LR G u2 vm2 px h ad (fun _ => True) := ⟨qI, qO, qX, n2, ia2, nm2, ct2, lv2, lo2, fa2, fb2, fm2, O2, X2, cp2, ru2, sc2, ai2, al2, hI2, hP2, hF2, hJ2, hM2, hD2, h162, h172, trivial⟩
  refine v_istore hc dL_law_1297 (by decide) rfl ?_
  first | refine v_aload_n hc (i := 2) rfl dL_law_1299 rfl ?_ | refine v_aload_nN hc (i := 2) rfl dL_law_1299 rfl ?_
  refine v_frVi hc hdv (c_X4_thrown hM2) (cwV 0 hc.1.2.2.2.2 gL_law_X4_thrown rfl rfl rfl (by decide +kernel) ⟨Nat.le_of_ble_eq_true rfl, Nat.le_of_ble_eq_true rfl⟩) hM2.1 rfl rfl rfl (Nat.le_of_ble_eq_true rfl) ⟨by show _ ≤ 601024; omega, by show _ ≤ 7293034; omega⟩ dL_law_1300 (fun th vm3 hp3 hdv => ?_)
  obtain ⟨rfl, rfl⟩ := hp3
  rw [h24]
  refine v_iload hc dL_law_1303 rfl ?_
  refine v_icmp_eq hc (tgt := 1310) dL_law_1305 (by decide) (fun _ => ?_) (fun z => absurd rfl z)
  refine v_iload hc dL_law_1310 rfl ?_
  refine v_if_ne hc (tgt := 1327) dL_law_1312 (by decide) (fun _ => ?_) (fun z => ?_)
  · refine v_goto hc (tgt := 1442) dL_law_1327 (by decide) ?_
    refine v_widen (k' := 30 + (i + 4) * 40) (n' := 700 + (i + 4) * 1300) (by omega) (by omega) ?_
    refine v_w (jn_comm hdv) ?_
    exact ct u2 _ f2 _ rfl hLR2 hdv.symm hd2
  · have hz : r5 = nI 0 := by first | exact z | exact Classical.byContradiction z
    have hxy := hxy hz
    first | refine v_aload_n hc (i := 3) rfl dL_law_1315 rfl ?_ | refine v_aload_nN hc (i := 3) rfl dL_law_1315 rfl ?_
    refine v_iconst hc (v := nI 0) dL_law_1316 (by decide) ?_
    refine v_lald hc (0) dL_law_1317 (jn_l (jn_l (sg_s _ _))) rfl (by decide) (by decide) ?_
    refine v_iload hc dL_law_1318 rfl ?_
    refine v_i2l hc dL_law_1320 ?_
    refine v_lcmp hc dL_law_1321 ?_
    refine v_ifL_eq hc (tgt := 1327) dL_law_1322 (by decide) (fun _ => ?_) (fun z => absurd hxy z)
    refine v_goto hc (tgt := 1442) dL_law_1327 (by decide) ?_
    refine v_widen (k' := 30 + (i + 4) * 40) (n' := 700 + (i + 4) * 1300) (by omega) (by omega) ?_
    refine v_w (jn_comm hdv) ?_
    exact ct u2 _ f2 _ rfl hLR2 hdv.symm hd2
set_option maxRecDepth 100000 in
set_option maxHeartbeats 4000000 in
theorem k_find (hl : l.stackTraces = false) (hc : cxt p s m #[Value.ref b] meth c cL_law 8 RL wsL_law G (lA s)) (hr : meth.sig.returnType = ret) (hX : va_X b N xs s s.heap) (hbl : b < s.heap.size) (hN : N ≤ 2048) (hi : i + 4 ≤ N) (hLR : LR G u vm px h ad (fun _ => True)) (hd : dj vm (jn (sg oa (aL G 1 f)) u)) (hd1 : dj (sg oa (aL G 1 f)) u) (ct : CT p l e s m b below meth c G px h oa ad i) : LV p l e s m b below meth c G (jn vm (jn (sg oa (aL G 1 f)) u)) (30 + i * 40) (700 + i * 1300) 1330 (lL b px h oa i) [] := by
  obtain ⟨pI, pO, pX, n, ia, nm, ctt, lv, lo, fa, fb, fm, O, X, cp, ru, sc, ai, al, hI, hP, hF, hJ, hM, hD, h16, h17, -⟩ := hLR
  first | refine v_aload_n hc (i := 1) rfl dL_law_1330 rfl ?_ | refine v_aload_nN hc (i := 1) rfl dL_law_1330 rfl ?_
  first | refine v_aload_n hc (i := 0) rfl dL_law_1331 rfl ?_ | refine v_aload_nN hc (i := 0) rfl dL_law_1331 rfl ?_
  refine v_iload hc dL_law_1332 rfl ?_
  refine v_iconst hc (v := nI 1) dL_law_1334 (by decide) ?_
  first | refine v_iaddN hc dL_law_1335 ?_ | refine v_iadd hc dL_law_1335 ?_
  refine v_sld hc hX hbl (by omega) hN dL_law_1336 ?_
  first | refine v_aload_n hc (i := 3) rfl dL_law_1337 rfl ?_ | refine v_aload_nN hc (i := 3) rfl dL_law_1337 rfl ?_
  refine v_frSWi hc hd (c_L_find (l := l) hd1 hP.1 _ (fun A => c_X3_find hl hP _) (fun E u' hx => hx.2.1)) (vx_cwSW 3 hc.1.2.2.2.2 gL_law_L_find rfl rfl rfl (by decide +kernel) ⟨Nat.le_of_ble_eq_true rfl, Nat.le_of_ble_eq_true rfl⟩) rfl rfl (Nat.le_of_ble_eq_true rfl) ⟨by show _ ≤ 601024; omega, by show _ ≤ 7293034; omega⟩ dL_law_1338 (fun r5 w9 hp hd9 => ?_)
  obtain ⟨u2, f2, hd2, rfl, h1⟩ := hp
  refine v_istore hc dL_law_1341 (by decide) rfl ?_
  first | refine v_aload_n hc (i := 2) rfl dL_law_1343 rfl ?_ | refine v_aload_nN hc (i := 2) rfl dL_law_1343 rfl ?_
  first | refine v_aload_n hc (i := 0) rfl dL_law_1344 rfl ?_ | refine v_aload_nN hc (i := 0) rfl dL_law_1344 rfl ?_
  refine v_iload hc dL_law_1345 rfl ?_
  refine v_iconst hc (v := nI 1) dL_law_1347 (by decide) ?_
  first | refine v_iaddN hc dL_law_1348 ?_ | refine v_iadd hc dL_law_1348 ?_
  refine v_sld hc hX hbl (by omega) hN dL_law_1349 ?_
  refine v_w (jn_comm hd9) ?_
  refine v_frVi hc hd9.symm (c_X4_find hM hD hI.1 _) (cwV 1 hc.1.2.2.2.2 gL_law_X4_find rfl rfl rfl (by decide +kernel) ⟨Nat.le_of_ble_eq_true rfl, Nat.le_of_ble_eq_true rfl⟩) hM.1 rfl rfl rfl (Nat.le_of_ble_eq_true rfl) ⟨by show _ ≤ 601024; omega, by show _ ≤ 7293034; omega⟩ dL_law_1350 (fun r6 vm2 hp2 hdv => ?_)
  obtain ⟨⟨qI, qO, qX, n2, ia2, nm2, ct2, lv2, lo2, fa2, fb2, fm2, O2, X2, cp2, ru2, sc2, ai2, al2, hI2, hP2, hF2, hJ2, hM2, hD2, h162, h172, h24⟩, hxy⟩ := ag_find hI hP hF hJ hD h16 h17 _ h1 hp2
  have hLR2 : LR G u2 vm2 px h ad (fun _ => True) := ⟨qI, qO, qX, n2, ia2, nm2, ct2, lv2, lo2, fa2, fb2, fm2, O2, X2, cp2, ru2, sc2, ai2, al2, hI2, hP2, hF2, hJ2, hM2, hD2, h162, h172, trivial⟩
  refine v_istore hc dL_law_1353 (by decide) rfl ?_
  first | refine v_aload_n hc (i := 2) rfl dL_law_1355 rfl ?_ | refine v_aload_nN hc (i := 2) rfl dL_law_1355 rfl ?_
  refine v_frVi hc hdv (c_X4_thrown hM2) (cwV 0 hc.1.2.2.2.2 gL_law_X4_thrown rfl rfl rfl (by decide +kernel) ⟨Nat.le_of_ble_eq_true rfl, Nat.le_of_ble_eq_true rfl⟩) hM2.1 rfl rfl rfl (Nat.le_of_ble_eq_true rfl) ⟨by show _ ≤ 601024; omega, by show _ ≤ 7293034; omega⟩ dL_law_1356 (fun th vm3 hp3 hdv => ?_)
  obtain ⟨rfl, rfl⟩ := hp3
  rw [h24]
  refine v_iload hc dL_law_1359 rfl ?_
  refine v_icmp_eq hc (tgt := 1366) dL_law_1361 (by decide) (fun _ => ?_) (fun z => absurd rfl z)
  refine v_iload hc dL_law_1366 rfl ?_
  refine v_if_ne hc (tgt := 1383) dL_law_1368 (by decide) (fun _ => ?_) (fun z => ?_)
  · refine v_goto hc (tgt := 1442) dL_law_1383 (by decide) ?_
    refine v_widen (k' := 30 + (i + 4) * 40) (n' := 700 + (i + 4) * 1300) (by omega) (by omega) ?_
    refine v_w (jn_comm hdv) ?_
    exact ct u2 _ f2 _ rfl hLR2 hdv.symm hd2
  · have hz : r5 = nI 0 := by first | exact z | exact Classical.byContradiction z
    have hxy := hxy hz
    first | refine v_aload_n hc (i := 3) rfl dL_law_1371 rfl ?_ | refine v_aload_nN hc (i := 3) rfl dL_law_1371 rfl ?_
    refine v_iconst hc (v := nI 0) dL_law_1372 (by decide) ?_
    refine v_lald hc (0) dL_law_1373 (jn_l (jn_l (sg_s _ _))) rfl (by decide) (by decide) ?_
    refine v_iload hc dL_law_1374 rfl ?_
    refine v_i2l hc dL_law_1376 ?_
    refine v_lcmp hc dL_law_1377 ?_
    refine v_ifL_eq hc (tgt := 1383) dL_law_1378 (by decide) (fun _ => ?_) (fun z => absurd hxy z)
    refine v_goto hc (tgt := 1442) dL_law_1383 (by decide) ?_
    refine v_widen (k' := 30 + (i + 4) * 40) (n' := 700 + (i + 4) * 1300) (by omega) (by omega) ?_
    refine v_w (jn_comm hdv) ?_
    exact ct u2 _ f2 _ rfl hLR2 hdv.symm hd2
set_option maxRecDepth 100000 in
set_option maxHeartbeats 4000000 in
theorem k_looks (hl : l.stackTraces = false) (hc : cxt p s m #[Value.ref b] meth c cL_law 8 RL wsL_law G (lA s)) (hr : meth.sig.returnType = ret) (hX : va_X b N xs s s.heap) (hbl : b < s.heap.size) (hN : N ≤ 2048) (hi : i + 4 ≤ N) (hLR : LR G u vm px h ad (fun _ => True)) (hd : dj vm (jn (sg oa (aL G 1 f)) u)) (hd1 : dj (sg oa (aL G 1 f)) u) (ct : CT p l e s m b below meth c G px h oa ad i) : LV p l e s m b below meth c G (jn vm (jn (sg oa (aL G 1 f)) u)) (30 + i * 40) (700 + i * 1300) 1386 (lL b px h oa i) [] := by
  obtain ⟨pI, pO, pX, n, ia, nm, ctt, lv, lo, fa, fb, fm, O, X, cp, ru, sc, ai, al, hI, hP, hF, hJ, hM, hD, h16, h17, -⟩ := hLR
  first | refine v_aload_n hc (i := 1) rfl dL_law_1386 rfl ?_ | refine v_aload_nN hc (i := 1) rfl dL_law_1386 rfl ?_
  first | refine v_aload_n hc (i := 0) rfl dL_law_1387 rfl ?_ | refine v_aload_nN hc (i := 0) rfl dL_law_1387 rfl ?_
  refine v_iload hc dL_law_1388 rfl ?_
  refine v_iconst hc (v := nI 1) dL_law_1390 (by decide) ?_
  first | refine v_iaddN hc dL_law_1391 ?_ | refine v_iadd hc dL_law_1391 ?_
  refine v_sld hc hX hbl (by omega) hN dL_law_1392 ?_
  first | refine v_aload_n hc (i := 3) rfl dL_law_1393 rfl ?_ | refine v_aload_nN hc (i := 3) rfl dL_law_1393 rfl ?_
  refine v_frSWi hc hd (c_L_looks (l := l) hd1 hP.1 _ (fun A => c_X3_looks hl hP _) (fun E u' hx => hx.2.1)) (vx_cwSW 3 hc.1.2.2.2.2 gL_law_L_looks rfl rfl rfl (by decide +kernel) ⟨Nat.le_of_ble_eq_true rfl, Nat.le_of_ble_eq_true rfl⟩) rfl rfl (Nat.le_of_ble_eq_true rfl) ⟨by show _ ≤ 601024; omega, by show _ ≤ 7293034; omega⟩ dL_law_1394 (fun r5 w9 hp hd9 => ?_)
  obtain ⟨u2, f2, hd2, rfl, h1⟩ := hp
  refine v_istore hc dL_law_1397 (by decide) rfl ?_
  first | refine v_aload_n hc (i := 2) rfl dL_law_1399 rfl ?_ | refine v_aload_nN hc (i := 2) rfl dL_law_1399 rfl ?_
  first | refine v_aload_n hc (i := 0) rfl dL_law_1400 rfl ?_ | refine v_aload_nN hc (i := 0) rfl dL_law_1400 rfl ?_
  refine v_iload hc dL_law_1401 rfl ?_
  refine v_iconst hc (v := nI 1) dL_law_1403 (by decide) ?_
  first | refine v_iaddN hc dL_law_1404 ?_ | refine v_iadd hc dL_law_1404 ?_
  refine v_sld hc hX hbl (by omega) hN dL_law_1405 ?_
  refine v_w (jn_comm hd9) ?_
  refine v_frVi hc hd9.symm (c_X4_looks hM hD hI.1 _) (cwV 1 hc.1.2.2.2.2 gL_law_X4_looks rfl rfl rfl (by decide +kernel) ⟨Nat.le_of_ble_eq_true rfl, Nat.le_of_ble_eq_true rfl⟩) hM.1 rfl rfl rfl (Nat.le_of_ble_eq_true rfl) ⟨by show _ ≤ 601024; omega, by show _ ≤ 7293034; omega⟩ dL_law_1406 (fun r6 vm2 hp2 hdv => ?_)
  obtain ⟨⟨qI, qO, qX, n2, ia2, nm2, ct2, lv2, lo2, fa2, fb2, fm2, O2, X2, cp2, ru2, sc2, ai2, al2, hI2, hP2, hF2, hJ2, hM2, hD2, h162, h172, h24⟩, hxy⟩ := ag_looks hI hP hF hJ hD h16 h17 _ h1 hp2
  have hLR2 : LR G u2 vm2 px h ad (fun _ => True) := ⟨qI, qO, qX, n2, ia2, nm2, ct2, lv2, lo2, fa2, fb2, fm2, O2, X2, cp2, ru2, sc2, ai2, al2, hI2, hP2, hF2, hJ2, hM2, hD2, h162, h172, trivial⟩
  refine v_istore hc dL_law_1409 (by decide) rfl ?_
  first | refine v_aload_n hc (i := 2) rfl dL_law_1411 rfl ?_ | refine v_aload_nN hc (i := 2) rfl dL_law_1411 rfl ?_
  refine v_frVi hc hdv (c_X4_thrown hM2) (cwV 0 hc.1.2.2.2.2 gL_law_X4_thrown rfl rfl rfl (by decide +kernel) ⟨Nat.le_of_ble_eq_true rfl, Nat.le_of_ble_eq_true rfl⟩) hM2.1 rfl rfl rfl (Nat.le_of_ble_eq_true rfl) ⟨by show _ ≤ 601024; omega, by show _ ≤ 7293034; omega⟩ dL_law_1412 (fun th vm3 hp3 hdv => ?_)
  obtain ⟨rfl, rfl⟩ := hp3
  rw [h24]
  refine v_iload hc dL_law_1415 rfl ?_
  refine v_icmp_eq hc (tgt := 1422) dL_law_1417 (by decide) (fun _ => ?_) (fun z => absurd rfl z)
  refine v_iload hc dL_law_1422 rfl ?_
  refine v_if_ne hc (tgt := 1439) dL_law_1424 (by decide) (fun _ => ?_) (fun z => ?_)
  · refine v_goto hc (tgt := 1442) dL_law_1439 (by decide) ?_
    refine v_widen (k' := 30 + (i + 4) * 40) (n' := 700 + (i + 4) * 1300) (by omega) (by omega) ?_
    refine v_w (jn_comm hdv) ?_
    exact ct u2 _ f2 _ rfl hLR2 hdv.symm hd2
  · have hz : r5 = nI 0 := by first | exact z | exact Classical.byContradiction z
    have hxy := hxy hz
    first | refine v_aload_n hc (i := 3) rfl dL_law_1427 rfl ?_ | refine v_aload_nN hc (i := 3) rfl dL_law_1427 rfl ?_
    refine v_iconst hc (v := nI 0) dL_law_1428 (by decide) ?_
    refine v_lald hc (0) dL_law_1429 (jn_l (jn_l (sg_s _ _))) rfl (by decide) (by decide) ?_
    refine v_iload hc dL_law_1430 rfl ?_
    refine v_i2l hc dL_law_1432 ?_
    refine v_lcmp hc dL_law_1433 ?_
    refine v_ifL_eq hc (tgt := 1439) dL_law_1434 (by decide) (fun _ => ?_) (fun z => absurd hxy z)
    refine v_goto hc (tgt := 1442) dL_law_1439 (by decide) ?_
    refine v_widen (k' := 30 + (i + 4) * 40) (n' := 700 + (i + 4) * 1300) (by omega) (by omega) ?_
    refine v_w (jn_comm hdv) ?_
    exact ct u2 _ f2 _ rfl hLR2 hdv.symm hd2
end LAWC
