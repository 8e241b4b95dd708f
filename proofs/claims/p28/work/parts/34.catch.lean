/-! ===== bodies with handlers ===== -/
theorem m_ofH {l : Launch} {G : cG} {A : Nat → Prop} {w : wd} {av : List Value} {y : MethodName} {ws ws' : List Cond} {rm : Room} {Qc : Array Value → State → Outcome → State → Prop} {mc ms : Nat} {cc : ByteArray} {maxL : Nat} {ret : Option FieldType} {hh : List (Nat × Nat × Nat × Nat)} (hy : plainName y.cls = true) (hw0 : ws = Cond.codeWith y cc maxL ret hh :: ws') (hl : (lg_sl av).length ≤ maxL)
    (body : ∀ p e s m args below meth c, cxt p s m args meth c cc maxL y.cls ws G A → meth.sig.returnType = ret → c.exceptionTable.toList = tableOf hh → V p l e rm s m args below meth c maxL G A (MQ below Qc args s mc ms A) w 0 0 0 (vLa 0 av) []) : Met l y ws rm (Pw G A w av) Qc mc ms A := by
  refine MetFree.of_bodyS (code := cc) (maxLocals := maxL) (ret := ret) hy ?_ ?_
  · intro args s m h hn
    obtain ⟨m9, meth, c, hn9, h1, h2, h3, h4, -, h5, h6, -⟩ := Cond.codeWith_spec (atoms_spec (ws := ws) h _ (by rw [hw0]; exact List.mem_cons_self))
    cases hn.symm.trans hn9
    exact ⟨meth, c, h1, h2, h3, h4, h5, h6⟩
  · intro p e s m args below meth c s₁ B hml hP _
    have hh0 : s₁.heap = s.heap := by rw [B.state]; rfl
    obtain ⟨rfl, hK, hW, hA⟩ := hP
    have hts := atoms_spec (ws := ws) B.pre
    have hl' := lv_entry av (n := maxL) hl
    have K := body p e s m _ below meth c ⟨⟨B.exec, B.bytes, hml, findClass_of_methodNamed B.named, hts⟩, hK, hA, B.notSynchronized⟩ B.returns (vx_table (x := y) B (hts _ (by rw [hw0]; exact List.mem_cons_self))) s.heap [] _ hW va_S.rf (vs_ent hl')
    rw [← lg_entry_eq] at K
    obtain ⟨t, a1, o, b1, b2, b3⟩ := K s₁ hh0 (Stand.of_body B)
    exact ⟨t, o, a1, b1, b2, b3⟩
section CAT
variable {p : Program} {l : Launch} {e : Env} {R : Room} {s : State} {m : MethodId} {args : Array Value} {below : List Frame} {meth : Method} {c : Code} {nL : Nat} {G : cG} {A : Nat → Prop} {Q : State → Prop} {w : wd} {k n pc mc ms : Nat} {L : vLT} {st : List Value} {cc : ByteArray} {own : String} {Ts : List Cond}
/-- caught here -/
theorem v_catch (hc : cxt p s m args meth c cc nL own Ts G A) {name E : String} (pre : List ExceptionTableEntry) (x : ExceptionTableEntry) (suf : List ExceptionTableEntry) (hsplit : c.exceptionTable.toList = pre ++ x :: suf)
    (hpass : ∀ z ∈ pre, z.catchType ≠ 0 ∧ ∃ nm : String, Cond.classLink own z.catchType nm ∈ Ts ∧ (E, nm) ∈ kX) (hx : covers x pc = true) (h0 : x.catchType ≠ 0) (hlink : Cond.classLink own x.catchType name ∈ Ts) (hcast : Cond.castable E name ∈ kN)
    (kk : ∀ q : Nat, V p l e R s m args below meth c nL G A Q w k n x.handlerPc L [.ref q]) : VX p l e R s m args below meth c nL G A Q w k n pc L st E := fun H locs ls q ce a1 a2 a3 a4 a5 a6 =>
  vx_catch hc.1.2.2.2.1 pre x suf hsplit (fun z hz => by
    obtain ⟨h1, nm, h2, h3⟩ := hpass z hz
    exact Or.inr ⟨h1, nm, hc.1.2.2.2.2 _ h2, hc.2.1.2.2.2.2.2.2.2.1 _ h3⟩) hx h0 (hc.1.2.2.2.2 _ hlink) (va_Nw.use rfl (hc.2.1.2.2.2.2.2.1 _ hcast)) a4 a5 a6 (kk q H locs ls a1 a2 a3)
/-- a static call of a body with handlers, beside another world -/
theorem v_frSWi (hc : cxt p s m args meth c cc nL own Ts G A) {u v : wd} (hd : dj v u) {post : Int32 → wd → Prop} {y : MethodName} {bytes : ByteArray} {maxL' nn index : Nat} {ret : Option FieldType} {hh : List (Nat × Nat × Nat × Nat)} {ws' : List Cond} {rm : Room} {As rest : List Value} (hM : Met l y ws' rm (Pw G (fA A v) u As) (va_Qi post (Bw G (fA A v)) (fA A v)) mc ms (fA A v)) (cw : vx_CSW R s args own index y bytes maxL' ret hh ws' rm mc ms nn) (hn : As.length = nn) (hst : st = As.reverse ++ rest) (hW : (rest.map fun v => v.category).sum ≤ 8) (hf : k + mc ≤ R.cells ∧ n + ms ≤ R.slots) (hdg : decode cc pc = .ok (.invokestatic index, 3))
    (kk : ∀ (r : Int32) (w' : wd), post r w' → dj v w' → V p l e R s m args below meth c nL G A Q (jn v w') (k + mc) (n + ms) (pc + 3) L (.int r :: rest)) : V p l e R s m args below meth c nL G A Q (jn v u) k n pc L st := fun H locs ls h1 h2 h3 =>
  va_calli (vx_runSW (As := As) (rest := rest) hc.1 hM cw ⟨Pw.blind, fun U hU hW => ⟨rfl, (hc.2.1.go h2 hU hW).mono (fun q z => z.1), by rw [hU]; exact hw_u h1 hd, fun q hq => fA_new hc.2.2.1 h1 h2.1 (by rw [hU] at hq; exact hq)⟩⟩ rfl hn h3.1 hst (lv_room hW) hdg hf) h2 (fun q _ h => h.1) (fun q h => h.1) (fun r w' t H1 locs1 ht hvm hp hB hz hk hS => kk r w' hp (hw_dj hB) H1 locs1 ls (hw_jn h1 (by rw [← ht]; exact hB) hk) hS h3)
end CAT
/-- the row of one answer -/
def sg (a : Nat) (e : va_E) : wd := fun x => if x = a then some e else none
theorem sg_s (a : Nat) (e : va_E) : sg a e a = some e := if_pos rfl
theorem sg_n {a x : Nat} {e : va_E} (h : x ≠ a) : sg a e x = none := if_neg h
theorem jn_up {u : wd} {a : Nat} {e e' : va_E} : wup (jn (sg a e) u) a e' = jn (sg a e') u := by
  funext x
  by_cases hx : x = a
  · subst hx; rw [wup_s, jn_l (sg_s _ _)]
  · rw [wup_n _ _ hx, jn_r (sg_n hx), jn_r (sg_n hx)]
theorem dj_sg {a : Nat} {e e' : va_E} {u : wd} (h : dj (sg a e) u) : dj (sg a e') u := fun x y hx => by
  have h1 := h x y hx
  by_cases hxa : x = a
  · subst hxa; rw [sg_s] at h1; cases h1
  · exact sg_n hxa
