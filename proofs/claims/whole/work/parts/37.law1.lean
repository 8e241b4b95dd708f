/-! THE CLAIM OUT OF ONE WALK OF THE LAW'S BODY. Your part is whole_start (and what it stands on); all else here is the same for every law, but numbers. -/
def R_law : String := "PackstackLaw"
def lw_P (b : Addr) (xs : List Int32) (args : Array Value) (s : State) : Prop := args = #[.ref b] ∧ s.IntsAt b xs ∧ xs.length ≤ 2048 ∧ (Jvm.Cond.and given_1 narrow_1).before args s = true
def lw_Q (_ : Array Value) (s : State) (o : Outcome) (t : State) : Prop := o = .returned (some (.int 1)) ∧ Framed s o t [] 601024 7293034
def lw_Z (below : List Frame) (a : Array Value) (s : State) : State → Prop := fun t => ∃ o, t.status = .running ∧ Ended t below o ∧ lw_Q a s o t
/-- the law's own end, with 1 on the stack, nothing written that was there before, its room as the claim has it -/
theorem lw_ret {p : Program} {l : Launch} {e : Env} {s : State} {m : MethodId} {below : List Frame} {meth : Method} {c : Code} {b : Nat} (hx : p.tables.exec = Jvm.exec) (hb : c.code = code) (hr : meth.sig.returnType = ret) (hlocks : meth.locks = false) {pc : Nat} {H : Heap} {ls : Array Slot} (hdg : decode code pc = .ok (.ireturn, 1)) : W p l e room_1 s m #[Value.ref b] below meth c H [] 601024 7293034 (lw_Z below #[Value.ref b] s) (F0 m pc ls [.int 1]) := by
  intro T hT X
  obtain ⟨fs, hret, hrun, hended, hW, hframe⟩ := X.leave (v := some (.int 1)) (hlocks := hlocks) (fun h => by rw [hr] at h; cases h)
  have hmeth' : T.vm.method? m = some meth := X.method'
  refine ⟨T.setFrames fs, ?_, .returned (some (.int 1)), hrun, hended, rfl, ⟨_, rfl⟩, hW, hframe⟩
  jvm_step X.here [X.here.top, hx, hb, hdg, hmeth', hr, ret, narrow_b1]
  (try refine ⟨rfl, ?_⟩); (try refine ⟨rfl, ?_⟩)
  first | (intro acts; rw [hret _ acts rfl rfl rfl]) | rw [hret _ _ rfl rfl rfl]
  exact Steps.refl _
/-- what holds at the law's entry: the machine, the code, the tables' words (any of lw_tbl by 'hts w (by decide +kernel)'), the script of L ints xs at the cell b, what the Statement gives of the start (any of its parts by flat_of_before) -/
def lw_At (p : Program) (s : State) (m : MethodId) (meth : Method) (c : Code) (b L : Nat) (xs : Nat → Int32) : Prop :=
  p.tables.exec = Jvm.exec ∧ c.code = code ∧ meth.sig.returnType = ret ∧ c.maxLocals = 8 ∧ s.vm.findClass R_law = some m.cls ∧ (∀ w ∈ lw_tbl, w.before #[Value.ref b] s = true) ∧ va_X b L xs s s.heap ∧ b < s.heap.size ∧ meth.locks = false ∧ (Jvm.Cond.and given_1 narrow_1).before #[Value.ref b] s = true
/-! ===== rows of the law's own frame ===== -/
def lA (s : State) : Nat → Prop := fun q => s.heap.size ≤ q
section LAW1
variable {p : Program} {l : Launch} {e : Env} {s : State} {m : MethodId} {below : List Frame} {meth : Method} {c : Code} {G : cG} {w : wd} {k n pc : Nat} {L : vLT} {st : List Value} {b N : Nat} {xs : Nat → Int32}
abbrev LV (p : Program) (l : Launch) (e : Env) (s : State) (m : MethodId) (b : Nat) (below : List Frame) (meth : Method) (c : Code) (G : cG) (w : wd) (k n pc : Nat) (L : vLT) (st : List Value) : Prop := V p l e room_1 s m #[Value.ref b] below meth c 8 G (lA s) (lw_Z below #[Value.ref b] s) w k n pc L st
theorem v_end (hc : cxt p s m #[Value.ref b] meth c cL_law 8 RL wsL_law G (lA s)) (hr : meth.sig.returnType = ret) (hdg : decode cL_law pc = .ok (.ireturn, 1)) (hk : k ≤ 601024) (hn : n ≤ 7293034) : LV p l e s m b below meth c G w k n pc L [.int (nI 1)] := fun H locs ls h1 h2 h3 =>
  va_forget (fun q hq => h2.2.2 q hq) (W.widen hk hn (lw_ret hc.1.1 hc.1.2.1 hr hc.2.2.2 hdg))
theorem v_sld (hc : cxt p s m #[Value.ref b] meth c cL_law 8 RL wsL_law G (lA s)) (hX : va_X b N xs s s.heap) (hbl : b < s.heap.size) {i : Nat} (hi : i < N) (hN : N ≤ 2048) (hdg : decode cL_law pc = .ok (.iaload, 1)) (kk : LV p l e s m b below meth c G w k n (pc + 1) L (.int (xs i) :: st)) : LV p l e s m b below meth c G w k n pc L (.int (nI i) :: .ref b :: st) := fun H locs ls h1 h2 h3 =>
  va_sld hc.1.1 hc.1.2.1 hX hbl (Nat.not_le.mpr hbl) h2 (vp_in_nI hi (by omega)) hdg (by rw [nI_clamp (by omega)]; exact kk H locs ls h1 h2 h3)
theorem v_slen (hc : cxt p s m #[Value.ref b] meth c cL_law 8 RL wsL_law G (lA s)) (hX : va_X b N xs s s.heap) (hbl : b < s.heap.size) (hdg : decode cL_law pc = .ok (.arraylength, 1)) (kk : LV p l e s m b below meth c G w k n (pc + 1) L (.int (nI N) :: st)) : LV p l e s m b below meth c G w k n pc L (.ref b :: st) := fun H locs ls h1 h2 h3 =>
  va_slen hc.1.1 hc.1.2.1 hX hbl (Nat.not_le.mpr hbl) h2 hdg (kk H locs ls h1 h2 h3)
theorem v_tout (hc : cxt p s m #[Value.ref b] meth c cL_law 8 RL wsL_law G (lA s)) {dflt lo hi : Int} {offs : Array Int} {len : Nat} {x : Int32} {tgt : Nat} (hdg : decode cL_law pc = .ok (.tableswitch dflt lo hi offs, len)) (h : x.toInt < lo ∨ hi < x.toInt) (ht : (pc : Int) + dflt = (tgt : Int)) (kk : LV p l e s m b below meth c G w k n tgt L st) : LV p l e s m b below meth c G w k n pc L (.int x :: st) := fun H locs ls h1 h2 h3 =>
  lv_tableOut hc.1.1 hc.1.2.1 hdg h ht (kk H locs ls h1 h2 h3)
theorem v_tin (hc : cxt p s m #[Value.ref b] meth c cL_law 8 RL wsL_law G (lA s)) {dflt lo hi : Int} {offs : Array Int} {len : Nat} {x : Int32} {off : Int} {tgt : Nat} (hdg : decode cL_law pc = .ok (.tableswitch dflt lo hi offs, len)) (h1 : ¬ x.toInt < lo) (h2 : ¬ hi < x.toInt) (ho : offs[(x.toInt - lo).toNat]? = some off) (ht : (pc : Int) + off = (tgt : Int)) (kk : LV p l e s m b below meth c G w k n tgt L st) : LV p l e s m b below meth c G w k n pc L (.int x :: st) := fun H locs ls a1 a2 a3 =>
  lv_tableIn hc.1.1 hc.1.2.1 hdg h1 h2 ho ht (kk H locs ls a1 a2 a3)
end LAW1
