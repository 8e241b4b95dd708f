/-! ===== a world as a function, a judgement that hides heap and locals ===== -/
abbrev wd : Type := Nat → Option va_E
def wup (w : wd) (a : Nat) (e : va_E) : wd := fun x => if x = a then some e else w x
theorem wup_s (w : wd) (a : Nat) (e : va_E) : wup w a e a = some e := by simp [wup]
theorem wup_n (w : wd) {a x : Nat} (e : va_E) (h : x ≠ a) : wup w a e x = w x := by simp [wup, h]
abbrev cG : Type := va_G × (ClassId × ClassId × ClassId × ClassId) × Nat × Nat
abbrev gI (G : cG) : ClassId := G.2.1.1
abbrev gL (G : cG) : ClassId := G.2.1.2.1
abbrev gZ (G : cG) : ClassId := G.2.1.2.2.1
abbrev gO (G : cG) : ClassId := G.2.1.2.2.2
abbrev gE (G : cG) : Nat := G.2.2.1
abbrev gM (G : cG) : Nat := G.2.2.2
def gT (G : cG) : List (ClassId × FieldType) := [(gI G, .int), (gL G, .long), (gI G, .int), (gO G, .object "java/lang/Object")]
abbrev aI (G : cG) (n : Nat) (f : Nat → Int32) : va_E := .inl (gI G, n, .inl f)
abbrev aZ (G : cG) (n : Nat) (f : Nat → Int32) : va_E := .inl (gZ G, n, .inl f)
abbrev aL (G : cG) (n : Nat) (f : Nat → Int64) : va_E := .inl (gL G, n, .inr (.inl f))
abbrev aO (G : cG) (n : Nat) (f : Nat → Option Nat) : va_E := .inl (gO G, n, .inr (.inr (.inr (.inr f))))
def hw (G : cG) (A : Nat → Prop) (w : wd) (H : Heap) : Prop := ∀ (a : Nat) (e : va_E), w a = some e → va_at G.1 vwCl (a, e) H ∧ A a
theorem hw.set {G : cG} {A : Nat → Prop} {w : wd} {H H1 : Heap} {a : Nat} {e0 e : va_E} (h : hw G A w H) (hp : w a = some e0) (he : va_at G.1 vwCl (a, e) H1) (oq : ∀ q : Nat, q ≠ a → H1[q]? = H[q]?) : hw G A (wup w a e) H1 := by
  intro x y hx
  by_cases hxa : x = a
  · subst hxa
    rw [wup_s] at hx
    cases hx
    exact ⟨he, (h x e0 hp).2⟩
  · rw [wup_n _ _ hxa] at hx
    exact ⟨(h x y hx).1.kept (oq x hxa), (h x y hx).2⟩
theorem hw.push {G : cG} {A : Nat → Prop} {w : wd} {H H1 : Heap} {e : va_E} (h : hw G A w H) (he : va_at G.1 vwCl (H.size, e) H1) (oq : ∀ q : Nat, q < H.size → H1[q]? = H[q]?) (hA : A H.size) : hw G A (wup w H.size e) H1 := by
  intro x y hx
  by_cases hxa : x = H.size
  · subst hxa
    rw [wup_s] at hx
    cases hx
    exact ⟨he, hA⟩
  · rw [wup_n _ _ hxa] at hx
    exact ⟨(h x y hx).1.kept (oq x (h x y hx).1.lt), (h x y hx).2⟩
theorem hw.fresh {G : cG} {A : Nat → Prop} {w : wd} {H : Heap} (h : hw G A w H) : w H.size = none := by
  cases hx : w H.size with
  | none => rfl
  | some e => exact absurd (h _ _ hx).1.lt (Nat.lt_irrefl _)
theorem hw.keep {G : cG} {A : Nat → Prop} {w : wd} {H H1 : Heap} (h : hw G A w H) (oq : ∀ (q : Nat) (e : va_E), w q = some e → H1[q]? = H[q]?) : hw G A w H1 := fun x y hx => ⟨(h x y hx).1.kept (oq x y hx), (h x y hx).2⟩
theorem hw.one {G : cG} {A : Nat → Prop} {w : wd} {H : Heap} {a : Nat} {e : va_E} (h : hw G A w H) (he : w a = some e) : va_P G.1 vwCl [(a, e)] H := by
  intro k q hk
  match k, hk with
  | 0, hk => cases hk; exact (h a e he).1
  | k + 1, hk => simp at hk
theorem hw.oneD {G : cG} {A : Nat → Prop} {w : wd} {H : Heap} {a : Nat} {e : va_E} (h : hw G A w H) (he : w a = some e) : va_D A [(a, e)] := by
  refine ⟨fun i j p q hi hj _ => ?_, fun k q hk => ?_⟩
  · have h1 := (List.getElem?_eq_some_iff.mp hi).1
    have h2 := (List.getElem?_eq_some_iff.mp hj).1
    simp at h1 h2
    omega
  · match k, hk with
    | 0, hk => cases hk; exact (h a e he).2
    | k + 1, hk => simp at hk
/-- words that the tables alone decide, carried along -/
def kN : List Cond := [.methodLinkNest RX1 20 yX3_countLetters RX3, .methodLinkNest RX1 29 yX3_hashOf RX3, .methodLinkNest RX1 49 yX3_letterAt RX3,
  .castable "java/lang/IllegalArgumentException" "java/lang/IllegalArgumentException", .castable "java/lang/IllegalStateException" "java/lang/IllegalStateException", .castable "java/lang/IndexOutOfBoundsException" "java/lang/IndexOutOfBoundsException", .castable RX1 "java/lang/Object", .declares (Bundle.initS "java/lang/RuntimeException"), .declares (Bundle.initS "java/lang/Exception"), .declares (Bundle.initS Bundle.tN)]
def kX : List (String × String) := [("java/lang/IllegalStateException", "java/lang/IllegalArgumentException"), ("java/lang/IllegalStateException", "java/lang/IndexOutOfBoundsException")]
def kR : List (String × Nat × String) := [(RX3, 130, "the form is damaged already"), (RX3, 150, "the object has no form"), (RX3, 166, "no such place"), (RX3, 169, "no such number of the fan-out table"), (RX3, 187, "no such object"), (RX3, 234, "the hash is out of range"), (RX3, 31, "the name is out of range"), (RX3, 40, "no content"), (RX3, 48, "no more objects can be stored"), (RX3, 68, "the object is not live"), (RX3, 80, "the object cannot be read"), (RX3, 86, "the window is out of range"), (RX3, 88, "the bound is out of range")]
def kk (G : cG) (A : Nat → Prop) (U : State) : Prop := va_K G.1 vwCl (gT G) U ∧ va_Z "java/util/ArrayList" "DEFAULTCAPACITY_EMPTY_ELEMENTDATA" "[Ljava/lang/Object;" (.ref (gE G)) A U U.heap ∧ va_T (.object "java/lang/Object") (gE G) 0 (fun _ => .null) A U U.heap ∧
  vx_Zq Bundle.tN "UNASSIGNED_STACK" Bundle.steD A U U.heap ∧ vx_Zq Bundle.tN "SUPPRESSED_SENTINEL" Bundle.listD A U U.heap ∧ (∀ w ∈ kN, va_Nw w U) ∧ (∀ q ∈ kR, ∃ a, vk_R q.1 q.2.1 q.2.2 a U) ∧ (∀ q ∈ kX, va_Nc q.1 q.2 U) ∧ va_AO "java/lang/Object" U ∧ va_Mi "[Ljava/lang/Object;" (gM G) U ∧ va_Dc U
theorem kN_warm {s U : State} (hW : s.WarmedH U.vm) (h : ∀ w ∈ kN, va_Nw w s) : ∀ w ∈ kN, va_Nw w U := by
  have h' := h
  simp only [kN, List.forall_mem_cons, List.not_mem_nil, false_imp_iff, implies_true, and_true] at h ⊢
  obtain ⟨a1, a2, a3, a4, a5, a6, a7, a8, a9, a10⟩ := h
  exact ⟨a1.warmM hW, a2.warmM hW, a3.warmM hW, a4.warmC hW, a5.warmC hW, a6.warmC hW, a7.warmC hW, a8.warmD hW, a9.warmD hW, a10.warmD hW⟩
theorem kN_on : ∀ w ∈ kN, w.onTables = true := by decide +kernel
theorem kk.go {G : cG} {A : Nat → Prop} {s U : State} {H : Heap} {locs : List Loc} (h : kk G A s) (hS : va_S A s.heap H locs) (hU : U.heap = H) (hW : s.WarmedH U.vm) : kk G A U := by
  obtain ⟨h1, h2, h3, h4, h5, h6, h7, h8, h9, h10, h11⟩ := h
  refine ⟨va_K.moved hW.alike h1, ?_, ?_, ?_, ?_, kN_warm hW h6, fun q hq => ?_, fun q hq => (h8 q hq).moved hW.alike, h9.moved hW.alike, h10.moved hW.alike, h11.moved hW.alike⟩
  · rw [hU]; exact (h2.moved hW.alike).kept hS.2.1
  · rw [hU]; exact (h3.moved hW.alike).kept hS.2.1
  · rw [hU]; exact (h4.moved hW.alike).kept hS.2.1
  · rw [hU]; exact (h5.moved hW.alike).kept hS.2.1
  · obtain ⟨a, ha⟩ := h7 q hq
    exact ⟨a, ha.warm hW⟩
theorem kk.calling {G : cG} {A : Nat → Prop} {U : State} (h : kk G A U) (g : JFrame) (mk : MethodId) (a : Array Value) : kk G A (U.calling g mk a) := by
  obtain ⟨h1, h2, h3, h4, h5, h6, h7, h8, h9, h10, h11⟩ := h
  have hv : U.vm.Alike (U.calling g mk a).vm := Vm.Alike.refl U.vm
  refine ⟨va_K.moved hv h1, h2.moved hv, h3.moved hv, h4.moved hv, h5.moved hv, fun w hw => ?_, fun q hq => ?_, fun q hq => (h8 q hq).moved hv, h9.moved hv, h10.moved hv, h11.moved hv⟩
  · exact va_Nw.same (kN_on w hw) (u := U) rfl (h6 w hw)
  · obtain ⟨a, ha⟩ := h7 q hq
    exact ⟨a, ha.same rfl⟩
/-! the locals: the first listed entry counts -/
abbrev vLT : Type := List (Nat × Option Value)
def vl : vLT → Nat → Option Value
  | [], _ => none
  | q :: t, i => cond (Nat.beq q.1 i) q.2 (vl t i)
def lvh (ls : Array Slot) (nL : Nat) (L : vLT) : Prop := ls.size = nL ∧ lv_wf ls ∧ ∀ (i : Nat) (v : Value), vl L i = some v → ls[i]? = some (.val v)
def vfl (L : vLT) : List (Nat × Value) := L.filterMap (fun q => (vl L q.1).map (fun v => (q.1, v)))
theorem vl_mem : ∀ {L : vLT} {i : Nat} {v : Value}, vl L i = some v → ∃ q ∈ L, q.1 = i
  | [], _, _, h => by cases h
  | q :: t, i, v, h => by
    unfold vl at h
    cases hb : Nat.beq q.1 i with
    | true => exact ⟨q, List.mem_cons_self, Nat.eq_of_beq_eq_true hb⟩
    | false =>
      rw [hb] at h
      obtain ⟨q', h1, h2⟩ := vl_mem (L := t) h
      exact ⟨q', List.mem_cons_of_mem _ h1, h2⟩
theorem vfl_mem {L : vLT} {i : Nat} {v : Value} : (i, v) ∈ vfl L ↔ vl L i = some v := by
  constructor
  · intro h
    obtain ⟨q, -, hq⟩ := List.mem_filterMap.mp h
    cases hv : vl L q.1 with
    | none => rw [hv] at hq; cases hq
    | some u =>
      rw [hv] at hq
      cases hq
      exact hv
  · intro h
    obtain ⟨q, h1, h2⟩ := vl_mem h
    subst h2
    exact List.mem_filterMap.mpr ⟨q, h1, by rw [h]; rfl⟩
theorem vs_at {ls : Array Slot} {nL : Nat} {L : vLT} {i : Nat} {v : Value} (h : lvh ls nL L) (hl : vl L i = some v) : ls[i]? = some (.val v) := h.2.2 i v hl
theorem vs_has {ls : Array Slot} {nL : Nat} {L : vLT} (h : lvh ls nL L) : lv_has ls nL (vfl L) := ⟨h.1, h.2.1, fun q hq => h.2.2 q.1 q.2 (vfl_mem.mp hq)⟩
theorem vs_ix {L : vLT} {i : Nat} {v : Value} (h : vl L i = some v) : ∃ j : Nat, (vfl L)[j]? = some (i, v) := List.getElem?_of_mem (vfl_mem.mpr h)
def vok (L : vLT) (i : Nat) : Bool := match i with
  | 0 => true
  | j + 1 => match vl L j with
    | none => true
    | some u => Nat.beq u.category 1
theorem vok_no {L : vLT} {i j : Nat} {u : Value} (h : vok L i = true) (hj : j + 1 = i) (hu : vl L j = some u) : (u.category == 2) = false := by
  subst hj
  unfold vok at h
  simp only [hu] at h
  have := Nat.eq_of_beq_eq_true h
  rw [this]
  rfl
theorem vs_st1 {ls : Array Slot} {nL : Nat} {L : vLT} {i : Nat} {v : Value} (hk : vok L i = true) (h : lv_has ls nL ((i, v) :: (vfl L).filter (fun q => !(q.1 == i) && !(q.1 + 1 == i && q.2.category == 2)))) : lvh ls nL ((i, some v) :: L) := by
  refine ⟨h.1, h.2.1, fun j u hj => ?_⟩
  unfold vl at hj
  cases hb : Nat.beq i j with
  | true =>
    rw [hb] at hj
    cases hj
    exact h.2.2 (j, v) (by rw [Nat.eq_of_beq_eq_true hb]; exact List.mem_cons_self)
  | false =>
    rw [hb] at hj
    have hne : i ≠ j := Nat.ne_of_beq_eq_false hb
    refine h.2.2 (j, u) (List.mem_cons_of_mem _ (List.mem_filter.mpr ⟨vfl_mem.mpr hj, ?_⟩))
    have h1 : (j == i) = false := by simp [Ne.symm hne]
    by_cases hji : j + 1 = i
    · simp [h1, vok_no hk hji hj]
    · simp [h1, hji]
theorem vs_st2 {ls : Array Slot} {nL : Nat} {L : vLT} {i : Nat} {v : Value} (hk : vok L i = true) (h : lv_has ls nL ((i, v) :: (vfl L).filter (fun q => !(q.1 == i) && (!(q.1 == i + 1) && !(q.1 + 1 == i && q.2.category == 2))))) : lvh ls nL ((i, some v) :: (i + 1, none) :: L) := by
  refine ⟨h.1, h.2.1, fun j u hj => ?_⟩
  unfold vl at hj
  cases hb : Nat.beq i j with
  | true =>
    rw [hb] at hj
    cases hj
    exact h.2.2 (j, v) (by rw [Nat.eq_of_beq_eq_true hb]; exact List.mem_cons_self)
  | false =>
    rw [hb] at hj
    have hne : i ≠ j := Nat.ne_of_beq_eq_false hb
    unfold vl at hj
    cases hb2 : Nat.beq (i + 1) j with
    | true =>
      simp only [hb2] at hj
      cases hj
    | false =>
      simp only [hb2, cond_false] at hj
      have hne2 : i + 1 ≠ j := Nat.ne_of_beq_eq_false hb2
      refine h.2.2 (j, u) (List.mem_cons_of_mem _ (List.mem_filter.mpr ⟨vfl_mem.mpr hj, ?_⟩))
      have h1 : (j == i) = false := by simp [Ne.symm hne]
      have h2 : (j == i + 1) = false := by simp [Ne.symm hne2]
      by_cases hji : j + 1 = i
      · simp [h1, h2, vok_no hk hji hj]
      · simp [h1, h2, hji]
theorem vs_sub {ls : Array Slot} {nL : Nat} {L L' : vLT} (h : lvh ls nL L) (hs : L'.map (fun q => vl L q.1) = L'.map (fun q => q.2)) : lvh ls nL L' := by
  refine ⟨h.1, h.2.1, fun j u hj => h.2.2 j u ?_⟩
  induction L' with
  | nil => cases hj
  | cons q t ih =>
    rw [List.map_cons, List.map_cons, List.cons.injEq] at hs
    unfold vl at hj
    cases hb : Nat.beq q.1 j with
    | true =>
      rw [hb] at hj
      rw [← Nat.eq_of_beq_eq_true hb, hs.1]
      exact hj
    | false =>
      rw [hb] at hj
      exact ih hs.2 hj
def vLa (i : Nat) (av : List Value) : vLT := (lv_args i av).map (fun q => (q.1, some q.2))
theorem vs_ent {ls : Array Slot} {nL : Nat} {l : List (Nat × Value)} (h : lv_has ls nL l) : lvh ls nL (l.map (fun q => (q.1, some q.2))) := by
  refine ⟨h.1, h.2.1, fun j u hj => h.2.2 (j, u) ?_⟩
  clear h
  induction l with
  | nil => cases hj
  | cons q t ih =>
    rw [List.map_cons] at hj
    unfold vl at hj
    cases hb : Nat.beq q.1 j with
    | true =>
      simp only [hb, cond_true, Option.some.injEq] at hj
      rw [← Nat.eq_of_beq_eq_true hb, ← hj]
      exact List.mem_cons_self
    | false =>
      simp only [hb, cond_false] at hj
      exact List.mem_cons_of_mem _ (ih hj)
/-! the context of a method's body, and the judgement -/
def cxt (p : Program) (s : State) (m : MethodId) (args : Array Value) (meth : Method) (c : Code) (cc : ByteArray) (nL : Nat) (own : String) (Ts : List Cond) (G : cG) (A : Nat → Prop) : Prop := CallFix p m c cc nL s args Ts own ∧ kk G A s ∧ (∀ q, s.heap.size ≤ q → A q) ∧ meth.locks = false
def V (p : Program) (l : Launch) (e : Env) (R : Room) (s : State) (m : MethodId) (args : Array Value) (below : List Frame) (meth : Method) (c : Code) (nL : Nat) (G : cG) (A : Nat → Prop) (Q : State → Prop) (w : wd) (k n : Nat) (pc : Nat) (L : vLT) (st : List Value) : Prop :=
  ∀ (H : Heap) (locs : List Loc) (ls : Array Slot), hw G A w H → va_S A s.heap H locs → lvh ls nL L → W p l e R s m args below meth c H locs k n Q (F0 m pc ls st)
section VRW
variable {p : Program} {l : Launch} {e : Env} {R : Room} {s : State} {m : MethodId} {args : Array Value} {below : List Frame} {meth : Method} {c : Code} {nL : Nat} {G : cG} {A : Nat → Prop} {Q : State → Prop} {w : wd} {k n pc : Nat} {L : vLT} {st : List Value} {cc : ByteArray} {own : String} {Ts : List Cond}
theorem v_widen {k' n' : Nat} (h1 : k ≤ k') (h2 : n ≤ n') (kk : V p l e R s m args below meth c nL G A Q w k' n' pc L st) : V p l e R s m args below meth c nL G A Q w k n pc L st := fun H locs ls a1 a2 a3 => W.widen h1 h2 (kk H locs ls a1 a2 a3)
theorem v_loc (L' : vLT) (hs : L'.map (fun q => vl L q.1) = L'.map (fun q => q.2)) (kk : V p l e R s m args below meth c nL G A Q w k n pc L' st) : V p l e R s m args below meth c nL G A Q w k n pc L st := fun H locs ls a1 a2 a3 => kk H locs ls a1 a2 (vs_sub a3 hs)
theorem v_topi {x : Int32} (kk : ∀ y : Int32, y = x → V p l e R s m args below meth c nL G A Q w k n pc L (.int y :: st)) : V p l e R s m args below meth c nL G A Q w k n pc L (.int x :: st) := kk x rfl
theorem v_topl {x : Int64} (kk : ∀ y : Int64, y = x → V p l e R s m args below meth c nL G A Q w k n pc L (.long y :: st)) : V p l e R s m args below meth c nL G A Q w k n pc L (.long x :: st) := kk x rfl
/-- the value on top, rewritten -/
theorem v_ti {x y : Int32} (h : x = y) (kk : V p l e R s m args below meth c nL G A Q w k n pc L (.int y :: st)) : V p l e R s m args below meth c nL G A Q w k n pc L (.int x :: st) := by rw [h]; exact kk
theorem v_tl {x y : Int64} (h : x = y) (kk : V p l e R s m args below meth c nL G A Q w k n pc L (.long y :: st)) : V p l e R s m args below meth c nL G A Q w k n pc L (.long x :: st) := by rw [h]; exact kk
theorem v_iconst (hc : cxt p s m args meth c cc nL own Ts G A) {n9 : Int} {v : Int32} (hdg : decode cc pc = .ok (.iconst n9, 1)) (hv : Int32.ofInt n9 = v)
    (kk : V p l e R s m args below meth c nL G A Q w k n (pc + 1) L (.int v :: st)) : V p l e R s m args below meth c nL G A Q w k n pc L st := fun H locs ls h1 h2 h3 => lv_iconst hc.1.1 hc.1.2.1 hdg hv (kk H locs ls h1 h2 h3)
theorem v_bipush (hc : cxt p s m args meth c cc nL own Ts G A) {n9 : Int} {v : Int32} (hdg : decode cc pc = .ok (.bipush n9, 2)) (hv : (Int8.ofInt n9).toInt32 = v)
    (kk : V p l e R s m args below meth c nL G A Q w k n (pc + 2) L (.int v :: st)) : V p l e R s m args below meth c nL G A Q w k n pc L st := fun H locs ls h1 h2 h3 => lv_bipush hc.1.1 hc.1.2.1 hdg hv (kk H locs ls h1 h2 h3)
theorem v_sipush (hc : cxt p s m args meth c cc nL own Ts G A) {n9 : Int} {v : Int32} (hdg : decode cc pc = .ok (.sipush n9, 3)) (hv : (Int16.ofInt n9).toInt32 = v)
    (kk : V p l e R s m args below meth c nL G A Q w k n (pc + 3) L (.int v :: st)) : V p l e R s m args below meth c nL G A Q w k n pc L st := fun H locs ls h1 h2 h3 => lv_sipush hc.1.1 hc.1.2.1 hdg hv (kk H locs ls h1 h2 h3)
theorem v_lconst (hc : cxt p s m args meth c cc nL own Ts G A) {n9 : Fin 2} {v : Int64} (hdg : decode cc pc = .ok (.lconst n9, 1)) (hv : Int64.ofNat (n9 : Nat) = v)
    (kk : V p l e R s m args below meth c nL G A Q w k n (pc + 1) L (.long v :: st)) : V p l e R s m args below meth c nL G A Q w k n pc L st := fun H locs ls h1 h2 h3 => lv_lconst hc.1.1 hc.1.2.1 hdg hv (kk H locs ls h1 h2 h3)
theorem v_null (hc : cxt p s m args meth c cc nL own Ts G A)  (hdg : decode cc pc = .ok (.aconst_null, 1)) 
    (kk : V p l e R s m args below meth c nL G A Q w k n (pc + 1) L (.null :: st)) : V p l e R s m args below meth c nL G A Q w k n pc L st := fun H locs ls h1 h2 h3 => lv_null hc.1.1 hc.1.2.1 hdg (kk H locs ls h1 h2 h3)
theorem v_iload_n (hc : cxt p s m args meth c cc nL own Ts G A) {j : Fin 4} {i : Nat} {x : Int32} (hi : (j : Nat) = i) (hdg : decode cc pc = .ok (.iload_n j, 1)) (hl : vl L i = some (.int x))
    (kk : V p l e R s m args below meth c nL G A Q w k n (pc + 1) L (.int x :: st)) : V p l e R s m args below meth c nL G A Q w k n pc L st := fun H locs ls h1 h2 h3 => lv_iload_n hc.1.1 hc.1.2.1 hdg hi (vs_at h3 hl) (kk H locs ls h1 h2 h3)
theorem v_iload (hc : cxt p s m args meth c cc nL own Ts G A) {i : Nat} {x : Int32} (hdg : decode cc pc = .ok (.iload i, 2)) (hl : vl L i = some (.int x))
    (kk : V p l e R s m args below meth c nL G A Q w k n (pc + 2) L (.int x :: st)) : V p l e R s m args below meth c nL G A Q w k n pc L st := fun H locs ls h1 h2 h3 => lv_iload hc.1.1 hc.1.2.1 hdg (vs_at h3 hl) (kk H locs ls h1 h2 h3)
theorem v_lload_n (hc : cxt p s m args meth c cc nL own Ts G A) {j : Fin 4} {i : Nat} {x : Int64} (hi : (j : Nat) = i) (hdg : decode cc pc = .ok (.lload_n j, 1)) (hl : vl L i = some (.long x))
    (kk : V p l e R s m args below meth c nL G A Q w k n (pc + 1) L (.long x :: st)) : V p l e R s m args below meth c nL G A Q w k n pc L st := fun H locs ls h1 h2 h3 => lv_lload_n hc.1.1 hc.1.2.1 hdg hi (vs_at h3 hl) (kk H locs ls h1 h2 h3)
theorem v_lload (hc : cxt p s m args meth c cc nL own Ts G A) {i : Nat} {x : Int64} (hdg : decode cc pc = .ok (.lload i, 2)) (hl : vl L i = some (.long x))
    (kk : V p l e R s m args below meth c nL G A Q w k n (pc + 2) L (.long x :: st)) : V p l e R s m args below meth c nL G A Q w k n pc L st := fun H locs ls h1 h2 h3 => lv_lload hc.1.1 hc.1.2.1 hdg (vs_at h3 hl) (kk H locs ls h1 h2 h3)
theorem v_aload_n (hc : cxt p s m args meth c cc nL own Ts G A) {j : Fin 4} {i : Nat} {x : Nat} (hi : (j : Nat) = i) (hdg : decode cc pc = .ok (.aload_n j, 1)) (hl : vl L i = some (.ref x))
    (kk : V p l e R s m args below meth c nL G A Q w k n (pc + 1) L (.ref x :: st)) : V p l e R s m args below meth c nL G A Q w k n pc L st := fun H locs ls h1 h2 h3 => lv_aload_n hc.1.1 hc.1.2.1 hdg hi (vs_at h3 hl) (kk H locs ls h1 h2 h3)
theorem v_aload (hc : cxt p s m args meth c cc nL own Ts G A) {i : Nat} {x : Nat} (hdg : decode cc pc = .ok (.aload i, 2)) (hl : vl L i = some (.ref x))
    (kk : V p l e R s m args below meth c nL G A Q w k n (pc + 2) L (.ref x :: st)) : V p l e R s m args below meth c nL G A Q w k n pc L st := fun H locs ls h1 h2 h3 => lv_aload hc.1.1 hc.1.2.1 hdg (vs_at h3 hl) (kk H locs ls h1 h2 h3)
theorem v_aload_nN (hc : cxt p s m args meth c cc nL own Ts G A) {j : Fin 4} {i : Nat} (hi : (j : Nat) = i) (hdg : decode cc pc = .ok (.aload_n j, 1)) (hl : vl L i = some .null)
    (kk : V p l e R s m args below meth c nL G A Q w k n (pc + 1) L (.null :: st)) : V p l e R s m args below meth c nL G A Q w k n pc L st := fun H locs ls h1 h2 h3 => lv_aload_nN hc.1.1 hc.1.2.1 hdg hi (vs_at h3 hl) (kk H locs ls h1 h2 h3)
theorem v_aloadN (hc : cxt p s m args meth c cc nL own Ts G A) {i : Nat} (hdg : decode cc pc = .ok (.aload i, 2)) (hl : vl L i = some .null)
    (kk : V p l e R s m args below meth c nL G A Q w k n (pc + 2) L (.null :: st)) : V p l e R s m args below meth c nL G A Q w k n pc L st := fun H locs ls h1 h2 h3 => lv_aloadN hc.1.1 hc.1.2.1 hdg (vs_at h3 hl) (kk H locs ls h1 h2 h3)
theorem v_istore_n (hc : cxt p s m args meth c cc nL own Ts G A) {j : Fin 4} {i : Nat} {x : Int32} (hi : (j : Nat) = i) (hdg : decode cc pc = .ok (.istore_n j, 1)) (hn : i < nL) (hk : vok L i = true)
    (kk : V p l e R s m args below meth c nL G A Q w k n (pc + 1) ((i, some (.int x)) :: L) st) : V p l e R s m args below meth c nL G A Q w k n pc L (.int x :: st) := fun H locs ls h1 h2 h3 => lv_istore_n hc.1.1 hc.1.2.1 hdg hi (vs_has h3) hn rfl (fun ls h4 => kk H locs ls h1 h2 (vs_st1 hk h4))
theorem v_istore (hc : cxt p s m args meth c cc nL own Ts G A) {i : Nat} {x : Int32} (hdg : decode cc pc = .ok (.istore i, 2)) (hn : i < nL) (hk : vok L i = true)
    (kk : V p l e R s m args below meth c nL G A Q w k n (pc + 2) ((i, some (.int x)) :: L) st) : V p l e R s m args below meth c nL G A Q w k n pc L (.int x :: st) := fun H locs ls h1 h2 h3 => lv_istore hc.1.1 hc.1.2.1 hdg (vs_has h3) hn rfl (fun ls h4 => kk H locs ls h1 h2 (vs_st1 hk h4))
theorem v_astore_n (hc : cxt p s m args meth c cc nL own Ts G A) {j : Fin 4} {i : Nat} {x : Nat} (hi : (j : Nat) = i) (hdg : decode cc pc = .ok (.astore_n j, 1)) (hn : i < nL) (hk : vok L i = true)
    (kk : V p l e R s m args below meth c nL G A Q w k n (pc + 1) ((i, some (.ref x)) :: L) st) : V p l e R s m args below meth c nL G A Q w k n pc L (.ref x :: st) := fun H locs ls h1 h2 h3 => lv_astore_n hc.1.1 hc.1.2.1 hdg hi (vs_has h3) hn rfl (fun ls h4 => kk H locs ls h1 h2 (vs_st1 hk h4))
theorem v_astore (hc : cxt p s m args meth c cc nL own Ts G A) {i : Nat} {x : Nat} (hdg : decode cc pc = .ok (.astore i, 2)) (hn : i < nL) (hk : vok L i = true)
    (kk : V p l e R s m args below meth c nL G A Q w k n (pc + 2) ((i, some (.ref x)) :: L) st) : V p l e R s m args below meth c nL G A Q w k n pc L (.ref x :: st) := fun H locs ls h1 h2 h3 => lv_astore hc.1.1 hc.1.2.1 hdg (vs_has h3) hn rfl (fun ls h4 => kk H locs ls h1 h2 (vs_st1 hk h4))
theorem v_astore_nN (hc : cxt p s m args meth c cc nL own Ts G A) {j : Fin 4} {i : Nat} (hi : (j : Nat) = i) (hdg : decode cc pc = .ok (.astore_n j, 1)) (hn : i < nL) (hk : vok L i = true)
    (kk : V p l e R s m args below meth c nL G A Q w k n (pc + 1) ((i, some (.null)) :: L) st) : V p l e R s m args below meth c nL G A Q w k n pc L (.null :: st) := fun H locs ls h1 h2 h3 => lv_astore_nN hc.1.1 hc.1.2.1 hdg hi (vs_has h3) hn rfl (fun ls h4 => kk H locs ls h1 h2 (vs_st1 hk h4))
theorem v_astoreN (hc : cxt p s m args meth c cc nL own Ts G A) {i : Nat} (hdg : decode cc pc = .ok (.astore i, 2)) (hn : i < nL) (hk : vok L i = true)
    (kk : V p l e R s m args below meth c nL G A Q w k n (pc + 2) ((i, some (.null)) :: L) st) : V p l e R s m args below meth c nL G A Q w k n pc L (.null :: st) := fun H locs ls h1 h2 h3 => lv_astoreN hc.1.1 hc.1.2.1 hdg (vs_has h3) hn rfl (fun ls h4 => kk H locs ls h1 h2 (vs_st1 hk h4))
theorem v_lstore_n (hc : cxt p s m args meth c cc nL own Ts G A) {j : Fin 4} {i : Nat} {x : Int64} (hi : (j : Nat) = i) (hdg : decode cc pc = .ok (.lstore_n j, 1)) (hn : i + 1 < nL) (hk : vok L i = true)
    (kk : V p l e R s m args below meth c nL G A Q w k n (pc + 1) ((i, some (.long x)) :: (i + 1, none) :: L) st) : V p l e R s m args below meth c nL G A Q w k n pc L (.long x :: st) := fun H locs ls h1 h2 h3 => lv_lstore_n hc.1.1 hc.1.2.1 hdg hi (vs_has h3) hn rfl (fun ls h4 => kk H locs ls h1 h2 (vs_st2 hk h4))
theorem v_lstore (hc : cxt p s m args meth c cc nL own Ts G A) {i : Nat} {x : Int64} (hdg : decode cc pc = .ok (.lstore i, 2)) (hn : i + 1 < nL) (hk : vok L i = true)
    (kk : V p l e R s m args below meth c nL G A Q w k n (pc + 2) ((i, some (.long x)) :: (i + 1, none) :: L) st) : V p l e R s m args below meth c nL G A Q w k n pc L (.long x :: st) := fun H locs ls h1 h2 h3 => lv_lstore hc.1.1 hc.1.2.1 hdg (vs_has h3) hn rfl (fun ls h4 => kk H locs ls h1 h2 (vs_st2 hk h4))
theorem v_iinc (hc : cxt p s m args meth c cc nL own Ts G A) {i : Nat} {n9 : Int} {x v : Int32} (hdg : decode cc pc = .ok (.iinc i n9, 3)) (hx : vl L i = some (.int x)) (hv : x + Int32.ofInt n9 = v) (hn : i < nL) (hk : vok L i = true)
    (kk : V p l e R s m args below meth c nL G A Q w k n (pc + 3) ((i, some (.int v)) :: L) st) : V p l e R s m args below meth c nL G A Q w k n pc L st := fun H locs ls h1 h2 h3 => by
  obtain ⟨j, hj⟩ := vs_ix hx
  exact lv_iinc hc.1.1 hc.1.2.1 hdg (vs_has h3) hj hv hn rfl (fun ls h4 => kk H locs ls h1 h2 (vs_st1 hk h4))
theorem v_iadd (hc : cxt p s m args meth c cc nL own Ts G A) {x y : Int32} (hdg : decode cc pc = .ok (.iadd, 1)) 
    (kk : V p l e R s m args below meth c nL G A Q w k n (pc + 1) L (.int (x + y) :: st)) : V p l e R s m args below meth c nL G A Q w k n pc L (.int y :: .int x :: st) := fun H locs ls h1 h2 h3 => lv_iadd hc.1.1 hc.1.2.1 hdg (kk H locs ls h1 h2 h3)
theorem v_isub (hc : cxt p s m args meth c cc nL own Ts G A) {x y : Int32} (hdg : decode cc pc = .ok (.isub, 1)) 
    (kk : V p l e R s m args below meth c nL G A Q w k n (pc + 1) L (.int (x - y) :: st)) : V p l e R s m args below meth c nL G A Q w k n pc L (.int y :: .int x :: st) := fun H locs ls h1 h2 h3 => lv_isub hc.1.1 hc.1.2.1 hdg (kk H locs ls h1 h2 h3)
theorem v_imul (hc : cxt p s m args meth c cc nL own Ts G A) {x y : Int32} (hdg : decode cc pc = .ok (.imul, 1)) 
    (kk : V p l e R s m args below meth c nL G A Q w k n (pc + 1) L (.int (x * y) :: st)) : V p l e R s m args below meth c nL G A Q w k n pc L (.int y :: .int x :: st) := fun H locs ls h1 h2 h3 => lv_imul hc.1.1 hc.1.2.1 hdg (kk H locs ls h1 h2 h3)
theorem v_iand (hc : cxt p s m args meth c cc nL own Ts G A) {x y : Int32} (hdg : decode cc pc = .ok (.iand, 1)) 
    (kk : V p l e R s m args below meth c nL G A Q w k n (pc + 1) L (.int (x &&& y) :: st)) : V p l e R s m args below meth c nL G A Q w k n pc L (.int y :: .int x :: st) := fun H locs ls h1 h2 h3 => lv_iand hc.1.1 hc.1.2.1 hdg (kk H locs ls h1 h2 h3)
theorem v_ior (hc : cxt p s m args meth c cc nL own Ts G A) {x y : Int32} (hdg : decode cc pc = .ok (.ior, 1)) 
    (kk : V p l e R s m args below meth c nL G A Q w k n (pc + 1) L (.int (x ||| y) :: st)) : V p l e R s m args below meth c nL G A Q w k n pc L (.int y :: .int x :: st) := fun H locs ls h1 h2 h3 => lv_ior hc.1.1 hc.1.2.1 hdg (kk H locs ls h1 h2 h3)
theorem v_ladd (hc : cxt p s m args meth c cc nL own Ts G A) {x y : Int64} (hdg : decode cc pc = .ok (.ladd, 1)) 
    (kk : V p l e R s m args below meth c nL G A Q w k n (pc + 1) L (.long (x + y) :: st)) : V p l e R s m args below meth c nL G A Q w k n pc L (.long y :: .long x :: st) := fun H locs ls h1 h2 h3 => lv_ladd hc.1.1 hc.1.2.1 hdg (kk H locs ls h1 h2 h3)
theorem v_lsub (hc : cxt p s m args meth c cc nL own Ts G A) {x y : Int64} (hdg : decode cc pc = .ok (.lsub, 1)) 
    (kk : V p l e R s m args below meth c nL G A Q w k n (pc + 1) L (.long (x - y) :: st)) : V p l e R s m args below meth c nL G A Q w k n pc L (.long y :: .long x :: st) := fun H locs ls h1 h2 h3 => lv_lsub hc.1.1 hc.1.2.1 hdg (kk H locs ls h1 h2 h3)
theorem v_land (hc : cxt p s m args meth c cc nL own Ts G A) {x y : Int64} (hdg : decode cc pc = .ok (.land, 1)) 
    (kk : V p l e R s m args below meth c nL G A Q w k n (pc + 1) L (.long (x &&& y) :: st)) : V p l e R s m args below meth c nL G A Q w k n pc L (.long y :: .long x :: st) := fun H locs ls h1 h2 h3 => lv_land hc.1.1 hc.1.2.1 hdg (kk H locs ls h1 h2 h3)
theorem v_lor (hc : cxt p s m args meth c cc nL own Ts G A) {x y : Int64} (hdg : decode cc pc = .ok (.lor, 1)) 
    (kk : V p l e R s m args below meth c nL G A Q w k n (pc + 1) L (.long (x ||| y) :: st)) : V p l e R s m args below meth c nL G A Q w k n pc L (.long y :: .long x :: st) := fun H locs ls h1 h2 h3 => lv_lor hc.1.1 hc.1.2.1 hdg (kk H locs ls h1 h2 h3)
theorem v_ishl (hc : cxt p s m args meth c cc nL own Ts G A) {x y : Int32} (hdg : decode cc pc = .ok (.ishl, 1)) 
    (kk : V p l e R s m args below meth c nL G A Q w k n (pc + 1) L (.int (x <<< (y &&& 31)) :: st)) : V p l e R s m args below meth c nL G A Q w k n pc L (.int y :: .int x :: st) := fun H locs ls h1 h2 h3 => lv_ishl hc.1.1 hc.1.2.1 hdg (kk H locs ls h1 h2 h3)
theorem v_ishr (hc : cxt p s m args meth c cc nL own Ts G A) {x y : Int32} (hdg : decode cc pc = .ok (.ishr, 1)) 
    (kk : V p l e R s m args below meth c nL G A Q w k n (pc + 1) L (.int (x >>> (y &&& 31)) :: st)) : V p l e R s m args below meth c nL G A Q w k n pc L (.int y :: .int x :: st) := fun H locs ls h1 h2 h3 => lv_ishr hc.1.1 hc.1.2.1 hdg (kk H locs ls h1 h2 h3)
theorem v_lshl (hc : cxt p s m args meth c cc nL own Ts G A) {x : Int64} {y : Int32} (hdg : decode cc pc = .ok (.lshl, 1)) 
    (kk : V p l e R s m args below meth c nL G A Q w k n (pc + 1) L (.long (x <<< (y.toInt64 &&& 63)) :: st)) : V p l e R s m args below meth c nL G A Q w k n pc L (.int y :: .long x :: st) := fun H locs ls h1 h2 h3 => lv_lshl hc.1.1 hc.1.2.1 hdg rfl (kk H locs ls h1 h2 h3)
theorem v_lshr (hc : cxt p s m args meth c cc nL own Ts G A) {x : Int64} {y : Int32} (hdg : decode cc pc = .ok (.lshr, 1)) 
    (kk : V p l e R s m args below meth c nL G A Q w k n (pc + 1) L (.long (x >>> (y.toInt64 &&& 63)) :: st)) : V p l e R s m args below meth c nL G A Q w k n pc L (.int y :: .long x :: st) := fun H locs ls h1 h2 h3 => lv_lshr hc.1.1 hc.1.2.1 hdg rfl (kk H locs ls h1 h2 h3)
theorem v_idiv (hc : cxt p s m args meth c cc nL own Ts G A) {x y : Int32} (hne : ¬ y = 0) (hdg : decode cc pc = .ok (.idiv, 1)) 
    (kk : V p l e R s m args below meth c nL G A Q w k n (pc + 1) L (.int (x / y) :: st)) : V p l e R s m args below meth c nL G A Q w k n pc L (.int y :: .int x :: st) := fun H locs ls h1 h2 h3 => lv_idiv hc.1.1 hc.1.2.1 hdg hne (kk H locs ls h1 h2 h3)
theorem v_irem (hc : cxt p s m args meth c cc nL own Ts G A) {x y : Int32} (hne : ¬ y = 0) (hdg : decode cc pc = .ok (.irem, 1)) 
    (kk : V p l e R s m args below meth c nL G A Q w k n (pc + 1) L (.int (x - x / y * y) :: st)) : V p l e R s m args below meth c nL G A Q w k n pc L (.int y :: .int x :: st) := fun H locs ls h1 h2 h3 => lv_irem hc.1.1 hc.1.2.1 hdg hne (kk H locs ls h1 h2 h3)
theorem v_ldiv (hc : cxt p s m args meth c cc nL own Ts G A) {x y : Int64} (hne : ¬ y = 0) (hdg : decode cc pc = .ok (.ldiv, 1)) 
    (kk : V p l e R s m args below meth c nL G A Q w k n (pc + 1) L (.long (x / y) :: st)) : V p l e R s m args below meth c nL G A Q w k n pc L (.long y :: .long x :: st) := fun H locs ls h1 h2 h3 => lv_ldiv hc.1.1 hc.1.2.1 hdg hne (kk H locs ls h1 h2 h3)
theorem v_lrem (hc : cxt p s m args meth c cc nL own Ts G A) {x y : Int64} (hne : ¬ y = 0) (hdg : decode cc pc = .ok (.lrem, 1)) 
    (kk : V p l e R s m args below meth c nL G A Q w k n (pc + 1) L (.long (x - x / y * y) :: st)) : V p l e R s m args below meth c nL G A Q w k n pc L (.long y :: .long x :: st) := fun H locs ls h1 h2 h3 => lv_lrem hc.1.1 hc.1.2.1 hdg hne (kk H locs ls h1 h2 h3)
theorem v_i2l (hc : cxt p s m args meth c cc nL own Ts G A) {x : Int32} (hdg : decode cc pc = .ok (.i2l, 1)) 
    (kk : V p l e R s m args below meth c nL G A Q w k n (pc + 1) L (.long x.toInt64 :: st)) : V p l e R s m args below meth c nL G A Q w k n pc L (.int x :: st) := fun H locs ls h1 h2 h3 => lv_i2l hc.1.1 hc.1.2.1 hdg rfl (kk H locs ls h1 h2 h3)
theorem v_l2i (hc : cxt p s m args meth c cc nL own Ts G A) {x : Int64} (hdg : decode cc pc = .ok (.l2i, 1)) 
    (kk : V p l e R s m args below meth c nL G A Q w k n (pc + 1) L (.int x.toInt32 :: st)) : V p l e R s m args below meth c nL G A Q w k n pc L (.long x :: st) := fun H locs ls h1 h2 h3 => lv_l2i hc.1.1 hc.1.2.1 hdg rfl (kk H locs ls h1 h2 h3)
theorem v_lcmp (hc : cxt p s m args meth c cc nL own Ts G A) {x y : Int64} (hdg : decode cc pc = .ok (.lcmp, 1)) 
    (kk : V p l e R s m args below meth c nL G A Q w k n (pc + 1) L (.int (lg_cmp x y) :: st)) : V p l e R s m args below meth c nL G A Q w k n pc L (.long y :: .long x :: st) := fun H locs ls h1 h2 h3 => W.lcmp hc.1.1 hc.1.2.1 hdg (kk H locs ls h1 h2 h3)
theorem v_dup (hc : cxt p s m args meth c cc nL own Ts G A) {va : Value} (hdg : decode cc pc = .ok (.dup, 1)) (hv : va.category = 1)
    (kk : V p l e R s m args below meth c nL G A Q w k n (pc + 1) L (va :: va :: st)) : V p l e R s m args below meth c nL G A Q w k n pc L (va :: st) := fun H locs ls h1 h2 h3 => lv_dup hc.1.1 hc.1.2.1 hdg hv (kk H locs ls h1 h2 h3)
theorem v_pop (hc : cxt p s m args meth c cc nL own Ts G A) {va : Value} (hdg : decode cc pc = .ok (.pop, 1)) (hv : va.category = 1)
    (kk : V p l e R s m args below meth c nL G A Q w k n (pc + 1) L st) : V p l e R s m args below meth c nL G A Q w k n pc L (va :: st) := fun H locs ls h1 h2 h3 => lv_pop hc.1.1 hc.1.2.1 hdg hv (kk H locs ls h1 h2 h3)
theorem v_dup_x1 (hc : cxt p s m args meth c cc nL own Ts G A) {va vb : Value} (hdg : decode cc pc = .ok (.dup_x1, 1)) (ha : va.category = 1) (hb : vb.category = 1)
    (kk : V p l e R s m args below meth c nL G A Q w k n (pc + 1) L (va :: vb :: va :: st)) : V p l e R s m args below meth c nL G A Q w k n pc L (va :: vb :: st) := fun H locs ls h1 h2 h3 => lv_dup_x1 hc.1.1 hc.1.2.1 hdg ha hb (kk H locs ls h1 h2 h3)
theorem v_icmp_eq (hc : cxt p s m args meth c cc nL own Ts G A) {x y : Int32} {off : Int} {tgt : Nat} (hdg : decode cc pc = .ok (.if_icmp .eq off, 3)) (ht : (pc : Int) + off = (tgt : Int))
    (kt : x = y → V p l e R s m args below meth c nL G A Q w k n tgt L st) (kf : ¬ (x = y) → V p l e R s m args below meth c nL G A Q w k n (pc + 3) L st) : V p l e R s m args below meth c nL G A Q w k n pc L (.int y :: .int x :: st) := fun H locs ls h1 h2 h3 => lv_icmp_eq hc.1.1 hc.1.2.1 hdg ht (fun z => kt z H locs ls h1 h2 h3) (fun z => kf z H locs ls h1 h2 h3)
theorem v_if_eq (hc : cxt p s m args meth c cc nL own Ts G A) {x : Int32} {off : Int} {tgt : Nat} (hdg : decode cc pc = .ok (.ifCond .eq off, 3)) (ht : (pc : Int) + off = (tgt : Int))
    (kt : x = 0 → V p l e R s m args below meth c nL G A Q w k n tgt L st) (kf : ¬ (x = 0) → V p l e R s m args below meth c nL G A Q w k n (pc + 3) L st) : V p l e R s m args below meth c nL G A Q w k n pc L (.int x :: st) := fun H locs ls h1 h2 h3 => lv_if_eq hc.1.1 hc.1.2.1 hdg ht (fun z => kt z H locs ls h1 h2 h3) (fun z => kf z H locs ls h1 h2 h3)
theorem v_icmp_ne (hc : cxt p s m args meth c cc nL own Ts G A) {x y : Int32} {off : Int} {tgt : Nat} (hdg : decode cc pc = .ok (.if_icmp .ne off, 3)) (ht : (pc : Int) + off = (tgt : Int))
    (kt : ¬ x = y → V p l e R s m args below meth c nL G A Q w k n tgt L st) (kf : x = y → V p l e R s m args below meth c nL G A Q w k n (pc + 3) L st) : V p l e R s m args below meth c nL G A Q w k n pc L (.int y :: .int x :: st) := fun H locs ls h1 h2 h3 => lv_icmp_ne hc.1.1 hc.1.2.1 hdg ht (fun z => kt z H locs ls h1 h2 h3) (fun z => kf z H locs ls h1 h2 h3)
theorem v_if_ne (hc : cxt p s m args meth c cc nL own Ts G A) {x : Int32} {off : Int} {tgt : Nat} (hdg : decode cc pc = .ok (.ifCond .ne off, 3)) (ht : (pc : Int) + off = (tgt : Int))
    (kt : ¬ x = 0 → V p l e R s m args below meth c nL G A Q w k n tgt L st) (kf : x = 0 → V p l e R s m args below meth c nL G A Q w k n (pc + 3) L st) : V p l e R s m args below meth c nL G A Q w k n pc L (.int x :: st) := fun H locs ls h1 h2 h3 => lv_if_ne hc.1.1 hc.1.2.1 hdg ht (fun z => kt z H locs ls h1 h2 h3) (fun z => kf z H locs ls h1 h2 h3)
theorem v_icmp_lt (hc : cxt p s m args meth c cc nL own Ts G A) {x y : Int32} {off : Int} {tgt : Nat} (hdg : decode cc pc = .ok (.if_icmp .lt off, 3)) (ht : (pc : Int) + off = (tgt : Int))
    (kt : x < y → V p l e R s m args below meth c nL G A Q w k n tgt L st) (kf : ¬ (x < y) → V p l e R s m args below meth c nL G A Q w k n (pc + 3) L st) : V p l e R s m args below meth c nL G A Q w k n pc L (.int y :: .int x :: st) := fun H locs ls h1 h2 h3 => lv_icmp_lt hc.1.1 hc.1.2.1 hdg ht (fun z => kt z H locs ls h1 h2 h3) (fun z => kf z H locs ls h1 h2 h3)
theorem v_if_lt (hc : cxt p s m args meth c cc nL own Ts G A) {x : Int32} {off : Int} {tgt : Nat} (hdg : decode cc pc = .ok (.ifCond .lt off, 3)) (ht : (pc : Int) + off = (tgt : Int))
    (kt : x < 0 → V p l e R s m args below meth c nL G A Q w k n tgt L st) (kf : ¬ (x < 0) → V p l e R s m args below meth c nL G A Q w k n (pc + 3) L st) : V p l e R s m args below meth c nL G A Q w k n pc L (.int x :: st) := fun H locs ls h1 h2 h3 => lv_if_lt hc.1.1 hc.1.2.1 hdg ht (fun z => kt z H locs ls h1 h2 h3) (fun z => kf z H locs ls h1 h2 h3)
theorem v_icmp_ge (hc : cxt p s m args meth c cc nL own Ts G A) {x y : Int32} {off : Int} {tgt : Nat} (hdg : decode cc pc = .ok (.if_icmp .ge off, 3)) (ht : (pc : Int) + off = (tgt : Int))
    (kt : y ≤ x → V p l e R s m args below meth c nL G A Q w k n tgt L st) (kf : ¬ (y ≤ x) → V p l e R s m args below meth c nL G A Q w k n (pc + 3) L st) : V p l e R s m args below meth c nL G A Q w k n pc L (.int y :: .int x :: st) := fun H locs ls h1 h2 h3 => lv_icmp_ge hc.1.1 hc.1.2.1 hdg ht (fun z => kt z H locs ls h1 h2 h3) (fun z => kf z H locs ls h1 h2 h3)
theorem v_if_ge (hc : cxt p s m args meth c cc nL own Ts G A) {x : Int32} {off : Int} {tgt : Nat} (hdg : decode cc pc = .ok (.ifCond .ge off, 3)) (ht : (pc : Int) + off = (tgt : Int))
    (kt : 0 ≤ x → V p l e R s m args below meth c nL G A Q w k n tgt L st) (kf : ¬ (0 ≤ x) → V p l e R s m args below meth c nL G A Q w k n (pc + 3) L st) : V p l e R s m args below meth c nL G A Q w k n pc L (.int x :: st) := fun H locs ls h1 h2 h3 => lv_if_ge hc.1.1 hc.1.2.1 hdg ht (fun z => kt z H locs ls h1 h2 h3) (fun z => kf z H locs ls h1 h2 h3)
theorem v_icmp_gt (hc : cxt p s m args meth c cc nL own Ts G A) {x y : Int32} {off : Int} {tgt : Nat} (hdg : decode cc pc = .ok (.if_icmp .gt off, 3)) (ht : (pc : Int) + off = (tgt : Int))
    (kt : y < x → V p l e R s m args below meth c nL G A Q w k n tgt L st) (kf : ¬ (y < x) → V p l e R s m args below meth c nL G A Q w k n (pc + 3) L st) : V p l e R s m args below meth c nL G A Q w k n pc L (.int y :: .int x :: st) := fun H locs ls h1 h2 h3 => lv_icmp_gt hc.1.1 hc.1.2.1 hdg ht (fun z => kt z H locs ls h1 h2 h3) (fun z => kf z H locs ls h1 h2 h3)
theorem v_if_gt (hc : cxt p s m args meth c cc nL own Ts G A) {x : Int32} {off : Int} {tgt : Nat} (hdg : decode cc pc = .ok (.ifCond .gt off, 3)) (ht : (pc : Int) + off = (tgt : Int))
    (kt : 0 < x → V p l e R s m args below meth c nL G A Q w k n tgt L st) (kf : ¬ (0 < x) → V p l e R s m args below meth c nL G A Q w k n (pc + 3) L st) : V p l e R s m args below meth c nL G A Q w k n pc L (.int x :: st) := fun H locs ls h1 h2 h3 => lv_if_gt hc.1.1 hc.1.2.1 hdg ht (fun z => kt z H locs ls h1 h2 h3) (fun z => kf z H locs ls h1 h2 h3)
theorem v_icmp_le (hc : cxt p s m args meth c cc nL own Ts G A) {x y : Int32} {off : Int} {tgt : Nat} (hdg : decode cc pc = .ok (.if_icmp .le off, 3)) (ht : (pc : Int) + off = (tgt : Int))
    (kt : x ≤ y → V p l e R s m args below meth c nL G A Q w k n tgt L st) (kf : ¬ (x ≤ y) → V p l e R s m args below meth c nL G A Q w k n (pc + 3) L st) : V p l e R s m args below meth c nL G A Q w k n pc L (.int y :: .int x :: st) := fun H locs ls h1 h2 h3 => lv_icmp_le hc.1.1 hc.1.2.1 hdg ht (fun z => kt z H locs ls h1 h2 h3) (fun z => kf z H locs ls h1 h2 h3)
theorem v_if_le (hc : cxt p s m args meth c cc nL own Ts G A) {x : Int32} {off : Int} {tgt : Nat} (hdg : decode cc pc = .ok (.ifCond .le off, 3)) (ht : (pc : Int) + off = (tgt : Int))
    (kt : x ≤ 0 → V p l e R s m args below meth c nL G A Q w k n tgt L st) (kf : ¬ (x ≤ 0) → V p l e R s m args below meth c nL G A Q w k n (pc + 3) L st) : V p l e R s m args below meth c nL G A Q w k n pc L (.int x :: st) := fun H locs ls h1 h2 h3 => lv_if_le hc.1.1 hc.1.2.1 hdg ht (fun z => kt z H locs ls h1 h2 h3) (fun z => kf z H locs ls h1 h2 h3)
theorem v_goto (hc : cxt p s m args meth c cc nL own Ts G A) {off : Int} {tgt : Nat} (hdg : decode cc pc = .ok (.goto off, 3)) (ht : (pc : Int) + off = (tgt : Int)) (kk : V p l e R s m args below meth c nL G A Q w k n tgt L st) : V p l e R s m args below meth c nL G A Q w k n pc L st := fun H locs ls h1 h2 h3 => lv_goto hc.1.1 hc.1.2.1 hdg ht (kk H locs ls h1 h2 h3)
theorem v_ifnull_R (hc : cxt p s m args meth c cc nL own Ts G A) {x : Nat} {off : Int} (hdg : decode cc pc = .ok (.ifnull off, 3)) (kk : V p l e R s m args below meth c nL G A Q w k n (pc + 3) L st) : V p l e R s m args below meth c nL G A Q w k n pc L (.ref x :: st) := fun H locs ls h1 h2 h3 => lv_ifnull hc.1.1 hc.1.2.1 hdg (kk H locs ls h1 h2 h3)
theorem v_ifnull_N (hc : cxt p s m args meth c cc nL own Ts G A)  {off : Int} {tgt : Nat} (hdg : decode cc pc = .ok (.ifnull off, 3)) (ht : (pc : Int) + off = (tgt : Int)) (kk : V p l e R s m args below meth c nL G A Q w k n tgt L st) : V p l e R s m args below meth c nL G A Q w k n pc L (.null :: st) := fun H locs ls h1 h2 h3 => lv_ifnullN hc.1.1 hc.1.2.1 hdg ht (kk H locs ls h1 h2 h3)
theorem v_ifnonnull_R (hc : cxt p s m args meth c cc nL own Ts G A) {x : Nat} {off : Int} {tgt : Nat} (hdg : decode cc pc = .ok (.ifnonnull off, 3)) (ht : (pc : Int) + off = (tgt : Int)) (kk : V p l e R s m args below meth c nL G A Q w k n tgt L st) : V p l e R s m args below meth c nL G A Q w k n pc L (.ref x :: st) := fun H locs ls h1 h2 h3 => lv_ifnonnull hc.1.1 hc.1.2.1 hdg ht (kk H locs ls h1 h2 h3)
theorem v_ifnonnull_N (hc : cxt p s m args meth c cc nL own Ts G A)  {off : Int} (hdg : decode cc pc = .ok (.ifnonnull off, 3)) (kk : V p l e R s m args below meth c nL G A Q w k n (pc + 3) L st) : V p l e R s m args below meth c nL G A Q w k n pc L (.null :: st) := fun H locs ls h1 h2 h3 => lv_ifnonnullN hc.1.1 hc.1.2.1 hdg (kk H locs ls h1 h2 h3)
theorem v_acmp_eq (hc : cxt p s m args meth c cc nL own Ts G A) {rx ry : Option Nat} {off : Int} {tgt : Nat} (hdg : decode cc pc = .ok (.if_acmp .eq off, 3)) (ht : (pc : Int) + off = (tgt : Int))
    (kt : rx = ry → V p l e R s m args below meth c nL G A Q w k n tgt L st) (kf : ¬ rx = ry → V p l e R s m args below meth c nL G A Q w k n (pc + 3) L st) : V p l e R s m args below meth c nL G A Q w k n pc L (va_rf ry :: va_rf rx :: st) := fun H locs ls h1 h2 h3 => lv_acmp_eq hc.1.1 hc.1.2.1 hdg ht (fun z => kt z H locs ls h1 h2 h3) (fun z => kf z H locs ls h1 h2 h3)
theorem v_acmp_ne (hc : cxt p s m args meth c cc nL own Ts G A) {rx ry : Option Nat} {off : Int} {tgt : Nat} (hdg : decode cc pc = .ok (.if_acmp .ne off, 3)) (ht : (pc : Int) + off = (tgt : Int))
    (kt : ¬ rx = ry → V p l e R s m args below meth c nL G A Q w k n tgt L st) (kf : rx = ry → V p l e R s m args below meth c nL G A Q w k n (pc + 3) L st) : V p l e R s m args below meth c nL G A Q w k n pc L (va_rf ry :: va_rf rx :: st) := fun H locs ls h1 h2 h3 => lv_acmp_ne hc.1.1 hc.1.2.1 hdg ht (fun z => kt z H locs ls h1 h2 h3) (fun z => kf z H locs ls h1 h2 h3)
/-! heap rows -/
theorem v_get (hc : cxt p s m args meth c cc nL own Ts G A) {C ref : String} {T : u_T} {N ci index a : Nat} {fs : List Value} {v : Value} (i : Nat) (hcl : vwCl[ci]? = some (C, T, N)) (hin : ∀ x ∈ u_ws C T N, x ∈ Ts) (hi : i < N) (hlink : Cond.fieldLink own index ref (T i).2.1 (T i).2.2.1 ∈ Ts) (hsame : ∀ x, s.fieldFound? (T i).1 (T i).2.1 (T i).2.2.1 = some x → s.fieldFound? ref (T i).2.1 (T i).2.2.1 = some x) (hdg : decode cc pc = .ok (.getfield index, 3)) (he : w a = some (.inr (ci, fs))) (hv : fs[i]? = some v)
    (kk : V p l e R s m args below meth c nL G A Q w k n (pc + 3) L (v :: st)) : V p l e R s m args below meth c nL G A Q w k n pc L (.ref a :: st) := fun H locs ls h1 h2 h3 =>
  va_get (D := G.1) (cl := vwCl) (tys := gT G) hc.1.1 hc.1.2.1 hc.1.2.2.2.2 hin hc.1.2.2.2.1 hc.2.1.1 (h1.one he) 0 rfl hcl i hi (hc.1.2.2.2.2 _ hlink) hsame hv hdg (kk H locs ls h1 h2 h3)
theorem v_put (hc : cxt p s m args meth c cc nL own Ts G A) {C ref : String} {T : u_T} {N ci index a : Nat} {fs : List Value} {v : Value} (i : Nat) (hcl : vwCl[ci]? = some (C, T, N)) (ty0 : Nat → FieldType) (hty : ∀ k, k < N → parseFieldDescriptor (T k).2.2.1 = some (ty0 k)) (hnm : ∀ a, a < N → ∀ b, b < N → a ≠ b → (T a).2.1 ≠ (T b).2.1) (hin : ∀ x ∈ u_ws C T N, x ∈ Ts) (hi : i < N) (hlink : Cond.fieldLink own index ref (T i).2.1 (T i).2.2.1 ∈ Ts) (hsame : ∀ x, s.fieldFound? (T i).1 (T i).2.1 (T i).2.2.1 = some x → s.fieldFound? ref (T i).2.1 (T i).2.2.1 = some x) (hfin : (T i).2.2.2 = false) {ty : FieldType} (hd : parseFieldDescriptor (T i).2.2.1 = some ty) (hn : narrow ty v = v) (hfit : fits ty v = true) (hl : i < fs.length) (hdg : decode cc pc = .ok (.putfield index, 3)) (he : w a = some (.inr (ci, fs)))
    (kk : V p l e R s m args below meth c nL G A Q (wup w a (.inr (ci, fs.set i v))) k n (pc + 3) L st) : V p l e R s m args below meth c nL G A Q w k n pc L (v :: .ref a :: st) := by
  intro H locs ls h1 h2 h3
  have hts := hc.1.2.2.2.2
  have hap := va_apart (own := own) (D := G.1) (cl := vwCl) hts hin ty0 hty hnm hc.2.1.1 hcl
  obtain ⟨r, g1, cell, q1, q2, q3, q4⟩ := (h1 a _ he).1
  have hr : r = (C, T, N) := Option.some.inj (g1.symm.trans hcl)
  subst hr
  obtain ⟨hS, hfc, kC, hkC, hkind⟩ := hc.2.1.1.1 ci _ hcl
  obtain ⟨cf, kf, fi, f, hfd, hsl⟩ := hS i hi
  have hlay := hts _ (hin _ (u_in_lay hi))
  unfold u_lay at hlay
  rw [if_neg (by rw [hfin]; decide)] at hlay
  have hst := (u_facts hfc hkC (u_lays hts hin hi) hfd).1
  have h6 := u_store hfc hkC hkind hlay hfd hd hn hfit
  refine W.putK hc.1.1 hc.1.2.1 (f := f) ⟨hc.1.2.2.2.1, hts _ hlink, ⟨_, _, _, hsame _ hfd⟩, hst⟩ (by rw [q2]; exact h6) q1 q3 (by rw [hsl]; exact k2_hasslot (q4 i hi)) rfl rfl hdg fun H' e1 e2 e3 => ?_
  rw [hsl] at e1 ⊢
  exact kk H' _ ls (h1.set he ⟨_, hcl, t_OB.to (V := updV (vp_V fs) i v) ⟨_, e1, q2, q3, t_set q4 hap hi v⟩ (fun j _ => vp_updV_set hl v j)⟩ e3) (h2.put e2 e3 (h1 a _ he).2) h3
theorem v_putF (hc : cxt p s m args meth c cc nL own Ts G A) (hin2 : meth.name = "<init>") {C ref : String} {T : u_T} {N ci index a : Nat} {fs : List Value} {v : Value} (i : Nat) (hcl : vwCl[ci]? = some (C, T, N)) (ty0 : Nat → FieldType) (hty : ∀ k, k < N → parseFieldDescriptor (T k).2.2.1 = some (ty0 k)) (hnm : ∀ a, a < N → ∀ b, b < N → a ≠ b → (T a).2.1 ≠ (T b).2.1) (hin : ∀ x ∈ u_ws C T N, x ∈ Ts) (hi : i < N) (hlink : Cond.fieldLink own index ref (T i).2.1 (T i).2.2.1 ∈ Ts) (hsame : ∀ x, s.fieldFound? (T i).1 (T i).2.1 (T i).2.2.1 = some x → s.fieldFound? ref (T i).2.1 (T i).2.2.1 = some x) (hfin : (T i).2.2.2 = true) (hdecl : (T i).1 = own) {ty : FieldType} (hd : parseFieldDescriptor (T i).2.2.1 = some ty) (hn : narrow ty v = v) (hfit : fits ty v = true) (hl : i < fs.length) (hdg : decode cc pc = .ok (.putfield index, 3)) (he : w a = some (.inr (ci, fs)))
    (kk : V p l e R s m args below meth c nL G A Q (wup w a (.inr (ci, fs.set i v))) k n (pc + 3) L st) : V p l e R s m args below meth c nL G A Q w k n pc L (v :: .ref a :: st) := by
  intro H locs ls h1 h2 h3
  have hts := hc.1.2.2.2.2
  have hown := hc.1.2.2.2.1
  have hap := va_apart (own := own) (D := G.1) (cl := vwCl) hts hin ty0 hty hnm hc.2.1.1 hcl
  obtain ⟨r, g1, cell, q1, q2, q3, q4⟩ := (h1 a _ he).1
  have hr : r = (C, T, N) := Option.some.inj (g1.symm.trans hcl)
  subst hr
  obtain ⟨hS, hfc, kC, hkC, hkind⟩ := hc.2.1.1.1 ci _ hcl
  obtain ⟨cf, kf, fi, f, hfd, hsl⟩ := hS i hi
  have hlay := hts _ (hin _ (u_in_lay hi))
  unfold u_lay at hlay
  rw [if_pos hfin] at hlay
  have hst := (u_facts hfc hkC (u_lays hts hin hi) hfd).1
  have hcf : m.cls = cf := by
    obtain ⟨_, _, c', _, _, _, -, -, hf', -, -, -, hown2, -⟩ := Cond.laysFinal_spec hlay
    have e1 : c' = cf := by have := hfd.symm.trans hf'; simp at this; exact this.1.symm
    rw [hdecl] at hown2
    rw [← e1]; exact Option.some.inj (hown.symm.trans hown2)
  have h6 := u_fits hfc hkC hkind (Or.inr hlay) hfd hd hn hfit
  refine W.putFinK hc.1.1 hc.1.2.1 hown (hts _ hlink) (hsame _ hfd) hst hcf hin2 (by rw [q2]; exact h6) q1 q3 (by rw [hsl]; exact k2_hasslot (q4 i hi)) rfl rfl hdg fun H' e1 e2 e3 => ?_
  rw [hsl] at e1 ⊢
  exact kk H' _ ls (h1.set he ⟨_, hcl, t_OB.to (V := updV (vp_V fs) i v) ⟨_, e1, q2, q3, t_set q4 hap hi v⟩ (fun j _ => vp_updV_set hl v j)⟩ e3) (h2.put e2 e3 (h1 a _ he).2) h3
theorem v_iald (hc : cxt p s m args meth c cc nL own Ts G A) {a N : Nat} {f : Nat → Int32} {x : Int32} (i : Nat) (hdg : decode cc pc = .ok (.iaload, 1)) (he : w a = some (aI G N f)) (hx : x = nI i) (hi : i < N) (hN : N < 2 ^ 31)
    (kk : V p l e R s m args below meth c nL G A Q w k n (pc + 1) L (.int (f i) :: st)) : V p l e R s m args below meth c nL G A Q w k n pc L (.int x :: .ref a :: st) := fun H locs ls h1 h2 h3 => by
  subst hx
  refine va_iald (D := G.1) (cl := vwCl) (tys := gT G) hc.1.1 hc.1.2.1 hc.2.1.1 (h1.one he) 0 0 rfl rfl (vp_in_nI hi hN) hdg ?_
  rw [nI_clamp (by omega)]
  exact kk H locs ls h1 h2 h3
theorem v_lald (hc : cxt p s m args meth c cc nL own Ts G A) {a N : Nat} {f : Nat → Int64} {x : Int32} (i : Nat) (hdg : decode cc pc = .ok (.laload, 1)) (he : w a = some (aL G N f)) (hx : x = nI i) (hi : i < N) (hN : N < 2 ^ 31)
    (kk : V p l e R s m args below meth c nL G A Q w k n (pc + 1) L (.long (f i) :: st)) : V p l e R s m args below meth c nL G A Q w k n pc L (.int x :: .ref a :: st) := fun H locs ls h1 h2 h3 => by
  subst hx
  refine va_lald (D := G.1) (cl := vwCl) (tys := gT G) hc.1.1 hc.1.2.1 hc.2.1.1 (h1.one he) 0 1 rfl rfl (vp_in_nI hi hN) hdg ?_
  rw [nI_clamp (by omega)]
  exact kk H locs ls h1 h2 h3
theorem v_aald (hc : cxt p s m args meth c cc nL own Ts G A) {a N : Nat} {f : Nat → Option Nat} {x : Int32} (i : Nat) (hdg : decode cc pc = .ok (.aaload, 1)) (he : w a = some (aO G N f)) (hx : x = nI i) (hi : i < N) (hN : N < 2 ^ 31)
    (kk : V p l e R s m args below meth c nL G A Q w k n (pc + 1) L (va_rf (f i) :: st)) : V p l e R s m args below meth c nL G A Q w k n pc L (.int x :: .ref a :: st) := fun H locs ls h1 h2 h3 => by
  subst hx
  refine va_aldq (D := G.1) (cl := vwCl) (tys := gT G) hc.1.1 hc.1.2.1 hc.2.1.1 (h1.one he) 0 3 rfl rfl (vp_in_nI hi hN) hdg ?_
  rw [nI_clamp (by omega)]
  exact kk H locs ls h1 h2 h3
theorem v_iast (hc : cxt p s m args meth c cc nL own Ts G A) {a N : Nat} {f : Nat → Int32} {x v : Int32} (i : Nat) (hdg : decode cc pc = .ok (.iastore, 1)) (he : w a = some (aI G N f)) (hx : x = nI i) (hi : i < N) (hN : N < 2 ^ 31)
    (kk : V p l e R s m args below meth c nL G A Q (wup w a (aI G N (va_up f i v))) k n (pc + 1) L st) : V p l e R s m args below meth c nL G A Q w k n pc L (.int v :: .int x :: .ref a :: st) := by
  intro H locs ls h1 h2 h3
  subst hx
  refine W.iast hc.1.1 hc.1.2.1 (h1 a _ he).1 ((hc.2.1.1.2 0 _ rfl).1 N (fun j => .int (f j))) (fun q => by cases q) (by show ¬ (nI i < 0 ∨ (arrV _ _ _).slots.size ≤ _); rw [arrV_size]; exact vp_in_nI hi hN) rfl rfl hdg fun H1 e9 z oq => ?_
  refine kk H1 _ ls (h1.set he ?_ oq) (h2.put z oq (h1 a _ he).2) h3
  show H1[a]? = some (vp_cell _ _)
  rw [e9, vp_cell_i, vp_cell_i, arrV_store, nI_clamp (by omega)]
  congr 2
  funext q
  by_cases hq : q = i
  · subst hq
    simp [updV, va_up]
  · simp [updV, va_up, hq]
theorem v_last (hc : cxt p s m args meth c cc nL own Ts G A) {a N : Nat} {f : Nat → Int64} {x : Int32} {v : Int64} (i : Nat) (hdg : decode cc pc = .ok (.lastore, 1)) (he : w a = some (aL G N f)) (hx : x = nI i) (hi : i < N) (hN : N < 2 ^ 31)
    (kk : V p l e R s m args below meth c nL G A Q (wup w a (aL G N (va_up f i v))) k n (pc + 1) L st) : V p l e R s m args below meth c nL G A Q w k n pc L (.long v :: .int x :: .ref a :: st) := by
  intro H locs ls h1 h2 h3
  subst hx
  refine W.last hc.1.1 hc.1.2.1 (h1 a _ he).1 ((hc.2.1.1.2 1 _ rfl).1 N (fun j => .long (f j))) (fun q => by cases q) (by show ¬ (nI i < 0 ∨ (arrV _ _ _).slots.size ≤ _); rw [arrV_size]; exact vp_in_nI hi hN) rfl rfl hdg fun H1 e9 z oq => ?_
  refine kk H1 _ ls (h1.set he ?_ oq) (h2.put z oq (h1 a _ he).2) h3
  show H1[a]? = some (vp_cell _ _)
  rw [e9, vp_cell_l, vp_cell_l, arrV_store, nI_clamp (by omega)]
  congr 2
  funext q
  by_cases hq : q = i
  · subst hq
    simp [updV, va_up]
  · simp [updV, va_up, hq]
/-- a reference to an object of class ci, into a row of objects -/
theorem v_aast (hc : cxt p s m args meth c cc nL own Ts G A) {a N v ci : Nat} {f : Nat → Option Nat} {x : Int32} {C : String} {T : u_T} {N' : Nat} {vs : List Value} (i : Nat) (hdg : decode cc pc = .ok (.aastore, 1)) (he : w a = some (aO G N f)) (hx : x = nI i) (hi : i < N) (hN : N < 2 ^ 31) (hv : w v = some (.inr (ci, vs))) (hcl : vwCl[ci]? = some (C, T, N')) (hca : va_Nw (.castable C "java/lang/Object") s)
    (kk : V p l e R s m args below meth c nL G A Q (wup w a (aO G N (va_up f i (some v)))) k n (pc + 1) L st) : V p l e R s m args below meth c nL G A Q w k n pc L (.ref v :: .int x :: .ref a :: st) := by
  intro H locs ls h1 h2 h3
  subst hx
  obtain ⟨r', hr', cellV, g1, g2, g3, -⟩ := (h1 v _ hv).1
  have hcls := (hc.2.1.1.1 ci _ hcl).2
  have hr : r' = (C, T, N') := Option.some.inj (hr'.symm.trans hcl)
  subst hr
  obtain ⟨kA, comp, k1, k2, k3, -⟩ := (hc.2.1.1.2 3 _ rfl).2
  obtain ⟨kE, hkE, -⟩ := Vm.findClass_spec k3
  obtain ⟨c0, t1, f1, f2, f3⟩ := Cond.castable_spec (va_Nw.use (A := args) rfl hca)
  cases hcls.1.symm.trans f1
  cases k3.symm.trans f2
  obtain ⟨kC, hkC, -⟩ := hcls.2
  refine W.aast hc.1.1 hc.1.2.1 (h1 a _ he).1 (fun q h => by cases h) (fun h => by cases h) k1 k2 rfl hkE ⟨nI_pos (by omega), by show _ < (arrV _ _ _).slots.size; rw [arrV_size, nI_clamp (by omega)]; exact hi⟩ g1 (fun q h => by rw [g3] at h; cases h) (by rw [g2]; exact hkC) (by rw [g2]; exact f3) rfl rfl hdg fun H1 e9 z oq => ?_
  refine kk H1 _ ls (h1.set he ?_ oq) (h2.put z oq (h1 a _ he).2) h3
  show H1[a]? = some (vp_cell _ _)
  rw [e9, vp_cell_q, vp_cell_q, arrV_store, nI_clamp (by omega)]
  congr 2
  funext q
  by_cases hq : q = i
  · subst hq
    simp [updV, va_up, va_rf]
  · simp [updV, va_up, hq]
theorem v_aastN (hc : cxt p s m args meth c cc nL own Ts G A) {a N : Nat} {f : Nat → Option Nat} {x : Int32} (i : Nat) (hdg : decode cc pc = .ok (.aastore, 1)) (he : w a = some (aO G N f)) (hx : x = nI i) (hi : i < N) (hN : N < 2 ^ 31)
    (kk : V p l e R s m args below meth c nL G A Q (wup w a (aO G N (va_up f i none))) k n (pc + 1) L st) : V p l e R s m args below meth c nL G A Q w k n pc L (.null :: .int x :: .ref a :: st) := by
  intro H locs ls h1 h2 h3
  subst hx
  refine va_WaastN (C := "java/lang/Object") hc.1.1 hc.1.2.1 (h1 a _ he).1 ((hc.2.1.1.2 3 _ rfl).1 N (fun j => va_rf (f j))) (fun h => by cases h) (by show ¬ (nI i < 0 ∨ (arrV _ _ _).slots.size ≤ _); rw [arrV_size]; exact vp_in_nI hi hN) rfl rfl hdg fun H1 e9 z oq => ?_
  refine kk H1 _ ls (h1.set he ?_ oq) (h2.put z oq (h1 a _ he).2) h3
  show H1[a]? = some (vp_cell _ _)
  rw [e9, vp_cell_q, vp_cell_q, arrV_store, nI_clamp (by omega)]
  congr 2
  funext q
  by_cases hq : q = i
  · subst hq
    simp [updV, va_up, va_rf]
  · simp [updV, va_up, hq]
theorem v_alen (hc : cxt p s m args meth c cc nL own Ts G A) {a t0 : Nat} {cA : ClassId} {x : vp_A} {ty : FieldType} (hdg : decode cc pc = .ok (.arraylength, 1)) (he : w a = some (.inl (cA, x))) (ht : (gT G)[t0]? = some (cA, ty))
    (kk : V p l e R s m args below meth c nL G A Q w k n (pc + 1) L (.int (nI x.1) :: st)) : V p l e R s m args below meth c nL G A Q w k n pc L (.ref a :: st) := fun H locs ls h1 h2 h3 =>
  va_alen (D := G.1) (cl := vwCl) (tys := gT G) hc.1.1 hc.1.2.1 hc.2.1.1 (h1.one he) 0 t0 rfl ht rfl hdg (kk H locs ls h1 h2 h3)
/-- the empty row that an empty list holds -/
theorem v_alenE (hc : cxt p s m args meth c cc nL own Ts G A) (hdg : decode cc pc = .ok (.arraylength, 1))
    (kk : V p l e R s m args below meth c nL G A Q w k n (pc + 1) L (.int (nI 0) :: st)) : V p l e R s m args below meth c nL G A Q w k n pc L (.ref (gE G) :: st) := fun H locs ls h1 h2 h3 =>
  va_tlen hc.1.1 hc.1.2.1 hc.2.1.2.2.1 h2 rfl hdg (kk H locs ls h1 h2 h3)
theorem v_getsE (hc : cxt p s m args meth c cc nL own Ts G A) {index : Nat} {ref : String} (hlink : Cond.fieldLink own index ref "DEFAULTCAPACITY_EMPTY_ELEMENTDATA" "[Ljava/lang/Object;" ∈ Ts) (href : ref = "java/util/ArrayList") (hdg : decode cc pc = .ok (.getstatic index, 3))
    (kk : V p l e R s m args below meth c nL G A Q w k n (pc + 3) L (.ref (gE G) :: st)) : V p l e R s m args below meth c nL G A Q w k n pc L st := fun H locs ls h1 h2 h3 => by
  subst href
  exact va_gets hc.1.1 hc.1.2.1 hc.2.1.2.1 h2 hc.1.2.2.2.1 (hc.1.2.2.2.2 _ hlink) (fun _ h => h) hdg (kk H locs ls h1 h2 h3)
theorem v_new (hc : cxt p s m args meth c cc nL own Ts G A) {C : String} {T : u_T} {N ci index : Nat} {fs : List Value} (hcl : vwCl[ci]? = some (C, T, N)) (ty : Nat → FieldType) (hty : ∀ k, k < N → parseFieldDescriptor (T k).2.2.1 = some (ty k)) (hin : ∀ x ∈ u_ws C T N, x ∈ Ts) (hlk : Cond.classLink own index C ∈ Ts) (hins : Cond.instantiable C N ∈ Ts) (hini : Cond.initialized C ∈ Ts) (hfs : ∀ j, j < N → defaultValue (ty j) = vp_V fs j) (hk1 : k + 1 ≤ R.cells) (hk2 : n + N ≤ R.slots) (hdg : decode cc pc = .ok (.new index, 3))
    (kk : ∀ q : Nat, w q = none → A q → V p l e R s m args below meth c nL G A Q (wup w q (.inr (ci, fs))) (k + 1) (n + N) (pc + 3) L (.ref q :: st)) : V p l e R s m args below meth c nL G A Q w k n pc L st := by
  intro H locs ls h1 h2 h3
  have hts := hc.1.2.2.2.2
  have hKn := hc.2.1.1.1 ci _ hcl
  have hAq : A H.size := hc.2.2.1 _ h2.1
  refine W.newcK hc.1.1 hc.1.2.1 hc.1.2.2.2.1 (hts _ hlk) (hts _ hins) (hts _ hini) rfl hdg hk1 hk2 hKn.2.1 rfl fun H1 kC hkC e1 z1 o1 => ?_
  refine kk H.size h1.fresh hAq H1 _ ls (h1.push ⟨_, hcl, (u_born ty hts hin hKn hkC e1 hty).to hfs⟩ o1 hAq) ⟨Nat.le_trans h2.1 (by omega), fun x g1 g2 => (o1 x (Nat.lt_of_lt_of_le g1 h2.1)).trans (h2.2.1 x g1 g2), h2.2.2⟩ h3
theorem v_newa (hc : cxt p s m args meth c cc nL own Ts G A) {atype : ArrayType} {t0 : Nat} {cA : ClassId} {ty : FieldType} {x : Int32} {a0 : vp_A} (N : Nat) (ht : (gT G)[t0]? = some (cA, ty)) (hty : newarray.typeOf atype = ty) (harr : Cond.arrayClass ty ∈ Ts) (hcell : ∀ cA : ClassId, vp_cell cA a0 = arrV cA N (fun _ => defaultValue ty)) (hx : x = nI N) (hN : N < 2 ^ 20) (hb : componentBytes ty ≤ 8) (hk1 : k + 1 ≤ R.cells) (hk2 : n + N ≤ R.slots) (hdg : decode cc pc = .ok (.newarray atype, 2))
    (kk : ∀ q : Nat, w q = none → A q → V p l e R s m args below meth c nL G A Q (wup w q (.inl (cA, a0))) (k + 1) (n + N) (pc + 2) L (.ref q :: st)) : V p l e R s m args below meth c nL G A Q w k n pc L (.int x :: st) := by
  intro H locs ls h1 h2 h3
  subst hx; subst hty
  have hAq : A H.size := hc.2.2.1 _ h2.1
  have hra := (hc.2.1.1.2 t0 _ ht).2
  refine va_newaK (N := N) hc.1.1 hc.1.2.1 (hc.1.2.2.2.2 _ harr) rfl hdg rfl (nI_pos (by omega)) (nI_clamp (by omega)) (Nat.le_trans (Nat.mul_le_mul_left N hb) (by omega)) hk1 hk2 rfl fun H1 cA' e1 z1 o1 hAr hNm => ?_
  have hcA : cA' = cA := by
    cases atype <;> exact Option.some.inj (hNm.symm.trans hra)
  subst hcA
  exact kk H.size h1.fresh hAq H1 _ ls (h1.push (by show H1[H.size]? = some (vp_cell _ _); rw [hcell]; exact e1) o1 hAq) ⟨Nat.le_trans h2.1 (by omega), fun x g1 g2 => (o1 x (Nat.lt_of_lt_of_le g1 h2.1)).trans (h2.2.1 x g1 g2), h2.2.2⟩ h3
theorem v_cast (hc : cxt p s m args meth c cc nL own Ts G A) {C : String} {T : u_T} {N ci index a : Nat} {fs : List Value} (hcl : vwCl[ci]? = some (C, T, N)) (hlk : Cond.classLink own index C ∈ Ts) (he : w a = some (.inr (ci, fs))) (hdg : decode cc pc = .ok (.checkcast index, 3))
    (kk : V p l e R s m args below meth c nL G A Q w k n (pc + 3) L (.ref a :: st)) : V p l e R s m args below meth c nL G A Q w k n pc L (.ref a :: st) := fun H locs ls h1 h2 h3 =>
  va_castS hc.1.1 hc.1.2.1 hc.1.2.2.2.1 (hc.1.2.2.2.2 _ hlk) (hc.2.1.1.1 ci _ hcl).2 (va_recv (q0 := 0) hc.2.1.1 (h1.one he) hcl rfl) hdg (kk H locs ls h1 h2 h3)
theorem v_objInit (hc : cxt p s m args meth c cc nL own Ts G A) {index a : Nat} (hlk : Cond.methodLink own index objectInit ∈ Ts) (hins : Cond.instanceMethod objectInit ∈ Ts) (hcode : Cond.code objectInit ⟨#[0xb1]⟩ 1 none ∈ Ts) (hR : 1 ≤ R.frames) (hR2 : (st.map fun v => v.category).sum + 12 ≤ R.locals) (hdg : decode cc pc = .ok (.invokespecial index, 3))
    (kk : V p l e R s m args below meth c nL G A Q w k n (pc + 3) L st) : V p l e R s m args below meth c nL G A Q w k n pc L (.ref a :: st) := fun H locs ls h1 h2 h3 =>
  W.objInit hc.1.1 hc.1.2.1 hc.1.2.2.2.1 (hc.1.2.2.2.2 _ hlk) (hc.1.2.2.2.2 _ hins) (hc.1.2.2.2.2 _ hcode) rfl (by rw [hc.1.2.2.1]; exact h3.1) rfl hdg hR (by show 2 * 0 + _ + 12 ≤ _; omega) (kk H locs ls h1 h2 h3)
theorem v_mmin (hc : cxt p s m args meth c cc nL own Ts G A) {index : Nat} {x y : Int32} (hlk : Cond.methodLink own index Lib.Math.min.name ∈ Ts) (hst : Cond.static Lib.Math.min.name ∈ Ts) (hini : Cond.initialized "java/lang/Math" ∈ Ts) (hcode : Cond.code Lib.Math.min.name Lib.Math.min.code 2 (some .int) ∈ Ts) (hR : 1 ≤ R.frames) (hR2 : (st.map fun v => v.category).sum + 13 ≤ R.locals) (hk1 : k ≤ R.cells) (hk2 : n ≤ R.slots) (hdg : decode cc pc = .ok (.invokestatic index, 3))
    (kk : V p l e R s m args below meth c nL G A Q w k n (pc + 3) L (.int (if y < x then y else x) :: st)) : V p l e R s m args below meth c nL G A Q w k n pc L (.int y :: .int x :: st) := fun H locs ls h1 h2 h3 =>
  va_mmin hc.1.1 hc.1.2.1 (by rw [hc.1.2.2.1]; exact h3.1.symm) hc.1.2.2.2.1 (hc.1.2.2.2.2 _ hlk) (hc.1.2.2.2.2 _ hst) (hc.1.2.2.2.2 _ hini) (hc.1.2.2.2.2 _ hcode) hR hR2 hk1 hk2 hdg (kk H locs ls h1 h2 h3)
theorem v_mmax (hc : cxt p s m args meth c cc nL own Ts G A) {index : Nat} {x y : Int32} (hlk : Cond.methodLink own index Lib.Math.max.name ∈ Ts) (hst : Cond.static Lib.Math.max.name ∈ Ts) (hini : Cond.initialized "java/lang/Math" ∈ Ts) (hcode : Cond.code Lib.Math.max.name Lib.Math.max.code 2 (some .int) ∈ Ts) (hR : 1 ≤ R.frames) (hR2 : (st.map fun v => v.category).sum + 13 ≤ R.locals) (hk1 : k ≤ R.cells) (hk2 : n ≤ R.slots) (hdg : decode cc pc = .ok (.invokestatic index, 3))
    (kk : V p l e R s m args below meth c nL G A Q w k n (pc + 3) L (.int (if x < y then y else x) :: st)) : V p l e R s m args below meth c nL G A Q w k n pc L (.int y :: .int x :: st) := fun H locs ls h1 h2 h3 =>
  va_mmax hc.1.1 hc.1.2.1 (by rw [hc.1.2.2.1]; exact h3.1.symm) hc.1.2.2.2.1 (hc.1.2.2.2.2 _ hlk) (hc.1.2.2.2.2 _ hst) (hc.1.2.2.2.2 _ hini) (hc.1.2.2.2.2 _ hcode) hR hR2 hk1 hk2 hdg (kk H locs ls h1 h2 h3)
end VRW
/-! contracts: start, ends, calls -/
def Pw (G : cG) (A : Nat → Prop) (w : wd) (av : List Value) : Array Value → State → Prop := va_Pc av (fun U => kk G A U ∧ hw G A w U.heap ∧ ∀ q, U.heap.size ≤ q → A q)
theorem Pw.blind {G : cG} {A : Nat → Prop} {w : wd} {av : List Value} : FrameBlind (Pw G A w av) := fun a U g mk q => by
  obtain ⟨q0, q1, q2, q3⟩ := q
  exact ⟨q0, q1.calling g mk a, q2, q3⟩
def Bw (G : cG) (A : Nat → Prop) : wd → State → Prop := fun w t => hw G A w t.heap
def BX (G : cG) (A : Nat → Prop) (px : String → wd → Prop) : String → wd → State → Prop := fun E w t => px E w ∧ hw G A w t.heap
abbrev XW (G : cG) (A : Nat → Prop) (px : String → wd → Prop) : String → State → State → Prop := vx_X (fun _ : wd => True) (BX G A px) A
def bI (b : Bool) : Int32 := if b = true then 1 else 0
theorem bI_nar (b : Bool) : narrow .boolean (.int (bI b)) = .int (bI b) := by cases b <;> rfl
theorem bI_vp (b : Bool) : vp_nar .boolean (bI b) = bI b := by cases b <;> rfl
theorem bI_t : bI true = 1 := rfl
theorem bI_f : bI false = 0 := rfl
theorem bI_0 (b : Bool) : bI b = 0 ↔ b = false := by cases b <;> simp [bI]
section VRC
variable {p : Program} {l : Launch} {e : Env} {R : Room} {s : State} {m : MethodId} {args : Array Value} {below : List Frame} {meth : Method} {c : Code} {nL : Nat} {G : cG} {A : Nat → Prop} {Q : State → Prop} {w : wd} {k n pc mc ms : Nat} {L : vLT} {st : List Value} {cc : ByteArray} {own : String} {Ts : List Cond}
theorem v_iret (hc : cxt p s m args meth c cc nL own Ts G A) {post : Int32 → wd → Prop} {r : Int32} (hr : meth.sig.returnType = some .int) (hdg : decode cc pc = .ok (.ireturn, 1)) (h1 : k ≤ mc) (h2 : n ≤ ms) (hp : post r w) : V p l e R s m args below meth c nL G A (MQ below (va_Qi post (Bw G A) A) args s mc ms A) w k n pc L [.int r] := fun H locs ls a1 a2 a3 => W.widen h1 h2 (W.iret (v := r) hc.1.1 hc.1.2.1 hr (fun t ht _ => ⟨⟨r, w, rfl, hp, by show hw G A w t.heap; rw [ht]; exact a1⟩, a2.F ht⟩) a2.2.2 hdg hc.2.2.2)
theorem v_zret (hc : cxt p s m args meth c cc nL own Ts G A) {post : Int32 → wd → Prop} {r : Int32} (hr : meth.sig.returnType = some .boolean) (hdg : decode cc pc = .ok (.ireturn, 1)) (h1 : k ≤ mc) (h2 : n ≤ ms) (hn : narrow .boolean (.int r) = .int r) (hp : post r w) : V p l e R s m args below meth c nL G A (MQ below (va_Qi post (Bw G A) A) args s mc ms A) w k n pc L [.int r] := fun H locs ls a1 a2 a3 => W.widen h1 h2 (W.zret (v := r) hc.1.1 hc.1.2.1 hr hn (fun t ht _ => ⟨⟨r, w, rfl, hp, by show hw G A w t.heap; rw [ht]; exact a1⟩, a2.F ht⟩) a2.2.2 hdg hc.2.2.2)
theorem v_lret (hc : cxt p s m args meth c cc nL own Ts G A) {post : Int64 → wd → Prop} {r : Int64} (hr : meth.sig.returnType = some .long) (hdg : decode cc pc = .ok (.lreturn, 1)) (h1 : k ≤ mc) (h2 : n ≤ ms) (hp : post r w) : V p l e R s m args below meth c nL G A (MQ below (va_Ql post (Bw G A) A) args s mc ms A) w k n pc L [.long r] := fun H locs ls a1 a2 a3 => W.widen h1 h2 (W.lret (v := r) hc.1.1 hc.1.2.1 hr (fun t ht _ => ⟨⟨r, w, rfl, hp, by show hw G A w t.heap; rw [ht]; exact a1⟩, a2.F ht⟩) a2.2.2 hdg hc.2.2.2)
theorem v_vret (hc : cxt p s m args meth c cc nL own Ts G A) {post : wd → Prop} (hr : meth.sig.returnType = none) (hdg : decode cc pc = .ok (.return_, 1)) (h1 : k ≤ mc) (h2 : n ≤ ms) (hp : post w) : V p l e R s m args below meth c nL G A (MQ below (va_Qv post (Bw G A) A) args s mc ms A) w k n pc L [] := fun H locs ls a1 a2 a3 => W.widen h1 h2 (W.vret hc.1.1 hc.1.2.1 hr (fun t ht _ => ⟨⟨w, rfl, hp, by show hw G A w t.heap; rw [ht]; exact a1⟩, a2.F ht⟩) a2.2.2 hdg hc.2.2.2)
theorem v_aret (hc : cxt p s m args meth c cc nL own Ts G A) {post : Option Nat → wd → Prop} {rt : FieldType} (r : Option Nat) {v : Value} (hr : meth.sig.returnType = some rt) (hrt : (∃ n, rt = .object n) ∨ ∃ t, rt = .array t) (hv : v = va_rf r) (hdg : decode cc pc = .ok (.areturn, 1)) (h1 : k ≤ mc) (h2 : n ≤ ms) (hp : post r w) : V p l e R s m args below meth c nL G A (MQ below (va_Qq post (Bw G A) A) args s mc ms A) w k n pc L [v] := fun H locs ls a1 a2 a3 => by
  subst hv
  exact W.widen h1 h2 (W.aret (v := va_rf r) hc.1.1 hc.1.2.1 hr hrt (va_rf_or r) (fun t ht _ => ⟨⟨r, w, rfl, hp, by show hw G A w t.heap; rw [ht]; exact a1⟩, a2.F ht⟩) a2.2.2 hdg hc.2.2.2)
/-- an end without a throw, in a method that may throw -/
theorem v_xret {Qc : Array Value → State → Outcome → State → Prop} {XC : String → State → State → Prop} (kk : V p l e R s m args below meth c nL G A (MQ below Qc args s mc ms A) w k n pc L st) : V p l e R s m args below meth c nL G A (vx_MQ below Qc XC args s mc ms A) w k n pc L st := fun H locs ls a1 a2 a3 => vx_ret (kk H locs ls a1 a2 a3)
/-- thrown: the class by its name -/
def VX (p : Program) (l : Launch) (e : Env) (R : Room) (s : State) (m : MethodId) (args : Array Value) (below : List Frame) (meth : Method) (c : Code) (nL : Nat) (G : cG) (A : Nat → Prop) (Q : State → Prop) (w : wd) (k n : Nat) (pc : Nat) (L : vLT) (st : List Value) (E : String) : Prop :=
  ∀ (H : Heap) (locs : List Loc) (ls : Array Slot) (q : Nat) (ce : Cell), hw G A w H → va_S A s.heap H locs → lvh ls nL L → H[q]? = some ce → ce.vm = .none → s.vm.findClass E = some ce.cls → vx_W p l e R s m args below meth c H locs k n Q (F0 m pc ls st) q
theorem v_out (hc : cxt p s m args meth c cc nL own Ts G A) {Qc : Array Value → State → Outcome → State → Prop} {px : String → wd → Prop} {E : String} (hout : ∀ x ∈ c.exceptionTable.toList, False) (h1 : k ≤ mc) (h2 : n ≤ ms) (hp : px E w) : VX p l e R s m args below meth c nL G A (vx_MQ below Qc (XW G A px) args s mc ms A) w k n pc L st E := fun H locs ls q ce a1 a2 a3 a4 a5 a6 =>
  vx_out (fun x hx => (hout x hx).elim) hc.2.2.2 a4 a5 a6 (fun t ht _ => ⟨w, trivial, ⟨hp, by rw [ht]; exact a1⟩, a2.F ht⟩) a2.2.2 h1 h2
end VRC
section
variable {p : Program} {l : Launch} {e : Env} {R : Room} {s : State} {m : MethodId} {args : Array Value} {below : List Frame} {meth : Method} {c : Code} {H : Heap} {locs : List Loc} {cells slots : Nat} {Q : State → Prop}
variable {mc ms : Nat} {free : Addr → Prop} {A0 A1 : Nat → Prop} {H0 : Heap} {a : Array Value} {pc : Nat} {ls : Array Slot} {st0 rest : List Value}
theorem vx_callq {S SX : Type} {post : Option Nat → S → Prop} {px : SX → Prop} {B : S → State → Prop} {BX : String → SX → State → Prop} {AX : Nat → Prop} (hr : vx_Run p l e R s m args below meth c H locs cells slots mc ms (F0 m pc ls st0) rest (va_Qq post B A1 a) (vx_X px BX AX) free) (hS : va_S A0 H0 H locs) (hA : ∀ q, q < H.size → A1 q → A0 q) (hf : ∀ q, free q → A0 q) (hAX : ∀ q, q < H.size → AX q → A0 q)
    (kx : ∀ (E : String) (ce : Cell) (q9 : Addr) (u : SX) (t : State) (H1 : Heap) (locs1 : List Loc), t.heap = H1 → s.vm.Alike t.vm → px u → BX E u t → H.size ≤ H1.size → (∀ q : Nat, q < H.size → ¬ AX q → H1[q]? = H[q]?) → va_S A0 H0 H1 locs1 → H1[q9]? = some ce → ce.vm = .none → s.vm.findClass E = some ce.cls → vx_W p l e R s m args below meth c H1 locs1 (cells + mc) (slots + ms) Q (F0 m pc ls rest) q9)
    (kk : ∀ (r : Option Nat) (u : S) (t : State) (H1 : Heap) (locs1 : List Loc), t.heap = H1 → s.vm.Alike t.vm → post r u → B u t → H.size ≤ H1.size → (∀ q : Nat, q < H.size → ¬ A1 q → H1[q]? = H[q]?) → va_S A0 H0 H1 locs1 → W p l e R s m args below meth c H1 locs1 (cells + mc) (slots + ms) Q (F0 m (pc + 3) ls (va_rf r :: rest))) : W p l e R s m args below meth c H locs cells slots Q (F0 m pc ls st0) := by
  intro T hT X
  rcases hr T hT X with ⟨v, st₀, t, T', L, h0, X', hL, e1, e2, ⟨⟨r, u, hv, hp, hb⟩, hF⟩, st⟩ | ⟨q, st₀, t, T', L, E, ce, h0, X', hL, e1, e2, ⟨u, hp, hb, hF⟩, hce, hcv, hcl, st⟩
  · cases hv
    obtain ⟨k1, k2, k3⟩ := vx_keep h0 e1 hS hA hf hL hF
    obtain ⟨t2, a1, b1⟩ := kk r u t T'.heap (locs ++ L) e1.symm (by rw [← e2]; exact X'.warmed.alike) hp hb k1 k2 k3 T' rfl X'
    exact ⟨t2, st t2 a1, b1⟩
  · obtain ⟨k1, k2, k3⟩ := vx_keep h0 e1 hS hAX hf hL hF
    obtain ⟨t2, a1, b1⟩ := kx E ce q u t T'.heap (locs ++ L) e1.symm (by rw [← e2]; exact X'.warmed.alike) hp hb k1 k2 k3 (by rw [e1]; exact hce) hcv hcl T' rfl X'
    exact ⟨t2, st.trans a1, b1⟩
end
section VRC2
variable {p : Program} {l : Launch} {e : Env} {R : Room} {s : State} {m : MethodId} {args : Array Value} {below : List Frame} {meth : Method} {c : Code} {nL : Nat} {G : cG} {A : Nat → Prop} {Q : State → Prop} {w : wd} {k n pc mc ms : Nat} {L : vLT} {st : List Value} {cc : ByteArray} {own : String} {Ts : List Cond}
theorem v_callVi (hc : cxt p s m args meth c cc nL own Ts G A) {post : Int32 → wd → Prop} {y : MethodName} {bytes : ByteArray} {maxL' nn index : Nat} {ret : Option FieldType} {ws' : List Cond} {rm : Room} {As rest : List Value} {C : String} {b ci : Nat} {fs : List Value} {T : u_T} {N : Nat} (hM : Met l y ws' rm (Pw G A w (.ref b :: As)) (va_Qi post (Bw G A) A) mc ms A) (cw : CallW R s args own C index y bytes maxL' ret ws' rm mc ms nn) (he : w b = some (.inr (ci, fs))) (hcl : vwCl[ci]? = some (C, T, N)) (hn : As.length = nn) (hst : st = As.reverse ++ .ref b :: rest) (hW : (rest.map fun v => v.category).sum ≤ 8) (hf : k + mc ≤ R.cells ∧ n + ms ≤ R.slots) (hdg : decode cc pc = .ok (.invokevirtual index, 3))
    (kk : ∀ (r : Int32) (w' : wd), post r w' → V p l e R s m args below meth c nL G A Q w' (k + mc) (n + ms) (pc + 3) L (.int r :: rest)) : V p l e R s m args below meth c nL G A Q w k n pc L st := fun H locs ls h1 h2 h3 =>
  va_calli (va_runV (As := As) (rest := rest) hc.1 hM cw ⟨Pw.blind, va_recv (q0 := 0) hc.2.1.1 (h1.one he) hcl rfl, fun U hU hW => ⟨rfl, hc.2.1.go h2 hU hW, by rw [hU]; exact h1, fun q hq => hc.2.2.1 q (by rw [hU] at hq; exact Nat.le_trans h2.1 hq)⟩⟩ rfl hn h3.1 hst (lv_room hW) hdg hf) h2 (fun q _ h => h) (fun q h => h) (fun r w' t H1 locs1 ht hvm hp hB hz hk hS => kk r w' hp H1 locs1 ls (by rw [← ht]; exact hB) hS h3)
theorem v_callVl (hc : cxt p s m args meth c cc nL own Ts G A) {post : Int64 → wd → Prop} {y : MethodName} {bytes : ByteArray} {maxL' nn index : Nat} {ret : Option FieldType} {ws' : List Cond} {rm : Room} {As rest : List Value} {C : String} {b ci : Nat} {fs : List Value} {T : u_T} {N : Nat} (hM : Met l y ws' rm (Pw G A w (.ref b :: As)) (va_Ql post (Bw G A) A) mc ms A) (cw : CallW R s args own C index y bytes maxL' ret ws' rm mc ms nn) (he : w b = some (.inr (ci, fs))) (hcl : vwCl[ci]? = some (C, T, N)) (hn : As.length = nn) (hst : st = As.reverse ++ .ref b :: rest) (hW : (rest.map fun v => v.category).sum ≤ 8) (hf : k + mc ≤ R.cells ∧ n + ms ≤ R.slots) (hdg : decode cc pc = .ok (.invokevirtual index, 3))
    (kk : ∀ (r : Int64) (w' : wd), post r w' → V p l e R s m args below meth c nL G A Q w' (k + mc) (n + ms) (pc + 3) L (.long r :: rest)) : V p l e R s m args below meth c nL G A Q w k n pc L st := fun H locs ls h1 h2 h3 =>
  va_calll (va_runV (As := As) (rest := rest) hc.1 hM cw ⟨Pw.blind, va_recv (q0 := 0) hc.2.1.1 (h1.one he) hcl rfl, fun U hU hW => ⟨rfl, hc.2.1.go h2 hU hW, by rw [hU]; exact h1, fun q hq => hc.2.2.1 q (by rw [hU] at hq; exact Nat.le_trans h2.1 hq)⟩⟩ rfl hn h3.1 hst (lv_room hW) hdg hf) h2 (fun q _ h => h) (fun q h => h) (fun r w' t H1 locs1 ht hvm hp hB hz hk hS => kk r w' hp H1 locs1 ls (by rw [← ht]; exact hB) hS h3)
theorem v_callVq (hc : cxt p s m args meth c cc nL own Ts G A) {post : Option Nat → wd → Prop} {y : MethodName} {bytes : ByteArray} {maxL' nn index : Nat} {ret : Option FieldType} {ws' : List Cond} {rm : Room} {As rest : List Value} {C : String} {b ci : Nat} {fs : List Value} {T : u_T} {N : Nat} (hM : Met l y ws' rm (Pw G A w (.ref b :: As)) (va_Qq post (Bw G A) A) mc ms A) (cw : CallW R s args own C index y bytes maxL' ret ws' rm mc ms nn) (he : w b = some (.inr (ci, fs))) (hcl : vwCl[ci]? = some (C, T, N)) (hn : As.length = nn) (hst : st = As.reverse ++ .ref b :: rest) (hW : (rest.map fun v => v.category).sum ≤ 8) (hf : k + mc ≤ R.cells ∧ n + ms ≤ R.slots) (hdg : decode cc pc = .ok (.invokevirtual index, 3))
    (kk : ∀ (r : Option Nat) (w' : wd), post r w' → V p l e R s m args below meth c nL G A Q w' (k + mc) (n + ms) (pc + 3) L (va_rf r :: rest)) : V p l e R s m args below meth c nL G A Q w k n pc L st := fun H locs ls h1 h2 h3 =>
  va_callq (va_runV (As := As) (rest := rest) hc.1 hM cw ⟨Pw.blind, va_recv (q0 := 0) hc.2.1.1 (h1.one he) hcl rfl, fun U hU hW => ⟨rfl, hc.2.1.go h2 hU hW, by rw [hU]; exact h1, fun q hq => hc.2.2.1 q (by rw [hU] at hq; exact Nat.le_trans h2.1 hq)⟩⟩ rfl hn h3.1 hst (lv_room hW) hdg hf) h2 (fun q _ h => h) (fun q h => h) (fun r w' t H1 locs1 ht hvm hp hB hz hk hS => kk r w' hp H1 locs1 ls (by rw [← ht]; exact hB) hS h3)
theorem v_callVv (hc : cxt p s m args meth c cc nL own Ts G A) {post : wd → Prop} {y : MethodName} {bytes : ByteArray} {maxL' nn index : Nat} {ret : Option FieldType} {ws' : List Cond} {rm : Room} {As rest : List Value} {C : String} {b ci : Nat} {fs : List Value} {T : u_T} {N : Nat} (hM : Met l y ws' rm (Pw G A w (.ref b :: As)) (va_Qv post (Bw G A) A) mc ms A) (cw : CallW R s args own C index y bytes maxL' ret ws' rm mc ms nn) (he : w b = some (.inr (ci, fs))) (hcl : vwCl[ci]? = some (C, T, N)) (hn : As.length = nn) (hst : st = As.reverse ++ .ref b :: rest) (hW : (rest.map fun v => v.category).sum ≤ 8) (hf : k + mc ≤ R.cells ∧ n + ms ≤ R.slots) (hdg : decode cc pc = .ok (.invokevirtual index, 3))
    (kk : ∀ (w' : wd), post w' → V p l e R s m args below meth c nL G A Q w' (k + mc) (n + ms) (pc + 3) L rest) : V p l e R s m args below meth c nL G A Q w k n pc L st := fun H locs ls h1 h2 h3 =>
  va_callv (va_runV (As := As) (rest := rest) hc.1 hM cw ⟨Pw.blind, va_recv (q0 := 0) hc.2.1.1 (h1.one he) hcl rfl, fun U hU hW => ⟨rfl, hc.2.1.go h2 hU hW, by rw [hU]; exact h1, fun q hq => hc.2.2.1 q (by rw [hU] at hq; exact Nat.le_trans h2.1 hq)⟩⟩ rfl hn h3.1 hst (lv_room hW) hdg hf) h2 (fun q _ h => h) (fun q h => h) (fun w' t H1 locs1 ht hvm hp hB hz hk hS => kk w' hp H1 locs1 ls (by rw [← ht]; exact hB) hS h3)
theorem v_callSi (hc : cxt p s m args meth c cc nL own Ts G A) {post : Int32 → wd → Prop} {y : MethodName} {bytes : ByteArray} {maxL' nn index : Nat} {ret : Option FieldType} {ws' : List Cond} {rm : Room} {As rest : List Value} (hM : Met l y ws' rm (Pw G A w As) (va_Qi post (Bw G A) A) mc ms A) (cw : CallB R s args own index y bytes maxL' ret ws' rm mc ms nn ∧ (Cond.static y).before args s = true) (hn : As.length = nn) (hst : st = As.reverse ++ rest) (hW : (rest.map fun v => v.category).sum ≤ 8) (hf : k + mc ≤ R.cells ∧ n + ms ≤ R.slots) (hdg : decode cc pc = .ok (.invokestatic index, 3))
    (kk : ∀ (r : Int32) (w' : wd), post r w' → V p l e R s m args below meth c nL G A Q w' (k + mc) (n + ms) (pc + 3) L (.int r :: rest)) : V p l e R s m args below meth c nL G A Q w k n pc L st := fun H locs ls h1 h2 h3 =>
  va_calli (va_runS (As := As) (rest := rest) hc.1 hM cw ⟨Pw.blind, fun U hU hW => ⟨rfl, hc.2.1.go h2 hU hW, by rw [hU]; exact h1, fun q hq => hc.2.2.1 q (by rw [hU] at hq; exact Nat.le_trans h2.1 hq)⟩⟩ rfl hn h3.1 hst (lv_room hW) hdg hf) h2 (fun q _ h => h) (fun q h => h) (fun r w' t H1 locs1 ht hvm hp hB hz hk hS => kk r w' hp H1 locs1 ls (by rw [← ht]; exact hB) hS h3)
theorem v_callSNi (hc : cxt p s m args meth c cc nL own Ts G A) {post : Int32 → wd → Prop} {y : MethodName} {bytes : ByteArray} {maxL' nn index : Nat} {ret : Option FieldType} {ws' : List Cond} {rm : Room} {As rest : List Value} {host : String} (hM : Met l y ws' rm (Pw G A w As) (va_Qi post (Bw G A) A) mc ms A) (cw : va_CN R s args own index y host bytes maxL' ret ws' rm mc ms nn ∧ (Cond.static y).before args s = true ∧ True) (hn : As.length = nn) (hst : st = As.reverse ++ rest) (hW : (rest.map fun v => v.category).sum ≤ 8) (hf : k + mc ≤ R.cells ∧ n + ms ≤ R.slots) (hdg : decode cc pc = .ok (.invokestatic index, 3))
    (kk : ∀ (r : Int32) (w' : wd), post r w' → V p l e R s m args below meth c nL G A Q w' (k + mc) (n + ms) (pc + 3) L (.int r :: rest)) : V p l e R s m args below meth c nL G A Q w k n pc L st := fun H locs ls h1 h2 h3 =>
  va_calli (va_runSN (As := As) (rest := rest) hc.1 hM cw ⟨Pw.blind, fun U hU hW => ⟨rfl, hc.2.1.go h2 hU hW, by rw [hU]; exact h1, fun q hq => hc.2.2.1 q (by rw [hU] at hq; exact Nat.le_trans h2.1 hq)⟩⟩ rfl hn h3.1 hst (lv_room hW) hdg hf) h2 (fun q _ h => h) (fun q h => h) (fun r w' t H1 locs1 ht hvm hp hB hz hk hS => kk r w' hp H1 locs1 ls (by rw [← ht]; exact hB) hS h3)
theorem v_callIv (hc : cxt p s m args meth c cc nL own Ts G A) {post : wd → Prop} {y : MethodName} {bytes : ByteArray} {maxL' nn index : Nat} {ws' : List Cond} {rm : Room} {As rest : List Value} {b : Nat} (hM : Met l y ws' rm (Pw G A w (.ref b :: As)) (va_Qv post (Bw G A) A) mc ms A) (cw : CallB R s args own index y bytes maxL' none ws' rm mc ms nn ∧ y.name = "<init>" ∧ (Cond.instanceMethod y).before args s = true) (hn : As.length = nn) (hst : st = As.reverse ++ .ref b :: rest) (hW : (rest.map fun v => v.category).sum ≤ 8) (hf : k + mc ≤ R.cells ∧ n + ms ≤ R.slots) (hdg : decode cc pc = .ok (.invokespecial index, 3))
    (kk : ∀ (w' : wd), post w' → V p l e R s m args below meth c nL G A Q w' (k + mc) (n + ms) (pc + 3) L rest) : V p l e R s m args below meth c nL G A Q w k n pc L st := fun H locs ls h1 h2 h3 =>
  va_callv (va_runI (As := As) (rest := rest) (b := b) hc.1 hM cw ⟨Pw.blind, fun U hU hW => ⟨rfl, hc.2.1.go h2 hU hW, by rw [hU]; exact h1, fun q hq => hc.2.2.1 q (by rw [hU] at hq; exact Nat.le_trans h2.1 hq)⟩⟩ rfl hn h3.1 hst (lv_room hW) hdg hf) h2 (fun q _ h => h) (fun q h => h) (fun w' t H1 locs1 ht hvm hp hB hz hk hS => kk w' hp H1 locs1 ls (by rw [← ht]; exact hB) hS h3)
theorem v_callSq (hc : cxt p s m args meth c cc nL own Ts G A) {post : Option Nat → wd → Prop} {y : MethodName} {bytes : ByteArray} {maxL' nn index : Nat} {ret : Option FieldType} {ws' : List Cond} {rm : Room} {As rest : List Value} (hM : Met l y ws' rm (Pw G A w As) (va_Qq post (Bw G A) A) mc ms A) (cw : CallB R s args own index y bytes maxL' ret ws' rm mc ms nn ∧ (Cond.static y).before args s = true) (hn : As.length = nn) (hst : st = As.reverse ++ rest) (hW : (rest.map fun v => v.category).sum ≤ 8) (hf : k + mc ≤ R.cells ∧ n + ms ≤ R.slots) (hdg : decode cc pc = .ok (.invokestatic index, 3))
    (kk : ∀ (r : Option Nat) (w' : wd), post r w' → V p l e R s m args below meth c nL G A Q w' (k + mc) (n + ms) (pc + 3) L (va_rf r :: rest)) : V p l e R s m args below meth c nL G A Q w k n pc L st := fun H locs ls h1 h2 h3 =>
  va_callq (va_runS (As := As) (rest := rest) hc.1 hM cw ⟨Pw.blind, fun U hU hW => ⟨rfl, hc.2.1.go h2 hU hW, by rw [hU]; exact h1, fun q hq => hc.2.2.1 q (by rw [hU] at hq; exact Nat.le_trans h2.1 hq)⟩⟩ rfl hn h3.1 hst (lv_room hW) hdg hf) h2 (fun q _ h => h) (fun q h => h) (fun r w' t H1 locs1 ht hvm hp hB hz hk hS => kk r w' hp H1 locs1 ls (by rw [← ht]; exact hB) hS h3)
theorem v_callSv (hc : cxt p s m args meth c cc nL own Ts G A) {post : wd → Prop} {y : MethodName} {bytes : ByteArray} {maxL' nn index : Nat} {ret : Option FieldType} {ws' : List Cond} {rm : Room} {As rest : List Value} (hM : Met l y ws' rm (Pw G A w As) (va_Qv post (Bw G A) A) mc ms A) (cw : CallB R s args own index y bytes maxL' ret ws' rm mc ms nn ∧ (Cond.static y).before args s = true) (hn : As.length = nn) (hst : st = As.reverse ++ rest) (hW : (rest.map fun v => v.category).sum ≤ 8) (hf : k + mc ≤ R.cells ∧ n + ms ≤ R.slots) (hdg : decode cc pc = .ok (.invokestatic index, 3))
    (kk : ∀ (w' : wd), post w' → V p l e R s m args below meth c nL G A Q w' (k + mc) (n + ms) (pc + 3) L rest) : V p l e R s m args below meth c nL G A Q w k n pc L st := fun H locs ls h1 h2 h3 =>
  va_callv (va_runS (As := As) (rest := rest) hc.1 hM cw ⟨Pw.blind, fun U hU hW => ⟨rfl, hc.2.1.go h2 hU hW, by rw [hU]; exact h1, fun q hq => hc.2.2.1 q (by rw [hU] at hq; exact Nat.le_trans h2.1 hq)⟩⟩ rfl hn h3.1 hst (lv_room hW) hdg hf) h2 (fun q _ h => h) (fun q h => h) (fun w' t H1 locs1 ht hvm hp hB hz hk hS => kk w' hp H1 locs1 ls (by rw [← ht]; exact hB) hS h3)
theorem v_xcallVi (hc : cxt p s m args meth c cc nL own Ts G A) {post : Int32 → wd → Prop} {px : String → wd → Prop} {y : MethodName} {bytes : ByteArray} {maxL' nn index : Nat} {ret : Option FieldType} {ws' : List Cond} {rm : Room} {As rest : List Value} {C : String} {b ci : Nat} {fs : List Value} {T : u_T} {N : Nat} (hM : vx_Met l y ws' rm (Pw G A w (.ref b :: As)) (va_Qi post (Bw G A) A) (XW G A px) mc ms A) (cw : CallW R s args own C index y bytes maxL' ret ws' rm mc ms nn) (he : w b = some (.inr (ci, fs))) (hcl : vwCl[ci]? = some (C, T, N)) (hn : As.length = nn) (hst : st = As.reverse ++ .ref b :: rest) (hW : (rest.map fun v => v.category).sum ≤ 8) (hf : k + mc ≤ R.cells ∧ n + ms ≤ R.slots) (hdg : decode cc pc = .ok (.invokevirtual index, 3)) (kx : ∀ (E : String) (w' : wd), px E w' → VX p l e R s m args below meth c nL G A Q w' (k + mc) (n + ms) pc L rest E)
    (kk : ∀ (r : Int32) (w' : wd), post r w' → V p l e R s m args below meth c nL G A Q w' (k + mc) (n + ms) (pc + 3) L (.int r :: rest)) : V p l e R s m args below meth c nL G A Q w k n pc L st := fun H locs ls h1 h2 h3 =>
  vx_calli (vx_runV (As := As) (rest := rest) hc.1 hM cw ⟨Pw.blind, va_recv (q0 := 0) hc.2.1.1 (h1.one he) hcl rfl, fun U hU hW => ⟨rfl, hc.2.1.go h2 hU hW, by rw [hU]; exact h1, fun q hq => hc.2.2.1 q (by rw [hU] at hq; exact Nat.le_trans h2.1 hq)⟩⟩ rfl hn h3.1 hst (lv_room hW) hdg hf) h2 (fun q _ h => h) (fun q h => h) (fun q _ h => h) (fun E ce q9 w' t H1 locs1 ht hvm _ hB hz hk hS a4 a5 a6 => kx E w' hB.1 H1 locs1 ls q9 ce (by rw [← ht]; exact hB.2) hS h3 a4 a5 a6) (fun r w' t H1 locs1 ht hvm hp hB hz hk hS => kk r w' hp H1 locs1 ls (by rw [← ht]; exact hB) hS h3)
theorem v_xcallVl (hc : cxt p s m args meth c cc nL own Ts G A) {post : Int64 → wd → Prop} {px : String → wd → Prop} {y : MethodName} {bytes : ByteArray} {maxL' nn index : Nat} {ret : Option FieldType} {ws' : List Cond} {rm : Room} {As rest : List Value} {C : String} {b ci : Nat} {fs : List Value} {T : u_T} {N : Nat} (hM : vx_Met l y ws' rm (Pw G A w (.ref b :: As)) (va_Ql post (Bw G A) A) (XW G A px) mc ms A) (cw : CallW R s args own C index y bytes maxL' ret ws' rm mc ms nn) (he : w b = some (.inr (ci, fs))) (hcl : vwCl[ci]? = some (C, T, N)) (hn : As.length = nn) (hst : st = As.reverse ++ .ref b :: rest) (hW : (rest.map fun v => v.category).sum ≤ 8) (hf : k + mc ≤ R.cells ∧ n + ms ≤ R.slots) (hdg : decode cc pc = .ok (.invokevirtual index, 3)) (kx : ∀ (E : String) (w' : wd), px E w' → VX p l e R s m args below meth c nL G A Q w' (k + mc) (n + ms) pc L rest E)
    (kk : ∀ (r : Int64) (w' : wd), post r w' → V p l e R s m args below meth c nL G A Q w' (k + mc) (n + ms) (pc + 3) L (.long r :: rest)) : V p l e R s m args below meth c nL G A Q w k n pc L st := fun H locs ls h1 h2 h3 =>
  vx_calll (vx_runV (As := As) (rest := rest) hc.1 hM cw ⟨Pw.blind, va_recv (q0 := 0) hc.2.1.1 (h1.one he) hcl rfl, fun U hU hW => ⟨rfl, hc.2.1.go h2 hU hW, by rw [hU]; exact h1, fun q hq => hc.2.2.1 q (by rw [hU] at hq; exact Nat.le_trans h2.1 hq)⟩⟩ rfl hn h3.1 hst (lv_room hW) hdg hf) h2 (fun q _ h => h) (fun q h => h) (fun q _ h => h) (fun E ce q9 w' t H1 locs1 ht hvm _ hB hz hk hS a4 a5 a6 => kx E w' hB.1 H1 locs1 ls q9 ce (by rw [← ht]; exact hB.2) hS h3 a4 a5 a6) (fun r w' t H1 locs1 ht hvm hp hB hz hk hS => kk r w' hp H1 locs1 ls (by rw [← ht]; exact hB) hS h3)
theorem v_xcallVq (hc : cxt p s m args meth c cc nL own Ts G A) {post : Option Nat → wd → Prop} {px : String → wd → Prop} {y : MethodName} {bytes : ByteArray} {maxL' nn index : Nat} {ret : Option FieldType} {ws' : List Cond} {rm : Room} {As rest : List Value} {C : String} {b ci : Nat} {fs : List Value} {T : u_T} {N : Nat} (hM : vx_Met l y ws' rm (Pw G A w (.ref b :: As)) (va_Qq post (Bw G A) A) (XW G A px) mc ms A) (cw : CallW R s args own C index y bytes maxL' ret ws' rm mc ms nn) (he : w b = some (.inr (ci, fs))) (hcl : vwCl[ci]? = some (C, T, N)) (hn : As.length = nn) (hst : st = As.reverse ++ .ref b :: rest) (hW : (rest.map fun v => v.category).sum ≤ 8) (hf : k + mc ≤ R.cells ∧ n + ms ≤ R.slots) (hdg : decode cc pc = .ok (.invokevirtual index, 3)) (kx : ∀ (E : String) (w' : wd), px E w' → VX p l e R s m args below meth c nL G A Q w' (k + mc) (n + ms) pc L rest E)
    (kk : ∀ (r : Option Nat) (w' : wd), post r w' → V p l e R s m args below meth c nL G A Q w' (k + mc) (n + ms) (pc + 3) L (va_rf r :: rest)) : V p l e R s m args below meth c nL G A Q w k n pc L st := fun H locs ls h1 h2 h3 =>
  vx_callq (vx_runV (As := As) (rest := rest) hc.1 hM cw ⟨Pw.blind, va_recv (q0 := 0) hc.2.1.1 (h1.one he) hcl rfl, fun U hU hW => ⟨rfl, hc.2.1.go h2 hU hW, by rw [hU]; exact h1, fun q hq => hc.2.2.1 q (by rw [hU] at hq; exact Nat.le_trans h2.1 hq)⟩⟩ rfl hn h3.1 hst (lv_room hW) hdg hf) h2 (fun q _ h => h) (fun q h => h) (fun q _ h => h) (fun E ce q9 w' t H1 locs1 ht hvm _ hB hz hk hS a4 a5 a6 => kx E w' hB.1 H1 locs1 ls q9 ce (by rw [← ht]; exact hB.2) hS h3 a4 a5 a6) (fun r w' t H1 locs1 ht hvm hp hB hz hk hS => kk r w' hp H1 locs1 ls (by rw [← ht]; exact hB) hS h3)
end VRC2
/-! a method's head -/
theorem m_of {l : Launch} {G : cG} {A : Nat → Prop} {w : wd} {av : List Value} {y : MethodName} {ws ws' : List Cond} {rm : Room} {Qc : Array Value → State → Outcome → State → Prop} {mc ms : Nat} {cc : ByteArray} {maxL : Nat} {ret : Option FieldType} (hy : plainName y.cls = true) (hw0 : ws = Cond.code y cc maxL ret :: ws') (hl : (lg_sl av).length ≤ maxL)
    (body : ∀ p e s m args below meth c, cxt p s m args meth c cc maxL y.cls ws G A → meth.sig.returnType = ret → meth.name = y.name → V p l e rm s m args below meth c maxL G A (MQ below Qc args s mc ms A) w 0 0 0 (vLa 0 av) []) : Met l y ws rm (Pw G A w av) Qc mc ms A := by
  refine Met.ofW (cc := cc) (maxL := maxL) (ret := ret) hy hw0 ?_
  intro p e s m args below meth c s₁ B hml hv
  obtain ⟨rfl, hK, hW, hA⟩ := hv
  have hts := atoms_spec (ws := ws) B.pre
  have hin := (name_of_methodNamed B.named B.method).1
  have hl' := lv_entry av (n := maxL) hl
  rw [lg_entry_eq]
  exact body p e s m _ below meth c ⟨⟨B.exec, B.bytes, hml, findClass_of_methodNamed B.named, hts⟩, hK, hA, B.notSynchronized⟩ B.returns hin s.heap [] _ hW va_S.rf (vs_ent hl')
theorem m_ofX {l : Launch} {G : cG} {A : Nat → Prop} {w : wd} {av : List Value} {y : MethodName} {ws ws' : List Cond} {rm : Room} {Qc : Array Value → State → Outcome → State → Prop} {XC : String → State → State → Prop} {mc ms : Nat} {cc : ByteArray} {maxL : Nat} {ret : Option FieldType} (hy : plainName y.cls = true) (hw0 : ws = Cond.code y cc maxL ret :: ws') (hl : (lg_sl av).length ≤ maxL)
    (body : ∀ p e s m args below meth c, cxt p s m args meth c cc maxL y.cls ws G A → meth.sig.returnType = ret → (∀ x ∈ c.exceptionTable.toList, False) → V p l e rm s m args below meth c maxL G A (vx_MQ below Qc XC args s mc ms A) w 0 0 0 (vLa 0 av) []) : vx_Met l y ws rm (Pw G A w av) Qc XC mc ms A := by
  refine vx_ofW (cc := cc) (maxL := maxL) (ret := ret) hy hw0 ?_
  intro p e s m args below meth c s₁ B hml hout hv
  obtain ⟨rfl, hK, hW, hA⟩ := hv
  have hts := atoms_spec (ws := ws) B.pre
  have hl' := lv_entry av (n := maxL) hl
  rw [lg_entry_eq]
  exact body p e s m _ below meth c ⟨⟨B.exec, B.bytes, hml, findClass_of_methodNamed B.named, hts⟩, hK, hA, B.notSynchronized⟩ B.returns hout s.heap [] _ hW va_S.rf (vs_ent hl')
/-- throw new X(text), of the class Packstack -/
theorem v_throw {p : Program} {l : Launch} {e : Env} {R : Room} {s : State} {m : MethodId} {args : Array Value} {below : List Frame} {meth : Method} {c : Code} {nL : Nat} {G : cG} {A : Nat → Prop} {w : wd} {k n pc mc ms : Nat} {L : vLT} {st : List Value} {cc : ByteArray} {own : String} {Ts : List Cond} {Qc : Array Value → State → Outcome → State → Prop} {px : String → wd → Prop}
    (hc : cxt p s m args meth c cc nL own Ts G A) (hl : l.stackTraces = false) (hout : ∀ x ∈ c.exceptionTable.toList, False) {cls text : String} {ik is ic : Nat} (hcls : Bundle.fit cls = true) (hk : Cond.classLink own ik cls ∈ Ts) (hini : Cond.initialized cls ∈ Ts) (hstr : (own, is, text) ∈ kR)
    (hat : ∀ x ∈ (vx_atS own ic cls ["java/lang/RuntimeException", "java/lang/Exception"]).filter goodWord, x ∈ Ts) (hat2 : ∀ x ∈ (vx_atS own ic cls ["java/lang/RuntimeException", "java/lang/Exception"]).filter (fun w => !goodWord w), x ∈ kN) (hgood : ∀ x ∈ Cond.classLink own ik cls :: Cond.initialized cls :: vx_atS own ic cls ["java/lang/RuntimeException", "java/lang/Exception"], vx_ot x = true)
    (d0 : decode cc pc = .ok (.new ik, 3)) (d3 : decode cc (pc + 3) = .ok (.dup, 1)) (d4 : decode cc (pc + 4) = .ok (.ldc is, 2)) (d6 : decode cc (pc + 6) = .ok (.invokespecial ic, 3)) (d9 : decode cc (pc + 9) = .ok (.athrow, 1))
    (hR1 : 5 < R.frames) (hR2 : (st.map fun v => v.category).sum + 82 ≤ R.locals) (hR3 : k + 1 ≤ R.cells) (hR4 : n + 6 ≤ R.slots) (h1 : k + 1 ≤ mc) (h2 : n + 6 ≤ ms) (hp : px cls w) :
    V p l e R s m args below meth c nL G A (vx_MQ below Qc (XW G A px) args s mc ms A) w k n pc L st := by
  intro H locs ls a1 a2 a3
  have hts := hc.1.2.2.2.2
  obtain ⟨sa, hsa⟩ := hc.2.1.2.2.2.2.2.2.1 _ hstr
  refine vx_throwS (text := text) (names := ["java/lang/RuntimeException", "java/lang/Exception"]) (sa := sa) hc.1.1 hc.1.2.1 hl hc.1.2.2.2.1 hcls (by decide +kernel) (hts _ hk) (hts _ hini) hsa (vx_hat (fun x hx => hts x (hat x hx)) hat2 (fun x hx => va_Nw.use (kN_on x hx) (hc.2.1.2.2.2.2.2.1 x hx))) hgood hc.2.1.2.2.2.1 hc.2.1.2.2.2.2.1 a2 (by rw [hc.1.2.2.1]; exact a3.1) d0 d3 d4 d6 d9 (fun x hx => (hout x hx).elim) hR1 hR2 hR3 hR4 hc.2.2.2 (fun t hvm hz hq => ?_) a2.2.2 h1 h2
  refine ⟨w, trivial, ⟨hp, a1.keep fun q e9 hq9 => hq q (a1 q e9 hq9).1.lt⟩, Nat.le_trans a2.1 hz, fun q g1 g2 => ?_⟩
  rw [hq q (Nat.lt_of_lt_of_le g1 a2.1)]
  exact a2.2.1 q g1 g2
