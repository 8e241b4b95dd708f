/-! ===== rows that the law's own methods need ===== -/
section LROW
variable {p : Program} {l : Launch} {e : Env} {R : Room} {s : State} {m : MethodId} {args : Array Value} {below : List Frame} {meth : Method} {c : Code} {nL : Nat} {G : cG} {A : Nat → Prop} {Q : State → Prop} {w : wd} {k n pc mc ms : Nat} {L : vLT} {st : List Value} {cc : ByteArray} {own : String} {Ts : List Cond}
theorem v_lmul (hc : cxt p s m args meth c cc nL own Ts G A) {x y : Int64} (hdg : decode cc pc = .ok (.lmul, 1))
    (kk : V p l e R s m args below meth c nL G A Q w k n (pc + 1) L (.long (x * y) :: st)) : V p l e R s m args below meth c nL G A Q w k n pc L (.long y :: .long x :: st) := fun H locs ls h1 h2 h3 => lv_lmul hc.1.1 hc.1.2.1 hdg (kk H locs ls h1 h2 h3)
theorem v_dup2 (hc : cxt p s m args meth c cc nL own Ts G A) {va vb : Value} (hdg : decode cc pc = .ok (.dup2, 1)) (hv : va.category = 1) (hv2 : vb.category = 1)
    (kk : V p l e R s m args below meth c nL G A Q w k n (pc + 1) L (va :: vb :: va :: vb :: st)) : V p l e R s m args below meth c nL G A Q w k n pc L (va :: vb :: st) := fun H locs ls h1 h2 h3 => lv_dup2_11 hc.1.1 hc.1.2.1 hdg hv hv2 (kk H locs ls h1 h2 h3)
/-- a static call of a body with handlers -/
theorem v_callSWi (hc : cxt p s m args meth c cc nL own Ts G A) {post : Int32 → wd → Prop} {y : MethodName} {bytes : ByteArray} {maxL' nn index : Nat} {ret : Option FieldType} {hh : List (Nat × Nat × Nat × Nat)} {ws' : List Cond} {rm : Room} {As rest : List Value} (hM : Met l y ws' rm (Pw G A w As) (va_Qi post (Bw G A) A) mc ms A) (cw : vx_CSW R s args own index y bytes maxL' ret hh ws' rm mc ms nn) (hn : As.length = nn) (hst : st = As.reverse ++ rest) (hW : (rest.map fun v => v.category).sum ≤ 8) (hf : k + mc ≤ R.cells ∧ n + ms ≤ R.slots) (hdg : decode cc pc = .ok (.invokestatic index, 3))
    (kk : ∀ (r : Int32) (w' : wd), post r w' → V p l e R s m args below meth c nL G A Q w' (k + mc) (n + ms) (pc + 3) L (.int r :: rest)) : V p l e R s m args below meth c nL G A Q w k n pc L st := fun H locs ls h1 h2 h3 =>
  va_calli (vx_runSW (As := As) (rest := rest) hc.1 hM cw ⟨Pw.blind, fun U hU hW => ⟨rfl, hc.2.1.go h2 hU hW, by rw [hU]; exact h1, fun q hq => hc.2.2.1 q (by rw [hU] at hq; exact Nat.le_trans h2.1 hq)⟩⟩ rfl hn h3.1 hst (lv_room hW) hdg hf) h2 (fun q _ h => h) (fun q h => h) (fun r w' t H1 locs1 ht hvm hp hB hz hk hS => kk r w' hp H1 locs1 ls (by rw [← ht]; exact hB) hS h3)
theorem v_callSWl (hc : cxt p s m args meth c cc nL own Ts G A) {post : Int64 → wd → Prop} {y : MethodName} {bytes : ByteArray} {maxL' nn index : Nat} {ret : Option FieldType} {hh : List (Nat × Nat × Nat × Nat)} {ws' : List Cond} {rm : Room} {As rest : List Value} (hM : Met l y ws' rm (Pw G A w As) (va_Ql post (Bw G A) A) mc ms A) (cw : vx_CSW R s args own index y bytes maxL' ret hh ws' rm mc ms nn) (hn : As.length = nn) (hst : st = As.reverse ++ rest) (hW : (rest.map fun v => v.category).sum ≤ 8) (hf : k + mc ≤ R.cells ∧ n + ms ≤ R.slots) (hdg : decode cc pc = .ok (.invokestatic index, 3))
    (kk : ∀ (r : Int64) (w' : wd), post r w' → V p l e R s m args below meth c nL G A Q w' (k + mc) (n + ms) (pc + 3) L (.long r :: rest)) : V p l e R s m args below meth c nL G A Q w k n pc L st := fun H locs ls h1 h2 h3 =>
  va_calll (vx_runSW (As := As) (rest := rest) hc.1 hM cw ⟨Pw.blind, fun U hU hW => ⟨rfl, hc.2.1.go h2 hU hW, by rw [hU]; exact h1, fun q hq => hc.2.2.1 q (by rw [hU] at hq; exact Nat.le_trans h2.1 hq)⟩⟩ rfl hn h3.1 hst (lv_room hW) hdg hf) h2 (fun q _ h => h) (fun q h => h) (fun r w' t H1 locs1 ht hvm hp hB hz hk hS => kk r w' hp H1 locs1 ls (by rw [← ht]; exact hB) hS h3)
theorem v_callSl (hc : cxt p s m args meth c cc nL own Ts G A) {post : Int64 → wd → Prop} {y : MethodName} {bytes : ByteArray} {maxL' nn index : Nat} {ret : Option FieldType} {ws' : List Cond} {rm : Room} {As rest : List Value} (hM : Met l y ws' rm (Pw G A w As) (va_Ql post (Bw G A) A) mc ms A) (cw : CallB R s args own index y bytes maxL' ret ws' rm mc ms nn ∧ (Cond.static y).before args s = true) (hn : As.length = nn) (hst : st = As.reverse ++ rest) (hW : (rest.map fun v => v.category).sum ≤ 8) (hf : k + mc ≤ R.cells ∧ n + ms ≤ R.slots) (hdg : decode cc pc = .ok (.invokestatic index, 3))
    (kk : ∀ (r : Int64) (w' : wd), post r w' → V p l e R s m args below meth c nL G A Q w' (k + mc) (n + ms) (pc + 3) L (.long r :: rest)) : V p l e R s m args below meth c nL G A Q w k n pc L st := fun H locs ls h1 h2 h3 =>
  va_calll (va_runS (As := As) (rest := rest) hc.1 hM cw ⟨Pw.blind, fun U hU hW => ⟨rfl, hc.2.1.go h2 hU hW, by rw [hU]; exact h1, fun q hq => hc.2.2.1 q (by rw [hU] at hq; exact Nat.le_trans h2.1 hq)⟩⟩ rfl hn h3.1 hst (lv_room hW) hdg hf) h2 (fun q _ h => h) (fun q h => h) (fun r w' t H1 locs1 ht hvm hp hB hz hk hS => kk r w' hp H1 locs1 ls (by rw [← ht]; exact hB) hS h3)
end LROW
/-! a contract's answer, said otherwise -/
section MONO
variable {l : Launch} {G : cG} {A : Nat → Prop} {w : wd} {av : List Value} {y : MethodName} {ws : List Cond} {rm : Room} {mc ms : Nat} {px : String → wd → Prop}
theorem mi_to {post post' : Int32 → wd → Prop} (hM : Met l y ws rm (Pw G A w av) (va_Qi post (Bw G A) A) mc ms A) (h1 : ∀ r w', post r w' → post' r w') : Met l y ws rm (Pw G A w av) (va_Qi post' (Bw G A) A) mc ms A :=
  MetFree.mono hM (fun _ _ h => h) (fun _ _ _ _ _ _ => trivial) (fun a s0 o t _ hQ => by
    obtain ⟨⟨⟨r, u, e1, e2, e3⟩, e4⟩, hF⟩ := hQ
    exact ⟨⟨⟨r, u, e1, h1 r u e2, e3⟩, e4⟩, hF⟩)
/-- a callee that doesn't throw here -/
theorem mi_no {post post' : Int32 → wd → Prop} (hM : vx_Met l y ws rm (Pw G A w av) (va_Qi post (Bw G A) A) (XW G A px) mc ms A) (h1 : ∀ r w', post r w' → post' r w') (h2 : ∀ E w', ¬ px E w') : Met l y ws rm (Pw G A w av) (va_Qi post' (Bw G A) A) mc ms A :=
  MetFree.mono hM (fun _ _ h => h) (fun _ _ _ _ _ _ => trivial) (fun a s0 o t _ hQ => by
    rcases hQ with ⟨⟨⟨r, u, e1, e2, e3⟩, e4⟩, hF⟩ | ⟨q, -, E, ce, L, ⟨u, -, ⟨hp, -⟩, -⟩, -⟩
    · exact ⟨⟨⟨r, u, e1, h1 r u e2, e3⟩, e4⟩, hF⟩
    · exact absurd hp (h2 E u))
end MONO
section SEL
variable {p : Program} {l : Launch} {e : Env} {R : Room} {s : State} {m : MethodId} {args : Array Value} {below : List Frame} {meth : Method} {c : Code} {nL : Nat} {G : cG} {A : Nat → Prop} {Q : State → Prop} {w : wd} {k n pc mc ms : Nat} {L : vLT} {st : List Value} {cc : ByteArray} {own : String} {Ts : List Cond}
/-- a place that is reached twice -/
theorem v_cut (k' n' pc' : Nat) (L' : vLT) (st' : List Value) (K : V p l e R s m args below meth c nL G A Q w k' n' pc' L' st') (kk : V p l e R s m args below meth c nL G A Q w k' n' pc' L' st' → V p l e R s m args below meth c nL G A Q w k n pc L st) : V p l e R s m args below meth c nL G A Q w k n pc L st := kk K
theorem v_cutW (P : wd → Prop) (k' n' pc' : Nat) (L' : vLT) (st' : List Value) (K : ∀ w', P w' → V p l e R s m args below meth c nL G A Q w' k' n' pc' L' st') (kk : (∀ w', P w' → V p l e R s m args below meth c nL G A Q w' k' n' pc' L' st') → V p l e R s m args below meth c nL G A Q w k n pc L st) : V p l e R s m args below meth c nL G A Q w k n pc L st := kk K
theorem v_cutS {σ : Type} (I : σ → Prop) (wf : σ → wd) (kf nf : σ → Nat) (pc' : Nat) (Lf : σ → vLT) (K : ∀ a, I a → V p l e R s m args below meth c nL G A Q (wf a) (kf a) (nf a) pc' (Lf a) []) (kk : (∀ a, I a → V p l e R s m args below meth c nL G A Q (wf a) (kf a) (nf a) pc' (Lf a) []) → V p l e R s m args below meth c nL G A Q w k n pc L st) : V p l e R s m args below meth c nL G A Q w k n pc L st := kk K
theorem v_cutT {σ : Type} (I : σ → Prop) (k' n' pc' : Nat) (Lf : σ → vLT) (stf : σ → List Value) (K : ∀ a, I a → V p l e R s m args below meth c nL G A Q w k' n' pc' (Lf a) (stf a)) (kk : (∀ a, I a → V p l e R s m args below meth c nL G A Q w k' n' pc' (Lf a) (stf a)) → V p l e R s m args below meth c nL G A Q w k n pc L st) : V p l e R s m args below meth c nL G A Q w k n pc L st := kk K
/-- 'b ? x : y' -/
theorem v_selI (hc : cxt p s m args meth c cc nL own Ts G A) {b : Bool} {x y : Int32} {off : Int} {tgt : Nat} (pcM : Nat) (hdg : decode cc pc = .ok (.ifCond .eq off, 3)) (ht : (pc : Int) + off = (tgt : Int))
    (ha : V p l e R s m args below meth c nL G A Q w k n pcM L (.int x :: st) → V p l e R s m args below meth c nL G A Q w k n (pc + 3) L st)
    (hb : V p l e R s m args below meth c nL G A Q w k n pcM L (.int y :: st) → V p l e R s m args below meth c nL G A Q w k n tgt L st)
    (kk : V p l e R s m args below meth c nL G A Q w k n pcM L (.int (cond b x y) :: st)) : V p l e R s m args below meth c nL G A Q w k n pc L (.int (bI b) :: st) := by
  cases b with
  | false => exact v_ifB_eq hc hdg ht (fun _ => hb kk) (fun z => absurd z Bool.false_ne_true)
  | true => exact v_ifB_eq hc hdg ht (fun z => absurd z.symm Bool.false_ne_true) (fun _ => ha kk)
theorem v_selL (hc : cxt p s m args meth c cc nL own Ts G A) {b : Bool} {x y : Int64} {off : Int} {tgt : Nat} (pcM : Nat) (hdg : decode cc pc = .ok (.ifCond .eq off, 3)) (ht : (pc : Int) + off = (tgt : Int))
    (ha : V p l e R s m args below meth c nL G A Q w k n pcM L (.long x :: st) → V p l e R s m args below meth c nL G A Q w k n (pc + 3) L st)
    (hb : V p l e R s m args below meth c nL G A Q w k n pcM L (.long y :: st) → V p l e R s m args below meth c nL G A Q w k n tgt L st)
    (kk : V p l e R s m args below meth c nL G A Q w k n pcM L (.long (cond b x y) :: st)) : V p l e R s m args below meth c nL G A Q w k n pc L (.int (bI b) :: st) := by
  cases b with
  | false => exact v_ifB_eq hc hdg ht (fun _ => hb kk) (fun z => absurd z Bool.false_ne_true)
  | true => exact v_ifB_eq hc hdg ht (fun z => absurd z.symm Bool.false_ne_true) (fun _ => ha kk)
/-- 'u == v ? x : y' -/
theorem v_selE (hc : cxt p s m args meth c cc nL own Ts G A) {b : Bool} {u v x y : Int32} {off : Int} {tgt : Nat} (pcM : Nat) (hdg : decode cc pc = .ok (.if_icmp .ne off, 3)) (ht : (pc : Int) + off = (tgt : Int)) (huv : u = v ↔ b = true)
    (ha : V p l e R s m args below meth c nL G A Q w k n pcM L (.int x :: st) → V p l e R s m args below meth c nL G A Q w k n (pc + 3) L st)
    (hb : V p l e R s m args below meth c nL G A Q w k n pcM L (.int y :: st) → V p l e R s m args below meth c nL G A Q w k n tgt L st)
    (kk : V p l e R s m args below meth c nL G A Q w k n pcM L (.int (cond b x y) :: st)) : V p l e R s m args below meth c nL G A Q w k n pc L (.int v :: .int u :: st) := by
  refine v_icmp_ne hc hdg ht (fun z => hb ?_) (fun z => ha ?_)
  · have : b = false := by cases b with | false => rfl | true => exact absurd (huv.mpr rfl) z
    rw [this] at kk; exact kk
  · rw [huv.mp z] at kk; exact kk
theorem cnd_B (b : Bool) : cond b (nI 1) (nI 0) = bI b := by cases b <;> rfl
theorem v_if_leN (hc : cxt p s m args meth c cc nL own Ts G A) {a : Nat} {off : Int} {tgt : Nat} (hdg : decode cc pc = .ok (.ifCond .le off, 3)) (ht : (pc : Int) + off = (tgt : Int)) (ha : a < 2 ^ 31)
    (kt : a = 0 → V p l e R s m args below meth c nL G A Q w k n tgt L st) (kf : 0 < a → V p l e R s m args below meth c nL G A Q w k n (pc + 3) L st) : V p l e R s m args below meth c nL G A Q w k n pc L (.int (nI a) :: st) := by
  refine v_if_le hc hdg ht (fun z => kt ?_) (fun z => kf ?_)
  · have := (nI_leI (a := a) (b := 0) ha (by decide)).mp z; omega
  · have : ¬ a ≤ 0 := fun y => z ((nI_leI (a := a) (b := 0) ha (by decide)).mpr y)
    omega
theorem v_if_gtN (hc : cxt p s m args meth c cc nL own Ts G A) {a : Nat} {off : Int} {tgt : Nat} (hdg : decode cc pc = .ok (.ifCond .gt off, 3)) (ht : (pc : Int) + off = (tgt : Int)) (ha : a < 2 ^ 31)
    (kt : 0 < a → V p l e R s m args below meth c nL G A Q w k n tgt L st) (kf : a = 0 → V p l e R s m args below meth c nL G A Q w k n (pc + 3) L st) : V p l e R s m args below meth c nL G A Q w k n pc L (.int (nI a) :: st) := by
  refine v_if_gt hc hdg ht (fun z => kt ?_) (fun z => kf ?_)
  · exact (nI_ltI (a := 0) (b := a) (by decide) ha).mp z
  · have : ¬ 0 < a := fun y => z ((nI_ltI (a := 0) (b := a) (by decide) ha).mpr y)
    omega
theorem v_if_ltN (hc : cxt p s m args meth c cc nL own Ts G A) {a : Nat} {off : Int} {tgt : Nat} (hdg : decode cc pc = .ok (.ifCond .lt off, 3)) (ht : (pc : Int) + off = (tgt : Int)) (ha : a < 2 ^ 31)
    (_kt : False → V p l e R s m args below meth c nL G A Q w k n tgt L st) (kf : True → V p l e R s m args below meth c nL G A Q w k n (pc + 3) L st) : V p l e R s m args below meth c nL G A Q w k n pc L (.int (nI a) :: st) :=
  v_if_lt hc hdg ht (fun z => absurd z (nI_pos ha)) (fun _ => kf trivial)
theorem v_if_geN (hc : cxt p s m args meth c cc nL own Ts G A) {a : Nat} {off : Int} {tgt : Nat} (hdg : decode cc pc = .ok (.ifCond .ge off, 3)) (ht : (pc : Int) + off = (tgt : Int)) (ha : a < 2 ^ 31)
    (kt : True → V p l e R s m args below meth c nL G A Q w k n tgt L st) (_kf : False → V p l e R s m args below meth c nL G A Q w k n (pc + 3) L st) : V p l e R s m args below meth c nL G A Q w k n pc L (.int (nI a) :: st) :=
  v_if_ge hc hdg ht (fun _ => kt trivial) (fun z => absurd (nI_pos' ha) z)
end SEL
