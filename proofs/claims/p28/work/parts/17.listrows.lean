/-! ===== rows for the JDK's list ===== -/
section LRW
variable {p : Program} {l : Launch} {e : Env} {R : Room} {s : State} {m : MethodId} {args : Array Value} {below : List Frame} {meth : Method} {c : Code} {nL : Nat} {G : cG} {A : Nat → Prop} {Q : State → Prop} {w : wd} {k n pc : Nat} {L : vLT} {st : List Value} {cc : ByteArray} {own : String} {Ts : List Cond}
theorem v_ldcI (hc : cxt p s m args meth c cc nL own Ts G A) {index : Nat} {v : Int32} (hdg : decode cc pc = .ok (.ldc index, 2)) (hcst : Cond.constant own index v ∈ Ts)
    (kk : V p l e R s m args below meth c nL G A Q w k n (pc + 2) L (.int v :: st)) : V p l e R s m args below meth c nL G A Q w k n pc L st := fun H locs ls h1 h2 h3 => lv_ldc hc.1.1 hc.1.2.1 hc.1.2.2.2.1 (hc.1.2.2.2.2 _ hcst) hdg (kk H locs ls h1 h2 h3)
theorem v_ldcM (hc : cxt p s m args meth c cc nL own Ts G A) {index : Nat} (hlk : Cond.classLink own index "[Ljava/lang/Object;" ∈ Ts) (hdg : decode cc pc = .ok (.ldc index, 2))
    (kk : V p l e R s m args below meth c nL G A Q w k n (pc + 2) L (.ref (gM G) :: st)) : V p l e R s m args below meth c nL G A Q w k n pc L st := fun H locs ls h1 h2 h3 => va_ldcM hc.1.1 hc.1.2.1 hc.1.2.2.2.1 (hc.1.2.2.2.2 _ hlk) hc.2.1.2.2.2.2.2.2.2.2.2.1 hdg (kk H locs ls h1 h2 h3)
theorem v_getC (hc : cxt p s m args meth c cc nL own Ts G A) {index a N : Nat} {f : Nat → Option Nat} (he : w a = some (aO G N f)) (hlk : Cond.methodLink own index ⟨"java/lang/Object", "getClass", "()Ljava/lang/Class;"⟩ ∈ Ts) (hsel : Cond.selects "[Ljava/lang/Object;" ⟨"java/lang/Object", "getClass", "()Ljava/lang/Class;"⟩ ⟨"java/lang/Object", "getClass", "()Ljava/lang/Class;"⟩ ∈ Ts) (hins : Cond.instanceMethod ⟨"java/lang/Object", "getClass", "()Ljava/lang/Class;"⟩ ∈ Ts) (hnat : Cond.native ⟨"java/lang/Object", "getClass", "()Ljava/lang/Class;"⟩ ∈ Ts) (hR : 1 ≤ R.frames) (hR2 : (st.map fun v => v.category).sum + 14 ≤ R.locals) (hdg : decode cc pc = .ok (.invokevirtual index, 3))
    (kk : V p l e R s m args below meth c nL G A Q w k n (pc + 3) L (.ref (gM G) :: st)) : V p l e R s m args below meth c nL G A Q w k n pc L (.ref a :: st) := fun H locs ls h1 h2 h3 => by
  have hts := hc.1.2.2.2.2
  have hra := (hc.2.1.1.2 3 _ rfl).2
  exact va_getC hc.1.1 hc.1.2.1 (by rw [hc.1.2.2.1]; exact h3.1.symm) hc.1.2.2.2.1 (hts _ hlk) (va_Dc.use hc.2.1.2.2.2.2.2.2.2.2.2.2) (hts _ hsel) (hts _ hins) (hts _ hnat) hc.2.1.2.2.2.2.2.2.2.2.2.1 ⟨_, (h1 a _ he).1, rfl, va_nmO hra rfl⟩ hR hR2 hdg (kk H locs ls h1 h2 h3)
theorem v_anew (hc : cxt p s m args meth c cc nL own Ts G A) {index : Nat} {x : Int32} (N : Nat) (hlk : Cond.classLink own index "java/lang/Object" ∈ Ts) (hx : x = nI N) (hN : N < 2 ^ 20) (hk1 : k + 1 ≤ R.cells) (hk2 : n + N ≤ R.slots) (hdg : decode cc pc = .ok (.anewarray index, 3))
    (kk : ∀ q : Nat, w q = none → A q → V p l e R s m args below meth c nL G A Q (wup w q (aO G N (fun _ => none))) (k + 1) (n + N) (pc + 3) L (.ref q :: st)) : V p l e R s m args below meth c nL G A Q w k n pc L (.int x :: st) := by
  intro H locs ls h1 h2 h3
  subst hx
  have hAq : A H.size := hc.2.2.1 _ h2.1
  have hra := (hc.2.1.1.2 3 _ rfl).2
  have hover := hc.2.1.2.2.2.2.2.2.2.2.1
  have hcl : (nI N).toNatClampNeg = N := nI_clamp (by omega)
  refine W.anew hc.1.1 hc.1.2.1 hc.1.2.2.2.1 (hc.1.2.2.2.2 _ hlk) (va_AO.use hover) rfl hdg rfl (nI_pos (by omega)) (by rw [hcl]; omega) hk1 (by rw [hcl]; exact hk2) fun cA kA comp f1 f2 f3 f4 => ?_
  rw [hcl]
  obtain ⟨_, _, _, _, _, g4⟩ := hra
  have hcA : cA = gO G := Option.some.inj (f1.symm.trans g4)
  subst hcA
  generalize hH1 : H.push ({ cls := gO G, slots := Array.replicate N .null, vm := .none } : Cell) = H1
  have z1 : H1.size = H.size + 1 := by rw [← hH1, Array.size_push]
  have e1 : H1[H.size]? = some (arrV (gO G) N (fun _ => .null)) := by rw [← hH1, Array.getElem?_push_size, ← arrV_new]
  have o1 : ∀ q : Nat, q < H.size → H1[q]? = H[q]? := fun q hq => by rw [← hH1, Array.getElem?_push, if_neg (Nat.ne_of_lt hq)]
  exact kk H.size h1.fresh hAq H1 _ ls (h1.push (by show H1[H.size]? = some (vp_cell _ _); rw [vp_cell_q]; exact e1) o1 hAq) ⟨Nat.le_trans h2.1 (by omega), fun x g1 g2 => (o1 x (Nat.lt_of_lt_of_le g1 h2.1)).trans (h2.2.1 x g1 g2), h2.2.2⟩ h3
theorem v_copy (hc : cxt p s m args meth c cc nL own Ts G A) {index a0 a n0 n1 sp dp nn : Nat} {f g : Nat → Option Nat} {xs xd xn : Int32} (hxs : xs = nI sp) (hxd : xd = nI dp) (hxn : xn = nI nn) (hb1 : sp < 2 ^ 20) (hb2 : dp < 2 ^ 20) (hb3 : nn < 2 ^ 20) (he0 : w a0 = some (aO G n0 f)) (he1 : w a = some (aO G n1 g)) (h4 : sp + nn ≤ n0) (h5 : dp + nn ≤ n1) (hel : ∀ i : Nat, i < nn → ∀ y : Nat, f (sp + i) = some y → ∃ vs, w y = some (.inr (4, vs)))
    (hlk : Cond.methodLink own index arraycopyName ∈ Ts) (hnat : Cond.native arraycopyName ∈ Ts) (hst : Cond.static arraycopyName ∈ Ts) (hini : Cond.initialized "java/lang/System" ∈ Ts) (hR : 1 ≤ R.frames) (hR2 : (st.map fun v => v.category).sum + (nativeFrameWords "java/lang/System" "arraycopy" 5 + 11) ≤ R.locals) (hdg : decode cc pc = .ok (.invokestatic index, 3))
    (kk : V p l e R s m args below meth c nL G A Q (wup w a (aO G n1 (va_cpy f g sp dp nn))) k n (pc + 3) L st) : V p l e R s m args below meth c nL G A Q w k n pc L (.int xn :: .int xd :: .ref a :: .int xs :: .ref a0 :: st) := by
  intro H locs ls a1 a2 a3
  subst hxs hxd hxn
  have hts := hc.1.2.2.2.2
  have c1 : (nI sp).toNatClampNeg = sp := nI_clamp (by omega)
  have c2 : (nI dp).toNatClampNeg = dp := nI_clamp (by omega)
  have c3 : (nI nn).toNatClampNeg = nn := nI_clamp (by omega)
  intro T hT X
  have hc0 : H[a0]? = some (vp_cell (gO G) (n0, .inr (.inr (.inr (.inr f))))) := (a1 a0 _ he0).1
  have hc1 : H[a]? = some (vp_cell (gO G) (n1, .inr (.inr (.inr (.inr g))))) := (a1 a _ he1).1
  obtain ⟨-, k0, hk0, cm0, hkk0⟩ := (hc.2.1.1.2 3 _ rfl).1 n0 (fun j => va_rf (f j))
  obtain ⟨-, k1, hk1, cm1, hkk1⟩ := (hc.2.1.1.2 3 _ rfl).1 n1 (fun j => va_rf (g j))
  have hca : va_Nw (.castable RX1 "java/lang/Object") s := hc.2.1.2.2.2.2.2.1 _ (by decide +kernel)
  obtain ⟨vm', X', step⟩ := X.arraycopy hc.1.1 hc.1.2.2.2.1 (hts _ hlk) (hts _ hnat) (hts _ hst) (hts _ hini) (src := a0) (dst := a) (cs := vp_cell (gO G) (n0, .inr (.inr (.inr (.inr f))))) (cd := vp_cell (gO G) (n1, .inr (.inr (.inr (.inr g))))) (srcPos := nI sp) (destPos := nI dp) (n := nI nn) (by rw [hT]; exact hc0) (by rw [hT]; exact hc1)
    (fun _ h => by cases h) (fun _ h => by cases h) (fun h => by cases h) (fun h => by cases h) hk0 hk1 hkk0 hkk1 rfl (nI_pos (by omega)) (nI_pos (by omega)) (nI_pos (by omega))
    (by rw [nI_toInt (by omega), nI_toInt (by omega)]; show ¬ _ > ((arrV (gO G) n0 (fun j => va_rf (f j))).slots.size : Int); rw [arrV_size]; omega)
    (by rw [nI_toInt (by omega), nI_toInt (by omega)]; show ¬ _ > ((arrV (gO G) n1 (fun j => va_rf (g j))).slots.size : Int); rw [arrV_size]; omega)
    (fun vm₁ hal i hi => by
      rw [c3] at hi
      have e9 : (vp_cell (gO G) (n0, .inr (.inr (.inr (.inr f))))).slots.getD ((nI sp).toNatClampNeg + i) .null = va_rf (f (sp + i)) := by
        rw [c1]
        show (arrV (gO G) n0 (fun j => va_rf (f j))).slots.getD _ _ = _
        rw [Array.getD_eq_getD_getElem?, arrV_read _ _ (by omega)]
        rfl
      rw [e9]
      cases hy : f (sp + i) with
      | none => exact ⟨rfl, trivial⟩
      | some y =>
        obtain ⟨vs, hv⟩ := hel i hi y hy
        obtain ⟨r', hr', cellV, g1, g2, g3, -⟩ := (a1 y _ hv).1
        have hr4 : r' = (RX1, TX1, 9) := Option.some.inj hr'.symm
        subst hr4
        have hcls := (hc.2.1.1.1 4 _ rfl).2
        obtain ⟨kA, comp, r1, r2, r3, -⟩ := (hc.2.1.1.2 3 _ rfl).2
        cases hk1.symm.trans r1
        cases hkk1.symm.trans r2
        obtain ⟨ca, ta, f1, f2, f3⟩ := Cond.castable_spec (va_Nw.use (A := args) rfl hca)
        cases hcls.1.symm.trans f1
        cases r3.symm.trans f2
        obtain ⟨kC, hkC, -⟩ := Vm.findClass_spec f1
        obtain ⟨kE, hkE, -⟩ := Vm.findClass_spec r3
        obtain ⟨kC', hkC', -⟩ := hal.2.2 _ _ hkC
        obtain ⟨kE', hkE', -⟩ := hal.2.2 _ _ hkE
        refine ⟨rfl, cellV, (show T.heap[y]? = some cellV by rw [hT]; exact g1), (fun q h => by rw [h] at g3; cases g3), ⟨kC', by rw [g2]; exact hkC'⟩, ?_, ?_⟩
        · exact ⟨kE', hkE'⟩
        · show vm₁.assignable _ _ = true
          rw [hal.assignable, g2]
          exact f3)
    (g := F0 m pc ls (.int (nI nn) :: .int (nI dp) :: .ref a :: .int (nI sp) :: .ref a0 :: st)) rfl (by show ls.size = _; rw [hc.1.2.2.1]; exact a3.1) (rest := st) rfl (by rw [hc.1.2.1]; exact hdg) hR (by show 2 * 0 + _ + _ ≤ _; omega)
  have e1 : copied (vp_cell (gO G) (n0, .inr (.inr (.inr (.inr f))))) (vp_cell (gO G) (n1, .inr (.inr (.inr (.inr g))))) (nI sp) (nI dp) (nI nn) = vp_cell (gO G) (n1, .inr (.inr (.inr (.inr (va_cpy f g sp dp nn))))) := by
    rw [vp_cell_q, vp_cell_q, vp_cell_q]
    have h9 := va_copied (fun z => va_rf z) (gO G) (gO G) f g (sp := (nI sp).toNatClampNeg) (dp := (nI dp).toNatClampNeg) (n := (nI nn).toNatClampNeg) (n0 := n0) (n1 := n1) (by rw [c1, c3]; exact h4)
    exact h9.trans (by rw [c1, c2, c3])
  rw [e1] at X' step
  have hl : a < H.size := (Array.getElem?_eq_some_iff.mp hc1).1
  have hheap : ((T.setVm vm').setCell a (vp_cell (gO G) (n1, .inr (.inr (.inr (.inr (va_cpy f g sp dp nn))))))).heap = H.setIfInBounds a (vp_cell (gO G) (n1, .inr (.inr (.inr (.inr (va_cpy f g sp dp nn)))))) := by rw [← hT]; rfl
  have oq : ∀ q : Nat, q ≠ a → (H.setIfInBounds a (vp_cell (gO G) (n1, .inr (.inr (.inr (.inr (va_cpy f g sp dp nn)))))))[q]? = H[q]? := fun q hq => by simp [Array.getElem?_setIfInBounds, Ne.symm hq]
  obtain ⟨t, b1, b2⟩ := kk _ _ ls (a1.set he1 (show (H.setIfInBounds a _)[a]? = some _ by simp [Array.getElem?_setIfInBounds, hl]) oq) ⟨by simp; exact a2.1, fun q g1 g2 => by
      rw [oq q (fun e => g2 (by rw [e]; exact (a1 a _ he1).2))]
      exact a2.2.1 q g1 g2, fun q hq => by
      rcases List.mem_append.mp hq with h | h
      · exact a2.2.2 q h
      · obtain ⟨z, -, hz⟩ := List.mem_map.mp h
        rw [← hz]
        exact (a1 a _ he1).2⟩ a3 _ hheap X'
  exact ⟨t, step t b1, b2⟩
end LRW
