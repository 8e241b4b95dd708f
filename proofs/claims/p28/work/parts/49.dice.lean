/-! ===== the dice ===== -/
theorem m_ofE {l : Launch} {G : cG} {A : Nat → Prop} {w : wd} {av : List Value} {y : MethodName} {ws ws' : List Cond} {rm : Room} {Qc : Array Value → State → Outcome → State → Prop} {mc ms : Nat} {cc : ByteArray} {maxL : Nat} {ret : Option FieldType} {Ex : State → Prop} (hy : plainName y.cls = true) (hw0 : ws = Cond.code y cc maxL ret :: ws') (hl : (lg_sl av).length ≤ maxL)
    (body : ∀ p e s m args below meth c, cxt p s m args meth c cc maxL y.cls ws G A → Ex s → meth.sig.returnType = ret → V p l e rm s m args below meth c maxL G A (MQ below Qc args s mc ms A) w 0 0 0 (vLa 0 av) []) : Met l y ws rm (fun a U => Pw G A w av a U ∧ Ex U) Qc mc ms A := by
  refine Met.ofW (cc := cc) (maxL := maxL) (ret := ret) hy hw0 ?_
  intro p e s m args below meth c s₁ B hml hv
  obtain ⟨⟨rfl, hKQ, hW, hA⟩, hx⟩ := hv
  have hts := atoms_spec (ws := ws) B.pre
  have hl' := lv_entry av (n := maxL) hl
  rw [lg_entry_eq]
  exact body p e s m _ below meth c ⟨⟨B.exec, B.bytes, hml, findClass_of_methodNamed B.named, hts⟩, hKQ, hA, B.notSynchronized⟩ hx B.returns s.heap [] _ hW va_S.rf (vs_ent hl')
theorem va_X.lt {b N : Nat} {xs : Nat → Int32} {U : State} {H : Heap} (h : va_X b N xs U H) : b < H.size := (Array.getElem?_eq_some_iff.mp h.choose_spec.1).1
section DICE
variable {p : Program} {l : Launch} {e : Env} {R : Room} {s : State} {m : MethodId} {args : Array Value} {below : List Frame} {meth : Method} {c : Code} {nL : Nat} {G : cG} {A : Nat → Prop} {Q : State → Prop} {w : wd} {k n pc mc ms : Nat} {L : vLT} {st : List Value} {cc : ByteArray} {own : String} {Ts : List Cond} {b N : Nat} {xs : Nat → Int32}
theorem v_sldG (hc : cxt p s m args meth c cc nL own Ts G A) (hX : va_X b N xs s s.heap) (hbA : ¬ A b) {i : Nat} (hiQ : i < N) (hNQ : N ≤ 2048) (hdg : decode cc pc = .ok (.iaload, 1)) (kk : V p l e R s m args below meth c nL G A Q w k n (pc + 1) L (.int (xs i) :: st)) : V p l e R s m args below meth c nL G A Q w k n pc L (.int (nI i) :: .ref b :: st) := fun H locs ls h1 h2 h3 =>
  va_sld hc.1.1 hc.1.2.1 hX hX.lt hbA h2 (vp_in_nI hiQ (by omega)) hdg (by rw [nI_clamp (by omega)]; exact kk H locs ls h1 h2 h3)
theorem v_slenG (hc : cxt p s m args meth c cc nL own Ts G A) (hX : va_X b N xs s s.heap) (hbA : ¬ A b) (hdg : decode cc pc = .ok (.arraylength, 1)) (kk : V p l e R s m args below meth c nL G A Q w k n (pc + 1) L (.int (nI N) :: st)) : V p l e R s m args below meth c nL G A Q w k n pc L (.ref b :: st) := fun H locs ls h1 h2 h3 =>
  va_slen hc.1.1 hc.1.2.1 hX hX.lt hbA h2 hdg (kk H locs ls h1 h2 h3)
/-- the call of the dice, which reads the script -/
theorem v_callD (hc : cxt p s m args meth c cc nL own Ts G A) (hX : va_X b N xs s s.heap) (hbA : ¬ A b) {post : Int32 → wd → Prop} {y : MethodName} {bytes : ByteArray} {maxL' nn index : Nat} {ret : Option FieldType} {ws' : List Cond} {rm : Room} {As rest : List Value} (hMQ : Met l y ws' rm (fun a U => Pw G A w As a U ∧ va_X b N xs U U.heap) (va_Qi post (Bw G A) A) mc ms A) (cw : CallB R s args own index y bytes maxL' ret ws' rm mc ms nn ∧ (Cond.static y).before args s = true) (hn : As.length = nn) (hst : st = As.reverse ++ rest) (hW : (rest.map fun v => v.category).sum ≤ 8) (hf : k + mc ≤ R.cells ∧ n + ms ≤ R.slots) (hdg : decode cc pc = .ok (.invokestatic index, 3))
    (kk : ∀ (r : Int32) (w' : wd), post r w' → V p l e R s m args below meth c nL G A Q w' (k + mc) (n + ms) (pc + 3) L (.int r :: rest)) : V p l e R s m args below meth c nL G A Q w k n pc L st := fun H locs ls h1 h2 h3 =>
  va_calli (va_runS (As := As) (rest := rest) hc.1 hMQ cw ⟨fun a U g mk q => ⟨Pw.blind a U g mk q.1, va_X.moved (Vm.Alike.refl U.vm) q.2⟩, fun U hU hW => ⟨⟨rfl, hc.2.1.go h2 hU hW, by rw [hU]; exact h1, fun q hq => hc.2.2.1 q (by rw [hU] at hq; exact Nat.le_trans h2.1 hq)⟩, by rw [hU]; exact va_X.moved hW.alike (hX.kept (h2.2.1 b hX.lt hbA))⟩⟩ rfl hn h3.1 hst (lv_room hW) hdg hf) h2 (fun q _ h => h) (fun q h => h) (fun r w' t H1 locs1 ht hvm hp hBQ hz hk hSQ => kk r w' hp H1 locs1 ls (by rw [← ht]; exact hBQ) hSQ h3)
end DICE
section DICE2
variable {l : Launch} {G : cG} {A : Nat → Prop} {w : wd} {b N : Nat} {xs : Nat → Int32}
set_option maxRecDepth 100000 in
set_option maxHeartbeats 4000000 in
theorem c_L_dice (hbA : ¬ A b) (hNQ : N ≤ 2048) {k : Nat} (hk : k < 80) : Met l yL_dice wsL_dice ({ frames := 8, cells := 0, slots := 0, locals := 120 } : Room) (fun a U => Pw G A w [.ref b, .int (nI k)] a U ∧ va_X b N xs U U.heap) (va_Qi (fun r w' => w = w' ∧ ∃ x, x < 2 ^ 31 ∧ r = nI x) (Bw G A) A) 0 0 A := by
  refine m_ofE (cc := cL_dice) (maxL := 2) (ret := (some .int)) (by decide) rfl (Nat.le_of_ble_eq_true rfl) ?_
  intro p e s m args below meth c hc hX hr
  refine v_loc [(0, some (.ref b)), (1, some (.int (nI k)))] rfl ?_

  refine v_iload_n hc (i := 1) rfl dL_dice_0 rfl ?_
  first | refine v_aload_n hc (i := 0) rfl dL_dice_1 rfl ?_ | refine v_aload_nN hc (i := 0) rfl dL_dice_1 rfl ?_
  refine v_slenG hc hX hbA dL_dice_2 ?_
  refine v_icmp_geN hc (tgt := 12) dL_dice_3 (by decide) (by omega) (by omega) (fun hb => ?_) (fun hb => ?_)
  · refine v_ldcI hc (v := nI 1426881987) dL_dice_12 (by decide +kernel) ?_
    refine v_iload_n hc (i := 1) rfl dL_dice_14 rfl ?_
    refine v_bipush hc (v := nI 53) dL_dice_15 (by decide) ?_
    refine v_iadd hc dL_dice_17 ?_
    refine v_imul hc dL_dice_18 ?_
    refine v_sipush hc (v := nI 395) dL_dice_19 (by decide) ?_
    refine v_iload_n hc (i := 1) rfl dL_dice_22 rfl ?_
    refine v_imul hc dL_dice_23 ?_
    refine v_iload_n hc (i := 1) rfl dL_dice_24 rfl ?_
    refine v_imul hc dL_dice_25 ?_
    refine v_iadd hc dL_dice_26 ?_
    refine v_sipush hc (v := nI 2003) dL_dice_27 (by decide) ?_
    refine v_iadd hc dL_dice_30 ?_
    refine v_ldcI hc (v := nI 2147483647) dL_dice_31 (by decide +kernel) ?_
    refine v_iand hc dL_dice_33 ?_
    obtain ⟨j, hj, ej⟩ := pk_andE ((nI 1426881987) * (nI k + nI 53) + nI 395 * nI k * nI k + nI 2003) (m := nI 2147483647) 31 (by decide)
    refine v_ti ej ?_
    exact v_iret hc hr dL_dice_34 (Nat.le_of_ble_eq_true rfl) (Nat.le_of_ble_eq_true rfl) ⟨rfl, j, hj, rfl⟩
  · first | refine v_aload_n hc (i := 0) rfl dL_dice_6 rfl ?_ | refine v_aload_nN hc (i := 0) rfl dL_dice_6 rfl ?_
    refine v_iload_n hc (i := 1) rfl dL_dice_7 rfl ?_
    refine v_sldG hc hX hbA hb hNQ dL_dice_8 ?_
    refine v_goto hc (tgt := 31) dL_dice_9 (by decide) ?_
    refine v_ldcI hc (v := nI 2147483647) dL_dice_31 (by decide +kernel) ?_
    refine v_iand hc dL_dice_33 ?_
    obtain ⟨j, hj, ej⟩ := pk_andE (xs k) (m := nI 2147483647) 31 (by decide)
    refine v_ti ej ?_
    exact v_iret hc hr dL_dice_34 (Nat.le_of_ble_eq_true rfl) (Nat.le_of_ble_eq_true rfl) ⟨rfl, j, hj, rfl⟩
end DICE2

