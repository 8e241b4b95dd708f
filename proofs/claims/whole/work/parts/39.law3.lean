/-! ===== the law: what doesn't throw; pack ===== -/
theorem len_O {n : Nat} {ct : Nat → Int64} {fm : Nat → Option Frm} {O X : List Nat} (hI : INV n ct fm O X) : O.length = sumN n (fun i => b1 (fm i).isSome) := by
  have h1 : ∀ L : List Nat, sumL (fun _ => 1) L = L.length := fun L => by
    induction L with
    | nil => rfl
    | cons x t ih => simp only [sumL, List.length_cons, ih]; omega
  rw [← h1 O, sumL_sumN (fun _ => 1) n (fun i => (fm i).isSome) O hI.2.2.2.1 hI.2.2.2.2.1]
  exact sumN_congr (fun i _ => by cases (fm i).isSome <;> rfl)
section LAWD
variable {p : Program} {l : Launch} {e : Env} {s : State} {m : MethodId} {below : List Frame} {meth : Method} {c : Code} {G : cG} {u vm : wd} {b N px h oa i : Nat} {xs : Nat → Int32} {ad : Nat → Nat} {f : Nat → Int64}
set_option maxRecDepth 100000 in
set_option maxHeartbeats 4000000 in
theorem k_objects (hl : l.stackTraces = false) (hc : cxt p s m #[Value.ref b] meth c cL_law 8 RL wsL_law G (lA s)) (hr : meth.sig.returnType = ret) (hX : va_X b N xs s s.heap) (hbl : b < s.heap.size) (hN : N ≤ 2048) (hi : i + 4 ≤ N) (hLR : LR G u vm px h ad (fun _ => True)) (hd : dj vm (jn (sg oa (aL G 1 f)) u)) (hd1 : dj (sg oa (aL G 1 f)) u) (ct : CT p l e s m b below meth c G px h oa ad i) : LV p l e s m b below meth c G (jn vm (jn (sg oa (aL G 1 f)) u)) (30 + i * 40) (700 + i * 1300) 308 (lL b px h oa i) [] := by
  obtain ⟨pI, pO, pX, n, ia, nm, ctt, lv, lo, fa, fb, fm, O, X, cp, ru, sc, ai, al, hI, hP, hF, hJ, hM, hD, h16, h17, -⟩ := hLR
  have hvs := (hd.jr hd1).1
  have hdA := (hd.jr hd1).2.jl hd1
  first | refine v_aload_n hc (i := 1) rfl dL_law_308 rfl ?_ | refine v_aload_nN hc (i := 1) rfl dL_law_308 rfl ?_
  refine v_w jn_assoc ?_
  refine v_frVi hc hdA (c_X3_objects hP) (cwV 0 hc.1.2.2.2.2 gL_law_X3_objects rfl rfl rfl (by decide +kernel) ⟨Nat.le_of_ble_eq_true rfl, Nat.le_of_ble_eq_true rfl⟩) hP.1 rfl rfl rfl (Nat.le_of_ble_eq_true rfl) ⟨by show _ ≤ 601024; omega, by show _ ≤ 7293034; omega⟩ dL_law_309 (fun r5 u2 hp hdB => ?_)
  have hd12 := dj.jl2 hvs hdB
  have hd3 := hvs.jn hdB.jl'
  refine v_w jn_assoc.symm ?_
  first | refine v_aload_n hc (i := 2) rfl dL_law_312 rfl ?_ | refine v_aload_nN hc (i := 2) rfl dL_law_312 rfl ?_
  refine v_w (jn_comm hd3) ?_
  refine v_frVi hc hd3.symm (c_X4_objects hM hD) (cwV 0 hc.1.2.2.2.2 gL_law_X4_objects rfl rfl rfl (by decide +kernel) ⟨Nat.le_of_ble_eq_true rfl, Nat.le_of_ble_eq_true rfl⟩) hM.1 rfl rfl rfl (Nat.le_of_ble_eq_true rfl) ⟨by show _ ≤ 601024; omega, by show _ ≤ 7293034; omega⟩ dL_law_313 (fun r6 vm2 hp2 hdv => ?_)
  obtain ⟨rfl, rfl⟩ := hp
  obtain ⟨hM2, rfl⟩ := hp2
  have hLR2 : LR G u vm2 px h ad (fun _ => True) := (lr_same hI hP hF hJ hD h16 h17 hM2).mono (fun _ _ => trivial)
  refine v_icmp_eq hc (tgt := 1442) dL_law_316 (by decide) (fun _ => ?_) (fun z => absurd rfl z)
  refine v_widen (k' := 30 + (i + 4) * 40) (n' := 700 + (i + 4) * 1300) (by omega) (by omega) ?_
  refine v_w (jn_comm hdv) ?_
  exact ct _ _ f _ rfl hLR2 hdv.symm hd12
set_option maxRecDepth 100000 in
set_option maxHeartbeats 4000000 in
theorem k_prune (hl : l.stackTraces = false) (hc : cxt p s m #[Value.ref b] meth c cL_law 8 RL wsL_law G (lA s)) (hr : meth.sig.returnType = ret) (hX : va_X b N xs s s.heap) (hbl : b < s.heap.size) (hN : N ≤ 2048) (hi : i + 4 ≤ N) (hLR : LR G u vm px h ad (fun _ => True)) (hd : dj vm (jn (sg oa (aL G 1 f)) u)) (hd1 : dj (sg oa (aL G 1 f)) u) (ct : CT p l e s m b below meth c G px h oa ad i) : LV p l e s m b below meth c G (jn vm (jn (sg oa (aL G 1 f)) u)) (30 + i * 40) (700 + i * 1300) 661 (lL b px h oa i) [] := by
  obtain ⟨pI, pO, pX, n, ia, nm, ctt, lv, lo, fa, fb, fm, O, X, cp, ru, sc, ai, al, hI, hP, hF, hJ, hM, hD, h16, h17, -⟩ := hLR
  have hvs := (hd.jr hd1).1
  have hdA := (hd.jr hd1).2.jl hd1
  first | refine v_aload_n hc (i := 1) rfl dL_law_661 rfl ?_ | refine v_aload_nN hc (i := 1) rfl dL_law_661 rfl ?_
  refine v_w jn_assoc ?_
  refine v_frVi hc hdA (c_X3_prune hP hF hI.2.1) (cwV 0 hc.1.2.2.2.2 gL_law_X3_prune rfl rfl rfl (by decide +kernel) ⟨Nat.le_of_ble_eq_true rfl, Nat.le_of_ble_eq_true rfl⟩) hP.1 rfl rfl rfl (Nat.le_of_ble_eq_true rfl) ⟨by show _ ≤ 601024; omega, by show _ ≤ 7293034; omega⟩ dL_law_662 (fun r5 u2 hp hdB => ?_)
  have hd12 := dj.jl2 hvs hdB
  have hd3 := hvs.jn hdB.jl'
  refine v_w jn_assoc.symm ?_
  first | refine v_aload_n hc (i := 2) rfl dL_law_665 rfl ?_ | refine v_aload_nN hc (i := 2) rfl dL_law_665 rfl ?_
  refine v_w (jn_comm hd3) ?_
  refine v_frVi hc hd3.symm (c_X4_prune hM hD hI.2.1) (cwV 0 hc.1.2.2.2.2 gL_law_X4_prune rfl rfl rfl (by decide +kernel) ⟨Nat.le_of_ble_eq_true rfl, Nat.le_of_ble_eq_true rfl⟩) hM.1 rfl rfl rfl (Nat.le_of_ble_eq_true rfl) ⟨by show _ ≤ 601024; omega, by show _ ≤ 7293034; omega⟩ dL_law_666 (fun r6 vm2 hp2 hdv => ?_)
  obtain ⟨hP2, hF2, rfl⟩ := hp
  obtain ⟨⟨ai2, hM2, hD2⟩, rfl⟩ := hp2
  have hLR2 : LR G u2 vm2 px h ad (fun _ => True) := ⟨pI, pO, pX, n, ia, nm, ctt, lv, _, fa, fb, fm, O, X, cp, ru, _, ai2, al, hI, hP2, hF2, hJ, hM2, hD2, h16, h17, trivial⟩
  refine v_icmp_eq hc (tgt := 1442) dL_law_669 (by decide) (fun _ => ?_) (fun z => absurd rfl z)
  refine v_widen (k' := 30 + (i + 4) * 40) (n' := 700 + (i + 4) * 1300) (by omega) (by omega) ?_
  refine v_w (jn_comm hdv) ?_
  exact ct _ _ f _ rfl hLR2 hdv.symm hd12
set_option maxRecDepth 100000 in
set_option maxHeartbeats 4000000 in
theorem k_compared (hl : l.stackTraces = false) (hc : cxt p s m #[Value.ref b] meth c cL_law 8 RL wsL_law G (lA s)) (hr : meth.sig.returnType = ret) (hX : va_X b N xs s s.heap) (hbl : b < s.heap.size) (hN : N ≤ 2048) (hi : i + 4 ≤ N) (hLR : LR G u vm px h ad (fun _ => True)) (hd : dj vm (jn (sg oa (aL G 1 f)) u)) (hd1 : dj (sg oa (aL G 1 f)) u) (ct : CT p l e s m b below meth c G px h oa ad i) : LV p l e s m b below meth c G (jn vm (jn (sg oa (aL G 1 f)) u)) (30 + i * 40) (700 + i * 1300) 730 (lL b px h oa i) [] := by
  obtain ⟨pI, pO, pX, n, ia, nm, ctt, lv, lo, fa, fb, fm, O, X, cp, ru, sc, ai, al, hI, hP, hF, hJ, hM, hD, h16, h17, -⟩ := hLR
  have hvs := (hd.jr hd1).1
  have hdA := (hd.jr hd1).2.jl hd1
  first | refine v_aload_n hc (i := 1) rfl dL_law_730 rfl ?_ | refine v_aload_nN hc (i := 1) rfl dL_law_730 rfl ?_
  refine v_w jn_assoc ?_
  refine v_frVi hc hdA (c_X3_compared hP) (cwV 0 hc.1.2.2.2.2 gL_law_X3_compared rfl rfl rfl (by decide +kernel) ⟨Nat.le_of_ble_eq_true rfl, Nat.le_of_ble_eq_true rfl⟩) hP.1 rfl rfl rfl (Nat.le_of_ble_eq_true rfl) ⟨by show _ ≤ 601024; omega, by show _ ≤ 7293034; omega⟩ dL_law_731 (fun r5 u2 hp hdB => ?_)
  have hd12 := dj.jl2 hvs hdB
  have hd3 := hvs.jn hdB.jl'
  refine v_w jn_assoc.symm ?_
  first | refine v_aload_n hc (i := 2) rfl dL_law_734 rfl ?_ | refine v_aload_nN hc (i := 2) rfl dL_law_734 rfl ?_
  refine v_w (jn_comm hd3) ?_
  refine v_frVi hc hd3.symm (c_X4_compared hM) (cwV 0 hc.1.2.2.2.2 gL_law_X4_compared rfl rfl rfl (by decide +kernel) ⟨Nat.le_of_ble_eq_true rfl, Nat.le_of_ble_eq_true rfl⟩) hM.1 rfl rfl rfl (Nat.le_of_ble_eq_true rfl) ⟨by show _ ≤ 601024; omega, by show _ ≤ 7293034; omega⟩ dL_law_735 (fun r6 vm2 hp2 hdv => ?_)
  obtain ⟨rfl, rfl⟩ := hp
  obtain ⟨hM2, rfl⟩ := hp2
  have hLR2 : LR G u vm2 px h ad (fun _ => True) := (lr_same hI hP hF hJ hD h16 h17 hM2).mono (fun _ _ => trivial)
  refine v_icmp_eq hc (tgt := 1442) dL_law_738 (by decide) (fun _ => ?_) (fun z => absurd h16.symm z)
  refine v_widen (k' := 30 + (i + 4) * 40) (n' := 700 + (i + 4) * 1300) (by omega) (by omega) ?_
  refine v_w (jn_comm hdv) ?_
  exact ct _ _ f _ rfl hLR2 hdv.symm hd12
set_option maxRecDepth 100000 in
set_option maxHeartbeats 4000000 in
theorem k_reused (hl : l.stackTraces = false) (hc : cxt p s m #[Value.ref b] meth c cL_law 8 RL wsL_law G (lA s)) (hr : meth.sig.returnType = ret) (hX : va_X b N xs s s.heap) (hbl : b < s.heap.size) (hN : N ≤ 2048) (hi : i + 4 ≤ N) (hLR : LR G u vm px h ad (fun _ => True)) (hd : dj vm (jn (sg oa (aL G 1 f)) u)) (hd1 : dj (sg oa (aL G 1 f)) u) (ct : CT p l e s m b below meth c G px h oa ad i) : LV p l e s m b below meth c G (jn vm (jn (sg oa (aL G 1 f)) u)) (30 + i * 40) (700 + i * 1300) 743 (lL b px h oa i) [] := by
  obtain ⟨pI, pO, pX, n, ia, nm, ctt, lv, lo, fa, fb, fm, O, X, cp, ru, sc, ai, al, hI, hP, hF, hJ, hM, hD, h16, h17, -⟩ := hLR
  have hvs := (hd.jr hd1).1
  have hdA := (hd.jr hd1).2.jl hd1
  first | refine v_aload_n hc (i := 1) rfl dL_law_743 rfl ?_ | refine v_aload_nN hc (i := 1) rfl dL_law_743 rfl ?_
  refine v_w jn_assoc ?_
  refine v_frVi hc hdA (c_X3_reused hP) (cwV 0 hc.1.2.2.2.2 gL_law_X3_reused rfl rfl rfl (by decide +kernel) ⟨Nat.le_of_ble_eq_true rfl, Nat.le_of_ble_eq_true rfl⟩) hP.1 rfl rfl rfl (Nat.le_of_ble_eq_true rfl) ⟨by show _ ≤ 601024; omega, by show _ ≤ 7293034; omega⟩ dL_law_744 (fun r5 u2 hp hdB => ?_)
  have hd12 := dj.jl2 hvs hdB
  have hd3 := hvs.jn hdB.jl'
  refine v_w jn_assoc.symm ?_
  first | refine v_aload_n hc (i := 2) rfl dL_law_747 rfl ?_ | refine v_aload_nN hc (i := 2) rfl dL_law_747 rfl ?_
  refine v_w (jn_comm hd3) ?_
  refine v_frVi hc hd3.symm (c_X4_reused hM) (cwV 0 hc.1.2.2.2.2 gL_law_X4_reused rfl rfl rfl (by decide +kernel) ⟨Nat.le_of_ble_eq_true rfl, Nat.le_of_ble_eq_true rfl⟩) hM.1 rfl rfl rfl (Nat.le_of_ble_eq_true rfl) ⟨by show _ ≤ 601024; omega, by show _ ≤ 7293034; omega⟩ dL_law_748 (fun r6 vm2 hp2 hdv => ?_)
  obtain ⟨rfl, rfl⟩ := hp
  obtain ⟨hM2, rfl⟩ := hp2
  have hLR2 : LR G u vm2 px h ad (fun _ => True) := (lr_same hI hP hF hJ hD h16 h17 hM2).mono (fun _ _ => trivial)
  refine v_icmp_eq hc (tgt := 1442) dL_law_751 (by decide) (fun _ => ?_) (fun z => absurd h17.symm z)
  refine v_widen (k' := 30 + (i + 4) * 40) (n' := 700 + (i + 4) * 1300) (by omega) (by omega) ?_
  refine v_w (jn_comm hdv) ?_
  exact ct _ _ f _ rfl hLR2 hdv.symm hd12
set_option maxRecDepth 100000 in
set_option maxHeartbeats 4000000 in
theorem k_forms (hl : l.stackTraces = false) (hc : cxt p s m #[Value.ref b] meth c cL_law 8 RL wsL_law G (lA s)) (hr : meth.sig.returnType = ret) (hX : va_X b N xs s s.heap) (hbl : b < s.heap.size) (hN : N ≤ 2048) (hi : i + 4 ≤ N) (hLR : LR G u vm px h ad (fun _ => True)) (hd : dj vm (jn (sg oa (aL G 1 f)) u)) (hd1 : dj (sg oa (aL G 1 f)) u) (ct : CT p l e s m b below meth c G px h oa ad i) : LV p l e s m b below meth c G (jn vm (jn (sg oa (aL G 1 f)) u)) (30 + i * 40) (700 + i * 1300) 756 (lL b px h oa i) [] := by
  obtain ⟨pI, pO, pX, n, ia, nm, ctt, lv, lo, fa, fb, fm, O, X, cp, ru, sc, ai, al, hI, hP, hF, hJ, hM, hD, h16, h17, -⟩ := hLR
  have hvs := (hd.jr hd1).1
  have hdA := (hd.jr hd1).2.jl hd1
  first | refine v_aload_n hc (i := 1) rfl dL_law_756 rfl ?_ | refine v_aload_nN hc (i := 1) rfl dL_law_756 rfl ?_
  refine v_w jn_assoc ?_
  refine v_frVi hc hdA (c_X3_forms hP) (cwV 0 hc.1.2.2.2.2 gL_law_X3_forms rfl rfl rfl (by decide +kernel) ⟨Nat.le_of_ble_eq_true rfl, Nat.le_of_ble_eq_true rfl⟩) hP.1 rfl rfl rfl (Nat.le_of_ble_eq_true rfl) ⟨by show _ ≤ 601024; omega, by show _ ≤ 7293034; omega⟩ dL_law_757 (fun r5 u2 hp hdB => ?_)
  have hd12 := dj.jl2 hvs hdB
  have hd3 := hvs.jn hdB.jl'
  refine v_w jn_assoc.symm ?_
  first | refine v_aload_n hc (i := 2) rfl dL_law_760 rfl ?_ | refine v_aload_nN hc (i := 2) rfl dL_law_760 rfl ?_
  refine v_w (jn_comm hd3) ?_
  refine v_frVi hc hd3.symm (c_X4_forms_ hM hD) (cwV 0 hc.1.2.2.2.2 gL_law_X4_forms_ rfl rfl rfl (by decide +kernel) ⟨Nat.le_of_ble_eq_true rfl, Nat.le_of_ble_eq_true rfl⟩) hM.1 rfl rfl rfl (Nat.le_of_ble_eq_true rfl) ⟨by show _ ≤ 601024; omega, by show _ ≤ 7293034; omega⟩ dL_law_761 (fun r6 vm2 hp2 hdv => ?_)
  obtain ⟨rfl, rfl⟩ := hp
  obtain ⟨hM2, rfl⟩ := hp2
  have hLR2 : LR G u vm2 px h ad (fun _ => True) := (lr_same hI hP hF hJ hD h16 h17 hM2).mono (fun _ _ => trivial)
  refine v_icmp_eq hc (tgt := 1442) dL_law_764 (by decide) (fun _ => ?_) (fun z => absurd (by rw [len_O hI]) z)
  refine v_widen (k' := 30 + (i + 4) * 40) (n' := 700 + (i + 4) * 1300) (by omega) (by omega) ?_
  refine v_w (jn_comm hdv) ?_
  exact ct _ _ f _ rfl hLR2 hdv.symm hd12
set_option maxRecDepth 100000 in
set_option maxHeartbeats 4000000 in
theorem k_cost (hl : l.stackTraces = false) (hc : cxt p s m #[Value.ref b] meth c cL_law 8 RL wsL_law G (lA s)) (hr : meth.sig.returnType = ret) (hX : va_X b N xs s s.heap) (hbl : b < s.heap.size) (hN : N ≤ 2048) (hi : i + 4 ≤ N) (hLR : LR G u vm px h ad (fun _ => True)) (hd : dj vm (jn (sg oa (aL G 1 f)) u)) (hd1 : dj (sg oa (aL G 1 f)) u) (ct : CT p l e s m b below meth c G px h oa ad i) : LV p l e s m b below meth c G (jn vm (jn (sg oa (aL G 1 f)) u)) (30 + i * 40) (700 + i * 1300) 769 (lL b px h oa i) [] := by
  obtain ⟨pI, pO, pX, n, ia, nm, ctt, lv, lo, fa, fb, fm, O, X, cp, ru, sc, ai, al, hI, hP, hF, hJ, hM, hD, h16, h17, -⟩ := hLR
  have hvs := (hd.jr hd1).1
  have hdA := (hd.jr hd1).2.jl hd1
  first | refine v_aload_n hc (i := 1) rfl dL_law_769 rfl ?_ | refine v_aload_nN hc (i := 1) rfl dL_law_769 rfl ?_
  refine v_w jn_assoc ?_
  refine v_frVi hc hdA (c_X3_cost hP hF) (cwV 0 hc.1.2.2.2.2 gL_law_X3_cost rfl rfl rfl (by decide +kernel) ⟨Nat.le_of_ble_eq_true rfl, Nat.le_of_ble_eq_true rfl⟩) hP.1 rfl rfl rfl (Nat.le_of_ble_eq_true rfl) ⟨by show _ ≤ 601024; omega, by show _ ≤ 7293034; omega⟩ dL_law_770 (fun r5 u2 hp hdB => ?_)
  have hd12 := dj.jl2 hvs hdB
  have hd3 := hvs.jn hdB.jl'
  refine v_w jn_assoc.symm ?_
  first | refine v_aload_n hc (i := 2) rfl dL_law_773 rfl ?_ | refine v_aload_nN hc (i := 2) rfl dL_law_773 rfl ?_
  refine v_w (jn_comm hd3) ?_
  refine v_frVi hc hd3.symm (c_X4_cost hM hD) (cwV 0 hc.1.2.2.2.2 gL_law_X4_cost rfl rfl rfl (by decide +kernel) ⟨Nat.le_of_ble_eq_true rfl, Nat.le_of_ble_eq_true rfl⟩) hM.1 rfl rfl rfl (Nat.le_of_ble_eq_true rfl) ⟨by show _ ≤ 601024; omega, by show _ ≤ 7293034; omega⟩ dL_law_774 (fun r6 vm2 hp2 hdv => ?_)
  obtain ⟨rfl, rfl⟩ := hp
  obtain ⟨hM2, rfl⟩ := hp2
  have hLR2 : LR G u vm2 px h ad (fun _ => True) := (lr_same hI hP hF hJ hD h16 h17 hM2).mono (fun _ _ => trivial)
  refine v_icmp_eq hc (tgt := 1442) dL_law_777 (by decide) (fun _ => ?_) (fun z => absurd (by rw [sumO hI _ (fun j hj => cst_0 hj)]) z)
  refine v_widen (k' := 30 + (i + 4) * 40) (n' := 700 + (i + 4) * 1300) (by omega) (by omega) ?_
  refine v_w (jn_comm hdv) ?_
  exact ct _ _ f _ rfl hLR2 hdv.symm hd12
set_option maxRecDepth 100000 in
set_option maxHeartbeats 4000000 in
theorem k_pack (hl : l.stackTraces = false) (hc : cxt p s m #[Value.ref b] meth c cL_law 8 RL wsL_law G (lA s)) (hr : meth.sig.returnType = ret) (hX : va_X b N xs s s.heap) (hbl : b < s.heap.size) (hN : N ≤ 2048) (hi : i + 4 ≤ N) (hLR : LR G u vm px h ad (fun _ => True)) (hd : dj vm (jn (sg oa (aL G 1 f)) u)) (hd1 : dj (sg oa (aL G 1 f)) u) (ct : CT p l e s m b below meth c G px h oa ad i) : LV p l e s m b below meth c G (jn vm (jn (sg oa (aL G 1 f)) u)) (30 + i * 40) (700 + i * 1300) 565 (lL b px h oa i) [] := by
  obtain ⟨pI, pO, pX, n, ia, nm, ctt, lv, lo, fa, fb, fm, O, X, cp, ru, sc, ai, al, hI, hP, hF, hJ, hM, hD, h16, h17, -⟩ := hLR
  first | refine v_aload_n hc (i := 1) rfl dL_law_565 rfl ?_ | refine v_aload_nN hc (i := 1) rfl dL_law_565 rfl ?_
  first | refine v_aload_n hc (i := 0) rfl dL_law_566 rfl ?_ | refine v_aload_nN hc (i := 0) rfl dL_law_566 rfl ?_
  refine v_iload hc dL_law_567 rfl ?_
  refine v_iconst hc (v := nI 1) dL_law_569 (by decide) ?_
  first | refine v_iaddN hc dL_law_570 ?_ | refine v_iadd hc dL_law_570 ?_
  refine v_sld hc hX hbl (by omega) hN dL_law_571 ?_
  first | refine v_aload_n hc (i := 0) rfl dL_law_572 rfl ?_ | refine v_aload_nN hc (i := 0) rfl dL_law_572 rfl ?_
  refine v_iload hc dL_law_573 rfl ?_
  refine v_iconst hc (v := nI 2) dL_law_575 (by decide) ?_
  first | refine v_iaddN hc dL_law_576 ?_ | refine v_iadd hc dL_law_576 ?_
  refine v_sld hc hX hbl (by omega) hN dL_law_577 ?_
  first | refine v_aload_n hc (i := 0) rfl dL_law_578 rfl ?_ | refine v_aload_nN hc (i := 0) rfl dL_law_578 rfl ?_
  refine v_iload hc dL_law_579 rfl ?_
  refine v_iconst hc (v := nI 3) dL_law_581 (by decide) ?_
  first | refine v_iaddN hc dL_law_582 ?_ | refine v_iadd hc dL_law_582 ?_
  refine v_sld hc hX hbl (by omega) hN dL_law_583 ?_
  refine v_if_eq hc (tgt := 591) dL_law_584 (by decide) (fun z0 => ?_) (fun z0 => ?_)
  · refine v_iconst hc (v := nI 0) dL_law_591 (by decide) ?_
    refine v_ti (show _ = bI false from rfl) ?_
    first | refine v_aload_n hc (i := 3) rfl dL_law_592 rfl ?_ | refine v_aload_nN hc (i := 3) rfl dL_law_592 rfl ?_
    refine v_frSWi hc hd (c_L_pack (l := l) hd1 hP.1 _ _ _ (fun A => c_X3_pack hl hP hF hI.2.1 hI.2.2.1 hI.1 _ _ false) (fun E u' hx => hx.2.1)) (vx_cwSW 5 hc.1.2.2.2.2 gL_law_L_pack rfl rfl rfl (by decide +kernel) ⟨Nat.le_of_ble_eq_true rfl, Nat.le_of_ble_eq_true rfl⟩) rfl rfl (Nat.le_of_ble_eq_true rfl) ⟨by show _ ≤ 601024; omega, by show _ ≤ 7293034; omega⟩ dL_law_593 (fun r5 w9 hp hd9 => ?_)
    obtain ⟨u2, f2, hd2, rfl, h1⟩ := hp
    refine v_istore hc dL_law_596 (by decide) rfl ?_
    first | refine v_aload_n hc (i := 2) rfl dL_law_598 rfl ?_ | refine v_aload_nN hc (i := 2) rfl dL_law_598 rfl ?_
    first | refine v_aload_n hc (i := 0) rfl dL_law_599 rfl ?_ | refine v_aload_nN hc (i := 0) rfl dL_law_599 rfl ?_
    refine v_iload hc dL_law_600 rfl ?_
    refine v_iconst hc (v := nI 1) dL_law_602 (by decide) ?_
    first | refine v_iaddN hc dL_law_603 ?_ | refine v_iadd hc dL_law_603 ?_
    refine v_sld hc hX hbl (by omega) hN dL_law_604 ?_
    first | refine v_aload_n hc (i := 0) rfl dL_law_605 rfl ?_ | refine v_aload_nN hc (i := 0) rfl dL_law_605 rfl ?_
    refine v_iload hc dL_law_606 rfl ?_
    refine v_iconst hc (v := nI 2) dL_law_608 (by decide) ?_
    first | refine v_iaddN hc dL_law_609 ?_ | refine v_iadd hc dL_law_609 ?_
    refine v_sld hc hX hbl (by omega) hN dL_law_610 ?_
    first | refine v_aload_n hc (i := 0) rfl dL_law_611 rfl ?_ | refine v_aload_nN hc (i := 0) rfl dL_law_611 rfl ?_
    refine v_iload hc dL_law_612 rfl ?_
    refine v_iconst hc (v := nI 3) dL_law_614 (by decide) ?_
    first | refine v_iaddN hc dL_law_615 ?_ | refine v_iadd hc dL_law_615 ?_
    refine v_sld hc hX hbl (by omega) hN dL_law_616 ?_
    refine v_if_eq hc (tgt := 624) dL_law_617 (by decide) (fun _ => ?_) (fun z => absurd z0 z)
    refine v_iconst hc (v := nI 0) dL_law_624 (by decide) ?_
    refine v_ti (show _ = bI false from rfl) ?_
    refine v_w (jn_comm hd9) ?_
    refine v_frVi hc hd9.symm (c_X4_pack hM hD hI.2.1 hI.1 _ _ false) (cwV 3 hc.1.2.2.2.2 gL_law_X4_pack rfl rfl rfl (by decide +kernel) ⟨Nat.le_of_ble_eq_true rfl, Nat.le_of_ble_eq_true rfl⟩) hM.1 rfl rfl rfl (Nat.le_of_ble_eq_true rfl) ⟨by show _ ≤ 601024; omega, by show _ ≤ 7293034; omega⟩ dL_law_625 (fun r6 vm2 hp2 hdv => ?_)
    obtain ⟨⟨qI, qO, qX, n2, ia2, nm2, ct2, lv2, lo2, fa2, fb2, fm2, O2, X2, cp2, ru2, sc2, ai2, al2, hI2, hP2, hF2, hJ2, hM2, hD2, h162, h172, h24⟩, hxy⟩ := ag_pack hI hP hF hJ hD h16 h17 _ _ _ h1 hp2
    have hLR2 : LR G u2 vm2 px h ad (fun _ => True) := ⟨qI, qO, qX, n2, ia2, nm2, ct2, lv2, lo2, fa2, fb2, fm2, O2, X2, cp2, ru2, sc2, ai2, al2, hI2, hP2, hF2, hJ2, hM2, hD2, h162, h172, trivial⟩
    refine v_istore hc dL_law_628 (by decide) rfl ?_
    first | refine v_aload_n hc (i := 2) rfl dL_law_630 rfl ?_ | refine v_aload_nN hc (i := 2) rfl dL_law_630 rfl ?_
    refine v_frVi hc hdv (c_X4_thrown hM2) (cwV 0 hc.1.2.2.2.2 gL_law_X4_thrown rfl rfl rfl (by decide +kernel) ⟨Nat.le_of_ble_eq_true rfl, Nat.le_of_ble_eq_true rfl⟩) hM2.1 rfl rfl rfl (Nat.le_of_ble_eq_true rfl) ⟨by show _ ≤ 601024; omega, by show _ ≤ 7293034; omega⟩ dL_law_631 (fun th vm3 hp3 hdv => ?_)
    obtain ⟨rfl, rfl⟩ := hp3
    rw [h24]
    refine v_iload hc dL_law_634 rfl ?_
    refine v_icmp_eq hc (tgt := 641) dL_law_636 (by decide) (fun _ => ?_) (fun z => absurd rfl z)
    refine v_iload hc dL_law_641 rfl ?_
    refine v_if_ne hc (tgt := 658) dL_law_643 (by decide) (fun _ => ?_) (fun z => ?_)
    · refine v_goto hc (tgt := 1442) dL_law_658 (by decide) ?_
      refine v_widen (k' := 30 + (i + 4) * 40) (n' := 700 + (i + 4) * 1300) (by omega) (by omega) ?_
      refine v_w (jn_comm hdv) ?_
      exact ct u2 _ f2 _ rfl hLR2 hdv.symm hd2
    · have hxy := hxy (by first | exact z | exact Classical.byContradiction z)
      first | refine v_aload_n hc (i := 3) rfl dL_law_646 rfl ?_ | refine v_aload_nN hc (i := 3) rfl dL_law_646 rfl ?_
      refine v_iconst hc (v := nI 0) dL_law_647 (by decide) ?_
      refine v_lald hc (0) dL_law_648 (jn_l (jn_l (sg_s _ _))) rfl (by decide) (by decide) ?_
      refine v_iload hc dL_law_649 rfl ?_
      refine v_i2l hc dL_law_651 ?_
      refine v_lcmp hc dL_law_652 ?_
      refine v_ifL_eq hc (tgt := 658) dL_law_653 (by decide) (fun _ => ?_) (fun z => absurd hxy z)
      refine v_goto hc (tgt := 1442) dL_law_658 (by decide) ?_
      refine v_widen (k' := 30 + (i + 4) * 40) (n' := 700 + (i + 4) * 1300) (by omega) (by omega) ?_
      refine v_w (jn_comm hdv) ?_
      exact ct u2 _ f2 _ rfl hLR2 hdv.symm hd2
  · refine v_iconst hc (v := nI 1) dL_law_587 (by decide) ?_
    refine v_ti (show _ = bI true from rfl) ?_
    refine v_goto hc (tgt := 592) dL_law_588 (by decide) ?_
    first | refine v_aload_n hc (i := 3) rfl dL_law_592 rfl ?_ | refine v_aload_nN hc (i := 3) rfl dL_law_592 rfl ?_
    refine v_frSWi hc hd (c_L_pack (l := l) hd1 hP.1 _ _ _ (fun A => c_X3_pack hl hP hF hI.2.1 hI.2.2.1 hI.1 _ _ true) (fun E u' hx => hx.2.1)) (vx_cwSW 5 hc.1.2.2.2.2 gL_law_L_pack rfl rfl rfl (by decide +kernel) ⟨Nat.le_of_ble_eq_true rfl, Nat.le_of_ble_eq_true rfl⟩) rfl rfl (Nat.le_of_ble_eq_true rfl) ⟨by show _ ≤ 601024; omega, by show _ ≤ 7293034; omega⟩ dL_law_593 (fun r5 w9 hp hd9 => ?_)
    obtain ⟨u2, f2, hd2, rfl, h1⟩ := hp
    refine v_istore hc dL_law_596 (by decide) rfl ?_
    first | refine v_aload_n hc (i := 2) rfl dL_law_598 rfl ?_ | refine v_aload_nN hc (i := 2) rfl dL_law_598 rfl ?_
    first | refine v_aload_n hc (i := 0) rfl dL_law_599 rfl ?_ | refine v_aload_nN hc (i := 0) rfl dL_law_599 rfl ?_
    refine v_iload hc dL_law_600 rfl ?_
    refine v_iconst hc (v := nI 1) dL_law_602 (by decide) ?_
    first | refine v_iaddN hc dL_law_603 ?_ | refine v_iadd hc dL_law_603 ?_
    refine v_sld hc hX hbl (by omega) hN dL_law_604 ?_
    first | refine v_aload_n hc (i := 0) rfl dL_law_605 rfl ?_ | refine v_aload_nN hc (i := 0) rfl dL_law_605 rfl ?_
    refine v_iload hc dL_law_606 rfl ?_
    refine v_iconst hc (v := nI 2) dL_law_608 (by decide) ?_
    first | refine v_iaddN hc dL_law_609 ?_ | refine v_iadd hc dL_law_609 ?_
    refine v_sld hc hX hbl (by omega) hN dL_law_610 ?_
    first | refine v_aload_n hc (i := 0) rfl dL_law_611 rfl ?_ | refine v_aload_nN hc (i := 0) rfl dL_law_611 rfl ?_
    refine v_iload hc dL_law_612 rfl ?_
    refine v_iconst hc (v := nI 3) dL_law_614 (by decide) ?_
    first | refine v_iaddN hc dL_law_615 ?_ | refine v_iadd hc dL_law_615 ?_
    refine v_sld hc hX hbl (by omega) hN dL_law_616 ?_
    refine v_if_eq hc (tgt := 624) dL_law_617 (by decide) (fun z => absurd z z0) (fun _ => ?_)
    refine v_iconst hc (v := nI 1) dL_law_620 (by decide) ?_
    refine v_ti (show _ = bI true from rfl) ?_
    refine v_goto hc (tgt := 625) dL_law_621 (by decide) ?_
    refine v_w (jn_comm hd9) ?_
    refine v_frVi hc hd9.symm (c_X4_pack hM hD hI.2.1 hI.1 _ _ true) (cwV 3 hc.1.2.2.2.2 gL_law_X4_pack rfl rfl rfl (by decide +kernel) ⟨Nat.le_of_ble_eq_true rfl, Nat.le_of_ble_eq_true rfl⟩) hM.1 rfl rfl rfl (Nat.le_of_ble_eq_true rfl) ⟨by show _ ≤ 601024; omega, by show _ ≤ 7293034; omega⟩ dL_law_625 (fun r6 vm2 hp2 hdv => ?_)
    obtain ⟨⟨qI, qO, qX, n2, ia2, nm2, ct2, lv2, lo2, fa2, fb2, fm2, O2, X2, cp2, ru2, sc2, ai2, al2, hI2, hP2, hF2, hJ2, hM2, hD2, h162, h172, h24⟩, hxy⟩ := ag_pack hI hP hF hJ hD h16 h17 _ _ _ h1 hp2
    have hLR2 : LR G u2 vm2 px h ad (fun _ => True) := ⟨qI, qO, qX, n2, ia2, nm2, ct2, lv2, lo2, fa2, fb2, fm2, O2, X2, cp2, ru2, sc2, ai2, al2, hI2, hP2, hF2, hJ2, hM2, hD2, h162, h172, trivial⟩
    refine v_istore hc dL_law_628 (by decide) rfl ?_
    first | refine v_aload_n hc (i := 2) rfl dL_law_630 rfl ?_ | refine v_aload_nN hc (i := 2) rfl dL_law_630 rfl ?_
    refine v_frVi hc hdv (c_X4_thrown hM2) (cwV 0 hc.1.2.2.2.2 gL_law_X4_thrown rfl rfl rfl (by decide +kernel) ⟨Nat.le_of_ble_eq_true rfl, Nat.le_of_ble_eq_true rfl⟩) hM2.1 rfl rfl rfl (Nat.le_of_ble_eq_true rfl) ⟨by show _ ≤ 601024; omega, by show _ ≤ 7293034; omega⟩ dL_law_631 (fun th vm3 hp3 hdv => ?_)
    obtain ⟨rfl, rfl⟩ := hp3
    rw [h24]
    refine v_iload hc dL_law_634 rfl ?_
    refine v_icmp_eq hc (tgt := 641) dL_law_636 (by decide) (fun _ => ?_) (fun z => absurd rfl z)
    refine v_iload hc dL_law_641 rfl ?_
    refine v_if_ne hc (tgt := 658) dL_law_643 (by decide) (fun _ => ?_) (fun z => ?_)
    · refine v_goto hc (tgt := 1442) dL_law_658 (by decide) ?_
      refine v_widen (k' := 30 + (i + 4) * 40) (n' := 700 + (i + 4) * 1300) (by omega) (by omega) ?_
      refine v_w (jn_comm hdv) ?_
      exact ct u2 _ f2 _ rfl hLR2 hdv.symm hd2
    · have hxy := hxy (by first | exact z | exact Classical.byContradiction z)
      first | refine v_aload_n hc (i := 3) rfl dL_law_646 rfl ?_ | refine v_aload_nN hc (i := 3) rfl dL_law_646 rfl ?_
      refine v_iconst hc (v := nI 0) dL_law_647 (by decide) ?_
      refine v_lald hc (0) dL_law_648 (jn_l (jn_l (sg_s _ _))) rfl (by decide) (by decide) ?_
      refine v_iload hc dL_law_649 rfl ?_
      refine v_i2l hc dL_law_651 ?_
      refine v_lcmp hc dL_law_652 ?_
      refine v_ifL_eq hc (tgt := 658) dL_law_653 (by decide) (fun _ => ?_) (fun z => absurd hxy z)
      refine v_goto hc (tgt := 1442) dL_law_658 (by decide) ?_
      refine v_widen (k' := 30 + (i + 4) * 40) (n' := 700 + (i + 4) * 1300) (by omega) (by omega) ?_
      refine v_w (jn_comm hdv) ?_
      exact ct u2 _ f2 _ rfl hLR2 hdv.symm hd2
end LAWD
