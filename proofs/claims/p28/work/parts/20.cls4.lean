/-! ===== the class: look-up, and what writes ===== -/
theorem v_w {p : Program} {l : Launch} {e : Env} {R : Room} {s : State} {m : MethodId} {args : Array Value} {below : List Frame} {meth : Method} {c : Code} {nL : Nat} {G : cG} {A : Nat → Prop} {Q : State → Prop} {w w' : wd} {k n pc : Nat} {L : vLT} {st : List Value} (h : w = w') (kk : V p l e R s m args below meth c nL G A Q w' k n pc L st) : V p l e R s m args below meth c nL G A Q w k n pc L st := by rw [h]; exact kk
def lkp (f : Nat → Nat) (h : Nat) : Nat → Nat → Nat → Nat → Option Nat × Nat
  | 0, _, _, c => (none, c)
  | k + 1, lo, hi, c => if lo < hi then (if f ((lo + hi) / 2) = h then (some ((lo + hi) / 2), c + 1) else if f ((lo + hi) / 2) < h then lkp f h k ((lo + hi) / 2 + 1) hi (c + 1) else lkp f h k lo ((lo + hi) / 2) (c + 1)) else (none, c)
/-- the place that is found, how many were looked at -/
def lku (ct : Nat → Int64) (X : List Nat) (h : Nat) : Option Nat × Nat := lkp (fun i => hso ct (X.getD i 0)) h X.length (blw ct X (h - h % 256)) (blw ct X (h - h % 256 + 256)) 0
theorem lkp_lt {f : Nat → Nat} {h : Nat} : ∀ {k lo hi c : Nat}, ∀ p, (lkp f h k lo hi c).1 = some p → p < hi
  | 0, _, _, _, p, e => by cases e
  | k + 1, lo, hi, c, p, e => by
    unfold lkp at e
    split at e
    · split at e
      · cases e; omega
      · split at e
        · exact lkp_lt p e
        · exact Nat.lt_trans (lkp_lt p e) (by omega)
    · cases e
theorem sumL_le {f g : Nat → Nat} (h : ∀ i, f i ≤ g i) : ∀ L : List Nat, sumL f L ≤ sumL g L
  | [] => Nat.le_refl _
  | x :: t => Nat.add_le_add (h x) (sumL_le h t)
theorem blw_le (ct : Nat → Int64) (X : List Nat) (h : Nat) : blw ct X h ≤ X.length := sumL_b1_le _ X
theorem blw_mono {ct : Nat → Int64} {X : List Nat} {a b : Nat} (h : a ≤ b) : blw ct X a ≤ blw ct X b := by
  refine sumL_le (fun i => ?_) X
  unfold b1
  by_cases h1 : hso ct i < a
  · rw [decide_eq_true h1, decide_eq_true (Nat.lt_of_lt_of_le h1 h)]; exact Nat.le_refl _
  · rw [decide_eq_false h1]; exact Nat.zero_le _
section CL4
variable {l : Launch} {G : cG} {A : Nat → Prop} {w : wd} {px pI pO pX n : Nat} {ia : Nat → Nat} {nm : Nat → Int32} {ct : Nat → Int64} {lv lo : Nat → Bool} {fa fb : Nat → Option Nat} {fm : Nat → Option Frm} {O X : List Nat} {cp ru : Int32}
def lkv (ia : Nat → Nat) (X : List Nat) (a : Option Nat × Nat) : List Value := [va_rf (a.1.map (fun p => ia (X.getD p 0))), .int (nI a.2)]
set_option maxRecDepth 100000 in
set_option maxHeartbeats 4000000 in
theorem c_X3_lookUp (hl : l.stackTraces = false) (hP : PC G w px pI pO pX n ia nm ct lv lo fa fb O X cp ru) (o : Int32) : vx_Met l yX3_lookUp wsX3_lookUp ({ frames := 12, cells := 1, slots := 6, locals := 207 } : Room) (Pw G A w [.ref px, .int o]) (va_Qq (fun r w' => ∃ h q, h < 4096 ∧ o = nI h ∧ w q = none ∧ r = some q ∧ w' = wup w q (.inr (5, lkv ia X (lku ct X h)))) (Bw G A) A) (XW G A (fun E w' => w = w' ∧ E = xIA ∧ isO 4096 o = false)) 1 6 A := by
  refine m_ofX (cc := cX3_lookUp) (maxL := 9) (ret := (some (.object "Packstack$Lookup"))) (by decide) rfl (Nat.le_of_ble_eq_true rfl) ?_
  intro p e s m args below meth c hc hr hout
  refine v_loc [(0, some (.ref px)), (1, some (.int o))] rfl ?_
  obtain ⟨vs, haX⟩ := hP.alX
  have hx := hP.x40
  have thr : isO 4096 o = false → V p l e ({ frames := 12, cells := 1, slots := 6, locals := 207 } : Room) s m args below meth c 9 G A (vx_MQ below (va_Qq (fun r w' => ∃ h q, h < 4096 ∧ o = nI h ∧ w q = none ∧ r = some q ∧ w' = wup w q (.inr (5, lkv ia X (lku ct X h)))) (Bw G A) A) (XW G A (fun E w' => w = w' ∧ E = xIA ∧ isO 4096 o = false)) args s 1 6 A) w 0 0 11 [(0, some (.ref px)), (1, some (.int o))] [] := by
    intro h0
    exact v_throw hc hl hout (cls := "java/lang/IllegalArgumentException") (text := "the hash is out of range") (by decide +kernel) (by decide +kernel) (by decide +kernel) (by decide +kernel) (by decide +kernel) (by decide +kernel) (by decide +kernel) dX3_lookUp_11 dX3_lookUp_14 dX3_lookUp_15 dX3_lookUp_17 dX3_lookUp_20 (Nat.le_of_ble_eq_true rfl) (Nat.le_of_ble_eq_true rfl) (by first | exact Nat.le_of_ble_eq_true rfl | omega | (dsimp only; omega)) (by first | exact Nat.le_of_ble_eq_true rfl | omega | (dsimp only; omega)) (by first | exact Nat.le_of_ble_eq_true rfl | omega | (dsimp only; omega)) (by first | exact Nat.le_of_ble_eq_true rfl | omega | (dsimp only; omega)) (⟨rfl, rfl, h0⟩)
  have ne4 : ¬ (∃ i, i < 4096 ∧ o = nI i) → isO 4096 o = false := by
    intro h
    cases hc4 : isO 4096 o with
    | false => rfl
    | true =>
      refine absurd ?_ h
      unfold isO at hc4
      simp only [decide_eq_true_eq] at hc4
      refine ⟨o.toInt.toNat, by omega, Int32.toInt_inj.mp ?_⟩
      rw [nI_toInt (by omega)]
      omega
  refine v_iload_n hc (i := 1) rfl dX3_lookUp_0 rfl ?_
  refine v_if_lt hc (tgt := 11) dX3_lookUp_1 (by decide) (fun hb => ?_) (fun hb => ?_)
  · refine thr (ne4 (fun ⟨i, hi, e⟩ => ?_))
    subst e
    exact nI_pos (by omega) hb
  · obtain ⟨h, hh, rfl⟩ := nI_of hb
    refine v_iload_n hc (i := 1) rfl dX3_lookUp_4 rfl ?_
    refine v_sipush hc (v := nI 4096) dX3_lookUp_5 (by decide) ?_
    refine v_icmp_ltN hc (tgt := 21) dX3_lookUp_8 (by decide) (by omega) (by omega) (fun h2 => ?_) (fun h2 => ?_)
    · refine v_new hc (ci := 5) (fs := [.null, .int 0]) rfl tyX2 tyX2_ok (by decide +kernel) (by decide +kernel) (by decide +kernel) (by decide +kernel) (fun j hj => by rcases (show j = 0 ∨ j = 1 by omega) with rfl | rfl <;> rfl) (by first | exact Nat.le_of_ble_eq_true rfl | omega | (dsimp only; omega)) (by first | exact Nat.le_of_ble_eq_true rfl | omega | (dsimp only; omega)) dX3_lookUp_21 (fun q hq hqA => ?_)
      refine v_dup hc dX3_lookUp_24 rfl ?_
      refine v_callIv hc (c_X2_init (wup_s _ _ _)) (cwI 0 hc.1.2.2.2.2 gX3_lookUp_X2_init rfl rfl rfl (hc.1.2.2.2.2 (.initialized yX2_init.cls) (by decide +kernel)) (hc.1.2.2.2.2 (.methodLink RX3 236 yX2_init) (by decide +kernel)) (hc.1.2.2.2.2 (.instanceMethod yX2_init) (by decide +kernel)) rfl (by decide +kernel) ⟨Nat.le_of_ble_eq_true rfl, Nat.le_of_ble_eq_true rfl⟩) rfl rfl (Nat.le_of_ble_eq_true rfl) ⟨(by first | exact Nat.le_of_ble_eq_true rfl | omega | (dsimp only; omega)), (by first | exact Nat.le_of_ble_eq_true rfl | omega | (dsimp only; omega))⟩ dX3_lookUp_25 (fun w' hp => ?_)
      subst hp
      rw [wup_up]
      have hP2 : ∀ e, PC G (wup w q e) px pI pO pX n ia nm ct lv lo fa fb O X cp ru := fun e => hP.le (wle_new hq e)
      first | refine v_astore_n hc (i := 2) rfl dX3_lookUp_28 (by decide) rfl ?_ | refine v_astore_nN hc (i := 2) rfl dX3_lookUp_28 (by decide) rfl ?_
      refine v_iload_n hc (i := 1) rfl dX3_lookUp_29 rfl ?_
      refine v_iload_n hc (i := 1) rfl dX3_lookUp_30 rfl ?_
      refine v_sipush hc (v := nI 256) dX3_lookUp_31 (by decide) ?_
      refine v_irem hc (by decide) dX3_lookUp_34 ?_
      refine v_ti (pk_rem (by omega) (by decide) (by decide)) ?_
      first | refine v_isubN hc (by omega) dX3_lookUp_35 ?_ | refine v_isub hc dX3_lookUp_35 ?_
      refine v_istore_n hc (i := 3) rfl dX3_lookUp_36 (by decide) rfl ?_
      first | refine v_aload_n hc (i := 0) rfl dX3_lookUp_37 rfl ?_ | refine v_aload_nN hc (i := 0) rfl dX3_lookUp_37 rfl ?_
      refine v_iload_n hc (i := 3) rfl dX3_lookUp_38 rfl ?_
      refine v_callVi hc (c_X3_countHashesBelow (hP2 _) (h := h - h % 256) (by omega)) (cwV 1 hc.1.2.2.2.2 gX3_lookUp_X3_countHashesBelow rfl rfl rfl (by decide +kernel) ⟨Nat.le_of_ble_eq_true rfl, Nat.le_of_ble_eq_true rfl⟩) ((hP2 _).1) rfl rfl rfl (Nat.le_of_ble_eq_true rfl) ⟨(by first | exact Nat.le_of_ble_eq_true rfl | omega | (dsimp only; omega)), (by first | exact Nat.le_of_ble_eq_true rfl | omega | (dsimp only; omega))⟩ dX3_lookUp_39 (fun r w' hp => ?_)
      obtain ⟨rfl, rfl⟩ := hp
      refine v_istore hc dX3_lookUp_42 (by decide) rfl ?_
      first | refine v_aload_n hc (i := 0) rfl dX3_lookUp_44 rfl ?_ | refine v_aload_nN hc (i := 0) rfl dX3_lookUp_44 rfl ?_
      refine v_iload_n hc (i := 3) rfl dX3_lookUp_45 rfl ?_
      refine v_sipush hc (v := nI 256) dX3_lookUp_46 (by decide) ?_
      first | refine v_iaddN hc dX3_lookUp_49 ?_ | refine v_iadd hc dX3_lookUp_49 ?_
      refine v_callVi hc (c_X3_countHashesBelow (hP2 _) (h := h - h % 256 + 256) (by omega)) (cwV 1 hc.1.2.2.2.2 gX3_lookUp_X3_countHashesBelow rfl rfl rfl (by decide +kernel) ⟨Nat.le_of_ble_eq_true rfl, Nat.le_of_ble_eq_true rfl⟩) ((hP2 _).1) rfl rfl rfl (Nat.le_of_ble_eq_true rfl) ⟨(by first | exact Nat.le_of_ble_eq_true rfl | omega | (dsimp only; omega)), (by first | exact Nat.le_of_ble_eq_true rfl | omega | (dsimp only; omega))⟩ dX3_lookUp_50 (fun r w' hp => ?_)
      obtain ⟨rfl, rfl⟩ := hp
      have hb1 := blw_le ct X (h - h % 256)
      have hb2 := blw_le ct X (h - h % 256 + 256)
      refine v_istore hc dX3_lookUp_53 (by decide) rfl ?_
      refine v_iconst hc (v := nI 1) dX3_lookUp_55 (by decide) ?_
      refine v_istore hc dX3_lookUp_56 (by decide) rfl ?_
      have fin : ∀ (a : Option Nat × Nat) (L' : vLT), vl L' 2 = some (.ref q) → lku ct X h = a → V p l e ({ frames := 12, cells := 1, slots := 6, locals := 207 } : Room) s m args below meth c 9 G A (vx_MQ below (va_Qq (fun r w' => ∃ h', ∃ q, h' < 4096 ∧ nI h = nI h' ∧ w q = none ∧ r = some q ∧ w' = wup w q (.inr (5, lkv ia X (lku ct X h')))) (Bw G A) A) (XW G A (fun E w' => w = w' ∧ E = xIA ∧ isO 4096 (nI h) = false)) args s 1 6 A) (wup w q (.inr (5, lkv ia X a))) 1 2 169 L' [] := by
        intro a L' hL' ha
        refine v_aload_n hc (i := 2) rfl dX3_lookUp_169 hL' ?_
        refine v_xret ?_
        exact v_aret hc (some q) hr (by first | exact Or.inl ⟨_, rfl⟩ | exact Or.inr ⟨_, rfl⟩) rfl dX3_lookUp_170 (by first | exact Nat.le_of_ble_eq_true rfl | omega | (dsimp only; omega)) (by first | exact Nat.le_of_ble_eq_true rfl | omega | (dsimp only; omega)) (⟨h, q, h2, rfl, hq, rfl, by rw [ha]⟩)
      refine v_loop (σ := Nat × Nat × Nat) (fun a => (a.1 ≤ X.length ∧ a.2.2 + (a.2.1 - a.1) ≤ X.length) ∧ a.2.1 ≤ X.length ∧ lkp (fun i => hso ct (X.getD i 0)) h (X.length - a.2.2) a.1 a.2.1 a.2.2 = lku ct X h) (fun a => X.length - a.2.2) (fun a => wup w q (.inr (5, lkv ia X (none, a.2.2)))) (fun _ => 1) (fun _ => 2) (fun a => [(0, some (.ref px)), (1, some (.int (nI h))), (2, some (.ref q)), (4, some (.int (nI a.1))), (5, some (.int (nI a.2.1))), (6, some (.int (nI (a.2.2 + 1))))]) (blw ct X (h - h % 256), blw ct X (h - h % 256 + 256), 0) rfl ⟨by dsimp only; omega, hb2, rfl⟩ ?_
      rintro ⟨lw, hg, cn⟩ ⟨h3, h4, hI⟩ ih
      dsimp only at h3 h4 hI ih ⊢
      obtain ⟨h30, h3⟩ := h3
      have stop : ¬ lw < hg → lku ct X h = (none, cn) := fun z => by
        rw [← hI]
        cases hk : X.length - cn with
        | zero => rfl
        | succ k => show (if _ then _ else _) = _; rw [if_neg z]
      refine v_iload hc dX3_lookUp_58 rfl ?_
      first | refine v_aload_n hc (i := 0) rfl dX3_lookUp_60 rfl ?_ | refine v_aload_nN hc (i := 0) rfl dX3_lookUp_60 rfl ?_
      refine v_get hc 2 (ci := 6) rfl (by decide +kernel) (by decide) (by decide +kernel) (fun _ h => h) dX3_lookUp_61 ((hP2 _).1) rfl ?_
      refine v_callVi hc ((hP2 _).szX) (cwV 0 hc.1.2.2.2.2 gX3_lookUp_Jx4a65c_size_8abf5 rfl rfl rfl (by decide +kernel) ⟨Nat.le_of_ble_eq_true rfl, Nat.le_of_ble_eq_true rfl⟩) ((wle_new hq _) _ _ haX) rfl rfl rfl (Nat.le_of_ble_eq_true rfl) ⟨(by first | exact Nat.le_of_ble_eq_true rfl | omega | (dsimp only; omega)), (by first | exact Nat.le_of_ble_eq_true rfl | omega | (dsimp only; omega))⟩ dX3_lookUp_64 (fun r w' hp => ?_)
      obtain ⟨rfl, rfl⟩ := hp
      refine v_icmp_gtN hc (tgt := 169) dX3_lookUp_67 (by decide) (by omega) (by omega) (fun h5 => ?_) (fun h5 => ?_)
      · exact fin _ _ rfl (stop (by omega))
      · refine v_iconst hc (v := nI 0) dX3_lookUp_70 (by decide) ?_
        refine v_iload hc dX3_lookUp_71 rfl ?_
        refine v_icmp_gtN hc (tgt := 169) dX3_lookUp_73 (by decide) (by omega) (by omega) (fun h6 => ?_) (fun h6 => ?_)
        · omega
        · refine v_iload hc dX3_lookUp_76 rfl ?_
          refine v_iload hc dX3_lookUp_78 rfl ?_
          refine v_icmp_geN hc (tgt := 169) dX3_lookUp_80 (by decide) (by omega) (by omega) (fun h7 => ?_) (fun h7 => ?_)
          · exact fin _ _ rfl (stop (by omega))
          · refine v_iload hc dX3_lookUp_83 rfl ?_
            first | refine v_aload_n hc (i := 0) rfl dX3_lookUp_85 rfl ?_ | refine v_aload_nN hc (i := 0) rfl dX3_lookUp_85 rfl ?_
            refine v_get hc 2 (ci := 6) rfl (by decide +kernel) (by decide) (by decide +kernel) (fun _ h => h) dX3_lookUp_86 ((hP2 _).1) rfl ?_
            refine v_callVi hc ((hP2 _).szX) (cwV 0 hc.1.2.2.2.2 gX3_lookUp_Jx4a65c_size_8abf5 rfl rfl rfl (by decide +kernel) ⟨Nat.le_of_ble_eq_true rfl, Nat.le_of_ble_eq_true rfl⟩) ((wle_new hq _) _ _ haX) rfl rfl rfl (Nat.le_of_ble_eq_true rfl) ⟨(by first | exact Nat.le_of_ble_eq_true rfl | omega | (dsimp only; omega)), (by first | exact Nat.le_of_ble_eq_true rfl | omega | (dsimp only; omega))⟩ dX3_lookUp_89 (fun r w' hp => ?_)
            obtain ⟨rfl, rfl⟩ := hp
            refine v_icmp_gtN hc (tgt := 169) dX3_lookUp_92 (by decide) (by omega) (by omega) (fun h8 => ?_) (fun h8 => ?_)
            · omega
            · have hmid : (lw + hg) / 2 < X.length := by omega
              have hm := hP.2.2.2.2 _ (getD_mem hmid)
              have hit := (wle_new hq (.inr (5, lkv ia X (none, cn)))) _ _ (hP.2.1 _ hm)
              have hst : lku ct X h = if hso ct (X.getD ((lw + hg) / 2) 0) = h then (some ((lw + hg) / 2), cn + 1) else if hso ct (X.getD ((lw + hg) / 2) 0) < h then lkp (fun i => hso ct (X.getD i 0)) h (X.length - (cn + 1)) ((lw + hg) / 2 + 1) hg (cn + 1) else lkp (fun i => hso ct (X.getD i 0)) h (X.length - (cn + 1)) lw ((lw + hg) / 2) (cn + 1) := by
                rw [← hI, show X.length - cn = (X.length - (cn + 1)) + 1 by omega]
                show (if _ then _ else _) = _
                rw [if_pos (by omega)]
              have hhs : hsh (xN (ct (X.getD ((lw + hg) / 2) 0))) < 2 ^ 31 := Nat.lt_trans (hsh_lt _) (by decide)
              refine v_iload hc dX3_lookUp_95 rfl ?_
              refine v_iload hc dX3_lookUp_97 rfl ?_
              first | refine v_iaddN hc dX3_lookUp_99 ?_ | refine v_iadd hc dX3_lookUp_99 ?_
              refine v_iconst hc (v := nI 2) dX3_lookUp_100 (by decide) ?_
              refine v_idiv hc (by decide) dX3_lookUp_101 ?_
              refine v_ti (pk_div (by omega) (by decide) (by decide)) ?_
              refine v_istore hc dX3_lookUp_102 (by decide) rfl ?_
              first | refine v_aload_n hc (i := 0) rfl dX3_lookUp_104 rfl ?_ | refine v_aload_nN hc (i := 0) rfl dX3_lookUp_104 rfl ?_
              refine v_get hc 2 (ci := 6) rfl (by decide +kernel) (by decide) (by decide +kernel) (fun _ h => h) dX3_lookUp_105 ((hP2 _).1) rfl ?_
              refine v_iload hc dX3_lookUp_108 rfl ?_
              refine v_callVq hc ((hP2 _).gtX hmid) (cwV 1 hc.1.2.2.2.2 gX3_lookUp_Jx4a65c_get_915e3 rfl rfl rfl (by decide +kernel) ⟨Nat.le_of_ble_eq_true rfl, Nat.le_of_ble_eq_true rfl⟩) ((wle_new hq _) _ _ haX) rfl rfl rfl (Nat.le_of_ble_eq_true rfl) ⟨(by first | exact Nat.le_of_ble_eq_true rfl | omega | (dsimp only; omega)), (by first | exact Nat.le_of_ble_eq_true rfl | omega | (dsimp only; omega))⟩ dX3_lookUp_110 (fun r w' hp => ?_)
              obtain ⟨rfl, rfl⟩ := hp
              refine v_cast hc (ci := 4) rfl (by decide +kernel) (hit) dX3_lookUp_113 ?_
              first | refine v_astore hc dX3_lookUp_116 (by decide) rfl ?_ | refine v_astoreN hc dX3_lookUp_116 (by decide) rfl ?_
              first | refine v_aload_n hc (i := 2) rfl dX3_lookUp_118 rfl ?_ | refine v_aload_nN hc (i := 2) rfl dX3_lookUp_118 rfl ?_
              refine v_iload hc dX3_lookUp_119 rfl ?_
              refine v_put hc 1 (ci := 5) rfl tyX2 tyX2_ok nmX2 (by decide +kernel) (by decide) (by decide +kernel) (fun _ h => h) rfl (tyX2_ok 1 (by decide)) rfl rfl (Nat.le_of_ble_eq_true rfl) dX3_lookUp_121 (wup_s _ _ _) ?_
              rw [wup_up]
              refine v_w (show _ = wup w q (.inr (5, lkv ia X (none, cn + 1))) from rfl) ?_
              have hit := (wle_new hq (.inr (5, lkv ia X (none, cn + 1)))) _ _ (hP.2.1 _ hm)
              first | refine v_aload hc dX3_lookUp_124 rfl ?_ | refine v_aloadN hc dX3_lookUp_124 rfl ?_
              refine v_get hc 4 (ci := 4) rfl (by decide +kernel) (by decide) (by decide +kernel) (fun _ h => h) dX3_lookUp_126 (hit) rfl ?_
              refine v_iload_n hc (i := 1) rfl dX3_lookUp_129 rfl ?_
              refine v_icmp_neN hc (tgt := 141) dX3_lookUp_130 (by decide) hhs (by omega) (fun hne => ?_) (fun heq => ?_)
              · rw [if_neg (show ¬ hso ct (X.getD ((lw + hg) / 2) 0) = h from hne)] at hst
                first | refine v_aload hc dX3_lookUp_141 rfl ?_ | refine v_aloadN hc dX3_lookUp_141 rfl ?_
                refine v_get hc 4 (ci := 4) rfl (by decide +kernel) (by decide) (by decide +kernel) (fun _ h => h) dX3_lookUp_143 (hit) rfl ?_
                refine v_iload_n hc (i := 1) rfl dX3_lookUp_146 rfl ?_
                refine v_icmp_geN hc (tgt := 159) dX3_lookUp_147 (by decide) hhs (by omega) (fun hge => ?_) (fun hlt => ?_)
                · rw [if_neg (show ¬ hso ct (X.getD ((lw + hg) / 2) 0) < h by unfold hso; omega)] at hst
                  refine v_iload hc dX3_lookUp_159 rfl ?_
                  refine v_istore hc dX3_lookUp_161 (by decide) rfl ?_
                  first | refine v_iinc1 hc dX3_lookUp_163 rfl (by decide) rfl ?_ | refine v_iinc hc dX3_lookUp_163 rfl rfl (by decide) rfl ?_
                  refine v_goto hc (tgt := 58) dX3_lookUp_166 (by decide) ?_
                  exact ih (lw, (lw + hg) / 2, cn + 1) _ rfl ⟨by dsimp only; omega, by dsimp only; omega, hst.symm⟩ (by dsimp only; omega)
                · rw [if_pos (show hso ct (X.getD ((lw + hg) / 2) 0) < h from hlt)] at hst
                  refine v_iload hc dX3_lookUp_150 rfl ?_
                  refine v_iconst hc (v := nI 1) dX3_lookUp_152 (by decide) ?_
                  first | refine v_iaddN hc dX3_lookUp_153 ?_ | refine v_iadd hc dX3_lookUp_153 ?_
                  refine v_istore hc dX3_lookUp_154 (by decide) rfl ?_
                  refine v_goto hc (tgt := 163) dX3_lookUp_156 (by decide) ?_
                  first | refine v_iinc1 hc dX3_lookUp_163 rfl (by decide) rfl ?_ | refine v_iinc hc dX3_lookUp_163 rfl rfl (by decide) rfl ?_
                  refine v_goto hc (tgt := 58) dX3_lookUp_166 (by decide) ?_
                  exact ih ((lw + hg) / 2 + 1, hg, cn + 1) _ rfl ⟨by dsimp only; omega, by dsimp only; omega, hst.symm⟩ (by dsimp only; omega)
              · rw [if_pos (show hso ct (X.getD ((lw + hg) / 2) 0) = h from heq)] at hst
                first | refine v_aload_n hc (i := 2) rfl dX3_lookUp_133 rfl ?_ | refine v_aload_nN hc (i := 2) rfl dX3_lookUp_133 rfl ?_
                first | refine v_aload hc dX3_lookUp_134 rfl ?_ | refine v_aloadN hc dX3_lookUp_134 rfl ?_
                refine v_put hc 0 (ci := 5) rfl tyX2 tyX2_ok nmX2 (by decide +kernel) (by decide) (by decide +kernel) (fun _ h => h) rfl (tyX2_ok 0 (by decide)) rfl rfl (Nat.le_of_ble_eq_true rfl) dX3_lookUp_136 (wup_s _ _ _) ?_
                rw [wup_up]
                first | refine v_aload_n hc (i := 2) rfl dX3_lookUp_139 rfl ?_ | refine v_aload_nN hc (i := 2) rfl dX3_lookUp_139 rfl ?_
                refine v_xret ?_
                exact v_aret hc (some q) hr (by first | exact Or.inl ⟨_, rfl⟩ | exact Or.inr ⟨_, rfl⟩) rfl dX3_lookUp_140 (by first | exact Nat.le_of_ble_eq_true rfl | omega | (dsimp only; omega)) (by first | exact Nat.le_of_ble_eq_true rfl | omega | (dsimp only; omega)) (⟨h, q, h2, rfl, hq, rfl, by rw [hst]; rfl⟩)
    · refine thr (ne4 (fun ⟨i, hi, e⟩ => ?_))
      have := (nI_eq (by omega) (by omega)).mp e
      omega
theorem lku_lt {h p : Nat} (hp : (lku ct X h).1 = some p) : p < X.length := Nat.lt_of_lt_of_le (lkp_lt p hp) (blw_le ct X _)
set_option maxRecDepth 100000 in
set_option maxHeartbeats 4000000 in
theorem c_X3_find (hl : l.stackTraces = false) (hP : PC G w px pI pO pX n ia nm ct lv lo fa fb O X cp ru) (o : Int32) : vx_Met l yX3_find wsX3_find ({ frames := 13, cells := 1, slots := 6, locals := 235 } : Room) (Pw G A w [.ref px, .int o]) (va_Qi (fun r w' => ∃ h, h < 4096 ∧ o = nI h ∧ wle w w' ∧ r = nIo ((lku ct X h).1.map (fun p => X.getD p 0))) (Bw G A) A) (XW G A (fun E w' => w = w' ∧ E = xIA ∧ isO 4096 o = false)) 1 6 A := by
  refine m_ofX (cc := cX3_find) (maxL := 3) (ret := (some .int)) (by decide) rfl (Nat.le_of_ble_eq_true rfl) ?_
  intro p e s m args below meth c hc hr hout
  refine v_loc [(0, some (.ref px)), (1, some (.int o))] rfl ?_
  first | refine v_aload_n hc (i := 0) rfl dX3_find_0 rfl ?_ | refine v_aload_nN hc (i := 0) rfl dX3_find_0 rfl ?_
  refine v_iload_n hc (i := 1) rfl dX3_find_1 rfl ?_
  refine v_xcallVq hc (c_X3_lookUp hl hP o) (cwV 1 hc.1.2.2.2.2 gX3_find_X3_lookUp rfl rfl rfl (by decide +kernel) ⟨Nat.le_of_ble_eq_true rfl, Nat.le_of_ble_eq_true rfl⟩) (hP.1) rfl rfl rfl (Nat.le_of_ble_eq_true rfl) ⟨(by first | exact Nat.le_of_ble_eq_true rfl | omega | (dsimp only; omega)), (by first | exact Nat.le_of_ble_eq_true rfl | omega | (dsimp only; omega))⟩ dX3_find_2 (fun E w' hp => v_out hc hout (Nat.le_of_ble_eq_true rfl) (Nat.le_of_ble_eq_true rfl) hp) (fun r w' hp => ?_)
  obtain ⟨h, q, hh, rfl, hq, rfl, rfl⟩ := hp
  refine v_get hc 0 (ci := 5) rfl (by decide +kernel) (by decide) (by decide +kernel) (fun _ h => h) dX3_find_5 (wup_s _ _ _) rfl ?_
  cases hk : (lku ct X h).1 with
  | none =>
    first | refine v_astore_n hc (i := 2) rfl dX3_find_8 (by decide) rfl ?_ | refine v_astore_nN hc (i := 2) rfl dX3_find_8 (by decide) rfl ?_
    first | refine v_aload_n hc (i := 2) rfl dX3_find_9 rfl ?_ | refine v_aload_nN hc (i := 2) rfl dX3_find_9 rfl ?_
    refine v_ifnonnull_N hc dX3_find_10 ?_
    refine v_iconst hc (v := (-1)) dX3_find_13 (by decide) ?_
    refine v_goto hc (tgt := 21) dX3_find_14 (by decide) ?_
    refine v_xret ?_
    exact v_iret hc hr dX3_find_21 (by first | exact Nat.le_of_ble_eq_true rfl | omega | (dsimp only; omega)) (by first | exact Nat.le_of_ble_eq_true rfl | omega | (dsimp only; omega)) (⟨h, hh, rfl, wle_new hq _, by rw [hk]; rfl⟩)
  | some z =>
    have hm := hP.2.2.2.2 _ (getD_mem (lku_lt hk))
    first | refine v_astore_n hc (i := 2) rfl dX3_find_8 (by decide) rfl ?_ | refine v_astore_nN hc (i := 2) rfl dX3_find_8 (by decide) rfl ?_
    first | refine v_aload_n hc (i := 2) rfl dX3_find_9 rfl ?_ | refine v_aload_nN hc (i := 2) rfl dX3_find_9 rfl ?_
    refine v_ifnonnull_R hc (tgt := 17) dX3_find_10 (by decide) ?_
    first | refine v_aload_n hc (i := 2) rfl dX3_find_17 rfl ?_ | refine v_aload_nN hc (i := 2) rfl dX3_find_17 rfl ?_
    refine v_get hc 0 (ci := 4) rfl (by decide +kernel) (by decide) (by decide +kernel) (fun _ h => h) dX3_find_18 ((wle_new hq _) _ _ (hP.2.1 _ hm)) rfl ?_
    refine v_xret ?_
    exact v_iret hc hr dX3_find_21 (by first | exact Nat.le_of_ble_eq_true rfl | omega | (dsimp only; omega)) (by first | exact Nat.le_of_ble_eq_true rfl | omega | (dsimp only; omega)) (⟨h, hh, rfl, wle_new hq _, by rw [hk]; rfl⟩)
set_option maxRecDepth 100000 in
set_option maxHeartbeats 4000000 in
theorem c_X3_looks (hl : l.stackTraces = false) (hP : PC G w px pI pO pX n ia nm ct lv lo fa fb O X cp ru) (o : Int32) : vx_Met l yX3_looks wsX3_looks ({ frames := 13, cells := 1, slots := 6, locals := 235 } : Room) (Pw G A w [.ref px, .int o]) (va_Qi (fun r w' => ∃ h, h < 4096 ∧ o = nI h ∧ wle w w' ∧ r = nI (lku ct X h).2) (Bw G A) A) (XW G A (fun E w' => w = w' ∧ E = xIA ∧ isO 4096 o = false)) 1 6 A := by
  refine m_ofX (cc := cX3_looks) (maxL := 2) (ret := (some .int)) (by decide) rfl (Nat.le_of_ble_eq_true rfl) ?_
  intro p e s m args below meth c hc hr hout
  refine v_loc [(0, some (.ref px)), (1, some (.int o))] rfl ?_
  first | refine v_aload_n hc (i := 0) rfl dX3_looks_0 rfl ?_ | refine v_aload_nN hc (i := 0) rfl dX3_looks_0 rfl ?_
  refine v_iload_n hc (i := 1) rfl dX3_looks_1 rfl ?_
  refine v_xcallVq hc (c_X3_lookUp hl hP o) (cwV 1 hc.1.2.2.2.2 gX3_looks_X3_lookUp rfl rfl rfl (by decide +kernel) ⟨Nat.le_of_ble_eq_true rfl, Nat.le_of_ble_eq_true rfl⟩) (hP.1) rfl rfl rfl (Nat.le_of_ble_eq_true rfl) ⟨(by first | exact Nat.le_of_ble_eq_true rfl | omega | (dsimp only; omega)), (by first | exact Nat.le_of_ble_eq_true rfl | omega | (dsimp only; omega))⟩ dX3_looks_2 (fun E w' hp => v_out hc hout (Nat.le_of_ble_eq_true rfl) (Nat.le_of_ble_eq_true rfl) hp) (fun r w' hp => ?_)
  obtain ⟨h, q, hh, rfl, hq, rfl, rfl⟩ := hp
  refine v_get hc 1 (ci := 5) rfl (by decide +kernel) (by decide) (by decide +kernel) (fun _ h => h) dX3_looks_5 (wup_s _ _ _) rfl ?_
  refine v_xret ?_
  exact v_iret hc hr dX3_looks_8 (by first | exact Nat.le_of_ble_eq_true rfl | omega | (dsimp only; omega)) (by first | exact Nat.le_of_ble_eq_true rfl | omega | (dsimp only; omega)) (⟨h, hh, rfl, wle_new hq _, rfl⟩)
/-! what writes -/
def wkp (w w' : wd) : Prop := (∀ x vs, w x = some (.inr (2, vs)) → w' x = some (.inr (2, vs))) ∧ (∀ x a, w x = some (.inl a) → w' x = some (.inl a)) ∧ ∀ x vs, w x = some (.inr (4, vs)) → ∃ us, w' x = some (.inr (4, us))
theorem ALr.kp {w' : wd} {al ea cap : Nat} {mo : Int32} {f : Nat → Option Nat} {L : List Nat} (h : wkp w w') (hL : ALr G w al mo ea cap f L) : ALr G w' al mo ea cap f L := by
  obtain ⟨h1, h2, h3, h4⟩ := hL
  refine ⟨h.1 _ _ h1, h2, fun x hx => ?_, ?_⟩
  · obtain ⟨vs, hv⟩ := h3 x hx
    exact h.2.2 _ _ hv
  · rcases h4 with h4 | ⟨h4, h5⟩
    · exact Or.inl h4
    · exact Or.inr ⟨h.2.1 _ _ h4, h5⟩
theorem LS3.kp {w' : wd} {LI LO LX : List Nat} (h : wkp w w') (hL : LS3 G w pI pO pX LI LO LX) : LS3 G w' pI pO pX LI LO LX := by
  obtain ⟨a1, a2, a3, mI, eI, kI, fI, mO, eO, kO, fO, mX, eX, kX, fX, h1, h2, h3, h4⟩ := hL
  exact ⟨a1, a2, a3, mI, eI, kI, fI, mO, eO, kO, fO, mX, eX, kX, fX, h1.kp h, h2.kp h, h3.kp h, h4⟩
theorem wkp_4 {a : Nat} {vs us : List Value} (ha : w a = some (.inr (4, vs))) : wkp w (wup w a (.inr (4, us))) := by
  refine ⟨fun x ws hx => ?_, fun x b hx => ?_, fun x ws hx => ?_⟩
  · rw [wup_n _ _ (fun z => by rw [z, ha] at hx; cases hx)]; exact hx
  · rw [wup_n _ _ (fun z => by rw [z, ha] at hx; cases hx)]; exact hx
  · by_cases h : x = a
    · subst h; exact ⟨us, wup_s _ _ _⟩
    · exact ⟨ws, by rw [wup_n _ _ h]; exact hx⟩
theorem wkp_o {a ci : Nat} {vs : List Value} {e : va_E} (ha : w a = some (.inr (ci, vs))) (h2 : ci ≠ 2) (h4 : ci ≠ 4) : wkp w (wup w a e) := by
  refine ⟨fun x ws hx => ?_, fun x b hx => ?_, fun x ws hx => ?_⟩
  · rw [wup_n _ _ (fun z => by rw [z, ha] at hx; cases hx; exact h2 rfl)]; exact hx
  · rw [wup_n _ _ (fun z => by rw [z, ha] at hx; cases hx)]; exact hx
  · exact ⟨ws, by rw [wup_n _ _ (fun z => by rw [z, ha] at hx; cases hx; exact h4 rfl)]; exact hx⟩
/-- an item, written anew -/
theorem PC.item (hP : PC G w px pI pO pX n ia nm ct lv lo fa fb O X cp ru) {i : Nat} (hi : i < n) (a b : Bool) (f g : Option Nat) : PC G (wup w (ia i) (.inr (4, itf i (nm i) (ct i) a b f g))) px pI pO pX n ia nm ct (va_up lv i a) (va_up lo i b) (va_up fa i f) (va_up fb i g) O X cp ru := by
  have hii := hP.2.1 i hi
  refine ⟨?_, fun j hj => ?_, hP.2.2.1.kp (wkp_4 hii), hP.2.2.2⟩
  · rw [wup_n _ _ (fun z => by have h1 := hP.1; rw [z, hii] at h1; cases h1)]; exact hP.1
  · by_cases h : j = i
    · subst h
      rw [wup_s, va_up_self, va_up_self, va_up_self, va_up_self]
    · rw [wup_n _ _ (fun z => h (hP.2.1.inj hP.n40 hj hi z)), up_n h, up_n h, up_n h, up_n h]
      exact hP.2.1 j hj
theorem up_id {α : Type} {f : Nat → α} {i : Nat} {v : α} (h : f i = v) : va_up f i v = f := by
  funext j; unfold va_up; split
  · rename_i e; rw [e, h]
  · rfl
theorem FW.kp {w' : wd} (h : ∀ x vs, w x = some (.inr (3, vs)) → w' x = some (.inr (3, vs))) (hF : FW w n ia fa fm) : FW w' n ia fa fm := fun i hi => ⟨(hF i hi).1, fun g hg => by
  obtain ⟨f, h1, h2⟩ := (hF i hi).2 g hg
  exact ⟨f, h1, h _ _ h2⟩⟩
theorem k3_of {a : Nat} {e : va_E} {ci : Nat} {us : List Value} (ha : w a = some (.inr (ci, us))) (h3 : ci ≠ 3) : ∀ x vs, w x = some (.inr (3, vs)) → wup w a e x = some (.inr (3, vs)) := fun x vs hx => by
  rw [wup_n _ _ (fun z => by rw [z, ha] at hx; cases hx; exact h3 rfl)]; exact hx
set_option maxRecDepth 100000 in
set_option maxHeartbeats 4000000 in
theorem c_X3_delete (hl : l.stackTraces = false) (hP : PC G w px pI pO pX n ia nm ct lv lo fa fb O X cp ru) (hF : FW w n ia fa fm) (o : Int32) : vx_Met l yX3_delete wsX3_delete ({ frames := 12, cells := 2, slots := 12, locals := 206 } : Room) (Pw G A w [.ref px, .int o]) (va_Qi (fun r w' => ∃ i, i < n ∧ o = nI i ∧ lv i = true ∧ PC G w' px pI pO pX n ia nm ct (va_up lv i false) (va_up lo i false) fa fb O X cp ru ∧ FW w' n ia fa fm ∧ r = nI (sumN n (fun j => b1 (va_up lv i false j)))) (Bw G A) A) (XW G A (fun E w' => w = w' ∧ (E = xIO ∧ isO n o = false ∨ E = xIS ∧ ∃ i, i < n ∧ o = nI i ∧ lv i = false))) 2 12 A := by
  refine m_ofX (cc := cX3_delete) (maxL := 3) (ret := (some .int)) (by decide) rfl (Nat.le_of_ble_eq_true rfl) ?_
  intro p e s m args below meth c hc hr hout
  refine v_loc [(0, some (.ref px)), (1, some (.int o))] rfl ?_
  first | refine v_aload_n hc (i := 0) rfl dX3_delete_0 rfl ?_ | refine v_aload_nN hc (i := 0) rfl dX3_delete_0 rfl ?_
  refine v_iload_n hc (i := 1) rfl dX3_delete_1 rfl ?_
  refine v_xcallVq hc (c_X3_itemOf hl hP o) (cwV 1 hc.1.2.2.2.2 gX3_delete_X3_itemOf rfl rfl rfl (by decide +kernel) ⟨Nat.le_of_ble_eq_true rfl, Nat.le_of_ble_eq_true rfl⟩) (hP.1) rfl rfl rfl (Nat.le_of_ble_eq_true rfl) ⟨(by first | exact Nat.le_of_ble_eq_true rfl | omega | (dsimp only; omega)), (by first | exact Nat.le_of_ble_eq_true rfl | omega | (dsimp only; omega))⟩ dX3_delete_2 (fun E w' hp => v_out hc hout (Nat.le_of_ble_eq_true rfl) (Nat.le_of_ble_eq_true rfl) ⟨hp.1, Or.inl hp.2⟩) (fun r w' hp => ?_)
  obtain ⟨rfl, i, hi, rfl, rfl⟩ := hp
  first | refine v_astore_n hc (i := 2) rfl dX3_delete_5 (by decide) rfl ?_ | refine v_astore_nN hc (i := 2) rfl dX3_delete_5 (by decide) rfl ?_
  first | refine v_aload_n hc (i := 2) rfl dX3_delete_6 rfl ?_ | refine v_aload_nN hc (i := 2) rfl dX3_delete_6 rfl ?_
  refine v_get hc 5 (ci := 4) rfl (by decide +kernel) (by decide) (by decide +kernel) (fun _ h => h) dX3_delete_7 (hP.2.1 i hi) rfl ?_
  refine v_ifB_ne hc (tgt := 23) dX3_delete_10 (by decide) (fun h1 => ?_) (fun h1 => ?_)
  · first | refine v_aload_n hc (i := 2) rfl dX3_delete_23 rfl ?_ | refine v_aload_nN hc (i := 2) rfl dX3_delete_23 rfl ?_
    refine v_iconst hc (v := nI 0) dX3_delete_24 (by decide) ?_
    refine v_put hc 5 (ci := 4) rfl tyX1 tyX1_ok nmX1 (by decide +kernel) (by decide) (by decide +kernel) (fun _ h => h) rfl (tyX1_ok 5 (by decide)) rfl rfl (Nat.le_of_ble_eq_true rfl) dX3_delete_25 (hP.2.1 i hi) ?_
    refine v_w (show _ = wup w (ia i) (.inr (4, itf i (nm i) (ct i) false (lo i) (fa i) (fb i))) from rfl) ?_
    first | refine v_aload_n hc (i := 2) rfl dX3_delete_28 rfl ?_ | refine v_aload_nN hc (i := 2) rfl dX3_delete_28 rfl ?_
    refine v_iconst hc (v := nI 0) dX3_delete_29 (by decide) ?_
    refine v_put hc 6 (ci := 4) rfl tyX1 tyX1_ok nmX1 (by decide +kernel) (by decide) (by decide +kernel) (fun _ h => h) rfl (tyX1_ok 6 (by decide)) rfl rfl (Nat.le_of_ble_eq_true rfl) dX3_delete_30 (wup_s _ _ _) ?_
    rw [wup_up]
    refine v_w (show _ = wup w (ia i) (.inr (4, itf i (nm i) (ct i) false false (fa i) (fb i))) from rfl) ?_
    have hP2 := hP.item hi false false (fa i) (fb i)
    rw [up_id (f := fa) rfl, up_id (f := fb) rfl] at hP2
    have hF2 : FW (wup w (ia i) (.inr (4, itf i (nm i) (ct i) false false (fa i) (fb i)))) n ia fa fm := hF.kp (k3_of (hP.2.1 i hi) (by decide))
    first | refine v_aload_n hc (i := 0) rfl dX3_delete_33 rfl ?_ | refine v_aload_nN hc (i := 0) rfl dX3_delete_33 rfl ?_
    refine v_callVi hc (c_X3_countLive hP2) (cwV 0 hc.1.2.2.2.2 gX3_delete_X3_countLive rfl rfl rfl (by decide +kernel) ⟨Nat.le_of_ble_eq_true rfl, Nat.le_of_ble_eq_true rfl⟩) (hP2.1) rfl rfl rfl (Nat.le_of_ble_eq_true rfl) ⟨(by first | exact Nat.le_of_ble_eq_true rfl | omega | (dsimp only; omega)), (by first | exact Nat.le_of_ble_eq_true rfl | omega | (dsimp only; omega))⟩ dX3_delete_34 (fun r w' hp => ?_)
    obtain ⟨rfl, rfl⟩ := hp
    refine v_xret ?_
    exact v_iret hc hr dX3_delete_37 (by first | exact Nat.le_of_ble_eq_true rfl | omega | (dsimp only; omega)) (by first | exact Nat.le_of_ble_eq_true rfl | omega | (dsimp only; omega)) (⟨i, hi, rfl, h1, hP2, hF2, rfl⟩)
  · exact v_throw hc hl hout (cls := "java/lang/IllegalStateException") (text := "the object is not live") (by decide +kernel) (by decide +kernel) (by decide +kernel) (by decide +kernel) (by decide +kernel) (by decide +kernel) (by decide +kernel) dX3_delete_13 dX3_delete_16 dX3_delete_17 dX3_delete_19 dX3_delete_22 (Nat.le_of_ble_eq_true rfl) (Nat.le_of_ble_eq_true rfl) (by first | exact Nat.le_of_ble_eq_true rfl | omega | (dsimp only; omega)) (by first | exact Nat.le_of_ble_eq_true rfl | omega | (dsimp only; omega)) (by first | exact Nat.le_of_ble_eq_true rfl | omega | (dsimp only; omega)) (by first | exact Nat.le_of_ble_eq_true rfl | omega | (dsimp only; omega)) (⟨rfl, Or.inr ⟨rfl, i, hi, rfl, h1⟩⟩)
set_option maxRecDepth 100000 in
set_option maxHeartbeats 4000000 in
theorem c_X3_prune (hP : PC G w px pI pO pX n ia nm ct lv lo fa fb O X cp ru) (hF : FW w n ia fa fm) (hC : CH n fm) : Met l yX3_prune wsX3_prune ({ frames := 11, cells := 0, slots := 0, locals := 184 } : Room) (Pw G A w [.ref px]) (va_Qi (fun r w' => PC G w' px pI pO pX n ia nm ct lv (fun i => lo i && !rpk fm i) fa fb O X cp ru ∧ FW w' n ia fa fm ∧ r = nI (sumN n (fun i => b1 (lo i && rpk fm i)))) (Bw G A) A) 0 0 A := by
  refine m_of (cc := cX3_prune) (maxL := 4) (ret := (some .int)) (by decide) rfl (Nat.le_of_ble_eq_true rfl) ?_
  intro p e s m args below meth c hc hr hmn
  refine v_loc [(0, some (.ref px))] rfl ?_
  obtain ⟨vs0, haI0⟩ := hP.alI
  have hn := hP.n40
  refine v_iconst hc (v := nI 0) dX3_prune_0 (by decide) ?_
  refine v_istore_n hc (i := 1) rfl dX3_prune_1 (by decide) rfl ?_
  refine v_iconst hc (v := nI 0) dX3_prune_2 (by decide) ?_
  refine v_istore_n hc (i := 2) rfl dX3_prune_3 (by decide) rfl ?_
  refine v_loop (σ := Nat × wd × (Nat → Bool)) (fun a => a.1 ≤ n ∧ PC G a.2.1 px pI pO pX n ia nm ct lv a.2.2 fa fb O X cp ru ∧ FW a.2.1 n ia fa fm ∧ (∀ j, j < a.1 → a.2.2 j = (lo j && !rpk fm j)) ∧ ∀ j, a.1 ≤ j → a.2.2 j = lo j) (fun a => n - a.1) (fun a => a.2.1) (fun _ => 0) (fun _ => 0) (fun a => [(0, some (.ref px)), (1, some (.int (nI (sumN a.1 (fun i => b1 (lo i && rpk fm i)))))), (2, some (.int (nI a.1)))]) (0, w, lo) rfl ⟨Nat.zero_le _, hP, hF, fun j hj => absurd hj (Nat.not_lt_zero _), fun _ _ => rfl⟩ ?_
  rintro ⟨i, w, lo2⟩ ⟨hi, hP, hF, h3, h4⟩ ih
  dsimp only at hi hP hF h3 h4 ih ⊢
  obtain ⟨vs, haI⟩ := hP.alI
  refine v_iload_n hc (i := 2) rfl dX3_prune_4 rfl ?_
  first | refine v_aload_n hc (i := 0) rfl dX3_prune_5 rfl ?_ | refine v_aload_nN hc (i := 0) rfl dX3_prune_5 rfl ?_
  refine v_get hc 0 (ci := 6) rfl (by decide +kernel) (by decide) (by decide +kernel) (fun _ h => h) dX3_prune_6 (hP.1) rfl ?_
  refine v_callVi hc (hP.szI) (cwV 0 hc.1.2.2.2.2 gX3_prune_Jx4a65c_size_8abf5 rfl rfl rfl (by decide +kernel) ⟨Nat.le_of_ble_eq_true rfl, Nat.le_of_ble_eq_true rfl⟩) (haI) rfl rfl rfl (Nat.le_of_ble_eq_true rfl) ⟨(by first | exact Nat.le_of_ble_eq_true rfl | omega | (dsimp only; omega)), (by first | exact Nat.le_of_ble_eq_true rfl | omega | (dsimp only; omega))⟩ dX3_prune_9 (fun r w' hp => ?_)
  obtain ⟨rfl, rfl⟩ := hp
  refine v_icmp_geN hc (tgt := 55) dX3_prune_12 (by decide) (by omega) (by omega) (fun h1 => ?_) (fun h1 => ?_)
  · have e : i = n := by omega
    subst e
    refine v_iload_n hc (i := 1) rfl dX3_prune_55 rfl ?_
    refine v_iret hc hr dX3_prune_56 (Nat.le_refl _) (Nat.le_refl _) ⟨⟨hP.1, fun j hj => ?_, hP.2.2⟩, hF, rfl⟩
    rw [hP.2.1 j hj, h3 j hj]
  · have hit := hP.2.1 i h1
    rw [h4 i (Nat.le_refl _)] at hit
    first | refine v_aload_n hc (i := 0) rfl dX3_prune_15 rfl ?_ | refine v_aload_nN hc (i := 0) rfl dX3_prune_15 rfl ?_
    refine v_get hc 0 (ci := 6) rfl (by decide +kernel) (by decide) (by decide +kernel) (fun _ h => h) dX3_prune_16 (hP.1) rfl ?_
    refine v_iload_n hc (i := 2) rfl dX3_prune_19 rfl ?_
    refine v_callVq hc (hP.gtI h1) (cwV 1 hc.1.2.2.2.2 gX3_prune_Jx4a65c_get_915e3 rfl rfl rfl (by decide +kernel) ⟨Nat.le_of_ble_eq_true rfl, Nat.le_of_ble_eq_true rfl⟩) (haI) rfl rfl rfl (Nat.le_of_ble_eq_true rfl) ⟨(by first | exact Nat.le_of_ble_eq_true rfl | omega | (dsimp only; omega)), (by first | exact Nat.le_of_ble_eq_true rfl | omega | (dsimp only; omega))⟩ dX3_prune_20 (fun r w' hp => ?_)
    obtain ⟨rfl, rfl⟩ := hp
    refine v_cast hc (ci := 4) rfl (by decide +kernel) (hit) dX3_prune_23 ?_
    first | refine v_astore_n hc (i := 3) rfl dX3_prune_26 (by decide) rfl ?_ | refine v_astore_nN hc (i := 3) rfl dX3_prune_26 (by decide) rfl ?_
    first | refine v_aload_n hc (i := 3) rfl dX3_prune_27 rfl ?_ | refine v_aload_nN hc (i := 3) rfl dX3_prune_27 rfl ?_
    refine v_get hc 6 (ci := 4) rfl (by decide +kernel) (by decide) (by decide +kernel) (fun _ h => h) dX3_prune_28 (hit) rfl ?_
    have skip : (lo i && rpk fm i) = false → (lo i && !rpk fm i) = lo i := by cases lo i <;> cases rpk fm i <;> simp
    refine v_ifB_eq hc (tgt := 49) dX3_prune_31 (by decide) (fun h5 => ?_) (fun h5 => ?_)
    · have hz : (lo i && rpk fm i) = false := by rw [h5]; rfl
      first | refine v_iinc1 hc dX3_prune_49 rfl (by decide) rfl ?_ | refine v_iinc hc dX3_prune_49 rfl rfl (by decide) rfl ?_
      refine v_goto hc (tgt := 4) dX3_prune_52 (by decide) ?_
      refine ih (i + 1, w, lo2) _ (by dsimp only [List.map, sumN]; rw [hz]; rfl) ⟨h1, hP, hF, fun j hj => ?_, fun j hj => h4 j (by dsimp only at hj; omega)⟩ (by dsimp only; omega)
      dsimp only at hj ⊢
      by_cases hji : j = i
      · subst hji; rw [skip hz]; exact h4 j (Nat.le_refl _)
      · exact h3 j (by omega)
    · first | refine v_aload_n hc (i := 3) rfl dX3_prune_34 rfl ?_ | refine v_aload_nN hc (i := 3) rfl dX3_prune_34 rfl ?_
      refine v_callVi hc (c_X1_isReadableFromPack hP.2.1 hF hC h1) (cwV 0 hc.1.2.2.2.2 gX3_prune_X1_isReadableFromPack rfl rfl rfl (by decide +kernel) ⟨Nat.le_of_ble_eq_true rfl, Nat.le_of_ble_eq_true rfl⟩) (hit) rfl rfl rfl (Nat.le_of_ble_eq_true rfl) ⟨(by first | exact Nat.le_of_ble_eq_true rfl | omega | (dsimp only; omega)), (by first | exact Nat.le_of_ble_eq_true rfl | omega | (dsimp only; omega))⟩ dX3_prune_35 (fun r w' hp => ?_)
      obtain ⟨rfl, rfl⟩ := hp
      refine v_ifB_eq hc (tgt := 49) dX3_prune_38 (by decide) (fun h6 => ?_) (fun h6 => ?_)
      · have hz : (lo i && rpk fm i) = false := by rw [h6, Bool.and_false]
        first | refine v_iinc1 hc dX3_prune_49 rfl (by decide) rfl ?_ | refine v_iinc hc dX3_prune_49 rfl rfl (by decide) rfl ?_
        refine v_goto hc (tgt := 4) dX3_prune_52 (by decide) ?_
        refine ih (i + 1, w, lo2) _ (by dsimp only [List.map, sumN]; rw [hz]; rfl) ⟨h1, hP, hF, fun j hj => ?_, fun j hj => h4 j (by dsimp only at hj; omega)⟩ (by dsimp only; omega)
        dsimp only at hj ⊢
        by_cases hji : j = i
        · subst hji; rw [skip hz]; exact h4 j (Nat.le_refl _)
        · exact h3 j (by omega)
      · have hz : (lo i && rpk fm i) = true := by rw [h5, h6]; rfl
        first | refine v_aload_n hc (i := 3) rfl dX3_prune_41 rfl ?_ | refine v_aload_nN hc (i := 3) rfl dX3_prune_41 rfl ?_
        refine v_iconst hc (v := nI 0) dX3_prune_42 (by decide) ?_
        refine v_put hc 6 (ci := 4) rfl tyX1 tyX1_ok nmX1 (by decide +kernel) (by decide) (by decide +kernel) (fun _ h => h) rfl (tyX1_ok 6 (by decide)) rfl rfl (Nat.le_of_ble_eq_true rfl) dX3_prune_43 (hit) ?_
        refine v_w (show _ = wup w (ia i) (.inr (4, itf i (nm i) (ct i) (lv i) false (fa i) (fb i))) from rfl) ?_
        have hP2 := hP.item h1 (lv i) false (fa i) (fb i)
        rw [up_id (f := fa) rfl, up_id (f := fb) rfl, up_id (f := lv) rfl] at hP2
        have hF2 : FW (wup w (ia i) (.inr (4, itf i (nm i) (ct i) (lv i) false (fa i) (fb i)))) n ia fa fm := hF.kp (k3_of hit (by decide))
        first | refine v_iinc1 hc dX3_prune_46 rfl (by decide) rfl ?_ | refine v_iinc hc dX3_prune_46 rfl rfl (by decide) rfl ?_
        first | refine v_iinc1 hc dX3_prune_49 rfl (by decide) rfl ?_ | refine v_iinc hc dX3_prune_49 rfl rfl (by decide) rfl ?_
        refine v_goto hc (tgt := 4) dX3_prune_52 (by decide) ?_
        refine ih (i + 1, wup w (ia i) (.inr (4, itf i (nm i) (ct i) (lv i) false (fa i) (fb i))), va_up lo2 i false) _ (by dsimp only [List.map, sumN]; rw [hz]; rfl) ⟨h1, hP2, hF2, fun j hj => ?_, fun j hj => ?_⟩ (by dsimp only; omega)
        · dsimp only at hj ⊢
          by_cases hji : j = i
          · subst hji; rw [va_up_self, h5, h6]; rfl
          · rw [up_n hji]; exact h3 j (by omega)
        · dsimp only at hj ⊢
          rw [up_n (by omega)]; exact h4 j (by omega)
/-- no two items have one form -/
def FJ (n : Nat) (fa : Nat → Option Nat) : Prop := ∀ i j f, i < n → j < n → fa i = some f → fa j = some f → i = j
def dmgF (g : Frm) : Frm := (g.1, g.2.1, g.2.2.1, g.2.2.2.1, true)
theorem CH.dm {i : Nat} {g : Frm} (hC : CH n fm) (hi : fm i = some g) : CH n (va_up fm i (some (dmgF g))) := by
  have k1 : ∀ j g', va_up fm i (some (dmgF g)) j = some g' → ∃ g2, fm j = some g2 ∧ g'.1 = g2.1 ∧ g'.2.1 = g2.2.1 := by
    intro j g' h
    by_cases hj : j = i
    · subst hj
      rw [va_up_self] at h
      cases h
      exact ⟨g, hi, rfl, rfl⟩
    · rw [up_n hj] at h
      exact ⟨g', h, rfl, rfl⟩
  have k2 : ∀ j g2, fm j = some g2 → ∃ g', va_up fm i (some (dmgF g)) j = some g' ∧ g'.2.1 = g2.2.1 := by
    intro j g2 h
    by_cases hj : j = i
    · subst hj
      rw [va_up_self]
      rw [hi] at h
      cases h
      exact ⟨_, rfl, rfl⟩
    · rw [up_n hj]
      exact ⟨g2, h, rfl⟩
  intro j hj g' hg'
  obtain ⟨g2, e1, e2, e3⟩ := k1 j g' hg'
  obtain ⟨c1, c2⟩ := hC j hj g2 e1
  refine ⟨by rw [e3]; exact c1, fun b hb => ?_⟩
  obtain ⟨d1, g3, d2, d3⟩ := c2 b (by rw [← e2]; exact hb)
  obtain ⟨g4, f1, f2⟩ := k2 b g3 d2
  exact ⟨d1, g4, f1, by rw [e3, d3, f2]⟩
set_option maxRecDepth 100000 in
set_option maxHeartbeats 4000000 in
theorem c_X3_damage (hl : l.stackTraces = false) (hP : PC G w px pI pO pX n ia nm ct lv lo fa fb O X cp ru) (hF : FW w n ia fa fm) (hC : CH n fm) (hJ : FJ n fa) (o : Int32) : vx_Met l yX3_damage wsX3_damage ({ frames := 13, cells := 3, slots := 18, locals := 227 } : Room) (Pw G A w [.ref px, .int o]) (va_Qi (fun r w' => ∃ i g, i < n ∧ o = nI i ∧ fm i = some g ∧ g.2.2.2.2 = false ∧ PC G w' px pI pO pX n ia nm ct lv lo fa fb O X cp ru ∧ FW w' n ia fa (va_up fm i (some (dmgF g))) ∧ r = nI (sumL (fun j => b1 (rpk fm j)) O) - nI (sumL (fun j => b1 (rpk (va_up fm i (some (dmgF g))) j)) O)) (Bw G A) A) (XW G A (fun E w' => w = w' ∧ (E = xIO ∧ isO n o = false ∨ E = xIS ∧ ∃ i, i < n ∧ o = nI i ∧ (fm i = none ∨ ∃ g, fm i = some g ∧ g.2.2.2.2 = true)))) 3 18 A := by
  refine m_ofX (cc := cX3_damage) (maxL := 4) (ret := (some .int)) (by decide) rfl (Nat.le_of_ble_eq_true rfl) ?_
  intro p e s m args below meth c hc hr hout
  refine v_loc [(0, some (.ref px)), (1, some (.int o))] rfl ?_
  first | refine v_aload_n hc (i := 0) rfl dX3_damage_0 rfl ?_ | refine v_aload_nN hc (i := 0) rfl dX3_damage_0 rfl ?_
  refine v_iload_n hc (i := 1) rfl dX3_damage_1 rfl ?_
  refine v_xcallVq hc (c_X3_formOf hl hP hF o) (cwV 1 hc.1.2.2.2.2 gX3_damage_X3_formOf rfl rfl rfl (by decide +kernel) ⟨Nat.le_of_ble_eq_true rfl, Nat.le_of_ble_eq_true rfl⟩) (hP.1) rfl rfl rfl (Nat.le_of_ble_eq_true rfl) ⟨(by first | exact Nat.le_of_ble_eq_true rfl | omega | (dsimp only; omega)), (by first | exact Nat.le_of_ble_eq_true rfl | omega | (dsimp only; omega))⟩ dX3_damage_2 (fun E w' hp => v_out hc hout (Nat.le_of_ble_eq_true rfl) (Nat.le_of_ble_eq_true rfl) ⟨hp.1, hp.2.imp id (fun h => ⟨h.1, h.2.choose, h.2.choose_spec.1, h.2.choose_spec.2.1, Or.inl h.2.choose_spec.2.2⟩)⟩) (fun r w' hp => ?_)
  obtain ⟨rfl, i, g, f, hi, rfl, hfm, hfa, hfw, rfl⟩ := hp
  first | refine v_astore_n hc (i := 2) rfl dX3_damage_5 (by decide) rfl ?_ | refine v_astore_nN hc (i := 2) rfl dX3_damage_5 (by decide) rfl ?_
  first | refine v_aload_n hc (i := 2) rfl dX3_damage_6 rfl ?_ | refine v_aload_nN hc (i := 2) rfl dX3_damage_6 rfl ?_
  refine v_get hc 4 (ci := 3) rfl (by decide +kernel) (by decide) (by decide +kernel) (fun _ h => h) dX3_damage_7 (hfw) rfl ?_
  refine v_ifB_eq hc (tgt := 23) dX3_damage_10 (by decide) (fun h1 => ?_) (fun h1 => ?_)
  · first | refine v_aload_n hc (i := 0) rfl dX3_damage_23 rfl ?_ | refine v_aload_nN hc (i := 0) rfl dX3_damage_23 rfl ?_
    refine v_callVi hc (c_X3_countReadableFromPack hP hF hC) (cwV 0 hc.1.2.2.2.2 gX3_damage_X3_countReadableFromPack rfl rfl rfl (by decide +kernel) ⟨Nat.le_of_ble_eq_true rfl, Nat.le_of_ble_eq_true rfl⟩) (hP.1) rfl rfl rfl (Nat.le_of_ble_eq_true rfl) ⟨(by first | exact Nat.le_of_ble_eq_true rfl | omega | (dsimp only; omega)), (by first | exact Nat.le_of_ble_eq_true rfl | omega | (dsimp only; omega))⟩ dX3_damage_24 (fun r w' hp => ?_)
    obtain ⟨rfl, rfl⟩ := hp
    refine v_istore_n hc (i := 3) rfl dX3_damage_27 (by decide) rfl ?_
    first | refine v_aload_n hc (i := 2) rfl dX3_damage_28 rfl ?_ | refine v_aload_nN hc (i := 2) rfl dX3_damage_28 rfl ?_
    refine v_iconst hc (v := nI 1) dX3_damage_29 (by decide) ?_
    refine v_put hc 4 (ci := 3) rfl tyX0 tyX0_ok nmX0 (by decide +kernel) (by decide) (by decide +kernel) (fun _ h => h) rfl (tyX0_ok 4 (by decide)) rfl rfl (Nat.le_of_ble_eq_true rfl) dX3_damage_30 (hfw) ?_
    refine v_w (show _ = wup w f (frc ia (dmgF g)) from rfl) ?_
    have hP2 : PC G (wup w f (frc ia (dmgF g))) px pI pO pX n ia nm ct lv lo fa fb O X cp ru := by
      refine ⟨?_, fun j hj => ?_, hP.2.2.1.kp (wkp_o hfw (by decide) (by decide)), hP.2.2.2⟩
      · rw [wup_n _ _ (fun z => by have h9 := hP.1; rw [z, hfw] at h9; cases h9)]; exact hP.1
      · rw [wup_n _ _ (fun z => by have h9 := hP.2.1 j hj; rw [z, hfw] at h9; cases h9)]; exact hP.2.1 j hj
    have hF2 : FW (wup w f (frc ia (dmgF g))) n ia fa (va_up fm i (some (dmgF g))) := by
      intro j hj
      by_cases hji : j = i
      · subst hji
        rw [va_up_self]
        exact ⟨fun h => (nomatch h), fun g' hg' => by cases hg'; exact ⟨f, hfa, wup_s _ _ _⟩⟩
      · rw [up_n hji]
        refine ⟨(hF j hj).1, fun g' hg' => ?_⟩
        obtain ⟨f', e1, e2⟩ := (hF j hj).2 g' hg'
        exact ⟨f', e1, by rw [wup_n _ _ (fun z => hji (hJ j i f hj hi (by rw [e1, z]) hfa))]; exact e2⟩
    refine v_iload_n hc (i := 3) rfl dX3_damage_33 rfl ?_
    first | refine v_aload_n hc (i := 0) rfl dX3_damage_34 rfl ?_ | refine v_aload_nN hc (i := 0) rfl dX3_damage_34 rfl ?_
    refine v_callVi hc (c_X3_countReadableFromPack hP2 hF2 (hC.dm hfm)) (cwV 0 hc.1.2.2.2.2 gX3_damage_X3_countReadableFromPack rfl rfl rfl (by decide +kernel) ⟨Nat.le_of_ble_eq_true rfl, Nat.le_of_ble_eq_true rfl⟩) (hP2.1) rfl rfl rfl (Nat.le_of_ble_eq_true rfl) ⟨(by first | exact Nat.le_of_ble_eq_true rfl | omega | (dsimp only; omega)), (by first | exact Nat.le_of_ble_eq_true rfl | omega | (dsimp only; omega))⟩ dX3_damage_35 (fun r w' hp => ?_)
    obtain ⟨rfl, rfl⟩ := hp
    refine v_isub hc dX3_damage_38 ?_
    refine v_xret ?_
    exact v_iret hc hr dX3_damage_39 (by first | exact Nat.le_of_ble_eq_true rfl | omega | (dsimp only; omega)) (by first | exact Nat.le_of_ble_eq_true rfl | omega | (dsimp only; omega)) (⟨i, g, hi, rfl, hfm, h1, hP2, hF2, rfl⟩)
  · exact v_throw hc hl hout (cls := "java/lang/IllegalStateException") (text := "the form is damaged already") (by decide +kernel) (by decide +kernel) (by decide +kernel) (by decide +kernel) (by decide +kernel) (by decide +kernel) (by decide +kernel) dX3_damage_13 dX3_damage_16 dX3_damage_17 dX3_damage_19 dX3_damage_22 (Nat.le_of_ble_eq_true rfl) (Nat.le_of_ble_eq_true rfl) (by first | exact Nat.le_of_ble_eq_true rfl | omega | (dsimp only; omega)) (by first | exact Nat.le_of_ble_eq_true rfl | omega | (dsimp only; omega)) (by first | exact Nat.le_of_ble_eq_true rfl | omega | (dsimp only; omega)) (by first | exact Nat.le_of_ble_eq_true rfl | omega | (dsimp only; omega)) (⟨rfl, Or.inr ⟨rfl, i, hi, rfl, Or.inr ⟨g, hfm, h1⟩⟩⟩)
theorem v_noE {p : Program} {l : Launch} {e : Env} {R : Room} {s : State} {m : MethodId} {args : Array Value} {below : List Frame} {meth : Method} {c : Code} {nL : Nat} {Q : State → Prop} {k n pc : Nat} {L : vLT} {st : List Value} {cc : ByteArray} {own : String} {Ts : List Cond} (hc : cxt p s m args meth c cc nL own Ts G A) (kk : w (gE G) = none → V p l e R s m args below meth c nL G A Q w k n pc L st) : V p l e R s m args below meth c nL G A Q w k n pc L st := fun H locs ls h1 h2 h3 => by
  refine kk ?_ H locs ls h1 h2 h3
  cases hx : w (gE G) with
  | none => rfl
  | some e9 =>
    obtain ⟨_, _, _, _, _, _, _, hnA⟩ := hc.2.1.2.2.1
    exact absurd (h1 _ _ hx).2 hnA
theorem ALr.row {al ea cap : Nat} {mo : Int32} {f : Nat → Option Nat} {L : List Nat} (hL : ALr G w al mo ea cap f L) : ea = gE G ∨ ∃ a, w ea = some (.inl a) := by
  rcases hL.2.2.2 with h | h
  · exact Or.inl h.1
  · exact Or.inr ⟨_, h.1⟩
/-- what a list's writing leaves of an object's cell -/
theorem ALp.obj {w' : wd} {al ea cap : Nat} {mo mo' : Int32} {f : Nat → Option Nat} {L L' : List Nat} (hL : ALr G w al mo ea cap f L) (hp : ALp G w w' al ea mo' L') (hE : w (gE G) = none) {x ci : Nat} {vs : List Value} (hx : x ≠ al) (hv : w x = some (.inr (ci, vs))) : w' x = some (.inr (ci, vs)) := by
  obtain ⟨ea', cap', f', h1, h2, h3⟩ := hp
  have hne : x ≠ ea := fun z => by
    rcases hL.row with h | ⟨a, h⟩
    · rw [z, h, hE] at hv; cases hv
    · rw [z, h] at hv; cases hv
  rw [h2 x hx hne (fun z => by
    rcases h3 with h | h
    · exact hne (z.trans h)
    · rw [z, h.1] at hv; cases hv)]
  exact hv
/-- another list -/
theorem ALp.other {w' : wd} {al ea cap al2 e2 k2 : Nat} {mo mo' mo2 : Int32} {f f2 : Nat → Option Nat} {L L' L2 : List Nat} (hL : ALr G w al mo ea cap f L) (hp : ALp G w w' al ea mo' L') (hE : w (gE G) = none) (hL2 : ALr G w al2 mo2 e2 k2 f2 L2) (hne : al2 ≠ al) (hd : e2 = ea → e2 = gE G) : ALr G w' al2 mo2 e2 k2 f2 L2 := by
  have ho := fun {x ci vs} => ALp.obj (x := x) (ci := ci) (vs := vs) hL hp hE
  obtain ⟨h1, h2, h3, h4⟩ := hL2
  refine ⟨ho hne h1, h2, fun x hx => ?_, ?_⟩
  · obtain ⟨vs, hv⟩ := h3 x hx
    exact ⟨vs, ho (fun z => by rw [z, hL.1] at hv; cases hv) hv⟩
  · rcases h4 with h4 | ⟨h4, h5⟩
    · exact Or.inl h4
    · refine Or.inr ⟨?_, h5⟩
      obtain ⟨ea', cap', f', g1, g2, g3⟩ := hp
      have n1 : e2 ≠ al := fun z => by rw [z, hL.1] at h4; cases h4
      have n2 : e2 ≠ ea := fun z => by rw [hd z, hE] at h4; cases h4
      rw [g2 e2 n1 n2 (fun z => by
        rcases g3 with h | h
        · exact n2 (z.trans h)
        · rw [z, h.1] at h4; cases h4)]
      exact h4
theorem ALp.new {w' : wd} {al ea cap : Nat} {mo mo' : Int32} {f : Nat → Option Nat} {L L' : List Nat} (hL : ALr G w al mo ea cap f L) (hp : ALp G w w' al ea mo' L') : ∃ ea' cap' f', ALr G w' al mo' ea' cap' f' L' ∧ ∀ e2, (e2 = gE G ∨ ∃ a, w e2 = some (.inl a)) → (ea = e2 → ea = gE G) → (ea' = e2 → ea' = gE G) := by
  obtain ⟨ea', cap', f', g1, g2, g3⟩ := hp
  refine ⟨ea', cap', f', g1, fun e2 h2 hd z => ?_⟩
  rcases g3 with h | h
  · rw [h]; exact hd (h.symm.trans z)
  · rcases h2 with h2 | ⟨a, h2⟩
    · exact z.trans h2
    · rw [← z, h.1] at h2; cases h2
theorem LS3.opI {LI LO LX : List Nat} (hL : LS3 G w pI pO pX LI LO LX) : ∃ mo ea cap f, ALr G w pI mo ea cap f LI ∧ ∀ w' mo' LI', w (gE G) = none → ALp G w w' pI ea mo' LI' → LS3 G w' pI pO pX LI' LO LX ∧ ∀ x ci vs, x ≠ pI → w x = some (.inr (ci, vs)) → w' x = some (.inr (ci, vs)) := by
  obtain ⟨a1, a2, a3, mI, eI, kI, fI, mO, eO, kO, fO, mX, eX, kX, fX, h1, h2, h3, d1, d2, d3⟩ := hL
  refine ⟨_, _, _, _, h1, fun w' mo' LI' hE hp => ?_⟩
  obtain ⟨e', k', f', n1, n2⟩ := hp.new h1
  exact ⟨⟨a1, a2, a3, _, e', _, _, _, eO, _, _, _, eX, _, _, n1, hp.other h1 hE h2 a1.symm (fun z => by rw [z]; exact d1 z.symm), hp.other h1 hE h3 a2.symm (fun z => by rw [z]; exact d2 z.symm), n2 eO h2.row d1, n2 eX h3.row d2, d3⟩, fun x ci vs hx hv => hp.obj h1 hE hx hv⟩
theorem LS3.opO {LI LO LX : List Nat} (hL : LS3 G w pI pO pX LI LO LX) : ∃ mo ea cap f, ALr G w pO mo ea cap f LO ∧ ∀ w' mo' LO', w (gE G) = none → ALp G w w' pO ea mo' LO' → LS3 G w' pI pO pX LI LO' LX ∧ ∀ x ci vs, x ≠ pO → w x = some (.inr (ci, vs)) → w' x = some (.inr (ci, vs)) := by
  obtain ⟨a1, a2, a3, mI, eI, kI, fI, mO, eO, kO, fO, mX, eX, kX, fX, h1, h2, h3, d1, d2, d3⟩ := hL
  refine ⟨_, _, _, _, h2, fun w' mo' LO' hE hp => ?_⟩
  obtain ⟨e', k', f', n1, n2⟩ := hp.new h2
  refine ⟨⟨a1, a2, a3, _, eI, _, _, _, e', _, _, _, eX, _, _, hp.other h2 hE h1 a1 d1, n1, hp.other h2 hE h3 a3.symm (fun z => by rw [z]; exact d3 z.symm), fun z => ?_, d2, n2 eX h3.row d3⟩, fun x ci vs hx hv => hp.obj h2 hE hx hv⟩
  have := n2 eI h1.row (fun y => by rw [y]; exact d1 y.symm) z.symm
  rw [z]; exact this
theorem LS3.opX {LI LO LX : List Nat} (hL : LS3 G w pI pO pX LI LO LX) : ∃ mo ea cap f, ALr G w pX mo ea cap f LX ∧ ∀ w' mo' LX', w (gE G) = none → ALp G w w' pX ea mo' LX' → LS3 G w' pI pO pX LI LO LX' ∧ ∀ x ci vs, x ≠ pX → w x = some (.inr (ci, vs)) → w' x = some (.inr (ci, vs)) := by
  obtain ⟨a1, a2, a3, mI, eI, kI, fI, mO, eO, kO, fO, mX, eX, kX, fX, h1, h2, h3, d1, d2, d3⟩ := hL
  refine ⟨_, _, _, _, h3, fun w' mo' LX' hE hp => ?_⟩
  obtain ⟨e', k', f', n1, n2⟩ := hp.new h3
  refine ⟨⟨a1, a2, a3, _, eI, _, _, _, eO, _, _, _, e', _, _, hp.other h3 hE h1 a2 d2, hp.other h3 hE h2 a3 d3, n1, d1, fun z => ?_, fun z => ?_⟩, fun x ci vs hx hv => hp.obj h3 hE hx hv⟩
  · have := n2 eI h1.row (fun y => by rw [y]; exact d2 y.symm) z.symm
    rw [z]; exact this
  · have := n2 eO h2.row (fun y => by rw [y]; exact d3 y.symm) z.symm
    rw [z]; exact this
theorem map_up {ia : Nat → Nat} {q : Nat} {L : List Nat} (h : ∀ i ∈ L, i < n) : L.map (va_up ia n q) = L.map ia := List.map_congr_left fun i hi => up_n (Nat.ne_of_lt (h i hi))
theorem rng_up {ia : Nat → Nat} {q : Nat} : (List.range (n + 1)).map (va_up ia n q) = (List.range n).map ia ++ [q] := by
  rw [List.range_succ, List.map_append, map_up (fun i hi => List.mem_range.mp hi)]
  simp [va_up]
set_option maxRecDepth 100000 in
set_option maxHeartbeats 4000000 in
theorem c_X3_store (hl : l.stackTraces = false) (hP : PC G w px pI pO pX n ia nm ct lv lo fa fb O X cp ru) (hF : FW w n ia fa fm) (hC : CH n fm) (nm0 : Int32) (x : Int64) : vx_Met l yX3_store wsX3_store ({ frames := 14, cells := 2, slots := 69, locals := 252 } : Room) (Pw G A w [.ref px, .int nm0, .long x]) (va_Qi (fun r w' => n < 40 ∧ (isin nm0 (nI 0) (nI 99) && isC x) = true ∧ (∃ q, PC G w' px pI pO pX (n + 1) (va_up ia n q) (va_up nm n nm0) (va_up ct n x) (va_up lv n true) (va_up lo n true) (va_up fa n none) (va_up fb n none) O X cp ru ∧ FW w' (n + 1) (va_up ia n q) (va_up fa n none) (va_up fm n none)) ∧ r = nI n) (Bw G A) A) (XW G A (fun E w' => w = w' ∧ (E = xIA ∧ (isin nm0 (nI 0) (nI 99) && isC x) = false ∨ E = xIS ∧ (isin nm0 (nI 0) (nI 99) && isC x) = true ∧ n = 40))) 2 69 A := by
  refine m_ofX (cc := cX3_store) (maxL := 5) (ret := (some .int)) (by decide) rfl (Nat.le_of_ble_eq_true rfl) ?_
  intro p e s m args below meth c hc hr hout
  refine v_loc [(0, some (.ref px)), (1, some (.int nm0)), (2, some (.long x))] rfl ?_
  obtain ⟨vs, haI⟩ := hP.alI
  have hn := hP.n40
  have thr : isin nm0 (nI 0) (nI 99) = false → V p l e ({ frames := 14, cells := 2, slots := 69, locals := 252 } : Room) s m args below meth c 5 G A (vx_MQ below (va_Qi (fun r w' => n < 40 ∧ (isin nm0 (nI 0) (nI 99) && isC x) = true ∧ (∃ q, PC G w' px pI pO pX (n + 1) (va_up ia n q) (va_up nm n nm0) (va_up ct n x) (va_up lv n true) (va_up lo n true) (va_up fa n none) (va_up fb n none) O X cp ru ∧ FW w' (n + 1) (va_up ia n q) (va_up fa n none) (va_up fm n none)) ∧ r = nI n) (Bw G A) A) (XW G A (fun E w' => w = w' ∧ (E = xIA ∧ (isin nm0 (nI 0) (nI 99) && isC x) = false ∨ E = xIS ∧ (isin nm0 (nI 0) (nI 99) && isC x) = true ∧ n = 40))) args s 2 69 A) w 0 0 10 [(0, some (.ref px)), (1, some (.int nm0)), (2, some (.long x))] [] := by
    intro h0
    exact v_throw hc hl hout (cls := "java/lang/IllegalArgumentException") (text := "the name is out of range") (by decide +kernel) (by decide +kernel) (by decide +kernel) (by decide +kernel) (by decide +kernel) (by decide +kernel) (by decide +kernel) dX3_store_10 dX3_store_13 dX3_store_14 dX3_store_16 dX3_store_19 (Nat.le_of_ble_eq_true rfl) (Nat.le_of_ble_eq_true rfl) (by first | exact Nat.le_of_ble_eq_true rfl | omega | (dsimp only; omega)) (by first | exact Nat.le_of_ble_eq_true rfl | omega | (dsimp only; omega)) (by first | exact Nat.le_of_ble_eq_true rfl | omega | (dsimp only; omega)) (by first | exact Nat.le_of_ble_eq_true rfl | omega | (dsimp only; omega)) (⟨rfl, Or.inl ⟨rfl, by rw [h0]; rfl⟩⟩)
  refine v_iload_n hc (i := 1) rfl dX3_store_0 rfl ?_
  refine v_if_lt hc (tgt := 10) dX3_store_1 (by decide) (fun hb => ?_) (fun hb => ?_)
  · exact thr (by unfold isin; rw [decide_eq_false (show ¬ nI 0 ≤ nm0 from i32_nle hb)]; rfl)
  · refine v_iload_n hc (i := 1) rfl dX3_store_4 rfl ?_
    refine v_bipush hc (v := nI 99) dX3_store_5 (by decide) ?_
    refine v_icmp_le hc (tgt := 20) dX3_store_7 (by decide) (fun h2 => ?_) (fun h2 => ?_)
    · have hin : isin nm0 (nI 0) (nI 99) = true := by
        unfold isin
        rw [decide_eq_true (show nI 0 ≤ nm0 from i32_le hb), decide_eq_true h2]; rfl
      refine v_lload_n hc (i := 2) rfl dX3_store_20 rfl ?_
      refine v_callSi hc (c_X3_isContent x) (va_cwS 1 hc.1.2.2.2.2 gX3_store_X3_isContent rfl rfl rfl (by decide +kernel) ⟨Nat.le_of_ble_eq_true rfl, Nat.le_of_ble_eq_true rfl⟩) rfl rfl (Nat.le_of_ble_eq_true rfl) ⟨(by first | exact Nat.le_of_ble_eq_true rfl | omega | (dsimp only; omega)), (by first | exact Nat.le_of_ble_eq_true rfl | omega | (dsimp only; omega))⟩ dX3_store_21 (fun r w' hp => ?_)
      obtain ⟨rfl, rfl⟩ := hp
      refine v_ifB_ne hc (tgt := 37) dX3_store_24 (by decide) (fun h3 => ?_) (fun h3 => ?_)
      · have hok : (isin nm0 (nI 0) (nI 99) && isC x) = true := by rw [hin, h3]; rfl
        first | refine v_aload_n hc (i := 0) rfl dX3_store_37 rfl ?_ | refine v_aload_nN hc (i := 0) rfl dX3_store_37 rfl ?_
        refine v_get hc 0 (ci := 6) rfl (by decide +kernel) (by decide) (by decide +kernel) (fun _ h => h) dX3_store_38 (hP.1) rfl ?_
        refine v_callVi hc (hP.szI) (cwV 0 hc.1.2.2.2.2 gX3_store_Jx4a65c_size_8abf5 rfl rfl rfl (by decide +kernel) ⟨Nat.le_of_ble_eq_true rfl, Nat.le_of_ble_eq_true rfl⟩) (haI) rfl rfl rfl (Nat.le_of_ble_eq_true rfl) ⟨(by first | exact Nat.le_of_ble_eq_true rfl | omega | (dsimp only; omega)), (by first | exact Nat.le_of_ble_eq_true rfl | omega | (dsimp only; omega))⟩ dX3_store_41 (fun r w' hp => ?_)
        obtain ⟨rfl, rfl⟩ := hp
        refine v_istore hc dX3_store_44 (by decide) rfl ?_
        refine v_iload hc dX3_store_46 rfl ?_
        refine v_bipush hc (v := nI 40) dX3_store_48 (by decide) ?_
        refine v_icmp_ltN hc (tgt := 63) dX3_store_50 (by decide) (by omega) (by omega) (fun h4 => ?_) (fun h4 => ?_)
        · first | refine v_aload_n hc (i := 0) rfl dX3_store_63 rfl ?_ | refine v_aload_nN hc (i := 0) rfl dX3_store_63 rfl ?_
          refine v_get hc 0 (ci := 6) rfl (by decide +kernel) (by decide) (by decide +kernel) (fun _ h => h) dX3_store_64 (hP.1) rfl ?_
          refine v_new hc (ci := 4) (fs := [.int 0, .int 0, .long 0, .int 0, .int 0, .int 0, .int 0, .null, .null]) rfl tyX1 tyX1_ok (by decide +kernel) (by decide +kernel) (by decide +kernel) (by decide +kernel) (fun j hj => by rcases (show j = 0 ∨ j = 1 ∨ j = 2 ∨ j = 3 ∨ j = 4 ∨ j = 5 ∨ j = 6 ∨ j = 7 ∨ j = 8 by omega) with rfl | rfl | rfl | rfl | rfl | rfl | rfl | rfl | rfl <;> rfl) (by first | exact Nat.le_of_ble_eq_true rfl | omega | (dsimp only; omega)) (by first | exact Nat.le_of_ble_eq_true rfl | omega | (dsimp only; omega)) dX3_store_67 (fun q hq hqA => ?_)
          refine v_dup hc dX3_store_70 rfl ?_
          refine v_iload hc dX3_store_71 rfl ?_
          refine v_iload_n hc (i := 1) rfl dX3_store_73 rfl ?_
          refine v_lload_n hc (i := 2) rfl dX3_store_74 rfl ?_
          refine v_callIv hc (c_X1_init (wup_s _ _ _) n nm0 x h3) (cwI 3 hc.1.2.2.2.2 gX3_store_X1_init rfl rfl rfl (hc.1.2.2.2.2 (.initialized yX1_init.cls) (by decide +kernel)) (hc.1.2.2.2.2 (.methodLink RX3 53 yX1_init) (by decide +kernel)) (hc.1.2.2.2.2 (.instanceMethod yX1_init) (by decide +kernel)) rfl (by decide +kernel) ⟨Nat.le_of_ble_eq_true rfl, Nat.le_of_ble_eq_true rfl⟩) rfl rfl (Nat.le_of_ble_eq_true rfl) ⟨(by first | exact Nat.le_of_ble_eq_true rfl | omega | (dsimp only; omega)), (by first | exact Nat.le_of_ble_eq_true rfl | omega | (dsimp only; omega))⟩ dX3_store_75 (fun w' hp => ?_)
          subst hp
          rw [wup_up]
          have hwl := wle_new hq (.inr (4, itf n nm0 x true true none none))
          have hP2 := hP.le hwl
          have hF2 := hF.le hwl
          refine v_noE hc (fun hE => ?_)
          obtain ⟨mo, ea, cap, f, hLI, hop⟩ := hP2.2.2.1.opI
          refine v_callVi hc (c_add1 hLI (by simpa using h4) (wup_s _ _ _)) (cwV 1 hc.1.2.2.2.2 gX3_store_Jx4a65c_add_9ea2d rfl rfl rfl (by decide +kernel) ⟨Nat.le_of_ble_eq_true rfl, Nat.le_of_ble_eq_true rfl⟩) (hLI.1) rfl rfl rfl (Nat.le_of_ble_eq_true rfl) ⟨(by first | exact Nat.le_of_ble_eq_true rfl | omega | (dsimp only; omega)), (by first | exact Nat.le_of_ble_eq_true rfl | omega | (dsimp only; omega))⟩ dX3_store_78 (fun r w' hp => ?_)
          obtain ⟨rfl, hp⟩ := hp
          obtain ⟨hL3, hobj⟩ := hop _ _ _ hE hp
          refine v_pop hc dX3_store_81 rfl ?_
          refine v_iload hc dX3_store_82 rfl ?_
          have hqI : q ≠ pI := fun z => by rw [← z, hq] at haI; cases haI
          refine v_xret ?_
          refine v_iret hc hr dX3_store_84 (Nat.le_of_ble_eq_true rfl) (Nat.le_of_ble_eq_true rfl) ⟨h4, hok, ⟨q, ⟨?_, fun i hi => ?_, ?_, fun i hi => Nat.lt_succ_of_lt (hP.2.2.2.1 i hi), fun i hi => Nat.lt_succ_of_lt (hP.2.2.2.2 i hi)⟩, fun i hi => ?_⟩, rfl⟩
          · exact hobj _ _ _ (fun z => by have h9 := hP.1; rw [z, haI] at h9; cases h9) hP2.1
          · by_cases hin2 : i = n
            · subst hin2
              rw [va_up_self, va_up_self, va_up_self, va_up_self, va_up_self, va_up_self, va_up_self]
              exact hobj _ _ _ hqI (wup_s _ _ _)
            · have hi2 : i < n := by omega
              rw [up_n hin2, up_n hin2, up_n hin2, up_n hin2, up_n hin2, up_n hin2, up_n hin2]
              exact hobj _ _ _ (fun z => by have h9 := hP.2.1 i hi2; rw [z, haI] at h9; cases h9) (hP2.2.1 i hi2)
          · rw [rng_up, map_up hP.2.2.2.1, map_up hP.2.2.2.2]; exact hL3
          · by_cases hin2 : i = n
            · subst hin2
              rw [va_up_self, va_up_self]
              exact ⟨fun _ => rfl, fun g hg => (nomatch hg)⟩
            · have hi2 : i < n := by omega
              rw [up_n hin2, up_n hin2]
              refine ⟨(hF i hi2).1, fun g hg => ?_⟩
              obtain ⟨f9, e1, e2⟩ := (hF2 i hi2).2 g hg
              refine ⟨f9, e1, ?_⟩
              have hmap : g.1.map (va_up ia n q) = g.1.map ia := by
                cases hb9 : g.1 with
                | none => rfl
                | some b => exact congrArg some (up_n (Nat.ne_of_lt ((hC i hi2 g hg).2 b hb9).1))
              unfold frc
              rw [hmap]
              exact hobj _ _ _ (fun z => by rw [z, hwl _ _ haI] at e2; cases e2) e2
        · exact v_throw hc hl hout (cls := "java/lang/IllegalStateException") (text := "no more objects can be stored") (by decide +kernel) (by decide +kernel) (by decide +kernel) (by decide +kernel) (by decide +kernel) (by decide +kernel) (by decide +kernel) dX3_store_53 dX3_store_56 dX3_store_57 dX3_store_59 dX3_store_62 (Nat.le_of_ble_eq_true rfl) (Nat.le_of_ble_eq_true rfl) (by first | exact Nat.le_of_ble_eq_true rfl | omega | (dsimp only; omega)) (by first | exact Nat.le_of_ble_eq_true rfl | omega | (dsimp only; omega)) (by first | exact Nat.le_of_ble_eq_true rfl | omega | (dsimp only; omega)) (by first | exact Nat.le_of_ble_eq_true rfl | omega | (dsimp only; omega)) (⟨rfl, Or.inr ⟨rfl, hok, by omega⟩⟩)
      · exact v_throw hc hl hout (cls := "java/lang/IllegalArgumentException") (text := "no content") (by decide +kernel) (by decide +kernel) (by decide +kernel) (by decide +kernel) (by decide +kernel) (by decide +kernel) (by decide +kernel) dX3_store_27 dX3_store_30 dX3_store_31 dX3_store_33 dX3_store_36 (Nat.le_of_ble_eq_true rfl) (Nat.le_of_ble_eq_true rfl) (by first | exact Nat.le_of_ble_eq_true rfl | omega | (dsimp only; omega)) (by first | exact Nat.le_of_ble_eq_true rfl | omega | (dsimp only; omega)) (by first | exact Nat.le_of_ble_eq_true rfl | omega | (dsimp only; omega)) (by first | exact Nat.le_of_ble_eq_true rfl | omega | (dsimp only; omega)) (⟨rfl, Or.inl ⟨rfl, by rw [h3, Bool.and_false]⟩⟩)
    · exact thr (by unfold isin; rw [decide_eq_false h2, Bool.and_false])
set_option maxRecDepth 100000 in
set_option maxHeartbeats 4000000 in
theorem c_X3_init (ha : w px = some (.inr (6, [.null, .null, .null, .int 0, .int 0]))) (ia : Nat → Nat) (nm : Nat → Int32) (ct : Nat → Int64) (lv lo : Nat → Bool) (fa fb : Nat → Option Nat) : Met l yX3_init wsX3_init ({ frames := 11, cells := 3, slots := 9, locals := 180 } : Room) (Pw G A w [.ref px]) (va_Qv (fun w' => ∃ pI pO pX, PC G w' px pI pO pX 0 ia nm ct lv lo fa fb [] [] (nI 0) (nI 0)) (Bw G A) A) 3 9 A := by
  refine m_of (cc := cX3_init) (maxL := 1) (ret := none) (by decide) rfl (Nat.le_of_ble_eq_true rfl) ?_
  intro p e s m args below meth c hc hr hmn
  refine v_loc [(0, some (.ref px))] rfl ?_
  first | refine v_aload_n hc (i := 0) rfl dX3_init_0 rfl ?_ | refine v_aload_nN hc (i := 0) rfl dX3_init_0 rfl ?_
  refine v_objInit hc (by decide +kernel) (by decide +kernel) (by decide +kernel) (Nat.le_of_ble_eq_true rfl) (Nat.le_of_ble_eq_true rfl) dX3_init_1 ?_
  first | refine v_aload_n hc (i := 0) rfl dX3_init_4 rfl ?_ | refine v_aload_nN hc (i := 0) rfl dX3_init_4 rfl ?_
  refine v_new hc (ci := 2) (fs := [.int 0, .null, .int 0]) rfl tyJx4a65c tyJx4a65c_ok (by decide +kernel) (by decide +kernel) (by decide +kernel) (by decide +kernel) (fun j hj => by rcases (show j = 0 ∨ j = 1 ∨ j = 2 by omega) with rfl | rfl | rfl <;> rfl) (by first | exact Nat.le_of_ble_eq_true rfl | omega | (dsimp only; omega)) (by first | exact Nat.le_of_ble_eq_true rfl | omega | (dsimp only; omega)) dX3_init_5 (fun q1 hq1 hqA => ?_)
  have n1 : px ≠ q1 := fun z => by rw [z, hq1] at ha; cases ha
  refine v_dup hc dX3_init_8 rfl ?_
  refine v_callIv hc (c_list_init (wup_s _ _ _)) (cwI 0 hc.1.2.2.2.2 gX3_init_Jx4a65c_init_da8c8 rfl rfl rfl (hc.1.2.2.2.2 (.initialized yJx4a65c_init_da8c8.cls) (by decide +kernel)) (hc.1.2.2.2.2 (.methodLink RX3 9 yJx4a65c_init_da8c8) (by decide +kernel)) (hc.1.2.2.2.2 (.instanceMethod yJx4a65c_init_da8c8) (by decide +kernel)) rfl (by decide +kernel) ⟨Nat.le_of_ble_eq_true rfl, Nat.le_of_ble_eq_true rfl⟩) rfl rfl (Nat.le_of_ble_eq_true rfl) ⟨(by first | exact Nat.le_of_ble_eq_true rfl | omega | (dsimp only; omega)), (by first | exact Nat.le_of_ble_eq_true rfl | omega | (dsimp only; omega))⟩ dX3_init_9 (fun w' hp => ?_)
  subst hp
  rw [wup_up]
  refine v_putF hc hmn 0 (ci := 6) rfl tyX3 tyX3_ok nmX3 (by decide +kernel) (by decide) (by decide +kernel) (fun _ h => h) rfl rfl (tyX3_ok 0 (by decide)) rfl rfl (Nat.le_of_ble_eq_true rfl) dX3_init_12 ((wup_n _ _ n1).trans ha) ?_
  first | refine v_aload_n hc (i := 0) rfl dX3_init_15 rfl ?_ | refine v_aload_nN hc (i := 0) rfl dX3_init_15 rfl ?_
  refine v_new hc (ci := 2) (fs := [.int 0, .null, .int 0]) rfl tyJx4a65c tyJx4a65c_ok (by decide +kernel) (by decide +kernel) (by decide +kernel) (by decide +kernel) (fun j hj => by rcases (show j = 0 ∨ j = 1 ∨ j = 2 by omega) with rfl | rfl | rfl <;> rfl) (by first | exact Nat.le_of_ble_eq_true rfl | omega | (dsimp only; omega)) (by first | exact Nat.le_of_ble_eq_true rfl | omega | (dsimp only; omega)) dX3_init_16 (fun q2 hq2 hqA2 => ?_)
  have n2 : px ≠ q2 := fun z => by rw [← z, wup_s] at hq2; cases hq2
  have n12 : q1 ≠ q2 := fun z => by rw [← z, wup_n _ _ n1.symm, wup_s] at hq2; cases hq2
  refine v_dup hc dX3_init_19 rfl ?_
  refine v_callIv hc (c_list_init (wup_s _ _ _)) (cwI 0 hc.1.2.2.2.2 gX3_init_Jx4a65c_init_da8c8 rfl rfl rfl (hc.1.2.2.2.2 (.initialized yJx4a65c_init_da8c8.cls) (by decide +kernel)) (hc.1.2.2.2.2 (.methodLink RX3 9 yJx4a65c_init_da8c8) (by decide +kernel)) (hc.1.2.2.2.2 (.instanceMethod yJx4a65c_init_da8c8) (by decide +kernel)) rfl (by decide +kernel) ⟨Nat.le_of_ble_eq_true rfl, Nat.le_of_ble_eq_true rfl⟩) rfl rfl (Nat.le_of_ble_eq_true rfl) ⟨(by first | exact Nat.le_of_ble_eq_true rfl | omega | (dsimp only; omega)), (by first | exact Nat.le_of_ble_eq_true rfl | omega | (dsimp only; omega))⟩ dX3_init_20 (fun w' hp => ?_)
  subst hp
  rw [wup_up]
  refine v_putF hc hmn 1 (ci := 6) rfl tyX3 tyX3_ok nmX3 (by decide +kernel) (by decide) (by decide +kernel) (fun _ h => h) rfl rfl (tyX3_ok 1 (by decide)) rfl rfl (Nat.le_of_ble_eq_true rfl) dX3_init_23 ((wup_n _ _ n2).trans (wup_s _ _ _)) ?_
  first | refine v_aload_n hc (i := 0) rfl dX3_init_26 rfl ?_ | refine v_aload_nN hc (i := 0) rfl dX3_init_26 rfl ?_
  refine v_new hc (ci := 2) (fs := [.int 0, .null, .int 0]) rfl tyJx4a65c tyJx4a65c_ok (by decide +kernel) (by decide +kernel) (by decide +kernel) (by decide +kernel) (fun j hj => by rcases (show j = 0 ∨ j = 1 ∨ j = 2 by omega) with rfl | rfl | rfl <;> rfl) (by first | exact Nat.le_of_ble_eq_true rfl | omega | (dsimp only; omega)) (by first | exact Nat.le_of_ble_eq_true rfl | omega | (dsimp only; omega)) dX3_init_27 (fun q3 hq3 hqA3 => ?_)
  have n3 : px ≠ q3 := fun z => by rw [← z, wup_s] at hq3; cases hq3
  have n23 : q2 ≠ q3 := fun z => by rw [← z, wup_n _ _ n2.symm, wup_s] at hq3; cases hq3
  have n13 : q1 ≠ q3 := fun z => by rw [← z, wup_n _ _ n1.symm, wup_n _ _ n12, wup_n _ _ n1.symm, wup_s] at hq3; cases hq3
  refine v_dup hc dX3_init_30 rfl ?_
  refine v_callIv hc (c_list_init (wup_s _ _ _)) (cwI 0 hc.1.2.2.2.2 gX3_init_Jx4a65c_init_da8c8 rfl rfl rfl (hc.1.2.2.2.2 (.initialized yJx4a65c_init_da8c8.cls) (by decide +kernel)) (hc.1.2.2.2.2 (.methodLink RX3 9 yJx4a65c_init_da8c8) (by decide +kernel)) (hc.1.2.2.2.2 (.instanceMethod yJx4a65c_init_da8c8) (by decide +kernel)) rfl (by decide +kernel) ⟨Nat.le_of_ble_eq_true rfl, Nat.le_of_ble_eq_true rfl⟩) rfl rfl (Nat.le_of_ble_eq_true rfl) ⟨(by first | exact Nat.le_of_ble_eq_true rfl | omega | (dsimp only; omega)), (by first | exact Nat.le_of_ble_eq_true rfl | omega | (dsimp only; omega))⟩ dX3_init_31 (fun w' hp => ?_)
  subst hp
  rw [wup_up]
  refine v_putF hc hmn 2 (ci := 6) rfl tyX3 tyX3_ok nmX3 (by decide +kernel) (by decide) (by decide +kernel) (fun _ h => h) rfl rfl (tyX3_ok 2 (by decide)) rfl rfl (Nat.le_of_ble_eq_true rfl) dX3_init_34 ((wup_n _ _ n3).trans (wup_s _ _ _)) ?_
  first | refine v_aload_n hc (i := 0) rfl dX3_init_37 rfl ?_ | refine v_aload_nN hc (i := 0) rfl dX3_init_37 rfl ?_
  refine v_iconst hc (v := nI 0) dX3_init_38 (by decide) ?_
  refine v_put hc 3 (ci := 6) rfl tyX3 tyX3_ok nmX3 (by decide +kernel) (by decide) (by decide +kernel) (fun _ h => h) rfl (tyX3_ok 3 (by decide)) rfl rfl (Nat.le_of_ble_eq_true rfl) dX3_init_39 (wup_s _ _ _) ?_
  rw [wup_up]
  first | refine v_aload_n hc (i := 0) rfl dX3_init_42 rfl ?_ | refine v_aload_nN hc (i := 0) rfl dX3_init_42 rfl ?_
  refine v_iconst hc (v := nI 0) dX3_init_43 (by decide) ?_
  refine v_put hc 4 (ci := 6) rfl tyX3 tyX3_ok nmX3 (by decide +kernel) (by decide) (by decide +kernel) (fun _ h => h) rfl (tyX3_ok 4 (by decide)) rfl rfl (Nat.le_of_ble_eq_true rfl) dX3_init_44 (wup_s _ _ _) ?_
  rw [wup_up]
  refine v_vret hc hr dX3_init_47 (Nat.le_of_ble_eq_true rfl) (Nat.le_of_ble_eq_true rfl) ⟨q1, q2, q3, wup_s _ _ _, fun i hi => absurd hi (Nat.not_lt_zero _), ⟨n12, n13, n23, nI 0, gE G, 0, fun _ => none, nI 0, gE G, 0, fun _ => none, nI 0, gE G, 0, fun _ => none, ⟨?_, Nat.zero_le _, fun x hx => (nomatch hx), Or.inl ⟨rfl, rfl, rfl⟩⟩, ⟨?_, Nat.zero_le _, fun x hx => (nomatch hx), Or.inl ⟨rfl, rfl, rfl⟩⟩, ⟨?_, Nat.zero_le _, fun x hx => (nomatch hx), Or.inl ⟨rfl, rfl, rfl⟩⟩, fun _ => rfl, fun _ => rfl, fun _ => rfl⟩, fun i hi => (nomatch hi), fun i hi => (nomatch hi)⟩
  · rw [wup_n _ _ n1.symm, wup_n _ _ n13, wup_n _ _ n1.symm, wup_n _ _ n12, wup_n _ _ n1.symm, wup_s]; rfl
  · rw [wup_n _ _ n2.symm, wup_n _ _ n23, wup_n _ _ n2.symm, wup_s]; rfl
  · rw [wup_n _ _ n3.symm, wup_s]; rfl
end CL4

