/-! ===== the model's object: ints by field, rows by field ===== -/
def isI (k : Nat) : Bool := k == 1 || (k == 7 || (k == 8 || (k == 9 || (k == 10 || (k == 11 || (k == 13 || (k == 14 || (k == 15 || (k == 18 || (k == 19 || k == 22))))))))))
def isZ (k : Nat) : Bool := k == 3 || (k == 4 || (k == 5 || k == 6))
def isS (k : Nat) : Bool := k == 0 || (k == 12 || (k == 16 || (k == 17 || (k == 20 || (k == 21 || (k == 23 || k == 24))))))
def isA (k : Nat) : Bool := isI k || (isZ k || k == 2)
def mln (k : Nat) : Nat := if k = 18 then 16 else if k = 19 then 16 else 40
def mfs (ad : Nat → Nat) (sc : Nat → Int32) : List Value := [.int (sc 0), .ref (ad 1), .ref (ad 2), .ref (ad 3), .ref (ad 4), .ref (ad 5), .ref (ad 6), .ref (ad 7), .ref (ad 8), .ref (ad 9), .ref (ad 10), .ref (ad 11), .int (sc 12), .ref (ad 13), .ref (ad 14), .ref (ad 15), .int (sc 16), .int (sc 17), .ref (ad 18), .ref (ad 19), .int (sc 20), .int (sc 21), .ref (ad 22), .int (sc 23), .int (sc 24)]
def MP (G : cG) (w : wd) (h : Nat) (ad : Nat → Nat) (sc : Nat → Int32) (ai : Nat → Nat → Int32) (al : Nat → Int64) : Prop :=
  w h = some (.inr (7, mfs ad sc)) ∧ (∀ k, isI k = true → w (ad k) = some (aI G (mln k) (ai k))) ∧ (∀ k, isZ k = true → w (ad k) = some (aZ G 40 (ai k))) ∧ w (ad 2) = some (aL G 40 al) ∧ ∀ i j, isA i = true → isA j = true → ad i = ad j → i = j
section MPS
variable {G : cG} {w : wd} {h : Nat} {ad : Nat → Nat} {sc : Nat → Int32} {ai : Nat → Nat → Int32} {al : Nat → Int64}
theorem isS_c {k : Nat} (hk : isS k = true) : k = 0 ∨ k = 12 ∨ k = 16 ∨ k = 17 ∨ k = 20 ∨ k = 21 ∨ k = 23 ∨ k = 24 := by
  simpa [isS] using hk
theorem isI_A {k : Nat} (hk : isI k = true) : isA k = true := by simp [isA, hk]
theorem isZ_A {k : Nat} (hk : isZ k = true) : isA k = true := by simp [isA, hk]
theorem isI_2 {k : Nat} (hk : isI k = true) : k ≠ 2 := by rintro rfl; cases hk
theorem isZ_2 {k : Nat} (hk : isZ k = true) : k ≠ 2 := by rintro rfl; cases hk
theorem isI_Z {k : Nat} (hk : isI k = true) (hz : isZ k = true) : False := by
  simp only [isZ, Bool.or_eq_true, beq_iff_eq] at hz
  rcases hz with rfl | rfl | rfl | rfl <;> cases hk
theorem MP.ne (hM : MP G w h ad sc ai al) {k : Nat} (hk : isA k = true) : ad k ≠ h := by
  intro e
  have h1 := hM.1
  rw [← e] at h1
  simp only [isA, Bool.or_eq_true, beq_iff_eq] at hk
  rcases hk with hk | hk | hk
  · have := (hM.2.1 k hk).symm.trans h1; cases this
  · have := (hM.2.2.1 k hk).symm.trans h1; cases this
  · subst hk; have := hM.2.2.2.1.symm.trans h1; cases this
theorem MP.scal (hM : MP G w h ad sc ai al) (k : Nat) (hk : isS k = true) (v : Int32) : MP G (wup w h (.inr (7, (mfs ad sc).set k (.int v)))) h ad (va_up sc k v) ai al := by
  refine ⟨?_, fun j hj => ?_, fun j hj => ?_, ?_, hM.2.2.2.2⟩
  · rw [wup_s]
    rcases isS_c hk with rfl | rfl | rfl | rfl | rfl | rfl | rfl | rfl <;> rfl
  · rw [wup_n _ _ (hM.ne (isI_A hj))]; exact hM.2.1 j hj
  · rw [wup_n _ _ (hM.ne (isZ_A hj))]; exact hM.2.2.1 j hj
  · rw [wup_n _ _ (hM.ne (k := 2) rfl)]; exact hM.2.2.2.1
theorem MP.ia (hM : MP G w h ad sc ai al) (k : Nat) (hk : isI k = true) (f : Nat → Int32) : MP G (wup w (ad k) (aI G (mln k) f)) h ad sc (va_up ai k f) al := by
  refine ⟨?_, fun j hj => ?_, fun j hj => ?_, ?_, hM.2.2.2.2⟩
  · rw [wup_n _ _ (hM.ne (isI_A hk)).symm]; exact hM.1
  · by_cases e : j = k
    · subst e; rw [wup_s, va_up_self]
    · rw [wup_n _ _ (fun z => e (hM.2.2.2.2 j k (isI_A hj) (isI_A hk) z))]
      simp only [va_up, if_neg e]; exact hM.2.1 j hj
  · have e : j ≠ k := fun z => isI_Z (k := k) hk (z ▸ hj)
    rw [wup_n _ _ (fun z => e (hM.2.2.2.2 j k (isZ_A hj) (isI_A hk) z))]
    simp only [va_up, if_neg e]; exact hM.2.2.1 j hj
  · rw [wup_n _ _ (fun z => isI_2 hk (hM.2.2.2.2 2 k rfl (isI_A hk) z).symm)]; exact hM.2.2.2.1
theorem MP.za (hM : MP G w h ad sc ai al) (k : Nat) (hk : isZ k = true) (f : Nat → Int32) : MP G (wup w (ad k) (aZ G 40 f)) h ad sc (va_up ai k f) al := by
  refine ⟨?_, fun j hj => ?_, fun j hj => ?_, ?_, hM.2.2.2.2⟩
  · rw [wup_n _ _ (hM.ne (isZ_A hk)).symm]; exact hM.1
  · have e : j ≠ k := fun z => isI_Z (k := k) (z ▸ hj) hk
    rw [wup_n _ _ (fun z => e (hM.2.2.2.2 j k (isI_A hj) (isZ_A hk) z))]
    simp only [va_up, if_neg e]; exact hM.2.1 j hj
  · by_cases e : j = k
    · subst e; rw [wup_s, va_up_self]
    · rw [wup_n _ _ (fun z => e (hM.2.2.2.2 j k (isZ_A hj) (isZ_A hk) z))]
      simp only [va_up, if_neg e]; exact hM.2.2.1 j hj
  · rw [wup_n _ _ (fun z => isZ_2 hk (hM.2.2.2.2 2 k rfl (isZ_A hk) z).symm)]; exact hM.2.2.2.1
theorem MP.la (hM : MP G w h ad sc ai al) (f : Nat → Int64) : MP G (wup w (ad 2) (aL G 40 f)) h ad sc ai f := by
  refine ⟨?_, fun j hj => ?_, fun j hj => ?_, ?_, hM.2.2.2.2⟩
  · rw [wup_n _ _ (hM.ne (k := 2) rfl).symm]; exact hM.1
  · rw [wup_n _ _ (fun z => isI_2 hj (hM.2.2.2.2 j 2 (isI_A hj) rfl z))]; exact hM.2.1 j hj
  · rw [wup_n _ _ (fun z => isZ_2 hj (hM.2.2.2.2 j 2 (isZ_A hj) rfl z))]; exact hM.2.2.1 j hj
  · rw [wup_s]
variable {p : Program} {l : Launch} {e : Env} {R : Room} {s : State} {m : MethodId} {args : Array Value} {below : List Frame} {meth : Method} {c : Code} {nL : Nat} {A : Nat → Prop} {Q : State → Prop} {k n pc : Nat} {L : vLT} {st : List Value} {cc : ByteArray} {own : String} {Ts : List Cond}
theorem m_put (hc : cxt p s m args meth c cc nL own Ts G A) (hM : MP G w h ad sc ai al) {v : Int32} {index : Nat} (i : Nat) (hi : isS i = true) (hin : ∀ x ∈ wsX40, x ∈ Ts) (hlink : Cond.fieldLink own index "PackstackModel" (TX4 i).2.1 (TX4 i).2.2.1 ∈ Ts) (hdg : decode cc pc = .ok (.putfield index, 3))
    (kk : ∀ w : wd, MP G w h ad (va_up sc i v) ai al → V p l e R s m args below meth c nL G A Q w k n (pc + 3) L st) : V p l e R s m args below meth c nL G A Q w k n pc L (.int v :: .ref h :: st) := by
  have hcase := isS_c hi
  have hsame : ∀ x, s.fieldFound? (TX4 i).1 (TX4 i).2.1 (TX4 i).2.2.1 = some x → s.fieldFound? "PackstackModel" (TX4 i).2.1 (TX4 i).2.2.1 = some x := by
    rcases hcase with rfl | rfl | rfl | rfl | rfl | rfl | rfl | rfl <;> exact fun _ h => h
  have ht : tyX4 i = .int := by rcases hcase with rfl | rfl | rfl | rfl | rfl | rfl | rfl | rfl <;> rfl
  have hf : (TX4 i).2.2.2 = false := by rcases hcase with rfl | rfl | rfl | rfl | rfl | rfl | rfl | rfl <;> rfl
  have hl : i < 25 := by omega
  exact v_put hc i (ci := 7) (N := 25) (fs := mfs ad sc) (C := RX4) (T := TX4) rfl tyX4 tyX4_ok nmX4 hin hl hlink hsame hf (tyX4_ok i hl) (by rw [ht]; rfl) (by rw [ht]; rfl) hl hdg hM.1 (kk _ (hM.scal i hi v))
theorem m_iast (hc : cxt p s m args meth c cc nL own Ts G A) (hM : MP G w h ad sc ai al) {x v : Int32} (j : Nat) (hj : isI j = true) (i : Nat) (hdg : decode cc pc = .ok (.iastore, 1)) (hx : x = nI i) (hi : i < mln j)
    (kk : ∀ w : wd, MP G w h ad sc (va_up ai j (va_up (ai j) i v)) al → V p l e R s m args below meth c nL G A Q w k n (pc + 1) L st) : V p l e R s m args below meth c nL G A Q w k n pc L (.int v :: .int x :: .ref (ad j) :: st) :=
  v_iast hc i hdg (hM.2.1 j hj) hx hi (by unfold mln; split <;> (try split) <;> decide) (kk _ (hM.ia j hj _))
theorem m_zast (hc : cxt p s m args meth c cc nL own Ts G A) (hM : MP G w h ad sc ai al) {x v : Int32} (j : Nat) (hj : isZ j = true) (i : Nat) (hdg : decode cc pc = .ok (.bastore, 1)) (hx : x = nI i) (hi : i < 40) (hv : vp_nar .boolean v = v)
    (kk : ∀ w : wd, MP G w h ad sc (va_up ai j (va_up (ai j) i v)) al → V p l e R s m args below meth c nL G A Q w k n (pc + 1) L st) : V p l e R s m args below meth c nL G A Q w k n pc L (.int v :: .int x :: .ref (ad j) :: st) :=
  v_zast hc i hdg (hM.2.2.1 j hj) hx hi (by decide) hv (kk _ (hM.za j hj _))
theorem m_last (hc : cxt p s m args meth c cc nL own Ts G A) (hM : MP G w h ad sc ai al) {x : Int32} {v : Int64} (i : Nat) (hdg : decode cc pc = .ok (.lastore, 1)) (hx : x = nI i) (hi : i < 40)
    (kk : ∀ w : wd, MP G w h ad sc ai (va_up al i v) → V p l e R s m args below meth c nL G A Q w k n (pc + 1) L st) : V p l e R s m args below meth c nL G A Q w k n pc L (.long v :: .int x :: .ref (ad 2) :: st) :=
  v_last hc i hdg hM.2.2.2.1 hx hi (by decide) (kk _ (hM.la _))
end MPS
