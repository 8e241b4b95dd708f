/-! ===== class and model, call by call: they answer alike and stay alike ===== -/
def INV (n : Nat) (ct : Nat → Int64) (fm : Nat → Option Frm) (O X : List Nat) : Prop := (∀ i, i < n → isC (ct i) = true) ∧ CH n fm ∧ FCt n ct fm ∧ O.Nodup ∧ (∀ i, i ∈ O ↔ i < n ∧ (fm i).isSome = true) ∧ srtd (ihd ct) (fun i => i < n ∧ (fm i).isSome = true) X
/-- both stand for one state -/
def LR (G : cG) (u vm : wd) (px h : Nat) (ad : Nat → Nat) (P : (Nat → Int32) → Prop) : Prop := ∃ (pI pO pX n : Nat) (ia : Nat → Nat) (nm : Nat → Int32) (ct : Nat → Int64) (lv lo : Nat → Bool) (fa fb : Nat → Option Nat) (fm : Nat → Option Frm) (O X : List Nat) (cp ru : Int32) (sc : Nat → Int32) (ai : Nat → Nat → Int32) (al : Nat → Int64), INV n ct fm O X ∧ PC G u px pI pO pX n ia nm ct lv lo fa fb O X cp ru ∧ FW u n ia fa fm ∧ FJ n fa ∧ MP G vm h ad sc ai al ∧ RD n nm ct lv lo fm sc ai al ∧ sc 16 = cp ∧ sc 17 = ru ∧ P sc
def AG (G : cG) (u vm : wd) (px h : Nat) (ad : Nat → Nat) (r5 : Int32) (x y : Int64) : Prop := LR G u vm px h ad (fun sc => sc 24 = r5) ∧ (r5 = nI 0 → x = y)
section AGS
variable {G : cG} {w u' vm vm' : wd} {px pI pO pX n : Nat} {ia : Nat → Nat} {nm : Nat → Int32} {ct : Nat → Int64} {lv lo : Nat → Bool} {fa fb : Nat → Option Nat} {fm : Nat → Option Frm} {O X : List Nat} {cp ru r5 : Int32} {h : Nat} {ad : Nat → Nat} {sc : Nat → Int32} {ai : Nat → Nat → Int32} {al : Nat → Int64} {f' : Nat → Int64}
/-- nothing but the model's note moved -/
theorem lr_same (hI : INV n ct fm O X) (hP : PC G w px pI pO pX n ia nm ct lv lo fa fb O X cp ru) (hF : FW w n ia fa fm) (hJ : FJ n fa) (hD : RD n nm ct lv lo fm sc ai al) (h16 : sc 16 = cp) (h17 : sc 17 = ru) {v : Int32} (hM : MP G vm' h ad (va_up sc 24 v) ai al) : LR G w vm' px h ad (fun sc => sc 24 = v) := ⟨pI, pO, pX, n, ia, nm, ct, lv, lo, fa, fb, fm, O, X, cp, ru, _, _, _, hI, hP, hF, hJ, hM, hD.sc' rfl, h16, h17, rfl⟩
theorem nI_inj {n i j : Nat} (hn : n ≤ 40) (hi : i < n) (hj : j < n) (e : nI i = nI j) : i = j := (nI_eq (by omega) (by omega)).mp e
theorem isO_c {n i : Nat} {P : Prop} (hn : n ≤ 40) (hi : i < n) (h : isO n (nI i) = false) : P := by rw [isO_nI hi hn] at h; cases h
theorem bI_ite (b : Bool) : (if bI b = 0 then (0 : Int64) else 1) = (if b = true then 1 else 0) := by cases b <;> rfl
set_option maxHeartbeats 2000000 in
theorem ag_isLive (hI : INV n ct fm O X) (hP : PC G w px pI pO pX n ia nm ct lv lo fa fb O X cp ru) (hF : FW w n ia fa fm) (hJ : FJ n fa) (hD : RD n nm ct lv lo fm sc ai al) (h16 : sc 16 = cp) (h17 : sc 17 = ru) (o : Int32) {r6 : Int32} (h1 : (∃ v, (fun r w' => w = w' ∧ ∃ i, i < n ∧ o = nI i ∧ r = bI (lv i)) v u' ∧ f' 0 = (if v = 0 then 0 else 1) ∧ r5 = nI 0) ∨ ∃ E, (fun E w' => w = w' ∧ E = xIO ∧ isO n o = false) E u' ∧ ((E = "java/lang/IndexOutOfBoundsException" ∧ r5 = nI 1))) (h2 : (fun r w' => (isO n o = false ∧ MP G w' h ad (va_up sc 24 (nI 1)) ai al ∧ r = bI false) ∨ ∃ i, i < n ∧ o = nI i ∧ MP G w' h ad (va_up sc 24 (nI 0)) ai al ∧ r = bI (lv i)) r6 vm') : AG G u' vm' px h ad r5 (f' 0) (if r6 = 0 then 0 else 1) := by
  have hn := hD.2.1
  rcases h1 with ⟨v, ⟨rfl, i, hi, rfl, rfl⟩, e, rfl⟩ | ⟨E, ⟨rfl, rfl, hO⟩, -, rfl⟩
  · rcases h2 with ⟨hO, -⟩ | ⟨j, hj, e2, hM, rfl⟩
    · exact isO_c hn hi hO
    · obtain rfl := nI_inj hn hi hj e2
      exact ⟨lr_same hI hP hF hJ hD h16 h17 hM, fun _ => e⟩
  · rcases h2 with ⟨-, hM, -⟩ | ⟨j, hj, rfl, hM, rfl⟩
    · exact ⟨lr_same hI hP hF hJ hD h16 h17 hM, fun z => absurd z (by decide)⟩
    · exact isO_c hn hj hO
set_option maxHeartbeats 2000000 in
theorem ag_isLoose (hI : INV n ct fm O X) (hP : PC G w px pI pO pX n ia nm ct lv lo fa fb O X cp ru) (hF : FW w n ia fa fm) (hJ : FJ n fa) (hD : RD n nm ct lv lo fm sc ai al) (h16 : sc 16 = cp) (h17 : sc 17 = ru) (o : Int32) {r6 : Int32} (h1 : (∃ v, (fun r w' => w = w' ∧ ∃ i, i < n ∧ o = nI i ∧ r = bI (lo i)) v u' ∧ f' 0 = (if v = 0 then 0 else 1) ∧ r5 = nI 0) ∨ ∃ E, (fun E w' => w = w' ∧ E = xIO ∧ isO n o = false) E u' ∧ ((E = "java/lang/IndexOutOfBoundsException" ∧ r5 = nI 1))) (h2 : (fun r w' => (isO n o = false ∧ MP G w' h ad (va_up sc 24 (nI 1)) ai al ∧ r = bI false) ∨ ∃ i, i < n ∧ o = nI i ∧ MP G w' h ad (va_up sc 24 (nI 0)) ai al ∧ r = bI (lo i)) r6 vm') : AG G u' vm' px h ad r5 (f' 0) (if r6 = 0 then 0 else 1) := by
  have hn := hD.2.1
  rcases h1 with ⟨v, ⟨rfl, i, hi, rfl, rfl⟩, e, rfl⟩ | ⟨E, ⟨rfl, rfl, hO⟩, -, rfl⟩
  · rcases h2 with ⟨hO, -⟩ | ⟨j, hj, e2, hM, rfl⟩
    · exact isO_c hn hi hO
    · obtain rfl := nI_inj hn hi hj e2
      exact ⟨lr_same hI hP hF hJ hD h16 h17 hM, fun _ => e⟩
  · rcases h2 with ⟨-, hM, -⟩ | ⟨j, hj, rfl, hM, rfl⟩
    · exact ⟨lr_same hI hP hF hJ hD h16 h17 hM, fun z => absurd z (by decide)⟩
    · exact isO_c hn hj hO
set_option maxHeartbeats 2000000 in
theorem ag_canRead (hI : INV n ct fm O X) (hP : PC G w px pI pO pX n ia nm ct lv lo fa fb O X cp ru) (hF : FW w n ia fa fm) (hJ : FJ n fa) (hD : RD n nm ct lv lo fm sc ai al) (h16 : sc 16 = cp) (h17 : sc 17 = ru) (o : Int32) {r6 : Int32} (h1 : (∃ v, (fun r w' => w = w' ∧ ∃ i, i < n ∧ o = nI i ∧ r = bI (rdb lv lo fm i)) v u' ∧ f' 0 = (if v = 0 then 0 else 1) ∧ r5 = nI 0) ∨ ∃ E, (fun E w' => w = w' ∧ E = xIO ∧ isO n o = false) E u' ∧ ((E = "java/lang/IndexOutOfBoundsException" ∧ r5 = nI 1))) (h2 : (fun r w' => (isO n o = false ∧ MP G w' h ad (va_up sc 24 (nI 1)) ai al ∧ r = bI false) ∨ ∃ i, i < n ∧ o = nI i ∧ MP G w' h ad (va_up sc 24 (nI 0)) ai al ∧ r = bI (rdb lv lo fm i)) r6 vm') : AG G u' vm' px h ad r5 (f' 0) (if r6 = 0 then 0 else 1) := by
  have hn := hD.2.1
  rcases h1 with ⟨v, ⟨rfl, i, hi, rfl, rfl⟩, e, rfl⟩ | ⟨E, ⟨rfl, rfl, hO⟩, -, rfl⟩
  · rcases h2 with ⟨hO, -⟩ | ⟨j, hj, e2, hM, rfl⟩
    · exact isO_c hn hi hO
    · obtain rfl := nI_inj hn hi hj e2
      exact ⟨lr_same hI hP hF hJ hD h16 h17 hM, fun _ => e⟩
  · rcases h2 with ⟨-, hM, -⟩ | ⟨j, hj, rfl, hM, rfl⟩
    · exact ⟨lr_same hI hP hF hJ hD h16 h17 hM, fun z => absurd z (by decide)⟩
    · exact isO_c hn hj hO
set_option maxHeartbeats 2000000 in
theorem ag_read (hI : INV n ct fm O X) (hP : PC G w px pI pO pX n ia nm ct lv lo fa fb O X cp ru) (hF : FW w n ia fa fm) (hJ : FJ n fa) (hD : RD n nm ct lv lo fm sc ai al) (h16 : sc 16 = cp) (h17 : sc 17 = ru) (o : Int32) {r6 : Int64} (h1 : (∃ v, (fun r w' => w = w' ∧ ∃ i, i < n ∧ o = nI i ∧ rdb lv lo fm i = true ∧ r = ct i) v u' ∧ f' 0 = v ∧ r5 = nI 0) ∨ ∃ E, (fun E w' => w = w' ∧ (E = xIO ∧ isO n o = false ∨ E = xIS ∧ ∃ i, i < n ∧ o = nI i ∧ rdb lv lo fm i = false)) E u' ∧ ((E = "java/lang/IndexOutOfBoundsException" ∧ r5 = nI 1) ∨ (E = "java/lang/IllegalStateException" ∧ r5 = nI 2))) (h2 : (fun r w' => (isO n o = false ∧ MP G w' h ad (va_up sc 24 (nI 1)) ai al) ∨ (∃ i, i < n ∧ o = nI i ∧ rdb lv lo fm i = false ∧ MP G w' h ad (va_up sc 24 (nI 2)) ai al) ∨ ∃ i, i < n ∧ o = nI i ∧ rdb lv lo fm i = true ∧ MP G w' h ad (va_up sc 24 (nI 0)) ai al ∧ r = ct i) r6 vm') : AG G u' vm' px h ad r5 (f' 0) r6 := by
  have hn := hD.2.1
  rcases h1 with ⟨v, ⟨rfl, i, hi, rfl, hr, rfl⟩, e, rfl⟩ | ⟨E, ⟨rfl, hx⟩, hc⟩
  · rcases h2 with ⟨hO, -⟩ | ⟨j, hj, e2, hf, -⟩ | ⟨j, hj, e2, -, hM, rfl⟩
    · exact isO_c hn hi hO
    · obtain rfl := nI_inj hn hi hj e2
      rw [hr] at hf; cases hf
    · obtain rfl := nI_inj hn hi hj e2
      exact ⟨lr_same hI hP hF hJ hD h16 h17 hM, fun _ => e⟩
  · rcases hx with ⟨rfl, hO⟩ | ⟨rfl, i, hi, rfl, hr⟩
    · rcases hc with ⟨-, rfl⟩ | ⟨z, -⟩
      · rcases h2 with ⟨-, hM⟩ | ⟨j, hj, rfl, -⟩ | ⟨j, hj, rfl, -⟩
        · exact ⟨lr_same hI hP hF hJ hD h16 h17 hM, fun z => absurd z (by decide)⟩
        · exact isO_c hn hj hO
        · exact isO_c hn hj hO
      · exact absurd z (by decide)
    · rcases hc with ⟨z, -⟩ | ⟨-, rfl⟩
      · exact absurd z (by decide)
      · rcases h2 with ⟨hO, -⟩ | ⟨j, hj, e2, -, hM⟩ | ⟨j, hj, e2, hf, -⟩
        · exact isO_c hn hi hO
        · exact ⟨lr_same hI hP hF hJ hD h16 h17 hM, fun z => absurd z (by decide)⟩
        · obtain rfl := nI_inj hn hi hj e2
          rw [hr] at hf; cases hf
end AGS
