/-! ===== class and model, call by call: they answer alike and stay alike ===== -/
def INV (n : Nat) (ct : Nat → Int64) (fm : Nat → Option Frm) (O X : List Nat) : Prop := (∀ i, i < n → isC (ct i) = true) ∧ CH n fm ∧ FCt n ct fm ∧ O.Nodup ∧ (∀ i, i ∈ O ↔ i < n ∧ (fm i).isSome = true) ∧ srtd (ihd ct) (fun i => i < n ∧ (fm i).isSome = true) X
/-- both stand for one state -/
def LR (G : cG) (u vm : wd) (px h : Nat) (ad : Nat → Nat) (P : (Nat → Int32) → Prop) : Prop := ∃ (pI pO pX n : Nat) (ia : Nat → Nat) (nm : Nat → Int32) (ct : Nat → Int64) (lv lo : Nat → Bool) (fa fb : Nat → Option Nat) (fm : Nat → Option Frm) (O X : List Nat) (cp ru : Int32) (sc : Nat → Int32) (ai : Nat → Nat → Int32) (al : Nat → Int64), INV n ct fm O X ∧ PC G u px pI pO pX n ia nm ct lv lo fa fb O X cp ru ∧ FW u n ia fa fm ∧ FJ n fa ∧ MP G vm h ad sc ai al ∧ RD n nm ct lv lo fm sc ai al ∧ sc 16 = cp ∧ sc 17 = ru ∧ P sc
def AG (G : cG) (u vm : wd) (px h : Nat) (ad : Nat → Nat) (r5 : Int32) (x y : Int64) : Prop := LR G u vm px h ad (fun sc => sc 24 = r5) ∧ (r5 = nI 0 → x = y)
section AGS
variable {G : cG} {w u' vm vm' : wd} {px pI pO pX n : Nat} {ia : Nat → Nat} {nm : Nat → Int32} {ct : Nat → Int64} {lv lo : Nat → Bool} {fa fb : Nat → Option Nat} {fm : Nat → Option Frm} {O X : List Nat} {cp ru r5 : Int32} {h : Nat} {ad : Nat → Nat} {sc : Nat → Int32} {ai : Nat → Nat → Int32} {al : Nat → Int64} {f' : Nat → Int64}
/-- nothing but the model's note moved -/
theorem lr_same (hI : INV n ct fm O X) (hP : PC G w px pI pO pX n ia nm ct lv lo fa fb O X cp ru) (hF : FW w n ia fa fm) (hJ : FJ n fa) (hD : RD n nm ct lv lo fm sc ai al) (h16 : sc 16 = cp) (h17 : sc 17 = ru) {v : Int32} (hM : MP G vm' h ad (va_up sc 24 v) ai al) : LR G w vm' px h ad (fun sc => sc 24 = v) := ⟨pI, pO, pX, n, ia, nm, ct, lv, lo, fa, fb, fm, O, X, cp, ru, _, _, _, hI, hP, hF, hJ, hM, hD.sc' rfl, h16, h17, rfl⟩
theorem nI_inj {n i j : Nat} (hn : n ≤ 40) (hi : i < n) (hj : j < n) (e : nI i = nI j) : i = j := (nI_eq (by omega) (by omega)).mp e
theorem isO_c {n i : Nat} {P : Prop} (hn : n ≤ 40) (hi : i < n) (h : isO n (nI i) = false) : P := by rw [isO_nI hi hn] at h; cases h
theorem isO_nIG {n j : Nat} (hj : j < n) (hn : n < 2 ^ 30) : isO n (nI j) = true := by
  unfold isO
  rw [nI_toInt (by omega)]
  simp only [decide_eq_true_eq]
  omega
theorem isO_cG {n i : Nat} {P : Prop} (hn : n < 2 ^ 30) (hi : i < n) (h : isO n (nI i) = false) : P := by rw [isO_nIG hi hn] at h; cases h
theorem nI_injG {n i j : Nat} (hn : n < 2 ^ 30) (hi : i < n) (hj : j < n) (e : nI i = nI j) : i = j := (nI_eq (by omega) (by omega)).mp e
theorem sumN_congr {f g : Nat → Nat} : ∀ {n : Nat}, (∀ i, i < n → f i = g i) → sumN n f = sumN n g
  | 0, _ => rfl
  | n + 1, h => by rw [sumN, sumN, sumN_congr (fun i hi => h i (Nat.lt_succ_of_lt hi)), h n (Nat.lt_succ_self n)]
theorem sumO (hI : INV n ct fm O X) (f : Nat → Nat) (hz : ∀ i, fm i = none → f i = 0) : sumL f O = sumN n f := by
  rw [sumL_sumN f n (fun i => (fm i).isSome) O hI.2.2.2.1 hI.2.2.2.2.1]
  refine sumN_congr (fun i _ => ?_)
  cases h : fm i with
  | none => rw [hz i h]; rfl
  | some g => rfl
theorem rpk_0 {i : Nat} (h : fm i = none) : b1 (rpk fm i) = 0 := by
  unfold rpk
  show b1 (match fm i with | none => false | some g => _) = 0
  rw [h]; rfl
theorem dpk_0 {i t : Nat} (h : fm i = none) : b1 (dpk fm i t) = 0 := by
  unfold dpk
  show b1 (match bas fm i with | none => false | some b => _) = 0
  rw [show bas fm i = none by unfold bas; rw [h]; rfl]; rfl
theorem cst_0 {i : Nat} (h : fm i = none) : cst fm i = 0 := by unfold cst; rw [h]
theorem INV.uX (hI : INV n ct fm O X) {Y : List Nat} (hY : srtd (ihd ct) (fun i => i < n ∧ (fm i).isSome = true) Y) : X = Y := srtd.uniq (so_ihd ct) hI.2.2.2.2.2.1 hY.1 (fun i => (hI.2.2.2.2.2.2 i).trans (hY.2 i).symm)
theorem INV.dm (hI : INV n ct fm O X) {i : Nat} {g : Frm} (hg : fm i = some g) : INV n ct (va_up fm i (some (dmgF g))) O X := by
  have he : ∀ j, (va_up fm i (some (dmgF g)) j).isSome = (fm j).isSome := fun j => by
    by_cases hj : j = i
    · subst hj; rw [va_up_self, hg]; rfl
    · rw [up_n hj]
  refine ⟨hI.1, hI.2.1.dm hg, fun j hj g' hg' => ?_, hI.2.2.2.1, fun j => by rw [he]; exact hI.2.2.2.2.1 j, hI.2.2.2.2.2.congr (fun j => by rw [he])⟩
  by_cases hji : j = i
  · subst hji
    rw [va_up_self] at hg'
    cases hg'
    exact hI.2.2.1 j hj g hg
  · rw [up_n hji] at hg'
    exact hI.2.2.1 j hj g' hg'
theorem INV.sto (hI : INV n ct fm O X) {x : Int64} (hx : isC x = true) : INV (n + 1) (va_up ct n x) (va_up fm n none) O X := by
  have hin : ∀ i, i < n → va_up fm n none i = fm i ∧ va_up ct n x i = ct i := fun i hi => ⟨up_n (by omega), up_n (by omega)⟩
  have hq : ∀ i, (i < n ∧ (fm i).isSome = true) ↔ (i < n + 1 ∧ (va_up fm n none i).isSome = true) := fun i => by
    by_cases hi : i = n
    · subst hi
      rw [va_up_self]
      exact ⟨fun z => absurd z.1 (Nat.lt_irrefl _), fun z => by cases z.2⟩
    · rw [up_n hi]
      exact ⟨fun z => ⟨by omega, z.2⟩, fun z => ⟨by omega, z.2⟩⟩
  have hXn : ∀ i ∈ X, i < n := fun i hi => ((hI.2.2.2.2.2.2 i).mp hi).1
  refine ⟨fun i hi => ?_, fun i hi g hg => ?_, fun i hi g hg => ?_, hI.2.2.2.1, fun i => (hI.2.2.2.2.1 i).trans (hq i), ?_, fun i => (hI.2.2.2.2.2.2 i).trans (hq i)⟩
  · by_cases hin2 : i = n
    · subst hin2; rw [va_up_self]; exact hx
    · rw [up_n hin2]; exact hI.1 i (by omega)
  · by_cases hin2 : i = n
    · subst hin2; rw [va_up_self] at hg; cases hg
    · rw [up_n hin2] at hg
      obtain ⟨h1, h2⟩ := hI.2.1 i (by omega) g hg
      refine ⟨h1, fun b hb => ?_⟩
      obtain ⟨h3, g', h4, h5⟩ := h2 b hb
      exact ⟨by omega, g', by rw [(hin b h3).1]; exact h4, h5⟩
  · by_cases hin2 : i = n
    · subst hin2; rw [va_up_self] at hg; cases hg
    · rw [up_n hin2] at hg
      obtain ⟨h1, h2⟩ := hI.2.2.1 i (by omega) g hg
      rw [(hin i (by omega)).2]
      refine ⟨h1, fun b hb => ?_⟩
      obtain ⟨h3, -⟩ := (hI.2.1 i (by omega) g hg).2 b hb
      rw [(hin b h3).2]
      exact h2 b hb
  · refine List.Pairwise.imp_of_mem (fun {a b} ha hb hab => ?_) hI.2.2.2.2.2.1
    have ea : hso (va_up ct n x) a = hso ct a := by unfold hso; rw [(hin a (hXn a ha)).2]
    have eb : hso (va_up ct n x) b = hso ct b := by unfold hso; rw [(hin b (hXn b hb)).2]
    unfold ihd at hab ⊢
    rw [ea, eb]
    exact hab
theorem INV.pak (hI : INV n ct fm O X) {bd W : Nat} {rs : Bool} {O' X' : List Nat} {q : Nat → Prop} (hS : srtd (ahd nm ct) q O') (hq : ∀ i, q i → i < n) (hX : srtd (ihd ct) (fun i => i ∈ O') X') (hbd : bd ≤ 6) : INV n ct (fmr ct fm bd W rs O' O'.length).1 O' X' := by
  have hnd := hS.nodup (so_ahd nm ct)
  have hO : ∀ i ∈ O', i < n := fun i hi => hq i ((hS.2 i).mp hi)
  have hN : NOK n ct O' O'.length (fmr ct fm bd W rs O' O'.length).1 := fmr_ok hnd hO hbd (Nat.le_refl _)
  have hm : ∀ i, i ∈ O' ↔ i < n ∧ ((fmr ct fm bd W rs O' O'.length).1 i).isSome = true := fun i => by
    constructor
    · intro hi
      obtain ⟨z, hz, e⟩ := List.getElem_of_mem hi
      obtain ⟨g, hg⟩ := (hN.1 i).mpr ⟨z, hz, by rw [← e]; simp [hz]⟩
      exact ⟨hO i hi, by rw [hg]; rfl⟩
    · rintro ⟨-, hs⟩
      cases hg : (fmr ct fm bd W rs O' O'.length).1 i with
      | none => rw [hg] at hs; cases hs
      | some g =>
        obtain ⟨z, hz, e⟩ := (hN.1 i).mp ⟨g, hg⟩
        rw [← e]; exact getD_mem hz
  exact ⟨hI.1, hN.2.1, hN.2.2, hnd, hm, hX.congr hm⟩
theorem bI_ite (b : Bool) : (if bI b = 0 then (0 : Int64) else 1) = (if b = true then 1 else 0) := by cases b <;> rfl
set_option maxHeartbeats 2000000 in
theorem ag_isLive (hI : INV n ct fm O X) (hP : PC G w px pI pO pX n ia nm ct lv lo fa fb O X cp ru) (hF : FW w n ia fa fm) (hJ : FJ n fa) (hD : RD n nm ct lv lo fm sc ai al) (h16 : sc 16 = cp) (h17 : sc 17 = ru) (o : Int32) {r6 : Int32} (h1 : (∃ v, (fun r w' => w = w' ∧ ∃ i, i < n ∧ o = nI i ∧ r = bI (lv i)) v u' ∧ f' 0 = (if v = 0 then 0 else 1) ∧ r5 = nI 0) ∨ ∃ E, (fun E w' => w = w' ∧ E = xIO ∧ isO n o = false) E u' ∧ ((E = "java/lang/IndexOutOfBoundsException" ∧ r5 = nI 1))) (h2 : (fun r w' => (isO n o = false ∧ MP G w' h ad (va_up sc 24 (nI 1)) ai al ∧ r = bI false) ∨ ∃ i, i < n ∧ o = nI i ∧ MP G w' h ad (va_up sc 24 (nI 0)) ai al ∧ r = bI (lv i)) r6 vm') : AG G u' vm' px h ad r5 (f' 0) (if r6 = 0 then 0 else 1) := by
  have hn := hD.2.1
  rcases h1 with ⟨v, ⟨rfl, i, hi, rfl, rfl⟩, e, rfl⟩ | ⟨E, ⟨rfl, rfl, hO⟩, -, rfl⟩
  · rcases h2 with ⟨hO, -⟩ | ⟨j, hj, e2, hM, rfl⟩
    · exact isO_c hn hi hO
    · obtain rfl := nI_inj hn hi hj e2
      exact ⟨lr_same hI hP hF hJ hD h16 h17 hM, fun _ => e⟩
  · rcases h2 with ⟨-, hM, -⟩ | ⟨j, hj, rfl, hM, rfl⟩
    · exact ⟨lr_same hI hP hF hJ hD h16 h17 hM, fun z => absurd z (by decide)⟩
    · exact isO_c hn hj hO
set_option maxHeartbeats 2000000 in
theorem ag_isLoose (hI : INV n ct fm O X) (hP : PC G w px pI pO pX n ia nm ct lv lo fa fb O X cp ru) (hF : FW w n ia fa fm) (hJ : FJ n fa) (hD : RD n nm ct lv lo fm sc ai al) (h16 : sc 16 = cp) (h17 : sc 17 = ru) (o : Int32) {r6 : Int32} (h1 : (∃ v, (fun r w' => w = w' ∧ ∃ i, i < n ∧ o = nI i ∧ r = bI (lo i)) v u' ∧ f' 0 = (if v = 0 then 0 else 1) ∧ r5 = nI 0) ∨ ∃ E, (fun E w' => w = w' ∧ E = xIO ∧ isO n o = false) E u' ∧ ((E = "java/lang/IndexOutOfBoundsException" ∧ r5 = nI 1))) (h2 : (fun r w' => (isO n o = false ∧ MP G w' h ad (va_up sc 24 (nI 1)) ai al ∧ r = bI false) ∨ ∃ i, i < n ∧ o = nI i ∧ MP G w' h ad (va_up sc 24 (nI 0)) ai al ∧ r = bI (lo i)) r6 vm') : AG G u' vm' px h ad r5 (f' 0) (if r6 = 0 then 0 else 1) := by
  have hn := hD.2.1
  rcases h1 with ⟨v, ⟨rfl, i, hi, rfl, rfl⟩, e, rfl⟩ | ⟨E, ⟨rfl, rfl, hO⟩, -, rfl⟩
  · rcases h2 with ⟨hO, -⟩ | ⟨j, hj, e2, hM, rfl⟩
    · exact isO_c hn hi hO
    · obtain rfl := nI_inj hn hi hj e2
      exact ⟨lr_same hI hP hF hJ hD h16 h17 hM, fun _ => e⟩
  · rcases h2 with ⟨-, hM, -⟩ | ⟨j, hj, rfl, hM, rfl⟩
    · exact ⟨lr_same hI hP hF hJ hD h16 h17 hM, fun z => absurd z (by decide)⟩
    · exact isO_c hn hj hO
set_option maxHeartbeats 2000000 in
theorem ag_canRead (hI : INV n ct fm O X) (hP : PC G w px pI pO pX n ia nm ct lv lo fa fb O X cp ru) (hF : FW w n ia fa fm) (hJ : FJ n fa) (hD : RD n nm ct lv lo fm sc ai al) (h16 : sc 16 = cp) (h17 : sc 17 = ru) (o : Int32) {r6 : Int32} (h1 : (∃ v, (fun r w' => w = w' ∧ ∃ i, i < n ∧ o = nI i ∧ r = bI (rdb lv lo fm i)) v u' ∧ f' 0 = (if v = 0 then 0 else 1) ∧ r5 = nI 0) ∨ ∃ E, (fun E w' => w = w' ∧ E = xIO ∧ isO n o = false) E u' ∧ ((E = "java/lang/IndexOutOfBoundsException" ∧ r5 = nI 1))) (h2 : (fun r w' => (isO n o = false ∧ MP G w' h ad (va_up sc 24 (nI 1)) ai al ∧ r = bI false) ∨ ∃ i, i < n ∧ o = nI i ∧ MP G w' h ad (va_up sc 24 (nI 0)) ai al ∧ r = bI (rdb lv lo fm i)) r6 vm') : AG G u' vm' px h ad r5 (f' 0) (if r6 = 0 then 0 else 1) := by
  have hn := hD.2.1
  rcases h1 with ⟨v, ⟨rfl, i, hi, rfl, rfl⟩, e, rfl⟩ | ⟨E, ⟨rfl, rfl, hO⟩, -, rfl⟩
  · rcases h2 with ⟨hO, -⟩ | ⟨j, hj, e2, hM, rfl⟩
    · exact isO_c hn hi hO
    · obtain rfl := nI_inj hn hi hj e2
      exact ⟨lr_same hI hP hF hJ hD h16 h17 hM, fun _ => e⟩
  · rcases h2 with ⟨-, hM, -⟩ | ⟨j, hj, rfl, hM, rfl⟩
    · exact ⟨lr_same hI hP hF hJ hD h16 h17 hM, fun z => absurd z (by decide)⟩
    · exact isO_c hn hj hO
set_option maxHeartbeats 2000000 in
theorem ag_read (hI : INV n ct fm O X) (hP : PC G w px pI pO pX n ia nm ct lv lo fa fb O X cp ru) (hF : FW w n ia fa fm) (hJ : FJ n fa) (hD : RD n nm ct lv lo fm sc ai al) (h16 : sc 16 = cp) (h17 : sc 17 = ru) (o : Int32) {r6 : Int64} (h1 : (∃ v, (fun r w' => w = w' ∧ ∃ i, i < n ∧ o = nI i ∧ rdb lv lo fm i = true ∧ r = ct i) v u' ∧ f' 0 = v ∧ r5 = nI 0) ∨ ∃ E, (fun E w' => w = w' ∧ (E = xIO ∧ isO n o = false ∨ E = xIS ∧ ∃ i, i < n ∧ o = nI i ∧ rdb lv lo fm i = false)) E u' ∧ ((E = "java/lang/IndexOutOfBoundsException" ∧ r5 = nI 1) ∨ (E = "java/lang/IllegalStateException" ∧ r5 = nI 2))) (h2 : (fun r w' => (isO n o = false ∧ MP G w' h ad (va_up sc 24 (nI 1)) ai al) ∨ (∃ i, i < n ∧ o = nI i ∧ rdb lv lo fm i = false ∧ MP G w' h ad (va_up sc 24 (nI 2)) ai al) ∨ ∃ i, i < n ∧ o = nI i ∧ rdb lv lo fm i = true ∧ MP G w' h ad (va_up sc 24 (nI 0)) ai al ∧ r = ct i) r6 vm') : AG G u' vm' px h ad r5 (f' 0) r6 := by
  have hn := hD.2.1
  rcases h1 with ⟨v, ⟨rfl, i, hi, rfl, hr, rfl⟩, e, rfl⟩ | ⟨E, ⟨rfl, hx⟩, hc⟩
  · rcases h2 with ⟨hO, -⟩ | ⟨j, hj, e2, hf, -⟩ | ⟨j, hj, e2, -, hM, rfl⟩
    · exact isO_c hn hi hO
    · obtain rfl := nI_inj hn hi hj e2
      rw [hr] at hf; cases hf
    · obtain rfl := nI_inj hn hi hj e2
      exact ⟨lr_same hI hP hF hJ hD h16 h17 hM, fun _ => e⟩
  · rcases hx with ⟨rfl, hO⟩ | ⟨rfl, i, hi, rfl, hr⟩
    · rcases hc with ⟨-, rfl⟩ | ⟨z, -⟩
      · rcases h2 with ⟨-, hM⟩ | ⟨j, hj, rfl, -⟩ | ⟨j, hj, rfl, -⟩
        · exact ⟨lr_same hI hP hF hJ hD h16 h17 hM, fun z => absurd z (by decide)⟩
        · exact isO_c hn hj hO
        · exact isO_c hn hj hO
      · exact absurd z (by decide)
    · rcases hc with ⟨z, -⟩ | ⟨-, rfl⟩
      · exact absurd z (by decide)
      · rcases h2 with ⟨hO, -⟩ | ⟨j, hj, e2, -, hM⟩ | ⟨j, hj, e2, hf, -⟩
        · exact isO_c hn hi hO
        · exact ⟨lr_same hI hP hF hJ hD h16 h17 hM, fun z => absurd z (by decide)⟩
        · obtain rfl := nI_inj hn hi hj e2
          rw [hr] at hf; cases hf
set_option maxHeartbeats 2000000 in
theorem ag_delete (hI : INV n ct fm O X) (hP : PC G w px pI pO pX n ia nm ct lv lo fa fb O X cp ru) (hF : FW w n ia fa fm) (hJ : FJ n fa) (hD : RD n nm ct lv lo fm sc ai al) (h16 : sc 16 = cp) (h17 : sc 17 = ru) (o : Int32) {r6 : Int32} (h1 : (∃ v, (fun r w' => ∃ i, i < n ∧ o = nI i ∧ lv i = true ∧ PC G w' px pI pO pX n ia nm ct (va_up lv i false) (va_up lo i false) fa fb O X cp ru ∧ FW w' n ia fa fm ∧ r = nI (sumN n (fun j => b1 (va_up lv i false j)))) v u' ∧ f' 0 = v.toInt64 ∧ r5 = nI 0) ∨ ∃ E, (fun E w' => w = w' ∧ (E = xIO ∧ isO n o = false ∨ E = xIS ∧ ∃ i, i < n ∧ o = nI i ∧ lv i = false)) E u' ∧ ((E = "java/lang/IndexOutOfBoundsException" ∧ r5 = nI 1) ∨ (E = "java/lang/IllegalStateException" ∧ r5 = nI 2))) (h2 : (fun r w' => (isO n o = false ∧ MP G w' h ad (va_up sc 24 (nI 1)) ai al) ∨ (∃ i, i < n ∧ o = nI i ∧ lv i = false ∧ MP G w' h ad (va_up sc 24 (nI 2)) ai al) ∨ ∃ i, i < n ∧ o = nI i ∧ lv i = true ∧ (∃ ai', MP G w' h ad (va_up sc 24 (nI 0)) ai' al ∧ RD n nm ct (va_up lv i false) (va_up lo i false) fm (va_up sc 24 (nI 0)) ai' al) ∧ r = nI (sumN n (fun j => b1 (va_up lv i false j)))) r6 vm') : AG G u' vm' px h ad r5 (f' 0) r6.toInt64 := by
  have hn := hD.2.1
  rcases h1 with ⟨v, ⟨i, hi, rfl, hlv, hP2, hF2, rfl⟩, e, rfl⟩ | ⟨E, ⟨rfl, hx⟩, hc⟩
  · rcases h2 with ⟨hO, -⟩ | ⟨j, hj, e2, hf, -⟩ | ⟨j, hj, e2, -, ⟨ai', hM, hD2⟩, rfl⟩
    · exact isO_c hn hi hO
    · obtain rfl := nI_inj hn hi hj e2
      rw [hlv] at hf; cases hf
    · obtain rfl := nI_inj hn hi hj e2
      exact ⟨⟨pI, pO, pX, n, ia, nm, ct, _, _, fa, fb, fm, O, X, cp, ru, _, _, _, hI, hP2, hF2, hJ, hM, hD2, h16, h17, rfl⟩, fun _ => e⟩
  · rcases hx with ⟨rfl, hO⟩ | ⟨rfl, i, hi, rfl, hr⟩
    · rcases hc with ⟨-, rfl⟩ | ⟨z, -⟩
      · rcases h2 with ⟨-, hM⟩ | ⟨j, hj, rfl, -⟩ | ⟨j, hj, rfl, -⟩
        · exact ⟨lr_same hI hP hF hJ hD h16 h17 hM, fun z => absurd z (by decide)⟩
        · exact isO_c hn hj hO
        · exact isO_c hn hj hO
      · exact absurd z (by decide)
    · rcases hc with ⟨z, -⟩ | ⟨-, rfl⟩
      · exact absurd z (by decide)
      · rcases h2 with ⟨hO, -⟩ | ⟨j, hj, e2, -, hM⟩ | ⟨j, hj, e2, hf, -⟩
        · exact isO_c hn hi hO
        · exact ⟨lr_same hI hP hF hJ hD h16 h17 hM, fun z => absurd z (by decide)⟩
        · obtain rfl := nI_inj hn hi hj e2
          rw [hr] at hf; cases hf
set_option maxHeartbeats 2000000 in
theorem ag_store (hI : INV n ct fm O X) (hP : PC G w px pI pO pX n ia nm ct lv lo fa fb O X cp ru) (hF : FW w n ia fa fm) (hJ : FJ n fa) (hD : RD n nm ct lv lo fm sc ai al) (h16 : sc 16 = cp) (h17 : sc 17 = ru) (nm0 : Int32) (x : Int64) {r6 : Int32} (h1 : (∃ v, (fun r w' => n < 40 ∧ (isin nm0 (nI 0) (nI 99) && isC x) = true ∧ (∃ q, PC G w' px pI pO pX (n + 1) (va_up ia n q) (va_up nm n nm0) (va_up ct n x) (va_up lv n true) (va_up lo n true) (va_up fa n none) (va_up fb n none) O X cp ru ∧ FW w' (n + 1) (va_up ia n q) (va_up fa n none) (va_up fm n none)) ∧ r = nI n) v u' ∧ f' 0 = v.toInt64 ∧ r5 = nI 0) ∨ ∃ E, (fun E w' => w = w' ∧ (E = xIA ∧ (isin nm0 (nI 0) (nI 99) && isC x) = false ∨ E = xIS ∧ (isin nm0 (nI 0) (nI 99) && isC x) = true ∧ n = 40)) E u' ∧ ((E = "java/lang/IllegalArgumentException" ∧ r5 = nI 1) ∨ (E = "java/lang/IllegalStateException" ∧ r5 = nI 2))) (h2 : (fun r w' => ((isin nm0 (nI 0) (nI 99) && isC x) = false ∧ MP G w' h ad (va_up sc 24 (nI 1)) ai al) ∨ ((isin nm0 (nI 0) (nI 99) && isC x) = true ∧ n = 40 ∧ MP G w' h ad (va_up sc 24 (nI 2)) ai al) ∨ ((isin nm0 (nI 0) (nI 99) && isC x) = true ∧ n < 40 ∧ (∃ ai' al', MP G w' h ad (va_up (va_up sc 24 (nI 0)) 0 (nI (n + 1))) ai' al' ∧ RD (n + 1) (va_up nm n nm0) (va_up ct n x) (va_up lv n true) (va_up lo n true) (va_up fm n none) (va_up (va_up sc 24 (nI 0)) 0 (nI (n + 1))) ai' al') ∧ r = nI n)) r6 vm') : AG G u' vm' px h ad r5 (f' 0) r6.toInt64 := by
  rcases h1 with ⟨v, ⟨hn, hok, ⟨q, hP2, hF2⟩, rfl⟩, e, rfl⟩ | ⟨E, ⟨rfl, hx⟩, hc⟩
  · rcases h2 with ⟨hno, -⟩ | ⟨-, hf, -⟩ | ⟨-, -, ⟨ai', al', hM, hD2⟩, rfl⟩
    · rw [hok] at hno; cases hno
    · omega
    · have hx : isC x = true := (Bool.and_eq_true _ _ ▸ hok).2
      have hJ2 : FJ (n + 1) (va_up fa n none) := fun i j f hi hj e1 e2 => by
        by_cases h1 : i = n
        · subst h1; rw [va_up_self] at e1; cases e1
        · by_cases h2 : j = n
          · subst h2; rw [va_up_self] at e2; cases e2
          · rw [up_n h1] at e1
            rw [up_n h2] at e2
            exact hJ i j f (by omega) (by omega) e1 e2
      exact ⟨⟨pI, pO, pX, n + 1, _, _, _, _, _, _, _, _, O, X, cp, ru, _, _, _, hI.sto hx, hP2, hF2, hJ2, hM, hD2, h16, h17, rfl⟩, fun _ => e⟩
  · rcases hx with ⟨rfl, hno⟩ | ⟨rfl, hok, hn⟩
    · rcases hc with ⟨-, rfl⟩ | ⟨z, -⟩
      · rcases h2 with ⟨-, hM⟩ | ⟨hok, -⟩ | ⟨hok, -⟩
        · exact ⟨lr_same hI hP hF hJ hD h16 h17 hM, fun z => absurd z (by decide)⟩
        · rw [hok] at hno; cases hno
        · rw [hok] at hno; cases hno
      · exact absurd z (by decide)
    · rcases hc with ⟨z, -⟩ | ⟨-, rfl⟩
      · exact absurd z (by decide)
      · rcases h2 with ⟨hno, -⟩ | ⟨-, -, hM⟩ | ⟨-, hf, -⟩
        · rw [hok] at hno; cases hno
        · exact ⟨lr_same hI hP hF hJ hD h16 h17 hM, fun z => absurd z (by decide)⟩
        · omega
set_option maxHeartbeats 2000000 in
theorem ag_pack (hI : INV n ct fm O X) (hP : PC G w px pI pO pX n ia nm ct lv lo fa fb O X cp ru) (hF : FW w n ia fa fm) (hJ : FJ n fa) (hD : RD n nm ct lv lo fm sc ai al) (h16 : sc 16 = cp) (h17 : sc 17 = ru) (Wv bv : Int32) (rs : Bool) {r6 : Int32} (h1 : (∃ v, (fun r w' => (isin Wv (nI 1) (nI 8) && isin bv (nI 0) (nI 6)) = true ∧ ∃ W bd O' X' fa' fb', Wv = nI W ∧ bv = nI bd ∧ W ≤ 8 ∧ bd ≤ 6 ∧ srtd (ahd nm ct) (fun i => i < n ∧ rdb lv lo fm i = true) O' ∧ srtd (ihd ct) (fun i => i ∈ O') X' ∧ PC G w' px pI pO pX n ia nm ct lv lo fa' fb' O' X' (nI (fmr ct fm bd W rs O' O'.length).2.1) (nI (fmr ct fm bd W rs O' O'.length).2.2) ∧ FW w' n ia fa' (fmr ct fm bd W rs O' O'.length).1 ∧ FJ n fa' ∧ r = nI (sumL (cst (fmr ct fm bd W rs O' O'.length).1) O')) v u' ∧ f' 0 = v.toInt64 ∧ r5 = nI 0) ∨ ∃ E, (fun E w' => w = w' ∧ E = xIA ∧ (isin Wv (nI 1) (nI 8) && isin bv (nI 0) (nI 6)) = false) E u' ∧ ((E = "java/lang/IllegalArgumentException" ∧ r5 = nI 1))) (h2 : (fun r w' => ((isin Wv (nI 1) (nI 8) && isin bv (nI 0) (nI 6)) = false ∧ MP G w' h ad (va_up sc 24 (nI 1)) ai al) ∨ ((isin Wv (nI 1) (nI 8) && isin bv (nI 0) (nI 6)) = true ∧ ∃ W bd O sc' ai', Wv = nI W ∧ bv = nI bd ∧ W ≤ 8 ∧ bd ≤ 6 ∧ srtd (ahd nm ct) (fun i => i < n ∧ rdb lv lo fm i = true) O ∧ MP G w' h ad sc' ai' al ∧ RD n nm ct lv lo (fmr ct fm bd W rs O O.length).1 sc' ai' al ∧ sc' 16 = nI (fmr ct fm bd W rs O O.length).2.1 ∧ sc' 17 = nI (fmr ct fm bd W rs O O.length).2.2 ∧ sc' 24 = nI 0 ∧ r = nI (sumN n (cst (fmr ct fm bd W rs O O.length).1)))) r6 vm') : AG G u' vm' px h ad r5 (f' 0) r6.toInt64 := by
  have hn := hD.2.1
  rcases h1 with ⟨v, ⟨hok, W, bd, O', X', fa', fb', rfl, rfl, hW, hbd, hS, hX, hP2, hF2, hJ2, rfl⟩, e, rfl⟩ | ⟨E, ⟨rfl, rfl, hno⟩, -, rfl⟩
  · rcases h2 with ⟨hno, -⟩ | ⟨-, W2, bd2, O2, sc', ai', e1, e2, hW2, hbd2, hS2, hM, hD2, h162, h172, h242, rfl⟩
    · rw [hok] at hno; cases hno
    · obtain rfl := (nI_eq (by omega) (by omega)).mp e1
      obtain rfl := (nI_eq (by omega) (by omega)).mp e2
      obtain rfl := srtd.uniq (so_ahd nm ct) hS.1 hS2.1 (fun i => (hS.2 i).trans (hS2.2 i).symm)
      have hI2 := hI.pak (W := W) (rs := rs) hS (fun i z => z.1) hX hbd
      exact ⟨⟨pI, pO, pX, n, ia, nm, ct, lv, lo, fa', fb', _, O', X', _, _, _, _, _, hI2, hP2, hF2, hJ2, hM, hD2, h162, h172, h242⟩, fun _ => by rw [e, sumO hI2 _ (fun j hj => cst_0 hj)]⟩
  · rcases h2 with ⟨-, hM⟩ | ⟨hok, -⟩
    · exact ⟨lr_same hI hP hF hJ hD h16 h17 hM, fun z => absurd z (by decide)⟩
    · rw [hok] at hno; cases hno
set_option maxHeartbeats 2000000 in
theorem ag_damage (hI : INV n ct fm O X) (hP : PC G w px pI pO pX n ia nm ct lv lo fa fb O X cp ru) (hF : FW w n ia fa fm) (hJ : FJ n fa) (hD : RD n nm ct lv lo fm sc ai al) (h16 : sc 16 = cp) (h17 : sc 17 = ru) (o : Int32) {r6 : Int32} (h1 : (∃ v, (fun r w' => ∃ i g, i < n ∧ o = nI i ∧ fm i = some g ∧ g.2.2.2.2 = false ∧ PC G w' px pI pO pX n ia nm ct lv lo fa fb O X cp ru ∧ FW w' n ia fa (va_up fm i (some (dmgF g))) ∧ r = nI (sumL (fun j => b1 (rpk fm j)) O) - nI (sumL (fun j => b1 (rpk (va_up fm i (some (dmgF g))) j)) O)) v u' ∧ f' 0 = v.toInt64 ∧ r5 = nI 0) ∨ ∃ E, (fun E w' => w = w' ∧ (E = xIO ∧ isO n o = false ∨ E = xIS ∧ ∃ i, i < n ∧ o = nI i ∧ (fm i = none ∨ ∃ g, fm i = some g ∧ g.2.2.2.2 = true))) E u' ∧ ((E = "java/lang/IndexOutOfBoundsException" ∧ r5 = nI 1) ∨ (E = "java/lang/IllegalStateException" ∧ r5 = nI 2))) (h2 : (fun r w' => (isO n o = false ∧ MP G w' h ad (va_up sc 24 (nI 1)) ai al) ∨ (∃ i, i < n ∧ o = nI i ∧ (fm i = none ∨ ∃ g, fm i = some g ∧ g.2.2.2.2 = true) ∧ MP G w' h ad (va_up sc 24 (nI 2)) ai al) ∨ ∃ i g, i < n ∧ o = nI i ∧ fm i = some g ∧ g.2.2.2.2 = false ∧ (∃ ai', MP G w' h ad (va_up sc 24 (nI 0)) ai' al ∧ RD n nm ct lv lo (va_up fm i (some (dmgF g))) (va_up sc 24 (nI 0)) ai' al) ∧ r = nI (sumN n (fun j => b1 (rpk fm j))) - nI (sumN n (fun j => b1 (rpk (va_up fm i (some (dmgF g))) j)))) r6 vm') : AG G u' vm' px h ad r5 (f' 0) r6.toInt64 := by
  have hn := hD.2.1
  rcases h1 with ⟨v, ⟨i, g, hi, rfl, hg, hdm, hP2, hF2, rfl⟩, e, rfl⟩ | ⟨E, ⟨rfl, hx⟩, hc⟩
  · rcases h2 with ⟨hO, -⟩ | ⟨j, hj, e2, hf, -⟩ | ⟨j, g', hj, e2, hg', -, ⟨ai', hM, hD2⟩, rfl⟩
    · exact isO_c hn hi hO
    · obtain rfl := nI_inj hn hi hj e2
      rcases hf with hf | ⟨g', hg', hf⟩
      · rw [hg] at hf; cases hf
      · rw [hg] at hg'; cases hg'; rw [hdm] at hf; cases hf
    · obtain rfl := nI_inj hn hi hj e2
      rw [hg] at hg'; cases hg'
      have hI2 := hI.dm hg
      exact ⟨⟨pI, pO, pX, n, ia, nm, ct, lv, lo, fa, fb, _, O, X, cp, ru, _, _, _, hI2, hP2, hF2, hJ, hM, hD2, h16, h17, rfl⟩, fun _ => by rw [e, sumO hI _ (fun j hj => rpk_0 hj), sumO hI2 _ (fun j hj => rpk_0 hj)]⟩
  · rcases hx with ⟨rfl, hO⟩ | ⟨rfl, i, hi, rfl, hr⟩
    · rcases hc with ⟨-, rfl⟩ | ⟨z, -⟩
      · rcases h2 with ⟨-, hM⟩ | ⟨j, hj, rfl, -⟩ | ⟨j, g', hj, rfl, -⟩
        · exact ⟨lr_same hI hP hF hJ hD h16 h17 hM, fun z => absurd z (by decide)⟩
        · exact isO_c hn hj hO
        · exact isO_c hn hj hO
      · exact absurd z (by decide)
    · rcases hc with ⟨z, -⟩ | ⟨-, rfl⟩
      · exact absurd z (by decide)
      · rcases h2 with ⟨hO, -⟩ | ⟨j, hj, e2, -, hM⟩ | ⟨j, g', hj, e2, hg', hdm, -⟩
        · exact isO_c hn hi hO
        · exact ⟨lr_same hI hP hF hJ hD h16 h17 hM, fun z => absurd z (by decide)⟩
        · obtain rfl := nI_inj hn hi hj e2
          rcases hr with hr | ⟨g, hg, hr⟩
          · rw [hg'] at hr; cases hr
          · rw [hg'] at hg; cases hg; rw [hdm] at hr; cases hr
set_option maxHeartbeats 2000000 in
theorem ag_costOf (hI : INV n ct fm O X) (hP : PC G w px pI pO pX n ia nm ct lv lo fa fb O X cp ru) (hF : FW w n ia fa fm) (hJ : FJ n fa) (hD : RD n nm ct lv lo fm sc ai al) (h16 : sc 16 = cp) (h17 : sc 17 = ru) (o : Int32) {r6 : Int32} (h1 : (∃ v, (fun r w' => w = w' ∧ ∃ i g, i < n ∧ o = nI i ∧ fm i = some g ∧ r = nI g.2.2.2.1) v u' ∧ f' 0 = v.toInt64 ∧ r5 = nI 0) ∨ ∃ E, (fun E w' => w = w' ∧ (E = xIO ∧ isO n o = false ∨ E = xIS ∧ ∃ i, i < n ∧ o = nI i ∧ fm i = none)) E u' ∧ ((E = "java/lang/IndexOutOfBoundsException" ∧ r5 = nI 1) ∨ (E = "java/lang/IllegalStateException" ∧ r5 = nI 2))) (h2 : (fun r w' => (isO n o = false ∧ MP G w' h ad (va_up sc 24 (nI 1)) ai al) ∨ (∃ i, i < n ∧ o = nI i ∧ fm i = none ∧ MP G w' h ad (va_up sc 24 (nI 2)) ai al) ∨ ∃ i g, i < n ∧ o = nI i ∧ fm i = some g ∧ MP G w' h ad (va_up sc 24 (nI 0)) ai al ∧ r = nI g.2.2.2.1) r6 vm') : AG G u' vm' px h ad r5 (f' 0) r6.toInt64 := by
  have hn := hD.2.1
  rcases h1 with ⟨v, ⟨rfl, i, g, hi, rfl, hg, rfl⟩, e, rfl⟩ | ⟨E, ⟨rfl, hx⟩, hc⟩
  · rcases h2 with ⟨hO, -⟩ | ⟨j, hj, e2, hf, -⟩ | ⟨j, g', hj, e2, hf, hM, rfl⟩
    · exact isO_c hn hi hO
    · obtain rfl := nI_inj hn hi hj e2
      rw [hg] at hf; cases hf
    · obtain rfl := nI_inj hn hi hj e2
      rw [hg] at hf; cases hf
      exact ⟨lr_same hI hP hF hJ hD h16 h17 hM, fun _ => e⟩
  · rcases hx with ⟨rfl, hO⟩ | ⟨rfl, i, hi, rfl, hr⟩
    · rcases hc with ⟨-, rfl⟩ | ⟨z, -⟩
      · rcases h2 with ⟨-, hM⟩ | ⟨j, hj, rfl, -⟩ | ⟨j, g', hj, rfl, -⟩
        · exact ⟨lr_same hI hP hF hJ hD h16 h17 hM, fun z => absurd z (by decide)⟩
        · exact isO_c hn hj hO
        · exact isO_c hn hj hO
      · exact absurd z (by decide)
    · rcases hc with ⟨z, -⟩ | ⟨-, rfl⟩
      · exact absurd z (by decide)
      · rcases h2 with ⟨hO, -⟩ | ⟨j, hj, e2, -, hM⟩ | ⟨j, g', hj, e2, hf, -⟩
        · exact isO_c hn hi hO
        · exact ⟨lr_same hI hP hF hJ hD h16 h17 hM, fun z => absurd z (by decide)⟩
        · obtain rfl := nI_inj hn hi hj e2
          rw [hr] at hf; cases hf
set_option maxHeartbeats 2000000 in
theorem ag_base (hI : INV n ct fm O X) (hP : PC G w px pI pO pX n ia nm ct lv lo fa fb O X cp ru) (hF : FW w n ia fa fm) (hJ : FJ n fa) (hD : RD n nm ct lv lo fm sc ai al) (h16 : sc 16 = cp) (h17 : sc 17 = ru) (o : Int32) {r6 : Int32} (h1 : (∃ v, (fun r w' => w = w' ∧ ∃ i g, i < n ∧ o = nI i ∧ fm i = some g ∧ r = nIo g.1) v u' ∧ f' 0 = v.toInt64 ∧ r5 = nI 0) ∨ ∃ E, (fun E w' => w = w' ∧ (E = xIO ∧ isO n o = false ∨ E = xIS ∧ ∃ i, i < n ∧ o = nI i ∧ fm i = none)) E u' ∧ ((E = "java/lang/IndexOutOfBoundsException" ∧ r5 = nI 1) ∨ (E = "java/lang/IllegalStateException" ∧ r5 = nI 2))) (h2 : (fun r w' => (isO n o = false ∧ MP G w' h ad (va_up sc 24 (nI 1)) ai al) ∨ (∃ i, i < n ∧ o = nI i ∧ fm i = none ∧ MP G w' h ad (va_up sc 24 (nI 2)) ai al) ∨ ∃ i g, i < n ∧ o = nI i ∧ fm i = some g ∧ MP G w' h ad (va_up sc 24 (nI 0)) ai al ∧ r = nIo g.1) r6 vm') : AG G u' vm' px h ad r5 (f' 0) r6.toInt64 := by
  have hn := hD.2.1
  rcases h1 with ⟨v, ⟨rfl, i, g, hi, rfl, hg, rfl⟩, e, rfl⟩ | ⟨E, ⟨rfl, hx⟩, hc⟩
  · rcases h2 with ⟨hO, -⟩ | ⟨j, hj, e2, hf, -⟩ | ⟨j, g', hj, e2, hf, hM, rfl⟩
    · exact isO_c hn hi hO
    · obtain rfl := nI_inj hn hi hj e2
      rw [hg] at hf; cases hf
    · obtain rfl := nI_inj hn hi hj e2
      rw [hg] at hf; cases hf
      exact ⟨lr_same hI hP hF hJ hD h16 h17 hM, fun _ => e⟩
  · rcases hx with ⟨rfl, hO⟩ | ⟨rfl, i, hi, rfl, hr⟩
    · rcases hc with ⟨-, rfl⟩ | ⟨z, -⟩
      · rcases h2 with ⟨-, hM⟩ | ⟨j, hj, rfl, -⟩ | ⟨j, g', hj, rfl, -⟩
        · exact ⟨lr_same hI hP hF hJ hD h16 h17 hM, fun z => absurd z (by decide)⟩
        · exact isO_c hn hj hO
        · exact isO_c hn hj hO
      · exact absurd z (by decide)
    · rcases hc with ⟨z, -⟩ | ⟨-, rfl⟩
      · exact absurd z (by decide)
      · rcases h2 with ⟨hO, -⟩ | ⟨j, hj, e2, -, hM⟩ | ⟨j, g', hj, e2, hf, -⟩
        · exact isO_c hn hi hO
        · exact ⟨lr_same hI hP hF hJ hD h16 h17 hM, fun z => absurd z (by decide)⟩
        · obtain rfl := nI_inj hn hi hj e2
          rw [hr] at hf; cases hf
set_option maxHeartbeats 2000000 in
theorem ag_depth (hI : INV n ct fm O X) (hP : PC G w px pI pO pX n ia nm ct lv lo fa fb O X cp ru) (hF : FW w n ia fa fm) (hJ : FJ n fa) (hD : RD n nm ct lv lo fm sc ai al) (h16 : sc 16 = cp) (h17 : sc 17 = ru) (o : Int32) {r6 : Int32} (h1 : (∃ v, (fun r w' => w = w' ∧ ∃ i g, i < n ∧ o = nI i ∧ fm i = some g ∧ r = nI g.2.1) v u' ∧ f' 0 = v.toInt64 ∧ r5 = nI 0) ∨ ∃ E, (fun E w' => w = w' ∧ (E = xIO ∧ isO n o = false ∨ E = xIS ∧ ∃ i, i < n ∧ o = nI i ∧ fm i = none)) E u' ∧ ((E = "java/lang/IndexOutOfBoundsException" ∧ r5 = nI 1) ∨ (E = "java/lang/IllegalStateException" ∧ r5 = nI 2))) (h2 : (fun r w' => (isO n o = false ∧ MP G w' h ad (va_up sc 24 (nI 1)) ai al) ∨ (∃ i, i < n ∧ o = nI i ∧ fm i = none ∧ MP G w' h ad (va_up sc 24 (nI 2)) ai al) ∨ ∃ i g, i < n ∧ o = nI i ∧ fm i = some g ∧ MP G w' h ad (va_up sc 24 (nI 0)) ai al ∧ r = nI g.2.1) r6 vm') : AG G u' vm' px h ad r5 (f' 0) r6.toInt64 := by
  have hn := hD.2.1
  rcases h1 with ⟨v, ⟨rfl, i, g, hi, rfl, hg, rfl⟩, e, rfl⟩ | ⟨E, ⟨rfl, hx⟩, hc⟩
  · rcases h2 with ⟨hO, -⟩ | ⟨j, hj, e2, hf, -⟩ | ⟨j, g', hj, e2, hf, hM, rfl⟩
    · exact isO_c hn hi hO
    · obtain rfl := nI_inj hn hi hj e2
      rw [hg] at hf; cases hf
    · obtain rfl := nI_inj hn hi hj e2
      rw [hg] at hf; cases hf
      exact ⟨lr_same hI hP hF hJ hD h16 h17 hM, fun _ => e⟩
  · rcases hx with ⟨rfl, hO⟩ | ⟨rfl, i, hi, rfl, hr⟩
    · rcases hc with ⟨-, rfl⟩ | ⟨z, -⟩
      · rcases h2 with ⟨-, hM⟩ | ⟨j, hj, rfl, -⟩ | ⟨j, g', hj, rfl, -⟩
        · exact ⟨lr_same hI hP hF hJ hD h16 h17 hM, fun z => absurd z (by decide)⟩
        · exact isO_c hn hj hO
        · exact isO_c hn hj hO
      · exact absurd z (by decide)
    · rcases hc with ⟨z, -⟩ | ⟨-, rfl⟩
      · exact absurd z (by decide)
      · rcases h2 with ⟨hO, -⟩ | ⟨j, hj, e2, -, hM⟩ | ⟨j, g', hj, e2, hf, -⟩
        · exact isO_c hn hi hO
        · exact ⟨lr_same hI hP hF hJ hD h16 h17 hM, fun z => absurd z (by decide)⟩
        · obtain rfl := nI_inj hn hi hj e2
          rw [hr] at hf; cases hf
set_option maxHeartbeats 2000000 in
theorem ag_parts (hI : INV n ct fm O X) (hP : PC G w px pI pO pX n ia nm ct lv lo fa fb O X cp ru) (hF : FW w n ia fa fm) (hJ : FJ n fa) (hD : RD n nm ct lv lo fm sc ai al) (h16 : sc 16 = cp) (h17 : sc 17 = ru) (o : Int32) {r6 : Int32} (h1 : (∃ v, (fun r w' => w = w' ∧ ∃ i g, i < n ∧ o = nI i ∧ fm i = some g ∧ r = nI g.2.2.1) v u' ∧ f' 0 = v.toInt64 ∧ r5 = nI 0) ∨ ∃ E, (fun E w' => w = w' ∧ (E = xIO ∧ isO n o = false ∨ E = xIS ∧ ∃ i, i < n ∧ o = nI i ∧ fm i = none)) E u' ∧ ((E = "java/lang/IndexOutOfBoundsException" ∧ r5 = nI 1) ∨ (E = "java/lang/IllegalStateException" ∧ r5 = nI 2))) (h2 : (fun r w' => (isO n o = false ∧ MP G w' h ad (va_up sc 24 (nI 1)) ai al) ∨ (∃ i, i < n ∧ o = nI i ∧ fm i = none ∧ MP G w' h ad (va_up sc 24 (nI 2)) ai al) ∨ ∃ i g, i < n ∧ o = nI i ∧ fm i = some g ∧ MP G w' h ad (va_up sc 24 (nI 0)) ai al ∧ r = nI g.2.2.1) r6 vm') : AG G u' vm' px h ad r5 (f' 0) r6.toInt64 := by
  have hn := hD.2.1
  rcases h1 with ⟨v, ⟨rfl, i, g, hi, rfl, hg, rfl⟩, e, rfl⟩ | ⟨E, ⟨rfl, hx⟩, hc⟩
  · rcases h2 with ⟨hO, -⟩ | ⟨j, hj, e2, hf, -⟩ | ⟨j, g', hj, e2, hf, hM, rfl⟩
    · exact isO_c hn hi hO
    · obtain rfl := nI_inj hn hi hj e2
      rw [hg] at hf; cases hf
    · obtain rfl := nI_inj hn hi hj e2
      rw [hg] at hf; cases hf
      exact ⟨lr_same hI hP hF hJ hD h16 h17 hM, fun _ => e⟩
  · rcases hx with ⟨rfl, hO⟩ | ⟨rfl, i, hi, rfl, hr⟩
    · rcases hc with ⟨-, rfl⟩ | ⟨z, -⟩
      · rcases h2 with ⟨-, hM⟩ | ⟨j, hj, rfl, -⟩ | ⟨j, g', hj, rfl, -⟩
        · exact ⟨lr_same hI hP hF hJ hD h16 h17 hM, fun z => absurd z (by decide)⟩
        · exact isO_c hn hj hO
        · exact isO_c hn hj hO
      · exact absurd z (by decide)
    · rcases hc with ⟨z, -⟩ | ⟨-, rfl⟩
      · exact absurd z (by decide)
      · rcases h2 with ⟨hO, -⟩ | ⟨j, hj, e2, -, hM⟩ | ⟨j, g', hj, e2, hf, -⟩
        · exact isO_c hn hi hO
        · exact ⟨lr_same hI hP hF hJ hD h16 h17 hM, fun z => absurd z (by decide)⟩
        · obtain rfl := nI_inj hn hi hj e2
          rw [hr] at hf; cases hf
set_option maxHeartbeats 2000000 in
theorem ag_dependents (hI : INV n ct fm O X) (hP : PC G w px pI pO pX n ia nm ct lv lo fa fb O X cp ru) (hF : FW w n ia fa fm) (hJ : FJ n fa) (hD : RD n nm ct lv lo fm sc ai al) (h16 : sc 16 = cp) (h17 : sc 17 = ru) (o : Int32) {r6 : Int32} (h1 : (∃ v, (fun r w' => w = w' ∧ ∃ i g, i < n ∧ o = nI i ∧ fm i = some g ∧ r = nI (sumL (fun j => b1 (dpk fm j i)) O)) v u' ∧ f' 0 = v.toInt64 ∧ r5 = nI 0) ∨ ∃ E, (fun E w' => w = w' ∧ (E = xIO ∧ isO n o = false ∨ E = xIS ∧ ∃ i, i < n ∧ o = nI i ∧ fm i = none)) E u' ∧ ((E = "java/lang/IndexOutOfBoundsException" ∧ r5 = nI 1) ∨ (E = "java/lang/IllegalStateException" ∧ r5 = nI 2))) (h2 : (fun r w' => (isO n o = false ∧ MP G w' h ad (va_up sc 24 (nI 1)) ai al) ∨ (∃ i, i < n ∧ o = nI i ∧ fm i = none ∧ MP G w' h ad (va_up sc 24 (nI 2)) ai al) ∨ ∃ i g, i < n ∧ o = nI i ∧ fm i = some g ∧ MP G w' h ad (va_up sc 24 (nI 0)) ai al ∧ r = nI (sumN n (fun j => b1 (dpk fm j i)))) r6 vm') : AG G u' vm' px h ad r5 (f' 0) r6.toInt64 := by
  have hn := hD.2.1
  rcases h1 with ⟨v, ⟨rfl, i, g, hi, rfl, hg, rfl⟩, e, rfl⟩ | ⟨E, ⟨rfl, hx⟩, hc⟩
  · rcases h2 with ⟨hO, -⟩ | ⟨j, hj, e2, hf, -⟩ | ⟨j, g', hj, e2, hf, hM, rfl⟩
    · exact isO_c hn hi hO
    · obtain rfl := nI_inj hn hi hj e2
      rw [hg] at hf; cases hf
    · obtain rfl := nI_inj hn hi hj e2
      rw [hg] at hf; cases hf
      exact ⟨lr_same hI hP hF hJ hD h16 h17 hM, fun _ => by rw [e, sumO hI _ (fun j hj => dpk_0 hj)]⟩
  · rcases hx with ⟨rfl, hO⟩ | ⟨rfl, i, hi, rfl, hr⟩
    · rcases hc with ⟨-, rfl⟩ | ⟨z, -⟩
      · rcases h2 with ⟨-, hM⟩ | ⟨j, hj, rfl, -⟩ | ⟨j, g', hj, rfl, -⟩
        · exact ⟨lr_same hI hP hF hJ hD h16 h17 hM, fun z => absurd z (by decide)⟩
        · exact isO_c hn hj hO
        · exact isO_c hn hj hO
      · exact absurd z (by decide)
    · rcases hc with ⟨z, -⟩ | ⟨-, rfl⟩
      · exact absurd z (by decide)
      · rcases h2 with ⟨hO, -⟩ | ⟨j, hj, e2, -, hM⟩ | ⟨j, g', hj, e2, hf, -⟩
        · exact isO_c hn hi hO
        · exact ⟨lr_same hI hP hF hJ hD h16 h17 hM, fun z => absurd z (by decide)⟩
        · obtain rfl := nI_inj hn hi hj e2
          rw [hr] at hf; cases hf
set_option maxHeartbeats 2000000 in
theorem ag_deltaCost (hI : INV n ct fm O X) (hP : PC G w px pI pO pX n ia nm ct lv lo fa fb O X cp ru) (hF : FW w n ia fa fm) (hJ : FJ n fa) (hD : RD n nm ct lv lo fm sc ai al) (h16 : sc 16 = cp) (h17 : sc 17 = ru) (o q : Int32) {r6 : Int32} (h1 : (∃ v, (fun r w' => w = w' ∧ ∃ i j, i < n ∧ j < n ∧ o = nI i ∧ q = nI j ∧ r = nI (dco (xN (ct i)) (xN (ct j)))) v u' ∧ f' 0 = v.toInt64 ∧ r5 = nI 0) ∨ ∃ E, (fun E w' => w = w' ∧ E = xIO ∧ (isO n o && isO n q) = false) E u' ∧ ((E = "java/lang/IndexOutOfBoundsException" ∧ r5 = nI 1))) (h2 : (fun r w' => ((isO n o && isO n q) = false ∧ MP G w' h ad (va_up sc 24 (nI 1)) ai al) ∨ ∃ i j, i < n ∧ j < n ∧ o = nI i ∧ q = nI j ∧ (∃ sc' ai', MP G w' h ad sc' ai' al ∧ eqS (va_up sc 24 (nI 0)) sc' ∧ eqA ai ai') ∧ r = nI (dco (xN (ct i)) (xN (ct j)))) r6 vm') : AG G u' vm' px h ad r5 (f' 0) r6.toInt64 := by
  have hn := hD.2.1
  rcases h1 with ⟨v, ⟨rfl, i, j, hi, hj, rfl, rfl, rfl⟩, e, rfl⟩ | ⟨E, ⟨rfl, rfl, hO⟩, -, rfl⟩
  · rcases h2 with ⟨hO, -⟩ | ⟨i', j', hi', hj', e1, e2, ⟨sc', ai', hM, hS, hA⟩, rfl⟩
    · rw [isO_nI hi hn, isO_nI hj hn] at hO; cases hO
    · obtain rfl := nI_inj hn hi hi' e1
      obtain rfl := nI_inj hn hj hj' e2
      exact ⟨⟨pI, pO, pX, n, ia, nm, ct, lv, lo, fa, fb, fm, O, X, cp, ru, _, _, _, hI, hP, hF, hJ, hM, (hD.eqA hA).sc' (hS 0 (by decide) (by decide)), (hS 16 (by decide) (by decide)).trans h16, (hS 17 (by decide) (by decide)).trans h17, hS 24 (by decide) (by decide)⟩, fun _ => e⟩
  · rcases h2 with ⟨-, hM⟩ | ⟨i', j', hi', hj', rfl, rfl, -⟩
    · exact ⟨lr_same hI hP hF hJ hD h16 h17 hM, fun z => absurd z (by decide)⟩
    · rw [isO_nI hi' hn, isO_nI hj' hn] at hO; cases hO
set_option maxHeartbeats 2000000 in
theorem ag_hash (hI : INV n ct fm O X) (hP : PC G w px pI pO pX n ia nm ct lv lo fa fb O X cp ru) (hF : FW w n ia fa fm) (hJ : FJ n fa) (hD : RD n nm ct lv lo fm sc ai al) (h16 : sc 16 = cp) (h17 : sc 17 = ru) (x : Int64) {r6 : Int32} (h1 : (∃ v, (fun r w' => w = w' ∧ isC x = true ∧ r = nI (hsh (xN x))) v u' ∧ f' 0 = v.toInt64 ∧ r5 = nI 0) ∨ ∃ E, (fun E w' => w = w' ∧ E = xIA ∧ isC x = false) E u' ∧ ((E = "java/lang/IllegalArgumentException" ∧ r5 = nI 1))) (h2 : (fun r w' => (isC x = false ∧ MP G w' h ad (va_up sc 24 (nI 1)) ai al) ∨ (isC x = true ∧ MP G w' h ad (va_up sc 24 (nI 0)) ai al ∧ r = nI (hsh (xN x)))) r6 vm') : AG G u' vm' px h ad r5 (f' 0) r6.toInt64 := by
  rcases h1 with ⟨v, ⟨rfl, hx, rfl⟩, e, rfl⟩ | ⟨E, ⟨rfl, rfl, hx⟩, -, rfl⟩
  · rcases h2 with ⟨hx2, -⟩ | ⟨-, hM, rfl⟩
    · rw [hx] at hx2; cases hx2
    · exact ⟨lr_same hI hP hF hJ hD h16 h17 hM, fun _ => e⟩
  · rcases h2 with ⟨-, hM⟩ | ⟨hx2, -⟩
    · exact ⟨lr_same hI hP hF hJ hD h16 h17 hM, fun z => absurd z (by decide)⟩
    · rw [hx] at hx2; cases hx2
set_option maxHeartbeats 2000000 in
theorem ag_indexAt (hI : INV n ct fm O X) (hP : PC G w px pI pO pX n ia nm ct lv lo fa fb O X cp ru) (hF : FW w n ia fa fm) (hJ : FJ n fa) (hD : RD n nm ct lv lo fm sc ai al) (h16 : sc 16 = cp) (h17 : sc 17 = ru) (o : Int32) {r6 : Int32} (h1 : (∃ v, (fun r w' => w = w' ∧ ∃ i, i < X.length ∧ o = nI i ∧ r = nI (X.getD i 0)) v u' ∧ f' 0 = v.toInt64 ∧ r5 = nI 0) ∨ ∃ E, (fun E w' => w = w' ∧ E = xIO ∧ isO X.length o = false) E u' ∧ ((E = "java/lang/IndexOutOfBoundsException" ∧ r5 = nI 1))) (h2 : (fun r w' => ∃ f X, srtd (ihd ct) (fun i => i < n ∧ (fm i).isSome = true) X ∧ ((isO X.length o = false ∧ MP G w' h ad (va_up sc 24 (nI 1)) (va_up ai 22 f) al) ∨ ∃ i, i < X.length ∧ o = nI i ∧ MP G w' h ad (va_up sc 24 (nI 0)) (va_up ai 22 f) al ∧ r = nI (X.getD i 0))) r6 vm') : AG G u' vm' px h ad r5 (f' 0) r6.toInt64 := by
  have hn := hD.2.1
  obtain ⟨f, Y, hY, h2⟩ := h2
  obtain rfl := hI.uX hY
  have hXl := hP.x40
  have hD2 : RD n nm ct lv lo fm sc (va_up ai 22 f) al := hD.ai' (fun j hj => up_n (by omega))
  rcases h1 with ⟨v, ⟨rfl, i, hi, rfl, rfl⟩, e, rfl⟩ | ⟨E, ⟨rfl, rfl, hO⟩, -, rfl⟩
  · rcases h2 with ⟨hO, -⟩ | ⟨j, hj, e2, hM, rfl⟩
    · exact isO_c hXl hi hO
    · obtain rfl := nI_inj hXl hi hj e2
      exact ⟨lr_same hI hP hF hJ hD2 h16 h17 hM, fun _ => e⟩
  · rcases h2 with ⟨-, hM⟩ | ⟨j, hj, rfl, hM, rfl⟩
    · exact ⟨lr_same hI hP hF hJ hD2 h16 h17 hM, fun z => absurd z (by decide)⟩
    · exact isO_c hXl hj hO
set_option maxHeartbeats 2000000 in
theorem ag_fanOut (hI : INV n ct fm O X) (hP : PC G w px pI pO pX n ia nm ct lv lo fa fb O X cp ru) (hF : FW w n ia fa fm) (hJ : FJ n fa) (hD : RD n nm ct lv lo fm sc ai al) (h16 : sc 16 = cp) (h17 : sc 17 = ru) (o : Int32) {r6 : Int32} (h1 : (∃ v, (fun r w' => w = w' ∧ ∃ i, i < 16 ∧ o = nI i ∧ r = nI (blw ct X (256 * (i + 1)))) v u' ∧ f' 0 = v.toInt64 ∧ r5 = nI 0) ∨ ∃ E, (fun E w' => w = w' ∧ E = xIA ∧ isO 16 o = false) E u' ∧ ((E = "java/lang/IllegalArgumentException" ∧ r5 = nI 1))) (h2 : (fun r w' => (isO 16 o = false ∧ MP G w' h ad (va_up sc 24 (nI 1)) ai al) ∨ ∃ i, i < 16 ∧ o = nI i ∧ MP G w' h ad (va_up sc 24 (nI 0)) ai al ∧ r = nI (blN n ct fm (256 * (i + 1)))) r6 vm') : AG G u' vm' px h ad r5 (f' 0) r6.toInt64 := by
  rcases h1 with ⟨v, ⟨rfl, i, hi, rfl, rfl⟩, e, rfl⟩ | ⟨E, ⟨rfl, rfl, hO⟩, -, rfl⟩
  · rcases h2 with ⟨hO, -⟩ | ⟨j, hj, e2, hM, rfl⟩
    · exact isO_cG (by decide) hi hO
    · obtain rfl := nI_injG (by decide) hi hj e2
      exact ⟨lr_same hI hP hF hJ hD h16 h17 hM, fun _ => by rw [e, blw_blN hI.2.2.2.2.2]⟩
  · rcases h2 with ⟨-, hM⟩ | ⟨j, hj, rfl, hM, rfl⟩
    · exact ⟨lr_same hI hP hF hJ hD h16 h17 hM, fun z => absurd z (by decide)⟩
    · exact isO_cG (by decide) hj hO
set_option maxHeartbeats 2000000 in
theorem ag_find (hI : INV n ct fm O X) (hP : PC G w px pI pO pX n ia nm ct lv lo fa fb O X cp ru) (hF : FW w n ia fa fm) (hJ : FJ n fa) (hD : RD n nm ct lv lo fm sc ai al) (h16 : sc 16 = cp) (h17 : sc 17 = ru) (o : Int32) {r6 : Int32} (h1 : (∃ v, (fun r w' => ∃ h, h < 4096 ∧ o = nI h ∧ wle w w' ∧ r = nIo ((lku ct X h).1.map (fun p => X.getD p 0))) v u' ∧ f' 0 = v.toInt64 ∧ r5 = nI 0) ∨ ∃ E, (fun E w' => w = w' ∧ E = xIA ∧ isO 4096 o = false) E u' ∧ ((E = "java/lang/IllegalArgumentException" ∧ r5 = nI 1))) (h2 : (fun r w' => (isO 4096 o = false ∧ MP G w' h ad (va_up sc 24 (nI 1)) ai al) ∨ ∃ k f X v, k < 4096 ∧ o = nI k ∧ srtd (ihd ct) (fun i => i < n ∧ (fm i).isSome = true) X ∧ MP G w' h ad (va_up (va_up sc 24 (nI 0)) 23 v) (va_up ai 22 f) al ∧ r = nIo ((lku ct X k).1.map (fun p => X.getD p 0))) r6 vm') : AG G u' vm' px h ad r5 (f' 0) r6.toInt64 := by
  rcases h1 with ⟨v, ⟨k, hk, rfl, hw, rfl⟩, e, rfl⟩ | ⟨E, ⟨rfl, rfl, hO⟩, -, rfl⟩
  · rcases h2 with ⟨hO, -⟩ | ⟨j, f, Y, v9, hj, e2, hY, hM, rfl⟩
    · exact isO_cG (by decide) hk hO
    · obtain rfl := nI_injG (by decide) hk hj e2
      obtain rfl := hI.uX hY
      have hD2 : RD n nm ct lv lo fm sc (va_up ai 22 f) al := hD.ai' (fun j hj => up_n (by omega))
      exact ⟨⟨pI, pO, pX, n, ia, nm, ct, lv, lo, fa, fb, fm, O, X, cp, ru, _, _, _, hI, hP.le hw, hF.le hw, hJ, hM, hD2.sc' rfl, h16, h17, rfl⟩, fun _ => e⟩
  · rcases h2 with ⟨-, hM⟩ | ⟨j, f, Y, v9, hj, rfl, -⟩
    · exact ⟨lr_same hI hP hF hJ hD h16 h17 hM, fun z => absurd z (by decide)⟩
    · exact isO_cG (by decide) hj hO
set_option maxHeartbeats 2000000 in
theorem ag_looks (hI : INV n ct fm O X) (hP : PC G w px pI pO pX n ia nm ct lv lo fa fb O X cp ru) (hF : FW w n ia fa fm) (hJ : FJ n fa) (hD : RD n nm ct lv lo fm sc ai al) (h16 : sc 16 = cp) (h17 : sc 17 = ru) (o : Int32) {r6 : Int32} (h1 : (∃ v, (fun r w' => ∃ h, h < 4096 ∧ o = nI h ∧ wle w w' ∧ r = nI (lku ct X h).2) v u' ∧ f' 0 = v.toInt64 ∧ r5 = nI 0) ∨ ∃ E, (fun E w' => w = w' ∧ E = xIA ∧ isO 4096 o = false) E u' ∧ ((E = "java/lang/IllegalArgumentException" ∧ r5 = nI 1))) (h2 : (fun r w' => (isO 4096 o = false ∧ MP G w' h ad (va_up sc 24 (nI 1)) ai al) ∨ ∃ k f X v, k < 4096 ∧ o = nI k ∧ srtd (ihd ct) (fun i => i < n ∧ (fm i).isSome = true) X ∧ MP G w' h ad (va_up (va_up sc 24 (nI 0)) 23 v) (va_up ai 22 f) al ∧ r = nI (lku ct X k).2) r6 vm') : AG G u' vm' px h ad r5 (f' 0) r6.toInt64 := by
  rcases h1 with ⟨v, ⟨k, hk, rfl, hw, rfl⟩, e, rfl⟩ | ⟨E, ⟨rfl, rfl, hO⟩, -, rfl⟩
  · rcases h2 with ⟨hO, -⟩ | ⟨j, f, Y, v9, hj, e2, hY, hM, rfl⟩
    · exact isO_cG (by decide) hk hO
    · obtain rfl := nI_injG (by decide) hk hj e2
      obtain rfl := hI.uX hY
      have hD2 : RD n nm ct lv lo fm sc (va_up ai 22 f) al := hD.ai' (fun j hj => up_n (by omega))
      exact ⟨⟨pI, pO, pX, n, ia, nm, ct, lv, lo, fa, fb, fm, O, X, cp, ru, _, _, _, hI, hP.le hw, hF.le hw, hJ, hM, hD2.sc' rfl, h16, h17, rfl⟩, fun _ => e⟩
  · rcases h2 with ⟨-, hM⟩ | ⟨j, f, Y, v9, hj, rfl, -⟩
    · exact ⟨lr_same hI hP hF hJ hD h16 h17 hM, fun z => absurd z (by decide)⟩
    · exact isO_cG (by decide) hj hO
end AGS
