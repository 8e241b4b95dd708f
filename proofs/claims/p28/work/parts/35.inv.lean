/-! ===== what a state keeps ===== -/
def INV (n : Nat) (ct : Nat → Int64) (fm : Nat → Option Frm) (O X : List Nat) : Prop := (∀ i, i < n → isC (ct i) = true) ∧ CH n fm ∧ FCt n ct fm ∧ O.Nodup ∧ (∀ i, i ∈ O ↔ i < n ∧ (fm i).isSome = true) ∧ srtd (ihd ct) (fun i => i < n ∧ (fm i).isSome = true) X
section AGS
variable {n : Nat} {nm : Nat → Int32} {ct : Nat → Int64} {lv lo : Nat → Bool} {fm : Nat → Option Frm} {O X : List Nat}
theorem nI_inj {n i j : Nat} (hn : n ≤ 40) (hi : i < n) (hj : j < n) (e : nI i = nI j) : i = j := (nI_eq (by omega) (by omega)).mp e
theorem isO_c {n i : Nat} {P : Prop} (hn : n ≤ 40) (hi : i < n) (h : isO n (nI i) = false) : P := by rw [isO_nI hi hn] at h; cases h
theorem isO_nIG {n j : Nat} (hj : j < n) (hn : n < 2 ^ 30) : isO n (nI j) = true := by
  unfold isO
  rw [nI_toInt (by omega)]
  simp only [decide_eq_true_eq]
  omega
theorem isO_cG {n i : Nat} {P : Prop} (hn : n < 2 ^ 30) (hi : i < n) (h : isO n (nI i) = false) : P := by rw [isO_nIG hi hn] at h; cases h
theorem nI_injG {n i j : Nat} (hn : n < 2 ^ 30) (hi : i < n) (hj : j < n) (e : nI i = nI j) : i = j := (nI_eq (by omega) (by omega)).mp e
theorem sumN_congr {f g : Nat → Nat} : ∀ {n : Nat}, (∀ i, i < n → f i = g i) → sumN n f = sumN n g
  | 0, _ => rfl
  | n + 1, h => by rw [sumN, sumN, sumN_congr (fun i hi => h i (Nat.lt_succ_of_lt hi)), h n (Nat.lt_succ_self n)]
theorem sumO (hI : INV n ct fm O X) (f : Nat → Nat) (hz : ∀ i, fm i = none → f i = 0) : sumL f O = sumN n f := by
  rw [sumL_sumN f n (fun i => (fm i).isSome) O hI.2.2.2.1 hI.2.2.2.2.1]
  refine sumN_congr (fun i _ => ?_)
  cases h : fm i with
  | none => rw [hz i h]; rfl
  | some g => rfl
theorem rpk_0 {i : Nat} (h : fm i = none) : b1 (rpk fm i) = 0 := by
  unfold rpk
  show b1 (match fm i with | none => false | some g => _) = 0
  rw [h]; rfl
theorem dpk_0 {i t : Nat} (h : fm i = none) : b1 (dpk fm i t) = 0 := by
  unfold dpk
  show b1 (match bas fm i with | none => false | some b => _) = 0
  rw [show bas fm i = none by unfold bas; rw [h]; rfl]; rfl
theorem cst_0 {i : Nat} (h : fm i = none) : cst fm i = 0 := by unfold cst; rw [h]
theorem INV.uX (hI : INV n ct fm O X) {Y : List Nat} (hY : srtd (ihd ct) (fun i => i < n ∧ (fm i).isSome = true) Y) : X = Y := srtd.uniq (so_ihd ct) hI.2.2.2.2.2.1 hY.1 (fun i => (hI.2.2.2.2.2.2 i).trans (hY.2 i).symm)
theorem INV.dm (hI : INV n ct fm O X) {i : Nat} {g : Frm} (hg : fm i = some g) : INV n ct (va_up fm i (some (dmgF g))) O X := by
  have he : ∀ j, (va_up fm i (some (dmgF g)) j).isSome = (fm j).isSome := fun j => by
    by_cases hj : j = i
    · subst hj; rw [va_up_self, hg]; rfl
    · rw [up_n hj]
  refine ⟨hI.1, hI.2.1.dm hg, fun j hj g' hg' => ?_, hI.2.2.2.1, fun j => by rw [he]; exact hI.2.2.2.2.1 j, hI.2.2.2.2.2.congr (fun j => by rw [he])⟩
  by_cases hji : j = i
  · subst hji
    rw [va_up_self] at hg'
    cases hg'
    exact hI.2.2.1 j hj g hg
  · rw [up_n hji] at hg'
    exact hI.2.2.1 j hj g' hg'
theorem INV.sto (hI : INV n ct fm O X) {x : Int64} (hx : isC x = true) : INV (n + 1) (va_up ct n x) (va_up fm n none) O X := by
  have hin : ∀ i, i < n → va_up fm n none i = fm i ∧ va_up ct n x i = ct i := fun i hi => ⟨up_n (by omega), up_n (by omega)⟩
  have hq : ∀ i, (i < n ∧ (fm i).isSome = true) ↔ (i < n + 1 ∧ (va_up fm n none i).isSome = true) := fun i => by
    by_cases hi : i = n
    · subst hi
      rw [va_up_self]
      exact ⟨fun z => absurd z.1 (Nat.lt_irrefl _), fun z => by cases z.2⟩
    · rw [up_n hi]
      exact ⟨fun z => ⟨by omega, z.2⟩, fun z => ⟨by omega, z.2⟩⟩
  have hXn : ∀ i ∈ X, i < n := fun i hi => ((hI.2.2.2.2.2.2 i).mp hi).1
  refine ⟨fun i hi => ?_, fun i hi g hg => ?_, fun i hi g hg => ?_, hI.2.2.2.1, fun i => (hI.2.2.2.2.1 i).trans (hq i), ?_, fun i => (hI.2.2.2.2.2.2 i).trans (hq i)⟩
  · by_cases hin2 : i = n
    · subst hin2; rw [va_up_self]; exact hx
    · rw [up_n hin2]; exact hI.1 i (by omega)
  · by_cases hin2 : i = n
    · subst hin2; rw [va_up_self] at hg; cases hg
    · rw [up_n hin2] at hg
      obtain ⟨h1, h2⟩ := hI.2.1 i (by omega) g hg
      refine ⟨h1, fun b hb => ?_⟩
      obtain ⟨h3, g', h4, h5⟩ := h2 b hb
      exact ⟨by omega, g', by rw [(hin b h3).1]; exact h4, h5⟩
  · by_cases hin2 : i = n
    · subst hin2; rw [va_up_self] at hg; cases hg
    · rw [up_n hin2] at hg
      obtain ⟨h1, h2⟩ := hI.2.2.1 i (by omega) g hg
      rw [(hin i (by omega)).2]
      refine ⟨h1, fun b hb => ?_⟩
      obtain ⟨h3, -⟩ := (hI.2.1 i (by omega) g hg).2 b hb
      rw [(hin b h3).2]
      exact h2 b hb
  · refine List.Pairwise.imp_of_mem (fun {a b} ha hb hab => ?_) hI.2.2.2.2.2.1
    have ea : hso (va_up ct n x) a = hso ct a := by unfold hso; rw [(hin a (hXn a ha)).2]
    have eb : hso (va_up ct n x) b = hso ct b := by unfold hso; rw [(hin b (hXn b hb)).2]
    unfold ihd at hab ⊢
    rw [ea, eb]
    exact hab
theorem INV.pak (hI : INV n ct fm O X) {bd W : Nat} {rs : Bool} {O' X' : List Nat} {q : Nat → Prop} (hS : srtd (ahd nm ct) q O') (hq : ∀ i, q i → i < n) (hX : srtd (ihd ct) (fun i => i ∈ O') X') (hbd : bd ≤ 6) : INV n ct (fmr ct fm bd W rs O' O'.length).1 O' X' := by
  have hnd := hS.nodup (so_ahd nm ct)
  have hO : ∀ i ∈ O', i < n := fun i hi => hq i ((hS.2 i).mp hi)
  have hN : NOK n ct O' O'.length (fmr ct fm bd W rs O' O'.length).1 := fmr_ok hnd hO hbd (Nat.le_refl _)
  have hm : ∀ i, i ∈ O' ↔ i < n ∧ ((fmr ct fm bd W rs O' O'.length).1 i).isSome = true := fun i => by
    constructor
    · intro hi
      obtain ⟨z, hz, e⟩ := List.getElem_of_mem hi
      obtain ⟨g, hg⟩ := (hN.1 i).mpr ⟨z, hz, by rw [← e]; simp [hz]⟩
      exact ⟨hO i hi, by rw [hg]; rfl⟩
    · rintro ⟨-, hs⟩
      cases hg : (fmr ct fm bd W rs O' O'.length).1 i with
      | none => rw [hg] at hs; cases hs
      | some g =>
        obtain ⟨z, hz, e⟩ := (hN.1 i).mp ⟨g, hg⟩
        rw [← e]; exact getD_mem hz
  exact ⟨hI.1, hN.2.1, hN.2.2, hnd, hm, hX.congr hm⟩
end AGS
