/-! ===== deltas ===== -/
def cmr (a b : Nat → Nat) : Nat → Nat → Nat → Nat
  | 0, _, _ => 0
  | f + 1, i, j => if a i = b j then cmr a b f (i + 1) (j + 1) + 1 else 0
def cml (c d i j : Nat) : Nat := cmr (ltr c) (ltr d) (min (hxn c - i) (hxn d - j)) i j
def lgr (c d i : Nat) : Nat → Nat
  | 0 => 0
  | t + 1 => max (lgr c d i t) (cml c d i t)
def lgs (c d i : Nat) : Nat := lgr c d i (hxn d)
def nxt (c d i : Nat) : Nat := if 1 < lgs c d i then i + lgs c d i else i + 1
def cpr (c d : Nat) : Nat → Nat → Nat
  | 0, _ => 0
  | f + 1, i => if i < hxn c then (if 1 < lgs c d i then 1 else 0) + cpr c d f (nxt c d i) else 0
def adr (c d : Nat) : Nat → Nat → Nat
  | 0, _ => 0
  | f + 1, i => if i < hxn c then (if 1 < lgs c d i then 0 else 1) + adr c d f (nxt c d i) else 0
def cpt (c d i : Nat) : Nat := cpr c d (hxn c - i) i
def adt (c d i : Nat) : Nat := adr c d (hxn c - i) i
/-- the cost of the delta of c against d, its parts -/
def dco (c d : Nat) : Nat := 1 + 2 * cpt c d 0 + adt c d 0
def dpa (c d : Nat) : Nat := cpt c d 0 + adt c d 0
theorem cml_eq {c d i j : Nat} (hi : i < hxn c) (hj : j < hxn d) (e : ltr c i = ltr d j) : cml c d i j = cml c d (i + 1) (j + 1) + 1 := by
  unfold cml
  rw [show min (hxn c - i) (hxn d - j) = min (hxn c - (i + 1)) (hxn d - (j + 1)) + 1 by omega]
  show (if _ then _ else 0) = _
  rw [if_pos e]
theorem cml_ne {c d i j : Nat} (e : ltr c i ≠ ltr d j) : cml c d i j = 0 := by
  unfold cml
  generalize min (hxn c - i) (hxn d - j) = f
  cases f with
  | zero => rfl
  | succ f => show (if _ then _ else 0) = _; rw [if_neg e]
theorem cml_e1 {c d i j : Nat} (h : hxn c ≤ i) : cml c d i j = 0 := by
  unfold cml
  rw [show min (hxn c - i) (hxn d - j) = 0 by omega]; rfl
theorem cml_e2 {c d i j : Nat} (h : hxn d ≤ j) : cml c d i j = 0 := by
  unfold cml
  rw [show min (hxn c - i) (hxn d - j) = 0 by omega]; rfl
theorem cmr_le (a b : Nat → Nat) : ∀ f i j, cmr a b f i j ≤ f
  | 0, _, _ => Nat.le_refl _
  | f + 1, i, j => by
    show (if _ then _ else 0) ≤ _
    split
    · exact Nat.succ_le_succ (cmr_le a b f (i + 1) (j + 1))
    · exact Nat.zero_le _
theorem cml_le (c d i j : Nat) : cml c d i j ≤ hxn c - i := Nat.le_trans (cmr_le _ _ _ _ _) (Nat.min_le_left _ _)
theorem lgr_le (c d i : Nat) : ∀ t, lgr c d i t ≤ hxn c - i
  | 0 => Nat.zero_le _
  | t + 1 => Nat.max_le.mpr ⟨lgr_le c d i t, cml_le c d i t⟩
theorem lgs_le (c d i : Nat) : lgs c d i ≤ hxn c - i := lgr_le c d i _
theorem nxt_gt (c d i : Nat) : i < nxt c d i := by unfold nxt; split <;> omega
theorem nxt_le {c d i : Nat} (h : i < hxn c) : nxt c d i ≤ hxn c := by
  have := lgs_le c d i
  unfold nxt; split <;> omega
theorem cpr_more (c d : Nat) : ∀ f g i, hxn c - i ≤ f → hxn c - i ≤ g → cpr c d f i = cpr c d g i
  | 0, g, i, h, _ => by
    cases g with
    | zero => rfl
    | succ g => show 0 = (if _ then _ else 0); rw [if_neg (by omega)]
  | f + 1, 0, i, _, h => by show (if _ then _ else 0) = 0; rw [if_neg (by omega)]
  | f + 1, g + 1, i, h1, h2 => by
    show (if _ then _ else 0) = (if _ then _ else 0)
    split
    · have := nxt_gt c d i
      rw [cpr_more c d f g (nxt c d i) (by omega) (by omega)]
    · rfl
theorem adr_more (c d : Nat) : ∀ f g i, hxn c - i ≤ f → hxn c - i ≤ g → adr c d f i = adr c d g i
  | 0, g, i, h, _ => by
    cases g with
    | zero => rfl
    | succ g => show 0 = (if _ then _ else 0); rw [if_neg (by omega)]
  | f + 1, 0, i, _, h => by show (if _ then _ else 0) = 0; rw [if_neg (by omega)]
  | f + 1, g + 1, i, h1, h2 => by
    show (if _ then _ else 0) = (if _ then _ else 0)
    split
    · have := nxt_gt c d i
      rw [adr_more c d f g (nxt c d i) (by omega) (by omega)]
    · rfl
theorem cpt_end {c d i : Nat} (h : hxn c ≤ i) : cpt c d i = 0 := by unfold cpt; rw [show hxn c - i = 0 by omega]; rfl
theorem adt_end {c d i : Nat} (h : hxn c ≤ i) : adt c d i = 0 := by unfold adt; rw [show hxn c - i = 0 by omega]; rfl
theorem cpt_step {c d i : Nat} (h : i < hxn c) : cpt c d i = (if 1 < lgs c d i then 1 else 0) + cpt c d (nxt c d i) := by
  have := nxt_gt c d i
  unfold cpt
  rw [cpr_more c d (hxn c - i) (hxn c - i - 1 + 1) i (by omega) (by omega)]
  show (if _ then _ else 0) = _
  rw [if_pos h, cpr_more c d (hxn c - i - 1) (hxn c - nxt c d i) (nxt c d i) (by omega) (by omega)]
theorem adt_step {c d i : Nat} (h : i < hxn c) : adt c d i = (if 1 < lgs c d i then 0 else 1) + adt c d (nxt c d i) := by
  have := nxt_gt c d i
  unfold adt
  rw [adr_more c d (hxn c - i) (hxn c - i - 1 + 1) i (by omega) (by omega)]
  show (if _ then _ else 0) = _
  rw [if_pos h, adr_more c d (hxn c - i - 1) (hxn c - nxt c d i) (nxt c d i) (by omega) (by omega)]
theorem dpr_le (c d : Nat) : ∀ f i, cpr c d f i + adr c d f i ≤ f
  | 0, _ => Nat.le_refl _
  | f + 1, i => by
    have := dpr_le c d f (nxt c d i)
    simp only [cpr, adr]
    by_cases h1 : i < hxn c
    · rw [if_pos h1, if_pos h1]
      by_cases h2 : 1 < lgs c d i
      · rw [if_pos h2, if_pos h2]; omega
      · rw [if_neg h2, if_neg h2]; omega
    · rw [if_neg h1, if_neg h1]; omega
theorem dpt_le (c d i : Nat) : cpt c d i + adt c d i ≤ hxn c - i := dpr_le c d _ i
