/-! ===== chains, readability, dependents: purely ===== -/
def dmg (fm : Nat → Option Frm) (i : Nat) : Bool := match fm i with
  | none => false
  | some g => g.2.2.2.2
def rpo (fm : Nat → Option Frm) : Option Nat → Bool
  | none => true
  | some b => rpk fm b
def ovo (fm : Nat → Option Frm) (t : Nat) : Option Nat → Bool
  | none => false
  | some b => decide (b = t) || dpk fm b t
def ovr (fm : Nat → Option Frm) (t i : Nat) : Bool := decide (i = t) || dpk fm i t
/-- how long a chain is -/
def clen (fm : Nat → Option Frm) : Option Nat → Nat
  | none => 0
  | some b => dep fm b + 1
section LM1
variable {n : Nat} {nm : Nat → Int32} {ct : Nat → Int64} {lv lo : Nat → Bool} {fm : Nat → Option Frm} {O X : List Nat}
theorem rp_more (hC : CH n fm) : ∀ (f f' i : Nat), i < n → (∀ g, fm i = some g → g.2.1 < f ∧ g.2.1 < f') → rp fm f i = rp fm f' i
  | 0, 0, _, _, _ => rfl
  | 0, f' + 1, i, hi, h => by
    cases hg : fm i with
    | none => simp only [rp, hg]
    | some g => exact absurd (h g hg).1 (Nat.not_lt_zero _)
  | f + 1, 0, i, hi, h => by
    cases hg : fm i with
    | none => simp only [rp, hg]
    | some g => exact absurd (h g hg).2 (Nat.not_lt_zero _)
  | f + 1, f' + 1, i, hi, h => by
    cases hg : fm i with
    | none => simp only [rp, hg]
    | some g =>
      have h1 := h g hg
      have h2 := (hC i hi g hg).2
      obtain ⟨g1, g2⟩ := g
      simp only [rp, hg]
      cases g1 with
      | none => rfl
      | some b =>
        obtain ⟨h3, g', h4, h5⟩ := h2 b rfl
        show (_ && rp fm f b) = (_ && rp fm f' b)
        rw [rp_more hC f f' b h3 (fun g9 h9 => by rw [h4] at h9; cases h9; dsimp only at h1 h5; omega)]
theorem rpk_some (hC : CH n fm) {i : Nat} {g : Frm} (hi : i < n) (hg : fm i = some g) : rpk fm i = (!g.2.2.2.2 && rpo fm g.1) := by
  have h2 := hC i hi g hg
  obtain ⟨g1, g2⟩ := g
  show rp fm (7 + 1) i = _
  simp only [rp, hg]
  cases g1 with
  | none => rfl
  | some b =>
    obtain ⟨h3, g', h4, h5⟩ := h2.2 b rfl
    have h6 := h2.1
    show (_ && rp fm 7 b) = (_ && rp fm 8 b)
    rw [rp_more hC 7 8 b h3 (fun g9 h9 => by rw [h4] at h9; cases h9; dsimp only at h5 h6; omega)]
theorem rpk_none {i : Nat} (hg : fm i = none) : rpk fm i = false := by
  show rp fm (7 + 1) i = _
  simp only [rp, hg]
theorem dpr_more (hC : CH n fm) (t : Nat) : ∀ (f f' i : Nat), i < n → (∀ g, fm i = some g → g.2.1 < f ∧ g.2.1 < f') → dpr fm t f i = dpr fm t f' i
  | 0, 0, _, _, _ => rfl
  | 0, f' + 1, i, hi, h => by
    cases hg : fm i with
    | none => simp only [dpr, bas, hg, Option.bind_none]
    | some g => exact absurd (h g hg).1 (Nat.not_lt_zero _)
  | f + 1, 0, i, hi, h => by
    cases hg : fm i with
    | none => simp only [dpr, bas, hg, Option.bind_none]
    | some g => exact absurd (h g hg).2 (Nat.not_lt_zero _)
  | f + 1, f' + 1, i, hi, h => by
    cases hg : fm i with
    | none => simp only [dpr, bas, hg, Option.bind_none]
    | some g =>
      have h1 := h g hg
      have h2 := (hC i hi g hg).2
      obtain ⟨g1, g2⟩ := g
      simp only [dpr, bas, hg, Option.bind_some]
      cases g1 with
      | none => rfl
      | some b =>
        obtain ⟨h3, g', h4, h5⟩ := h2 b rfl
        show (_ || dpr fm t f b) = (_ || dpr fm t f' b)
        rw [dpr_more hC t f f' b h3 (fun g9 h9 => by rw [h4] at h9; cases h9; dsimp only at h1 h5; omega)]
theorem dpk_some (hC : CH n fm) {i t : Nat} {g : Frm} (hi : i < n) (hg : fm i = some g) : dpk fm i t = ovo fm t g.1 := by
  have h2 := hC i hi g hg
  obtain ⟨g1, g2⟩ := g
  show dpr fm t (7 + 1) i = _
  simp only [dpr, bas, hg, Option.bind_some]
  cases g1 with
  | none => rfl
  | some b =>
    obtain ⟨h3, g', h4, h5⟩ := h2.2 b rfl
    have h6 := h2.1
    show (_ || dpr fm t 7 b) = (_ || dpr fm t 8 b)
    rw [dpr_more hC t 7 8 b h3 (fun g9 h9 => by rw [h4] at h9; cases h9; dsimp only at h5 h6; omega)]
theorem dpk_none {i t : Nat} (hg : fm i = none) : dpk fm i t = false := by
  show dpr fm t (7 + 1) i = _
  simp only [dpr, bas, hg, Option.bind_none]
theorem ovr_some (hC : CH n fm) {i t : Nat} : ovr fm t i = ovo fm t (some i) := rfl
theorem dpr_dep (hC : CH n fm) : ∀ (f i t : Nat), i < n → dpr fm t f i = true → ∃ g gt, fm i = some g ∧ fm t = some gt ∧ gt.2.1 < g.2.1
  | 0, _, _, _, h => by cases h
  | f + 1, i, t, hi, h => by
    cases hg : fm i with
    | none => simp only [dpr, bas, hg, Option.bind_none] at h; cases h
    | some g =>
      have h2 := (hC i hi g hg).2
      obtain ⟨g1, g2⟩ := g
      simp only [dpr, bas, hg, Option.bind_some] at h
      cases g1 with
      | none => cases h
      | some b =>
        obtain ⟨h3, g', h4, h5⟩ := h2 b rfl
        have h : (decide (b = t) || dpr fm t f b) = true := h
        rcases Bool.or_eq_true _ _ |>.mp h with h | h
        · have e : b = t := of_decide_eq_true h
          subst e
          exact ⟨_, g', rfl, h4, by dsimp only at h5 ⊢; omega⟩
        · obtain ⟨ga, gt, e1, e2, e3⟩ := dpr_dep hC f b t h3 h
          rw [h4] at e1; cases e1
          exact ⟨_, gt, rfl, e2, by dsimp only at h5 ⊢; omega⟩
theorem dpk_irr (hC : CH n fm) {i : Nat} (hi : i < n) : dpk fm i i = false := by
  cases h : dpk fm i i with
  | false => rfl
  | true =>
    obtain ⟨g, gt, e1, e2, e3⟩ := dpr_dep hC 8 i i hi h
    rw [e1] at e2; cases e2; omega
theorem dpr_up {k b : Nat} {g : Frm} (hg : fm k = some g) (hb : g.1 = some b) : ∀ (f j : Nat), dpr fm k f j = true → dpr fm b (f + 1) j = true
  | 0, _, h => by cases h
  | f + 1, j, h => by
    unfold dpr at h ⊢
    cases hc : bas fm j with
    | none => rw [hc] at h; cases h
    | some c =>
      rw [hc] at h
      have h : (decide (c = k) || dpr fm k f c) = true := h
      show (decide (c = b) || dpr fm b (f + 1) c) = true
      rcases Bool.or_eq_true _ _ |>.mp h with h | h
      · have e : c = k := of_decide_eq_true h
        subst e
        have hbas : bas fm c = some b := by unfold bas; rw [hg]; exact hb
        unfold dpr
        rw [hbas]
        simp
      · rw [dpr_up hg hb f c h, Bool.or_true]
theorem dpk_up (hC : CH n fm) {k b j : Nat} {g : Frm} (hj : j < n) (hg : fm k = some g) (hb : g.1 = some b) (h : dpk fm j k = true) : dpk fm j b = true := by
  have h1 := dpr_up hg hb 8 j h
  rw [dpr_more hC b (8 + 1) 8 j hj (fun g' h' => by have := (hC j hj g' h').1; omega)] at h1
  exact h1
theorem sumL_leM {f g : Nat → Nat} : ∀ {L : List Nat}, (∀ j ∈ L, f j ≤ g j) → sumL f L ≤ sumL g L
  | [], _ => Nat.le_refl _
  | x :: t, h => by
    have h1 := h x List.mem_cons_self
    have h2 := sumL_leM (L := t) (fun j hj => h j (List.mem_cons_of_mem _ hj))
    simp only [sumL]; omega
theorem sumL_ltM {f g : Nat → Nat} {k : Nat} : ∀ {L : List Nat}, (∀ j ∈ L, f j ≤ g j) → k ∈ L → f k < g k → sumL f L < sumL g L
  | [], _, hk, _ => nomatch hk
  | x :: t, h, hk, hl => by
    have h1 := h x List.mem_cons_self
    have h2 := sumL_leM (L := t) (fun j hj => h j (List.mem_cons_of_mem _ hj))
    simp only [sumL]
    rcases List.mem_cons.mp hk with rfl | hk
    · omega
    · have h3 := sumL_ltM (fun j hj => h j (List.mem_cons_of_mem _ hj)) hk hl
      omega
theorem b1_le {a b : Bool} (h : a = true → b = true) : b1 a ≤ b1 b := by
  cases a with
  | false => exact Nat.zero_le _
  | true => rw [h rfl]; exact Nat.le_refl _
/-- more hang on the base than on the delta -/
theorem dep_more (hI : INV n ct fm O X) {k b : Nat} {g : Frm} (hk : k < n) (hg : fm k = some g) (hb : g.1 = some b) : sumL (fun j => b1 (dpk fm j k)) O < sumL (fun j => b1 (dpk fm j b)) O := by
  have hO : ∀ j ∈ O, j < n := fun j hj => ((hI.2.2.2.2.1 j).mp hj).1
  refine sumL_ltM (k := k) (fun j hj => b1_le (dpk_up hI.2.1 (hO j hj) hg hb)) ((hI.2.2.2.2.1 k).mpr ⟨hk, by rw [hg]; rfl⟩) ?_
  rw [dpk_irr hI.2.1 hk, dpk_some hI.2.1 hk hg, hb]
  show 0 < b1 (decide (b = b) || _)
  rw [decide_eq_true rfl]; exact Nat.succ_pos _
theorem sumL_addM {f g h : Nat → Nat} : ∀ {L : List Nat}, (∀ j ∈ L, f j = g j + h j) → sumL f L = sumL g L + sumL h L
  | [], _ => rfl
  | x :: t, e => by
    have h1 := e x List.mem_cons_self
    have h2 := sumL_addM (L := t) (fun j hj => e j (List.mem_cons_of_mem _ hj))
    simp only [sumL]; omega
theorem rp_dm {t : Nat} {gt : Frm} (ht : fm t = some gt) : ∀ (f k : Nat), rp (va_up fm t (some (dmgF gt))) f k = (rp fm f k && !(decide (k = t) || dpr fm t f k))
  | 0, _ => rfl
  | f + 1, k => by
    by_cases hk : k = t
    · subst hk
      rw [decide_eq_true rfl]
      simp only [rp, va_up_self, Bool.true_or, Bool.not_true, Bool.and_false]
      rfl
    · cases hg : fm k with
      | none => simp only [rp, up_n hk, hg, Bool.false_and]
      | some g =>
        obtain ⟨g1, g2⟩ := g
        simp only [rp, up_n hk, hg, dpr, bas, Option.bind_some, decide_eq_false hk, Bool.false_or]
        cases g1 with
        | none => simp
        | some b =>
          show (_ && rp (va_up fm t (some (dmgF gt))) f b) = ((_ && rp fm f b) && !(decide (b = t) || dpr fm t f b))
          rw [rp_dm ht f b, Bool.and_assoc]
theorem rpk_dm {t : Nat} {gt : Frm} (ht : fm t = some gt) (k : Nat) : rpk (va_up fm t (some (dmgF gt))) k = (rpk fm k && !ovr fm t k) := rp_dm ht 8 k
theorem rpk_split {t : Nat} {gt : Frm} (ht : fm t = some gt) (k : Nat) : b1 (rpk fm k) = b1 (rpk (va_up fm t (some (dmgF gt))) k) + b1 (rpk fm k && ovr fm t k) := by
  rw [rpk_dm ht k]
  cases rpk fm k <;> cases ovr fm t k <;> rfl
theorem rpk_und (hC : CH n fm) (hu : ∀ i, i < n → ∀ g, fm i = some g → g.2.2.2.2 = false) : ∀ (d i : Nat), i < n → ∀ g, fm i = some g → g.2.1 ≤ d → rpk fm i = true
  | d, i, hi, g, hg, hd => by
    rw [rpk_some hC hi hg, hu i hi g hg]
    cases hb : g.1 with
    | none => rfl
    | some b =>
      obtain ⟨h3, g', h4, h5⟩ := (hC i hi g hg).2 b hb
      cases d with
      | zero => omega
      | succ d => show (_ && rpk fm b) = true; rw [rpk_und hC hu d b h3 g' h4 (by omega)]; rfl
theorem rpk_all (hC : CH n fm) (hu : ∀ i, i < n → ∀ g, fm i = some g → g.2.2.2.2 = false) {i : Nat} (hi : i < n) : rpk fm i = (fm i).isSome := by
  cases hg : fm i with
  | none => rw [rpk_none hg]; rfl
  | some g => rw [rpk_und hC hu g.2.1 i hi g hg (Nat.le_refl _)]; rfl
theorem len_sumL : ∀ (L : List Nat), L.length = sumL (fun _ => 1) L
  | [] => rfl
  | x :: t => by rw [List.length_cons, len_sumL t]; simp only [sumL]; omega
theorem len_OX (hI : INV n ct fm O X) : X.length = O.length := by
  have h1 := sumL_sumN (fun _ => 1) n (fun i => (fm i).isSome) O hI.2.2.2.1 hI.2.2.2.2.1
  have h2 := sumL_sumN (fun _ => 1) n (fun i => (fm i).isSome) X (hI.2.2.2.2.2.nodup (so_ihd ct)) hI.2.2.2.2.2.2
  rw [len_sumL X, len_sumL O, h1, h2]
end LM1
/-! ===== deltas ===== -/
theorem dco_fuel (c d : Nat) : ∀ f i, 2 * cpr c d f i + adr c d f i ≤ hxn c - i
  | 0, _ => Nat.zero_le _
  | f + 1, i => by
    have h := dco_fuel c d f (nxt c d i)
    have h1 := lgs_le c d i
    simp only [cpr, adr]
    by_cases hi : i < hxn c
    · rw [if_pos hi, if_pos hi]
      by_cases h2 : 1 < lgs c d i
      · rw [if_pos h2, if_pos h2]
        unfold nxt at h ⊢
        rw [if_pos h2] at h ⊢
        omega
      · rw [if_neg h2, if_neg h2]
        unfold nxt at h ⊢
        rw [if_neg h2] at h ⊢
        omega
    · rw [if_neg hi, if_neg hi]; exact Nat.zero_le _
theorem dco_le1 (c d : Nat) : dco c d ≤ hxn c + 1 := by
  have := dco_fuel c d (hxn c - 0) 0
  unfold dco cpt adt; omega
theorem dco_ge {c d : Nat} (h : 1 ≤ hxn c) : 2 ≤ dco c d := by
  have h1 := cpt_step (c := c) (d := d) (i := 0) h
  have h2 := adt_step (c := c) (d := d) (i := 0) h
  unfold dco
  by_cases h3 : 1 < lgs c d 0
  · rw [if_pos h3] at h1 h2; omega
  · rw [if_neg h3] at h1 h2; omega
theorem dco_gt {c d : Nat} (h : 1 < hxn c) : 2 < dco c d := by
  have h1 := cpt_step (c := c) (d := d) (i := 0) (by omega)
  have h2 := adt_step (c := c) (d := d) (i := 0) (by omega)
  unfold dco
  by_cases h3 : 1 < lgs c d 0
  · rw [if_pos h3] at h1 h2; omega
  · rw [if_neg h3] at h1 h2
    have e : nxt c d 0 = 1 := by unfold nxt; rw [if_neg h3]
    rw [e] at h1 h2
    have h4 := cpt_step (c := c) (d := d) (i := 1) h
    have h5 := adt_step (c := c) (d := d) (i := 1) h
    by_cases h6 : 1 < lgs c d 1
    · rw [if_pos h6] at h4 h5; omega
    · rw [if_neg h6] at h4 h5; omega
theorem cmr_self (a : Nat → Nat) : ∀ f i, cmr a a f i i = f
  | 0, _ => rfl
  | f + 1, i => by
    show (if _ then _ else 0) = _
    rw [if_pos rfl, cmr_self a f (i + 1)]
theorem lgr_ge (c d i j : Nat) : ∀ t, j < t → cml c d i j ≤ lgr c d i t
  | 0, h => absurd h (Nat.not_lt_zero _)
  | t + 1, h => by
    show _ ≤ max (lgr c d i t) (cml c d i t)
    by_cases hj : j = t
    · subst hj; exact Nat.le_max_right _ _
    · exact Nat.le_trans (lgr_ge c d i j t (by omega)) (Nat.le_max_left _ _)
theorem lgs_self {c : Nat} (h : 1 ≤ hxn c) : lgs c c 0 = hxn c := by
  have h1 := lgs_le c c 0
  have h2 := lgr_ge c c 0 0 (hxn c) h
  have h3 : cml c c 0 0 = hxn c := by unfold cml; rw [cmr_self]; omega
  unfold lgs at h1 ⊢
  omega
theorem dco_self {c : Nat} (h : 1 ≤ hxn c) : dco c c = if 1 < hxn c then 3 else 2 := by
  have h1 := cpt_step (c := c) (d := c) (i := 0) h
  have h2 := adt_step (c := c) (d := c) (i := 0) h
  have h3 := lgs_self h
  unfold dco
  by_cases h4 : 1 < hxn c
  · rw [if_pos h4]
    have e : nxt c c 0 = hxn c := by unfold nxt; rw [h3, if_pos h4]; omega
    rw [h3, if_pos h4, e] at h1 h2
    rw [cpt_end (Nat.le_refl _)] at h1
    rw [adt_end (Nat.le_refl _)] at h2
    omega
  · rw [if_neg h4]
    have e : nxt c c 0 = hxn c := by unfold nxt; rw [h3, if_neg h4]; omega
    rw [h3, if_neg h4, e] at h1 h2
    rw [cpt_end (Nat.le_refl _)] at h1
    rw [adt_end (Nat.le_refl _)] at h2
    omega
/-! ===== the index ===== -/
theorem sumL_z {f : Nat → Nat} : ∀ {L : List Nat}, (∀ j ∈ L, f j = 0) → sumL f L = 0
  | [], _ => rfl
  | x :: t, h => by simp only [sumL]; rw [h x List.mem_cons_self, sumL_z (fun j hj => h j (List.mem_cons_of_mem _ hj))]
theorem cnt_srt {f : Nat → Nat} {h : Nat} : ∀ {L : List Nat}, L.Pairwise (fun a b => f a ≤ f b) → ∀ p, p < L.length → (f (L.getD p 0) < h ↔ p < sumL (fun i => b1 (decide (f i < h))) L)
  | [], _, p, hp => absurd hp (Nat.not_lt_zero _)
  | x :: t, hs, p, hp => by
    obtain ⟨h1, h2⟩ := List.pairwise_cons.mp hs
    simp only [sumL]
    by_cases hx : f x < h
    · rw [decide_eq_true hx]
      cases p with
      | zero => exact ⟨fun _ => by show 0 < 1 + _; omega, fun _ => hx⟩
      | succ p =>
        have := cnt_srt (f := f) (h := h) h2 p (by simpa using hp)
        rw [List.getD_cons_succ, this]
        show _ ↔ p + 1 < 1 + _
        omega
    · rw [decide_eq_false hx]
      have hz : sumL (fun i => b1 (decide (f i < h))) t = 0 := sumL_z (fun j hj => by
        have := h1 j hj
        rw [decide_eq_false (by omega)]; rfl)
      rw [hz]
      cases p with
      | zero => exact ⟨fun z => absurd z hx, fun z => absurd z (by show ¬ 0 < 0 + 0; omega)⟩
      | succ p =>
        rw [List.getD_cons_succ]
        have hm : t.getD p 0 ∈ t := getD_mem (by simpa using hp)
        have := h1 _ hm
        exact ⟨fun z => by omega, fun z => absurd z (by show ¬ p + 1 < 0 + 0; omega)⟩
theorem srt_le {f : Nat → Nat} : ∀ {L : List Nat}, L.Pairwise (fun a b => f a ≤ f b) → ∀ i j, i ≤ j → j < L.length → f (L.getD i 0) ≤ f (L.getD j 0)
  | L, hs, i, j, hij, hj => by
    rcases Nat.lt_or_ge i j with h | h
    · have e1 : L.getD i 0 = L[i]'(by omega) := by simp [show i < L.length by omega]
      have e2 : L.getD j 0 = L[j] := by simp [hj]
      rw [e1, e2]
      exact List.pairwise_iff_getElem.mp hs i j (by omega) hj h
    · rw [show i = j by omega]; exact Nat.le_refl _
theorem lkp_some {f : Nat → Nat} {h N : Nat} (hm : ∀ i j, i ≤ j → j < N → f i ≤ f j) : ∀ {k lo hi c : Nat}, hi ≤ N → hi - lo ≤ k → (∃ p, lo ≤ p ∧ p < hi ∧ f p = h) → ∃ q, (lkp f h k lo hi c).1 = some q ∧ f q = h
  | 0, lo, hi, c, h1, h2, ⟨p, a, b, e⟩ => by omega
  | k + 1, lo, hi, c, h1, h2, ⟨p, a, b, e⟩ => by
    unfold lkp
    rw [if_pos (by omega)]
    split
    · rename_i he; exact ⟨_, rfl, he⟩
    · rename_i he
      split
      · rename_i hl
        refine lkp_some hm h1 (by omega) ⟨p, ?_, b, e⟩
        rcases Nat.lt_or_ge ((lo + hi) / 2) p with h9 | h9
        · exact h9
        · have := hm p ((lo + hi) / 2) h9 (by omega); omega
      · rename_i hl
        refine lkp_some hm (by omega) (by omega) ⟨p, a, ?_, e⟩
        rcases Nat.lt_or_ge p ((lo + hi) / 2) with h9 | h9
        · exact h9
        · have := hm ((lo + hi) / 2) p h9 (by omega); omega
theorem lkp_snd {f : Nat → Nat} {h : Nat} : ∀ {k lo hi c q : Nat}, (lkp f h k lo hi c).1 = some q → f q = h
  | 0, _, _, _, _, e => by cases e
  | k + 1, lo, hi, c, q, e => by
    unfold lkp at e
    split at e
    · split at e
      · cases e; assumption
      · split at e
        · exact lkp_snd e
        · exact lkp_snd e
    · cases e
theorem lkp_cnt {f : Nat → Nat} {h : Nat} : ∀ {k lo hi c j : Nat}, hi - lo < 2 ^ j → (lkp f h k lo hi c).2 ≤ c + j
  | 0, _, _, _, _, _ => Nat.le_add_right _ _
  | k + 1, lo, hi, c, j, hj => by
    unfold lkp
    split
    · rename_i hl
      cases j with
      | zero => simp at hj; omega
      | succ j =>
        rw [Nat.pow_succ] at hj
        split
        · show c + 1 ≤ _; omega
        · split
          · have := lkp_cnt (f := f) (h := h) (k := k) (lo := (lo + hi) / 2 + 1) (hi := hi) (c := c + 1) (j := j) (by omega); omega
          · have := lkp_cnt (f := f) (h := h) (k := k) (lo := lo) (hi := (lo + hi) / 2) (c := c + 1) (j := j) (by omega); omega
    · exact Nat.le_add_right _ _
theorem lkp_ge {f : Nat → Nat} {h : Nat} : ∀ {k lo hi c : Nat}, c ≤ (lkp f h k lo hi c).2
  | 0, _, _, _ => Nat.le_refl _
  | k + 1, lo, hi, c => by
    unfold lkp
    split
    · split
      · exact Nat.le_succ _
      · split
        · have := lkp_ge (f := f) (h := h) (k := k) (lo := (lo + hi) / 2 + 1) (hi := hi) (c := c + 1); omega
        · have := lkp_ge (f := f) (h := h) (k := k) (lo := lo) (hi := (lo + hi) / 2) (c := c + 1); omega
    · exact Nat.le_refl _
theorem lkp_pos {f : Nat → Nat} {h k lo hi c : Nat} (hl : lo < hi) (hk : 0 < k) : c < (lkp f h k lo hi c).2 := by
  cases k with
  | zero => omega
  | succ k =>
    unfold lkp
    rw [if_pos hl]
    split
    · exact Nat.lt_succ_self _
    · split
      · have := lkp_ge (f := f) (h := h) (k := k) (lo := (lo + hi) / 2 + 1) (hi := hi) (c := c + 1); omega
      · have := lkp_ge (f := f) (h := h) (k := k) (lo := lo) (hi := (lo + hi) / 2) (c := c + 1); omega
theorem lkp_empty {f : Nat → Nat} {h k lo hi c : Nat} (hl : ¬ lo < hi) : lkp f h k lo hi c = (none, c) := by
  cases k with
  | zero => rfl
  | succ k => unfold lkp; rw [if_neg hl]
section LMX
variable {n : Nat} {ct : Nat → Int64} {fm : Nat → Option Frm} {O X : List Nat}
theorem X_srt (hI : INV n ct fm O X) : X.Pairwise (fun a b => hso ct a ≤ hso ct b) := hI.2.2.2.2.2.1.imp (fun {a b} h => by have := ihd_iff.mp h; omega)
theorem blw_iff (hI : INV n ct fm O X) {p h : Nat} (hp : p < X.length) : hso ct (X.getD p 0) < h ↔ p < blw ct X h := cnt_srt (X_srt hI) p hp
theorem X_mono (hI : INV n ct fm O X) {i j : Nat} (hij : i ≤ j) (hj : j < X.length) : hso ct (X.getD i 0) ≤ hso ct (X.getD j 0) := srt_le (X_srt hI) i j hij hj
theorem X_nxt (hI : INV n ct fm O X) {p : Nat} (hp : p + 1 < X.length) : hso ct (X.getD p 0) < hso ct (X.getD (p + 1) 0) ∨ hso ct (X.getD p 0) = hso ct (X.getD (p + 1) 0) ∧ X.getD p 0 < X.getD (p + 1) 0 := by
  have h := List.pairwise_iff_getElem.mp hI.2.2.2.2.2.1 p (p + 1) (by omega) hp (Nat.lt_succ_self p)
  have e1 : X.getD p 0 = X[p]'(by omega) := by simp [show p < X.length by omega]
  have e2 : X.getD (p + 1) 0 = X[p + 1] := by simp [hp]
  rw [e1, e2]
  exact ihd_iff.mp h
theorem X_hit (hI : INV n ct fm O X) (hn : X.length ≤ 40) {p h : Nat} (hp : p < X.length) (hh : hso ct (X.getD p 0) = h) : (∃ q, (lku ct X h).1 = some q ∧ q < X.length ∧ hso ct (X.getD q 0) = h) ∧ 1 ≤ (lku ct X h).2 ∧ (lku ct X h).2 ≤ 6 := by
  have hlo : ¬ p < blw ct X (h - h % 256) := fun z => by have := (blw_iff hI hp).mpr z; omega
  have hhi : p < blw ct X (h - h % 256 + 256) := (blw_iff hI hp).mp (by have := Nat.mod_lt h (show 0 < 256 by decide); omega)
  have hle := blw_le ct X (h - h % 256 + 256)
  refine ⟨?_, ?_, ?_⟩
  · obtain ⟨q, h1, h2⟩ := lkp_some (f := fun i => hso ct (X.getD i 0)) (h := h) (N := X.length) (fun i j hij hj => X_mono hI hij hj) (k := X.length) (lo := blw ct X (h - h % 256)) (hi := blw ct X (h - h % 256 + 256)) (c := 0) hle (by omega) ⟨p, by omega, hhi, hh⟩
    exact ⟨q, h1, lku_lt h1, h2⟩
  · exact lkp_pos (by omega) (by omega)
  · have := lkp_cnt (f := fun i => hso ct (X.getD i 0)) (h := h) (k := X.length) (lo := blw ct X (h - h % 256)) (hi := blw ct X (h - h % 256 + 256)) (c := 0) (j := 6) (Nat.lt_of_le_of_lt (show _ ≤ 40 by omega) (by decide))
    unfold lku; omega
theorem X_miss {h : Nat} (hno : ∀ q, q < X.length → hso ct (X.getD q 0) ≠ h) : (lku ct X h).1 = none := by
  cases e : (lku ct X h).1 with
  | none => rfl
  | some q => exact absurd (lkp_snd (f := fun i => hso ct (X.getD i 0)) e) (hno q (lku_lt e))
theorem X_gap {b : Nat} (h : blw ct X (256 * b) = blw ct X (256 * (b + 1))) : lku ct X (256 * b + 77) = (none, 0) := by
  unfold lku
  refine lkp_empty ?_
  have e1 : 256 * b + 77 - (256 * b + 77) % 256 = 256 * b := by omega
  have e2 : 256 * b + 77 - (256 * b + 77) % 256 + 256 = 256 * (b + 1) := by omega
  rw [e2, e1, h]; exact Nat.lt_irrefl _
theorem X_all (hI : INV n ct fm O X) : blw ct X 4096 = X.length := by
  have h := len_sumL X
  unfold blw
  rw [h]
  have : ∀ L : List Nat, sumL (fun i => b1 (decide (hso ct i < 4096))) L = sumL (fun _ => 1) L := fun L => by
    induction L with
    | nil => rfl
    | cons x t ih =>
      simp only [sumL]
      rw [ih, decide_eq_true (show hso ct x < 4096 from hsh_lt _)]; rfl
  exact this X
end LMX
