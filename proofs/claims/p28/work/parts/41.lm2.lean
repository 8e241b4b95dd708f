/-! ===== making a pack: what the law asks of it ===== -/
def isD (fm : Nat → Option Frm) (i : Nat) : Bool := (bas fm i).isSome
def SI (n : Nat) (nm : Nat → Int32) (ct : Nat → Int64) (lv lo : Nat → Bool) (fm : Nat → Option Frm) (O X : List Nat) : Prop := INV n ct fm O X ∧ (∀ i, i < n → lo i = true → lv i = true) ∧ (∀ i, i < n → ∀ g, fm i = some g → ∀ b, g.1 = some b → ahd nm ct b i = true ∧ g.2.2.2.1 < hxn (xN (ct i))) ∧ (∀ i, i < n → ∃ q, q < 4 ∧ nm i = nI q) ∧ ∀ i, i < n → ∀ g, fm i = some g → g.1 = none → g.2.1 = 0
section LM2
variable {n : Nat} {nm : Nat → Int32} {ct : Nat → Int64} {lv lo : Nat → Bool} {fm : Nat → Option Frm} {O X : List Nat} {bd W p o : Nat} {rs : Bool}
theorem bsr_ind {nf : Nat → Option Frm} : ∀ {f k : Nat} {a a' : Acc}, a.1 = a'.1 → a.2.1 = a'.2.1 → (bsr ct nf bd O p o f k a).1 = (bsr ct nf bd O p o f k a').1 ∧ (bsr ct nf bd O p o f k a).2.1 = (bsr ct nf bd O p o f k a').2.1
  | 0, _, _, _, h1, h2 => ⟨h1, h2⟩
  | f + 1, k, a, a', h1, h2 => by
    have hc : (cdd ct nf bd o (O.getD (p - k) 0) a).1 = (cdd ct nf bd o (O.getD (p - k) 0) a').1 ∧ (cdd ct nf bd o (O.getD (p - k) 0) a).2.1 = (cdd ct nf bd o (O.getD (p - k) 0) a').2.1 := by
      unfold cdd
      rw [h2]
      split
      · split
        · exact ⟨rfl, rfl⟩
        · exact ⟨h1, rfl⟩
      · exact ⟨h1, h2⟩
    exact bsr_ind (f := f) (k := k + 1) hc.1 hc.2
theorem bst_ind {nf : Nat → Option Frm} (c c' : Nat) : (bst ct nf bd W O p o c).1 = (bst ct nf bd W O p o c').1 := (bsr_ind (f := min W p) (k := 1) (a := (none, hxn (xN (ct o)), c)) (a' := (none, hxn (xN (ct o)), c')) rfl rfl).1
theorem bsr_lt {nf : Nat → Option Frm} {H : Nat} : ∀ {f k : Nat} {a : Acc}, a.2.1 ≤ H → (a.1 ≠ none → a.2.1 < H) → ((bsr ct nf bd O p o f k a).1 ≠ none → (bsr ct nf bd O p o f k a).2.1 < H)
  | 0, _, _, _, h => h
  | f + 1, k, a, h1, h2 => by
    have hc : (cdd ct nf bd o (O.getD (p - k) 0) a).2.1 ≤ H ∧ ((cdd ct nf bd o (O.getD (p - k) 0) a).1 ≠ none → (cdd ct nf bd o (O.getD (p - k) 0) a).2.1 < H) := by
      unfold cdd
      split
      · split
        · rename_i h3 h4
          exact ⟨by dsimp only; omega, fun _ => by dsimp only; omega⟩
        · exact ⟨h1, h2⟩
      · exact ⟨h1, h2⟩
    exact bsr_lt (f := f) (k := k + 1) hc.1 hc.2
theorem bst_lt {nf : Nat → Option Frm} {c b : Nat} (h : (bst ct nf bd W O p o c).1 = some b) : dco (xN (ct o)) (xN (ct b)) < hxn (xN (ct o)) := by
  have h1 := bsr_lt (ct := ct) (nf := nf) (bd := bd) (O := O) (p := p) (o := o) (H := hxn (xN (ct o))) (f := min W p) (k := 1) (a := (none, hxn (xN (ct o)), c)) (Nat.le_refl _) (fun z => absurd rfl z) (by
    show (bst ct nf bd W O p o c).1 ≠ none
    rw [h]; exact fun z => (nomatch z))
  have h2 := (bst_ok (ct := ct) (nf := nf) (bd := bd) (W := W) (p := p) (o := o) (cp := c) (O := O)).2 b h
  have h3 : (bst ct nf bd W O p o c).2.1 < hxn (xN (ct o)) := h1
  rw [h2.2.2] at h3
  exact h3
theorem bsr_z {nf : Nat → Option Frm} : ∀ {f k : Nat} {a : Acc}, bsr ct nf 0 O p o f k a = a
  | 0, _, _ => rfl
  | f + 1, k, a => by
    show bsr ct nf 0 O p o f (k + 1) (cdd ct nf 0 o _ a) = a
    rw [show cdd ct nf 0 o (O.getD (p - k) 0) a = a by unfold cdd; rw [if_neg (Nat.not_lt_zero _)]]
    exact bsr_z
theorem bst_z {nf : Nat → Option Frm} {c : Nat} : bst ct nf 0 W O p o c = (none, hxn (xN (ct o)), c) := bsr_z
theorem bst_w {nf : Nat → Option Frm} {c : Nat} : (bst ct nf bd W O p o c).2.2 ≤ c + W := Nat.le_trans bsr_cp (by show c + min W p ≤ _; omega)
/-- what is chosen at a place -/
def chs (ct : Nat → Int64) (bd W : Nat) (O : List Nat) (p : Nat) (nf : Nat → Option Frm) (b : Option Nat) : Prop := (b = none → (bst ct nf bd W O p (O.getD p 0) 0).1 = none) ∧ ∀ c, b = some c → dep nf c < bd ∧ (∃ j, j < p ∧ O.getD j 0 = c) ∧ dco (xN (ct (O.getD p 0))) (xN (ct c)) < hxn (xN (ct (O.getD p 0)))
theorem stF_spec {a : NFr} (h : NOK n ct O p a.1) (hD : ∀ g b, fm (O.getD p 0) = some g → g.1 = some b → dco (xN (ct (O.getD p 0))) (xN (ct b)) < hxn (xN (ct (O.getD p 0)))) : ∃ b, (stF ct fm bd W rs O p a).1 = va_up a.1 (O.getD p 0) (some (mkF ct a.1 (O.getD p 0) b)) ∧ chs ct bd W O p a.1 b ∧ (stF ct fm bd W rs O p a).2.1 ≤ a.2.1 + W ∧ (stF ct fm bd W rs O p a).2.2 ≤ a.2.2 + b1 b.isSome ∧ (rs = false → (stF ct fm bd W rs O p a).2.2 = a.2.2) ∧ (bd = 0 → (stF ct fm bd W rs O p a).2.1 = a.2.1) := by
  unfold stF
  split
  · rename_i b hb
    cases rs with
    | false => cases hb
    | true =>
      have hb : reu fm a.1 bd (O.getD p 0) = some b := hb
      obtain ⟨⟨g, e1, e2, e3⟩, g', h1, h2⟩ := reu_ok hb
      refine ⟨some b, rfl, ⟨fun z => (nomatch z), fun c hc => ?_⟩, Nat.le_add_right _ _, Nat.le_refl _, fun z => (nomatch z), fun _ => rfl⟩
      cases hc
      refine ⟨?_, (h.1 b).mp ⟨g', h1⟩, hD g b e1 e2⟩
      unfold dep; rw [h1]; exact h2
  · refine ⟨_, rfl, ⟨fun z => ?_, fun c hc => ?_⟩, bst_w, Nat.le_add_right _ _, fun _ => rfl, fun z => ?_⟩
    · rw [bst_ind 0 a.2.1]; exact z
    · obtain ⟨h1, h2, -⟩ := bst_ok.2 c hc
      exact ⟨h1, h2, bst_lt hc⟩
    · subst z
      rw [bst_z]
/-- each place, once and for all -/
theorem fmr_at (hdQ : O.Nodup) (hO : ∀ i ∈ O, i < n) (hbd : bd ≤ 6) (hD : ∀ i, i < n → ∀ g b, fm i = some g → g.1 = some b → dco (xN (ct i)) (xN (ct b)) < hxn (xN (ct i))) {k : Nat} (hk : k < O.length) : ∃ b, (fmr ct fm bd W rs O (k + 1)).1 = va_up (fmr ct fm bd W rs O k).1 (O.getD k 0) (some (mkF ct (fmr ct fm bd W rs O k).1 (O.getD k 0) b)) ∧ chs ct bd W O k (fmr ct fm bd W rs O k).1 b ∧ (∀ m, k < m → m ≤ O.length → (fmr ct fm bd W rs O m).1 (O.getD k 0) = some (mkF ct (fmr ct fm bd W rs O k).1 (O.getD k 0) b)) ∧ (fmr ct fm bd W rs O (k + 1)).2.1 ≤ (fmr ct fm bd W rs O k).2.1 + W ∧ (fmr ct fm bd W rs O (k + 1)).2.2 ≤ (fmr ct fm bd W rs O k).2.2 + b1 b.isSome ∧ (rs = false → (fmr ct fm bd W rs O (k + 1)).2.2 = (fmr ct fm bd W rs O k).2.2) ∧ (bd = 0 → (fmr ct fm bd W rs O (k + 1)).2.1 = (fmr ct fm bd W rs O k).2.1) := by
  have hNQ := fmr_ok (ct := ct) (fm := fm) (bd := bd) (W := W) (rs := rs) hdQ hO hbd (k := k) (by omega)
  obtain ⟨b, h1, h2, h3, h4, h5, h6⟩ := stF_spec (fm := fm) (bd := bd) (W := W) (rs := rs) (a := fmr ct fm bd W rs O k) hNQ (hD _ (hO _ (getD_mem hk)))
  refine ⟨b, h1, h2, fun m hmQ => ?_, h3, h4, h5, h6⟩
  induction m with
  | zero => exact absurd hmQ (Nat.not_lt_zero _)
  | succ m ihQ =>
    intro hm2
    by_cases hkm : k = m
    · subst hkm
      show (stF ct fm bd W rs O k _).1 _ = _
      rw [h1, va_up_self]
    · have hNm := fmr_ok (ct := ct) (fm := fm) (bd := bd) (W := W) (rs := rs) hdQ hO hbd (k := m) (by omega)
      obtain ⟨b', e1, -⟩ := stF_spec (fm := fm) (bd := bd) (W := W) (rs := rs) (a := fmr ct fm bd W rs O m) hNm (hD _ (hO _ (getD_mem (by omega))))
      show (stF ct fm bd W rs O m _).1 _ = _
      rw [e1, up_n (fun z => hkm (nd_getD hdQ hk (by omega) z))]
      exact ihQ (by omega) (by omega)
theorem fmr_cnt (hdQ : O.Nodup) (hO : ∀ i ∈ O, i < n) (hbd : bd ≤ 6) (hD : ∀ i, i < n → ∀ g b, fm i = some g → g.1 = some b → dco (xN (ct i)) (xN (ct b)) < hxn (xN (ct i))) : ∀ {k : Nat}, k ≤ O.length → (fmr ct fm bd W rs O k).2.1 ≤ W * k ∧ (fmr ct fm bd W rs O k).2.2 ≤ k ∧ (rs = false → (fmr ct fm bd W rs O k).2.2 = 0) ∧ (bd = 0 → (fmr ct fm bd W rs O k).2.1 = 0)
  | 0, _ => ⟨Nat.zero_le _, Nat.le_refl _, fun _ => rfl, fun _ => rfl⟩
  | k + 1, hk => by
    obtain ⟨h1, h2, h3, h4⟩ := fmr_cnt hdQ hO hbd hD (k := k) (by omega)
    obtain ⟨b, -, -, -, e1, e2, e3, e4⟩ := fmr_at (W := W) (rs := rs) hdQ hO hbd hD hk
    refine ⟨?_, ?_, fun z => (e3 z).trans (h3 z), fun z => (e4 z).trans (h4 z)⟩
    · rw [Nat.mul_succ]; omega
    · have : b1 b.isSome ≤ 1 := by cases b with | none => exact Nat.zero_le _ | some v9 => exact Nat.le_refl _
      omega
theorem mkF_D {nf : Nat → Option Frm} {i : Nat} {b : Option Nat} (h : fm i = some (mkF ct nf o b)) : isD fm i = b.isSome := by
  unfold isD bas
  rw [h]
  cases b <;> rfl
theorem fmr_del (hdQ : O.Nodup) (hO : ∀ i ∈ O, i < n) (hbd : bd ≤ 6) (hD : ∀ i, i < n → ∀ g b, fm i = some g → g.1 = some b → dco (xN (ct i)) (xN (ct b)) < hxn (xN (ct i))) : ∀ {k : Nat}, k ≤ O.length → (fmr ct fm bd W rs O k).2.2 ≤ sumL (fun i => b1 (isD (fmr ct fm bd W rs O O.length).1 i)) (O.take k)
  | 0, _ => Nat.zero_le _
  | k + 1, hk => by
    have ihQ := fmr_del hdQ hO hbd hD (k := k) (by omega)
    obtain ⟨b, -, -, e0, -, e2, -, -⟩ := fmr_at (W := W) (rs := rs) hdQ hO hbd hD hk
    rw [sumL_take _ _ _ hk, mkF_D (e0 O.length (by omega) (Nat.le_refl _))]
    omega
/-- the same pack again -/
theorem fmr_again (hdQ : O.Nodup) (hO : ∀ i ∈ O, i < n) (hbd : bd ≤ 6) (hD : ∀ i, i < n → ∀ g b, fm i = some g → g.1 = some b → dco (xN (ct i)) (xN (ct b)) < hxn (xN (ct i))) (hdl : ∀ i, i < n → ∀ g b, (fmr ct fm bd W rs O O.length).1 i = some g → g.1 = some b → dco (xN (ct i)) (xN (ct b)) < hxn (xN (ct i))) : ∀ {k : Nat}, k ≤ O.length → (fmr ct (fmr ct fm bd W rs O O.length).1 bd W true O k).1 = (fmr ct fm bd W rs O k).1 ∧ (fmr ct (fmr ct fm bd W rs O O.length).1 bd W true O k).2.2 = sumL (fun i => b1 (isD (fmr ct fm bd W rs O O.length).1 i)) (O.take k)
  | 0, _ => ⟨rfl, rfl⟩
  | k + 1, hk => by
    obtain ⟨h1, h2⟩ := fmr_again hdQ hO hbd hD hdl (k := k) (by omega)
    obtain ⟨b, e1, ec, e0, -⟩ := fmr_at (W := W) (rs := rs) hdQ hO hbd hD hk
    have hNQ := fmr_ok (ct := ct) (fm := fm) (bd := bd) (W := W) (rs := rs) hdQ hO hbd (k := k) (by omega)
    have ef := e0 O.length (by omega) (Nat.le_refl _)
    rw [sumL_take _ _ _ hk, mkF_D ef, e1, ← h2]
    show (stF ct _ bd W true O k (fmr ct _ bd W true O k)).1 = _ ∧ (stF ct _ bd W true O k (fmr ct _ bd W true O k)).2.2 = _
    cases b with
    | some c =>
      obtain ⟨c1, ⟨j, hj, c2⟩, c3⟩ := ec.2 c rfl
      obtain ⟨g', hg'⟩ := (hNQ.1 c).mpr ⟨j, hj, c2⟩
      have hr : reu (fmr ct fm bd W rs O O.length).1 (fmr ct (fmr ct fm bd W rs O O.length).1 bd W true O k).1 bd (O.getD k 0) = some c := by
        unfold reu
        rw [ef, h1]
        show (if false = true then none else match (some c : Option Nat) with | none => none | some b => _) = _
        rw [if_neg Bool.false_ne_true]
        show (match (fmr ct fm bd W rs O k).1 c with | none => none | some g' => if g'.2.1 < bd then some c else none) = _
        rw [hg']
        show (if g'.2.1 < bd then some c else none) = _
        rw [if_pos (by unfold dep at c1; rw [hg'] at c1; exact c1)]
      unfold stF
      rw [show cond true (reu (fmr ct fm bd W rs O O.length).1 (fmr ct (fmr ct fm bd W rs O O.length).1 bd W true O k).1 bd (O.getD k 0)) none = some c from hr]
      exact ⟨by dsimp only; rw [h1], rfl⟩
    | none =>
      have hr : reu (fmr ct fm bd W rs O O.length).1 (fmr ct (fmr ct fm bd W rs O O.length).1 bd W true O k).1 bd (O.getD k 0) = none := by
        unfold reu
        rw [ef]
        rfl
      have hb := ec.1 rfl
      unfold stF
      rw [show cond true (reu (fmr ct fm bd W rs O O.length).1 (fmr ct (fmr ct fm bd W rs O O.length).1 bd W true O k).1 bd (O.getD k 0)) none = none from hr]
      dsimp only
      rw [bst_ind _ 0, h1, hb]
      exact ⟨rfl, rfl⟩
end LM2
section LM3
variable {n : Nat} {nm : Nat → Int32} {ct : Nat → Int64} {lv lo : Nat → Bool} {fm : Nat → Option Frm} {O X O' X' : List Nat} {bd W : Nat} {rs : Bool}
theorem SI.dl (hSQ : SI n nm ct lv lo fm O X) : ∀ i, i < n → ∀ g b, fm i = some g → g.1 = some b → dco (xN (ct i)) (xN (ct b)) < hxn (xN (ct i)) := fun i hiQ g b hg hb => by
  have h1 := (hSQ.2.2.1 i hiQ g hg b hb).2
  have h2 := ((hSQ.1.2.2.1 i hiQ g hg).2 b hb).2
  omega
theorem SI.pos (hSQ : SI n nm ct lv lo fm O X) : ∀ i, i < n → ∀ g, fm i = some g → 0 < g.2.2.2.1 ∧ g.2.2.2.1 < 2 ^ 20 ∧ g.2.2.2.1 ≤ hxn (xN (ct i)) := fun i hiQ g hg => by
  have hx := isC_ge (hSQ.1.1 i hiQ)
  have hx2 := isC_15 (hSQ.1.1 i hiQ)
  have h2 := hSQ.1.2.2.1 i hiQ g hg
  cases hb : g.1 with
  | none => have := (h2.1 hb).2; omega
  | some b =>
    have h3 := (h2.2 b hb).2
    have h4 := (hSQ.2.2.1 i hiQ g hg b hb).2
    have := dco_ge (c := xN (ct i)) (d := xN (ct b)) hx
    omega
/-- a pack that is made of a sound state -/
theorem SI.pak (hSQ : SI n nm ct lv lo fm O X) (hO : srtd (ahd nm ct) (fun i => i < n ∧ rdb lv lo fm i = true) O') (hX : srtd (ihd ct) (fun i => i ∈ O') X') (hbd : bd ≤ 6) : SI n nm ct lv lo (fmr ct fm bd W rs O' O'.length).1 O' X' ∧ (∀ i, i < n → ((fmr ct fm bd W rs O' O'.length).1 i).isSome = rdb lv lo fm i) ∧ (∀ i, i < n → ∀ g, (fmr ct fm bd W rs O' O'.length).1 i = some g → g.2.2.2.2 = false ∧ g.2.1 ≤ bd) := by
  have hI' := hSQ.1.pak (W := W) (rs := rs) hO (fun i hiQ => hiQ.1) hX hbd
  have hdQ := hI'.2.2.2.1
  have hOn : ∀ i ∈ O', i < n := fun i hiQ => ((hO.2 i).mp hiQ).1
  have hsp : ∀ i, i < n → ∀ g, (fmr ct fm bd W rs O' O'.length).1 i = some g → ∃ p b, p < O'.length ∧ O'.getD p 0 = i ∧ g = mkF ct (fmr ct fm bd W rs O' p).1 i b ∧ chs ct bd W O' p (fmr ct fm bd W rs O' p).1 b := fun i hiQ g hg => by
    obtain ⟨p, hp, e⟩ := ((fmr_ok (ct := ct) (fm := fm) (bd := bd) (W := W) (rs := rs) hdQ hOn hbd (Nat.le_refl _)).1 i).mp ⟨g, hg⟩
    obtain ⟨b, -, h2, h3, -⟩ := fmr_at (W := W) (rs := rs) hdQ hOn hbd hSQ.dl hp
    have h4 := h3 O'.length hp (Nat.le_refl _)
    rw [e] at h4
    rw [hg] at h4
    cases h4
    exact ⟨p, b, hp, e, rfl, h2⟩
  refine ⟨⟨hI', hSQ.2.1, fun i hiQ g hg b hb => ?_, hSQ.2.2.2.1, fun i hiQ g hg hb => ?_⟩, fun i hiQ => ?_, fun i hiQ g hg => ?_⟩
  · obtain ⟨p, b', hp, e, rfl, h2⟩ := hsp i hiQ g hg
    cases b' with
    | none => cases hb
    | some c =>
      cases hb
      obtain ⟨-, ⟨j, hj, e2⟩, h3⟩ := h2.2 _ rfl
      rw [e] at h3
      refine ⟨?_, h3⟩
      have h5 := List.pairwise_iff_getElem.mp hO.1 j p (by omega) hp hj
      have e3 : O'.getD j 0 = O'[j]'(by omega) := by simp [show j < O'.length by omega]
      have e4 : O'.getD p 0 = O'[p] := by simp [hp]
      rw [← e3, ← e4, e, e2] at h5
      exact h5
  · obtain ⟨p, b', hp, e, rfl, h2⟩ := hsp i hiQ g hg
    cases b' with
    | none => rfl
    | some c => cases hb
  · cases hr : rdb lv lo fm i with
    | true => exact ((hI'.2.2.2.2.1 i).mp ((hO.2 i).mpr ⟨hiQ, hr⟩)).2
    | false =>
      cases hs : ((fmr ct fm bd W rs O' O'.length).1 i).isSome with
      | false => rfl
      | true =>
        have := ((hO.2 i).mp ((hI'.2.2.2.2.1 i).mpr ⟨hiQ, hs⟩)).2
        rw [hr] at this; cases this
  · obtain ⟨p, b', hp, e, rfl, h2⟩ := hsp i hiQ g hg
    cases b' with
    | none => exact ⟨rfl, Nat.zero_le _⟩
    | some c => exact ⟨rfl, (h2.2 c rfl).1⟩
theorem rdb_pak (hSQ : SI n nm ct lv lo fm O X) {fm' : Nat → Option Frm} (hC : CH n fm') (h1 : ∀ i, i < n → (fm' i).isSome = rdb lv lo fm i) (h2 : ∀ i, i < n → ∀ g, fm' i = some g → g.2.2.2.2 = false) {i : Nat} (hiQ : i < n) : rdb lv lo fm' i = (fm' i).isSome := by
  unfold rdb
  rw [rpk_all hC h2 hiQ, h1 i hiQ]
  unfold rdb
  cases lv i <;> cases lo i <;> cases rpk fm i <;> rfl
/-! the other calls -/
theorem SI.sto (hSQ : SI n nm ct lv lo fm O X) {x : Int64} {q : Nat} (hx : isC x = true) (hq : q < 4) : SI (n + 1) (va_up nm n (nI q)) (va_up ct n x) (va_up lv n true) (va_up lo n true) (va_up fm n none) O X := by
  refine ⟨hSQ.1.sto hx, fun i hiQ hl => ?_, fun i hiQ g hg b hb => ?_, fun i hiQ => ?_, fun i hiQ g hg hb => ?_⟩
  · by_cases hin : i = n
    · subst hin; exact va_up_self _ _ _
    · rw [up_n hin] at hl ⊢; exact hSQ.2.1 i (by omega) hl
  · by_cases hin : i = n
    · subst hin; rw [va_up_self] at hg; cases hg
    · rw [up_n hin] at hg
      obtain ⟨h1, h2⟩ := hSQ.2.2.1 i (by omega) g hg b hb
      have hbn : b < n := ((hSQ.1.2.1 i (by omega) g hg).2 b hb).1
      unfold ahd at h1 ⊢
      rw [up_n hin, up_n hin, up_n (Nat.ne_of_lt hbn), up_n (Nat.ne_of_lt hbn)]
      exact ⟨h1, h2⟩
  · by_cases hin : i = n
    · subst hin; exact ⟨q, hq, va_up_self _ _ _⟩
    · rw [up_n hin]; exact hSQ.2.2.2.1 i (by omega)
  · by_cases hin : i = n
    · subst hin; rw [va_up_self] at hg; cases hg
    · rw [up_n hin] at hg; exact hSQ.2.2.2.2 i (by omega) g hg hb
theorem SI.del (hSQ : SI n nm ct lv lo fm O X) (i : Nat) : SI n nm ct (va_up lv i false) (va_up lo i false) fm O X := by
  refine ⟨hSQ.1, fun j hj hl => ?_, hSQ.2.2⟩
  by_cases hij : j = i
  · subst hij; rw [va_up_self] at hl; cases hl
  · rw [up_n hij] at hl ⊢; exact hSQ.2.1 j hj hl
theorem SI.pru (hSQ : SI n nm ct lv lo fm O X) : SI n nm ct lv (fun i => lo i && !rpk fm i) fm O X := ⟨hSQ.1, fun j hj hl => hSQ.2.1 j hj (by have hl : (lo j && !rpk fm j) = true := hl; cases h : lo j with | true => rfl | false => rw [h] at hl; cases hl), hSQ.2.2⟩
theorem SI.dam (hSQ : SI n nm ct lv lo fm O X) {i : Nat} {g : Frm} (hg : fm i = some g) : SI n nm ct lv lo (va_up fm i (some (dmgF g))) O X := by
  refine ⟨hSQ.1.dm hg, hSQ.2.1, fun j hj g' hg' b hb => ?_, hSQ.2.2.2.1, fun j hj g' hg' hb => ?_⟩
  · by_cases hji : j = i
    · subst hji
      rw [va_up_self] at hg'
      cases hg'
      exact hSQ.2.2.1 j hj g hg b hb
    · rw [up_n hji] at hg'
      exact hSQ.2.2.1 j hj g' hg' b hb
  · by_cases hji : j = i
    · subst hji
      rw [va_up_self] at hg'
      cases hg'
      exact hSQ.2.2.2.2 j hj g hg hb
    · rw [up_n hji] at hg'
      exact hSQ.2.2.2.2 j hj g' hg' hb
/-! sums over all objects -/
theorem sumN_le {f g : Nat → Nat} : ∀ {m : Nat}, (∀ i, i < m → f i ≤ g i) → sumN m f ≤ sumN m g
  | 0, _ => Nat.le_refl _
  | m + 1, h => Nat.add_le_add (sumN_le (fun i hiQ => h i (Nat.lt_succ_of_lt hiQ))) (h m (Nat.lt_succ_self m))
theorem sumN_add (f g : Nat → Nat) : ∀ (m : Nat), sumN m (fun i => f i + g i) = sumN m f + sumN m g
  | 0 => rfl
  | m + 1 => by simp only [sumN]; rw [sumN_add f g m]; omega
theorem sumN_z {f : Nat → Nat} : ∀ {m : Nat}, (∀ i, i < m → f i = 0) → sumN m f = 0
  | 0, _ => rfl
  | m + 1, h => by simp only [sumN]; rw [sumN_z (fun i hiQ => h i (Nat.lt_succ_of_lt hiQ)), h m (Nat.lt_succ_self m)]
theorem sumN_bd {f : Nat → Nat} {B : Nat} : ∀ {m : Nat}, (∀ i, i < m → f i ≤ B) → sumN m f ≤ m * B
  | 0, _ => Nat.zero_le _
  | m + 1, h => by
    have h1 := sumN_bd (fun i hiQ => h i (Nat.lt_succ_of_lt hiQ))
    have h2 := h m (Nat.lt_succ_self m)
    simp only [sumN]; rw [Nat.succ_mul]; omega
theorem srt_sum {q : Nat → Bool} (hO : srtd (ahd nm ct) (fun i => i < n ∧ q i = true) O') (f : Nat → Nat) : sumL f O' = sumN n (fun i => cond (q i) (f i) 0) := sumL_sumN f n q O' (hO.nodup (so_ahd nm ct)) hO.2
end LM3
/-! ===== the notes that the law keeps of an object ===== -/
def enc (a b d : Bool) : Nat := b1 a + 2 * b1 b + 4 * b1 d
theorem enc_lt (a b d : Bool) : enc a b d < 8 := by cases a <;> cases b <;> cases d <;> decide
theorem enc_2 (a b d : Bool) : enc a b d % 2 = b1 a := by cases a <;> cases b <;> cases d <;> rfl
theorem enc_22 (a b d : Bool) : enc a b d / 2 % 2 = b1 b := by cases a <;> cases b <;> cases d <;> rfl
theorem enc_4 (a b d : Bool) : enc a b d / 4 = b1 d := by cases a <;> cases b <;> cases d <;> rfl
theorem enc_m4 (a b d : Bool) : enc a b d % 4 = enc a b false := by cases a <;> cases b <;> cases d <;> rfl
theorem enc_44 (a b d : Bool) : enc a b d / 4 * 4 = enc false false d := by cases a <;> cases b <;> cases d <;> rfl
/-! could: the bits of those that can be read -/
def bits (q : Nat → Bool) (m : Nat) : Nat := sumN m (fun i => b1 (q i) * 2 ^ i)
theorem bits_lt (q : Nat → Bool) : ∀ m, bits q m < 2 ^ m
  | 0 => by show 0 < 1; decide
  | m + 1 => by
    have h := bits_lt q m
    have h2 : b1 (q m) ≤ 1 := by cases q m <;> decide
    have h3 : b1 (q m) * 2 ^ m ≤ 1 * 2 ^ m := Nat.mul_le_mul_right _ h2
    have h4 : bits q (m + 1) = bits q m + b1 (q m) * 2 ^ m := rfl
    rw [h4, Nat.pow_succ]; omega
theorem bits_at (q : Nat → Bool) {k : Nat} : ∀ m, k < m → bits q m / 2 ^ k % 2 = b1 (q k)
  | 0, h => absurd h (Nat.not_lt_zero _)
  | m + 1, h => by
    have h4 : bits q (m + 1) = bits q m + b1 (q m) * 2 ^ m := rfl
    have hp : 0 < 2 ^ k := Nat.two_pow_pos k
    by_cases hk : k = m
    · subst hk
      rw [h4, Nat.add_mul_div_right _ _ hp, Nat.div_eq_of_lt (bits_lt q k), Nat.zero_add]
      cases q k <;> rfl
    · have ihQ := bits_at q (k := k) m (by omega)
      have e : 2 ^ m = 2 * 2 ^ (m - k - 1) * 2 ^ k := by
        rw [Nat.mul_assoc, ← Nat.pow_add, ← Nat.pow_succ']
        congr 1; omega
      rw [h4, e, ← Nat.mul_assoc, Nat.add_mul_div_right _ _ hp, ← Nat.mul_assoc, Nat.mul_comm (b1 (q m)) 2, Nat.mul_assoc, Nat.add_mul_mod_self_left]
      exact ihQ
