/-! ===== orders, and what a new pack holds ===== -/
def SO (lt : Nat → Nat → Bool) : Prop := (∀ a, lt a a = false) ∧ (∀ a b c, lt a b = true → lt b c = true → lt a c = true) ∧ ∀ a b, a ≠ b → lt a b = false → lt b a = true
def srtd (lt : Nat → Nat → Bool) (q : Nat → Prop) (L : List Nat) : Prop := L.Pairwise (fun a b => lt a b = true) ∧ ∀ i, i ∈ L ↔ q i
theorem srtd.congr {lt : Nat → Nat → Bool} {q q' : Nat → Prop} {L : List Nat} (h : srtd lt q L) (hq : ∀ i, q i ↔ q' i) : srtd lt q' L := ⟨h.1, fun i => (h.2 i).trans (hq i)⟩
theorem srtd.nil {lt : Nat → Nat → Bool} {q : Nat → Prop} (h : ∀ i, ¬ q i) : srtd lt q [] := ⟨List.Pairwise.nil, fun i => ⟨fun h' => (nomatch h'), fun h' => absurd h' (h i)⟩⟩
theorem srtd.nodup {lt : Nat → Nat → Bool} {q : Nat → Prop} {L : List Nat} (hs : SO lt) (h : srtd lt q L) : L.Nodup := h.1.imp (fun {a b} hab e => by subst e; rw [hs.1 a] at hab; cases hab)
theorem srtd.ins {lt : Nat → Nat → Bool} {q : Nat → Prop} {L : List Nat} {x p : Nat} (h : srtd lt q L) (h1 : ∀ y ∈ L.take p, lt y x = true) (h2 : ∀ y ∈ L.drop p, lt x y = true) : srtd lt (fun i => q i ∨ i = x) (L.take p ++ x :: L.drop p) := by
  have h3 : (L.take p ++ L.drop p).Pairwise (fun a b => lt a b = true) := by rw [List.take_append_drop]; exact h.1
  rw [List.pairwise_append] at h3
  refine ⟨?_, fun i => ?_⟩
  · rw [List.pairwise_append]
    refine ⟨h3.1, List.pairwise_cons.mpr ⟨h2, h3.2.1⟩, fun a ha b hb => ?_⟩
    rcases List.mem_cons.mp hb with rfl | hb
    · exact h1 a ha
    · exact h3.2.2 a ha b hb
  · have e : i ∈ L ↔ i ∈ L.take p ∨ i ∈ L.drop p := by rw [← List.mem_append, List.take_append_drop]
    show _ ↔ q i ∨ i = x
    rw [List.mem_append, List.mem_cons, ← h.2 i, e]
    constructor
    · rintro (h | h | h)
      · exact Or.inl (Or.inl h)
      · exact Or.inr h
      · exact Or.inl (Or.inr h)
    · rintro ((h | h) | h)
      · exact Or.inl h
      · exact Or.inr (Or.inr h)
      · exact Or.inr (Or.inl h)
theorem drop_gt {lt : Nat → Nat → Bool} {L : List Nat} {x i : Nat} (hs : SO lt) (hL : L.Pairwise (fun a b => lt a b = true)) (hi : i < L.length) (hx : lt x (L.getD i 0) = true) : ∀ y ∈ L.drop i, lt x y = true := by
  have h1 := hL.sublist (List.drop_sublist i L)
  rw [List.drop_eq_getElem_cons hi] at h1 ⊢
  have e : L.getD i 0 = L[i] := by simp [hi]
  rw [e] at hx
  intro y hy
  rcases List.mem_cons.mp hy with rfl | hy
  · exact hx
  · exact hs.2.1 _ _ _ hx (List.rel_of_pairwise_cons h1 hy)
theorem take_lt {lt : Nat → Nat → Bool} {L : List Nat} {x i : Nat} (hs : SO lt) (hL : L.Pairwise (fun a b => lt a b = true)) (hi : i < L.length) (hx : lt (L.getD i 0) x = true) : ∀ y ∈ L.take (i + 1), lt y x = true := by
  have e : L.getD i 0 = L[i] := by simp [hi]
  rw [e] at hx
  have h1 := hL
  rw [← List.take_append_drop i L, List.pairwise_append] at h1
  intro y hy
  rw [List.take_succ_eq_append_getElem hi] at hy
  rcases List.mem_append.mp hy with hy | hy
  · exact hs.2.1 _ _ _ (h1.2.2 y hy L[i] (by rw [List.drop_eq_getElem_cons hi]; exact List.mem_cons_self)) hx
  · rw [List.mem_singleton.mp hy]; exact hx
theorem srtd.uniq {lt : Nat → Nat → Bool} (hs : SO lt) : ∀ {L M : List Nat}, L.Pairwise (fun a b => lt a b = true) → M.Pairwise (fun a b => lt a b = true) → (∀ i, i ∈ L ↔ i ∈ M) → L = M
  | [], [], _, _, _ => rfl
  | [], y :: M, _, _, h => absurd ((h y).mpr List.mem_cons_self) (fun z => nomatch z)
  | x :: L, [], _, _, h => absurd ((h x).mp List.mem_cons_self) (fun z => nomatch z)
  | x :: L, y :: M, hL, hM, h => by
    have hxy : x = y := by
      rcases List.mem_cons.mp ((h x).mp List.mem_cons_self) with h1 | h1
      · exact h1
      · rcases List.mem_cons.mp ((h y).mpr List.mem_cons_self) with h2 | h2
        · exact h2.symm
        · have a := List.rel_of_pairwise_cons hM h1
          have b := List.rel_of_pairwise_cons hL h2
          have c := hs.2.1 _ _ _ a b
          rw [hs.1] at c; cases c
    subst hxy
    refine congrArg _ (srtd.uniq hs (List.pairwise_cons.mp hL).2 (List.pairwise_cons.mp hM).2 (fun i => ?_))
    constructor
    · intro hi
      rcases List.mem_cons.mp ((h i).mp (List.mem_cons_of_mem _ hi)) with h1 | h1
      · subst h1
        have a := List.rel_of_pairwise_cons hL hi
        rw [hs.1] at a; cases a
      · exact h1
    · intro hi
      rcases List.mem_cons.mp ((h i).mpr (List.mem_cons_of_mem _ hi)) with h1 | h1
      · subst h1
        have a := List.rel_of_pairwise_cons hM hi
        rw [hs.1] at a; cases a
      · exact h1
theorem nd_len : ∀ {n : Nat} {L : List Nat}, L.Nodup → (∀ i ∈ L, i < n) → L.length ≤ n
  | 0, [], _, _ => Nat.le_refl _
  | 0, x :: L, _, h => absurd (h x List.mem_cons_self) (Nat.not_lt_zero _)
  | n + 1, L, hd, h => by
    have h1 := nd_len (n := n) (L := L.erase n) (hd.erase n) (fun i hi => by
      have h2 := (List.Nodup.mem_erase_iff hd).mp hi
      have := h i h2.2
      omega)
    rw [List.length_erase] at h1
    split at h1 <;> omega
theorem sumL_perm (f : Nat → Nat) {L M : List Nat} (h : L.Perm M) : sumL f L = sumL f M := by
  induction h with
  | nil => rfl
  | cons x _ ih => simp only [sumL, ih]
  | swap x y l => simp only [sumL]; omega
  | trans _ _ h1 h2 => exact h1.trans h2
theorem sumL_sumN (f : Nat → Nat) : ∀ (n : Nat) (q : Nat → Bool) (L : List Nat), L.Nodup → (∀ i, i ∈ L ↔ i < n ∧ q i = true) → sumL f L = sumN n (fun i => cond (q i) (f i) 0)
  | 0, q, L, hd, h => by
    cases L with
    | nil => rfl
    | cons x t => exact absurd ((h x).mp List.mem_cons_self).1 (Nat.not_lt_zero _)
  | n + 1, q, L, hd, h => by
    cases hq : q n with
    | true =>
      have hm : n ∈ L := (h n).mpr ⟨Nat.lt_succ_self n, hq⟩
      rw [sumL_perm f (List.perm_cons_erase hm)]
      have := sumL_sumN f n q (L.erase n) (hd.erase n) (fun i => by
        rw [List.Nodup.mem_erase_iff hd, h i]
        constructor
        · rintro ⟨h1, h2, h3⟩; exact ⟨by omega, h3⟩
        · rintro ⟨h1, h2⟩; exact ⟨by omega, by omega, h2⟩)
      simp only [sumL, sumN, this, hq, cond_true]
      omega
    | false =>
      have := sumL_sumN f n q L hd (fun i => by
        rw [h i]
        constructor
        · rintro ⟨h1, h2⟩
          refine ⟨?_, h2⟩
          by_cases he : i = n
          · subst he; rw [hq] at h2; cases h2
          · omega
        · rintro ⟨h1, h2⟩; exact ⟨by omega, h2⟩)
      simp only [sumN, this, hq, cond_false]
      omega
/-- ahead in the order of the pack -/
def ahd (nm : Nat → Int32) (ct : Nat → Int64) (i j : Nat) : Bool := if nm i = nm j then (if hxn (xN (ct i)) = hxn (xN (ct j)) then decide (i < j) else decide (hxn (xN (ct j)) < hxn (xN (ct i)))) else decide (nm i < nm j)
theorem ahd_iff {nm : Nat → Int32} {ct : Nat → Int64} {i j : Nat} : ahd nm ct i j = true ↔ ((nm i).toInt < (nm j).toInt ∨ (nm i).toInt = (nm j).toInt ∧ (hxn (xN (ct j)) < hxn (xN (ct i)) ∨ hxn (xN (ct i)) = hxn (xN (ct j)) ∧ i < j)) := by
  unfold ahd
  split
  · rename_i h
    rw [h]
    split
    · rename_i h2
      rw [decide_eq_true_iff]; omega
    · rename_i h2
      rw [decide_eq_true_iff]; omega
  · rename_i h
    have h' : (nm i).toInt ≠ (nm j).toInt := fun e => h (Int32.toInt_inj.mp e)
    rw [decide_eq_true_iff, Int32.lt_iff_toInt_lt]; omega
theorem so_ahd (nm : Nat → Int32) (ct : Nat → Int64) : SO (ahd nm ct) := by
  refine ⟨fun a => ?_, fun a b c h1 h2 => ?_, fun a b hne h => ?_⟩
  · cases h : ahd nm ct a a with
    | false => rfl
    | true => have := ahd_iff.mp h; omega
  · have h1 := ahd_iff.mp h1
    have h2 := ahd_iff.mp h2
    exact ahd_iff.mpr (by omega)
  · have h' := mt (ahd_iff (nm := nm) (ct := ct) (i := a) (j := b)).mpr (by rw [h]; exact Bool.false_ne_true)
    exact ahd_iff.mpr (by omega)
/-- ahead in the index -/
def ihd (ct : Nat → Int64) (i j : Nat) : Bool := if hso ct i = hso ct j then decide (i < j) else decide (hso ct i < hso ct j)
theorem ihd_iff {ct : Nat → Int64} {i j : Nat} : ihd ct i j = true ↔ (hso ct i < hso ct j ∨ hso ct i = hso ct j ∧ i < j) := by
  unfold ihd
  split <;> rw [decide_eq_true_iff] <;> omega
theorem so_ihd (ct : Nat → Int64) : SO (ihd ct) := by
  refine ⟨fun a => ?_, fun a b c h1 h2 => ?_, fun a b hne h => ?_⟩
  · cases h : ihd ct a a with
    | false => rfl
    | true => have := ihd_iff.mp h; omega
  · have h1 := ihd_iff.mp h1
    have h2 := ihd_iff.mp h2
    exact ihd_iff.mpr (by omega)
  · have h' := mt (ihd_iff (ct := ct) (i := a) (j := b)).mpr (by rw [h]; exact Bool.false_ne_true)
    exact ihd_iff.mpr (by omega)
/-! new forms -/
def dep (nf : Nat → Option Frm) (c : Nat) : Nat := match nf c with
  | some g => g.2.1
  | none => 0
abbrev Acc : Type := Option Nat × Nat × Nat
def cdd (ct : Nat → Int64) (nf : Nat → Option Frm) (bd o c : Nat) (a : Acc) : Acc := if dep nf c < bd then (if dco (xN (ct o)) (xN (ct c)) < a.2.1 then (some c, dco (xN (ct o)) (xN (ct c)), a.2.2 + 1) else (a.1, a.2.1, a.2.2 + 1)) else a
def bsr (ct : Nat → Int64) (nf : Nat → Option Frm) (bd : Nat) (O : List Nat) (p o : Nat) : Nat → Nat → Acc → Acc
  | 0, _, a => a
  | f + 1, k, a => bsr ct nf bd O p o f (k + 1) (cdd ct nf bd o (O.getD (p - k) 0) a)
def bst (ct : Nat → Int64) (nf : Nat → Option Frm) (bd W : Nat) (O : List Nat) (p o cp : Nat) : Acc := bsr ct nf bd O p o (min W p) 1 (none, hxn (xN (ct o)), cp)
def reu (fm nf : Nat → Option Frm) (bd o : Nat) : Option Nat := match fm o with
  | none => none
  | some g => if g.2.2.2.2 = true then none else match g.1 with
    | none => none
    | some b => match nf b with
      | none => none
      | some g' => if g'.2.1 < bd then some b else none
def mkF (ct : Nat → Int64) (nf : Nat → Option Frm) (o : Nat) (b : Option Nat) : Frm := match b with
  | none => (none, 0, 1, hxn (xN (ct o)), false)
  | some b => (some b, dep nf b + 1, dpa (xN (ct o)) (xN (ct b)), dco (xN (ct o)) (xN (ct b)), false)
abbrev NFr : Type := (Nat → Option Frm) × Nat × Nat
def stF (ct : Nat → Int64) (fm : Nat → Option Frm) (bd W : Nat) (rs : Bool) (O : List Nat) (p : Nat) (a : NFr) : NFr :=
  match cond rs (reu fm a.1 bd (O.getD p 0)) none with
  | some b => (va_up a.1 (O.getD p 0) (some (mkF ct a.1 (O.getD p 0) (some b))), a.2.1, a.2.2 + 1)
  | none => (va_up a.1 (O.getD p 0) (some (mkF ct a.1 (O.getD p 0) (bst ct a.1 bd W O p (O.getD p 0) a.2.1).1)), (bst ct a.1 bd W O p (O.getD p 0) a.2.1).2.2, a.2.2)
def fmr (ct : Nat → Int64) (fm : Nat → Option Frm) (bd W : Nat) (rs : Bool) (O : List Nat) : Nat → NFr
  | 0 => (fun _ => none, 0, 0)
  | k + 1 => stF ct fm bd W rs O k (fmr ct fm bd W rs O k)
/-- what a form costs, how many parts it has -/
def FCt (n : Nat) (ct : Nat → Int64) (fm : Nat → Option Frm) : Prop := ∀ i, i < n → ∀ g, fm i = some g → (g.1 = none → g.2.2.1 = 1 ∧ g.2.2.2.1 = hxn (xN (ct i))) ∧ ∀ b, g.1 = some b → g.2.2.1 = dpa (xN (ct i)) (xN (ct b)) ∧ g.2.2.2.1 = dco (xN (ct i)) (xN (ct b))
def aok (ct : Nat → Int64) (nf : Nat → Option Frm) (bd : Nat) (O : List Nat) (p o : Nat) (a : Acc) : Prop := (a.1 = none → a.2.1 = hxn (xN (ct o))) ∧ ∀ b, a.1 = some b → dep nf b < bd ∧ (∃ j, j < p ∧ O.getD j 0 = b) ∧ a.2.1 = dco (xN (ct o)) (xN (ct b))
theorem cdd_ok {ct : Nat → Int64} {nf : Nat → Option Frm} {bd p o k : Nat} {O : List Nat} {a : Acc} (h : aok ct nf bd O p o a) (hk : 0 < k) (hkp : k ≤ p) : aok ct nf bd O p o (cdd ct nf bd o (O.getD (p - k) 0) a) := by
  unfold cdd
  split
  · rename_i h1
    split
    · exact ⟨fun h2 => (nomatch h2), fun b hb => by cases hb; exact ⟨h1, ⟨p - k, by omega, rfl⟩, rfl⟩⟩
    · exact h
  · exact h
theorem bsr_ok {ct : Nat → Int64} {nf : Nat → Option Frm} {bd p o : Nat} {O : List Nat} : ∀ {f k : Nat} {a : Acc}, aok ct nf bd O p o a → 0 < k → k + f ≤ p + 1 → aok ct nf bd O p o (bsr ct nf bd O p o f k a)
  | 0, _, _, h, _, _ => h
  | f + 1, k, a, h, hk, hf => bsr_ok (f := f) (k := k + 1) (cdd_ok h hk (by omega)) (by omega) (by omega)
theorem bsr_cp {ct : Nat → Int64} {nf : Nat → Option Frm} {bd p o : Nat} {O : List Nat} : ∀ {f k : Nat} {a : Acc}, (bsr ct nf bd O p o f k a).2.2 ≤ a.2.2 + f
  | 0, _, _ => Nat.le_refl _
  | f + 1, k, a => by
    have h := bsr_cp (ct := ct) (nf := nf) (bd := bd) (p := p) (o := o) (O := O) (f := f) (k := k + 1) (a := cdd ct nf bd o (O.getD (p - k) 0) a)
    have h2 : (cdd ct nf bd o (O.getD (p - k) 0) a).2.2 ≤ a.2.2 + 1 := by
      unfold cdd; split
      · split <;> exact Nat.le_refl _
      · exact Nat.le_succ _
    show (bsr ct nf bd O p o f (k + 1) _).2.2 ≤ _
    omega
theorem bst_ok {ct : Nat → Int64} {nf : Nat → Option Frm} {bd W p o cp : Nat} {O : List Nat} : aok ct nf bd O p o (bst ct nf bd W O p o cp) := bsr_ok ⟨fun _ => rfl, fun b hb => (nomatch hb)⟩ (by decide) (by omega)
theorem bst_cp {ct : Nat → Int64} {nf : Nat → Option Frm} {bd W p o cp : Nat} {O : List Nat} (hW : W ≤ 8) : (bst ct nf bd W O p o cp).2.2 ≤ cp + 8 := Nat.le_trans bsr_cp (by show cp + min W p ≤ _; omega)
/-- what the pack that is being laid keeps -/
def NOK (n : Nat) (ct : Nat → Int64) (O : List Nat) (k : Nat) (nf : Nat → Option Frm) : Prop := (∀ i, (∃ g, nf i = some g) ↔ ∃ j, j < k ∧ O.getD j 0 = i) ∧ CH n nf ∧ FCt n ct nf
theorem reu_ok {fm nf : Nat → Option Frm} {bd o b : Nat} (h : reu fm nf bd o = some b) : (∃ g, fm o = some g ∧ g.1 = some b ∧ g.2.2.2.2 = false) ∧ ∃ g', nf b = some g' ∧ g'.2.1 < bd := by
  unfold reu at h
  split at h
  · cases h
  · rename_i g hg
    split at h
    · cases h
    · rename_i hd
      split at h
      · cases h
      · rename_i b' hb'
        split at h
        · cases h
        · rename_i g' hg'
          split at h
          · rename_i hlt
            cases h
            exact ⟨⟨g, hg, hb', by cases hx : g.2.2.2.2 with | false => rfl | true => exact absurd hx hd⟩, g', hg', hlt⟩
          · cases h
theorem nd_getD {O : List Nat} (hd : O.Nodup) {i j : Nat} (hi : i < O.length) (hj : j < O.length) (h : O.getD i 0 = O.getD j 0) : i = j := by
  have e1 : O.getD i 0 = O[i] := by simp [hi]
  have e2 : O.getD j 0 = O[j] := by simp [hj]
  rw [e1, e2] at h
  rcases Nat.lt_trichotomy i j with hl | hl | hl
  · exact absurd h (List.pairwise_iff_getElem.mp hd i j hi hj hl)
  · exact hl
  · exact absurd h.symm (List.pairwise_iff_getElem.mp hd j i hj hi hl)
theorem NOK.put {n p : Nat} {ct : Nat → Int64} {O : List Nat} {nf : Nat → Option Frm} {b : Option Nat} (hd : O.Nodup) (hO : ∀ i ∈ O, i < n) (hp : p < O.length) (h : NOK n ct O p nf) (hb : ∀ c, b = some c → dep nf c < 6 ∧ ∃ j, j < p ∧ O.getD j 0 = c) : NOK n ct O (p + 1) (va_up nf (O.getD p 0) (some (mkF ct nf (O.getD p 0) b))) := by
  have hpn : O.getD p 0 < n := hO _ (getD_mem hp)
  have hnot : ∀ j, j < p → O.getD j 0 ≠ O.getD p 0 := fun j hj e => by have := nd_getD hd (by omega) hp e; omega
  refine ⟨fun i => ?_, fun i hi g hg => ?_, fun i hi g hg => ?_⟩
  · by_cases he : i = O.getD p 0
    · subst he
      rw [va_up_self]
      exact ⟨fun _ => ⟨p, by omega, rfl⟩, fun _ => ⟨_, rfl⟩⟩
    · rw [up_n he, h.1 i]
      constructor
      · rintro ⟨j, hj, e⟩; exact ⟨j, by omega, e⟩
      · rintro ⟨j, hj, e⟩
        refine ⟨j, ?_, e⟩
        by_cases hjp : j = p
        · subst hjp; exact absurd e.symm he
        · omega
  · have hbase : ∀ c, (∃ j, j < p ∧ O.getD j 0 = c) → ∀ d, d = dep nf c → c < n ∧ ∃ g', va_up nf (O.getD p 0) (some (mkF ct nf (O.getD p 0) b)) c = some g' ∧ d + 1 = g'.2.1 + 1 := by
      rintro c ⟨j, hj, rfl⟩ d rfl
      obtain ⟨g', hg'⟩ := (h.1 (O.getD j 0)).mpr ⟨j, hj, rfl⟩
      refine ⟨hO _ (getD_mem (by omega)), g', ?_, ?_⟩
      · rw [up_n (hnot j hj)]; exact hg'
      · unfold dep; rw [hg']
    by_cases he : i = O.getD p 0
    · subst he
      rw [va_up_self] at hg
      cases hg
      cases b with
      | none => exact ⟨Nat.zero_le _, fun c hc => (nomatch hc)⟩
      | some c =>
        obtain ⟨h1, h2⟩ := hb c rfl
        refine ⟨h1, fun c' hc' => ?_⟩
        cases hc'
        exact hbase c h2 _ rfl
    · rw [up_n he] at hg
      obtain ⟨h1, h2⟩ := h.2.1 i hi g hg
      refine ⟨h1, fun c hc => ?_⟩
      obtain ⟨h3, g', h4, h5⟩ := h2 c hc
      obtain ⟨a, g2, b1, b2⟩ := hbase c ((h.1 c).mp ⟨g', h4⟩) _ rfl
      refine ⟨a, g2, b1, ?_⟩
      rw [h5, ← b2]; unfold dep; rw [h4]
  · by_cases he : i = O.getD p 0
    · subst he
      rw [va_up_self] at hg
      cases hg
      cases b with
      | none => exact ⟨fun _ => ⟨rfl, rfl⟩, fun c hc => (nomatch hc)⟩
      | some c => exact ⟨fun hc => (nomatch hc), fun c' hc' => by cases hc'; exact ⟨rfl, rfl⟩⟩
    · rw [up_n he] at hg
      exact h.2.2 i hi g hg
theorem stF_b {n : Nat} {ct : Nat → Int64} {fm : Nat → Option Frm} {bd W p : Nat} {rs : Bool} {O : List Nat} {a : NFr} (hbd : bd ≤ 6) (h : NOK n ct O p a.1) : ∃ b, (stF ct fm bd W rs O p a).1 = va_up a.1 (O.getD p 0) (some (mkF ct a.1 (O.getD p 0) b)) ∧ ∀ c, b = some c → dep a.1 c < 6 ∧ ∃ j, j < p ∧ O.getD j 0 = c := by
  unfold stF
  split
  · rename_i b hb
    refine ⟨some b, rfl, fun c hc => ?_⟩
    cases hc
    cases rs with
    | false => cases hb
    | true =>
      obtain ⟨-, g', h1, h2⟩ := reu_ok hb
      refine ⟨?_, (h.1 b).mp ⟨g', h1⟩⟩
      unfold dep; rw [h1]; show g'.2.1 < 6; omega
  · refine ⟨_, rfl, fun c hc => ?_⟩
    obtain ⟨h1, h2, -⟩ := bst_ok.2 c hc
    exact ⟨by omega, h2⟩
theorem fmr_ok {n : Nat} {ct : Nat → Int64} {fm : Nat → Option Frm} {bd W : Nat} {rs : Bool} {O : List Nat} (hd : O.Nodup) (hO : ∀ i ∈ O, i < n) (hbd : bd ≤ 6) : ∀ {k : Nat}, k ≤ O.length → NOK n ct O k (fmr ct fm bd W rs O k).1
  | 0, _ => ⟨fun i => ⟨fun ⟨g, hg⟩ => (nomatch hg), fun ⟨j, hj, _⟩ => absurd hj (Nat.not_lt_zero _)⟩, fun i _ g hg => (nomatch hg), fun i _ g hg => (nomatch hg)⟩
  | k + 1, h => by
    have ih := fmr_ok (ct := ct) (fm := fm) (bd := bd) (W := W) (rs := rs) hd hO hbd (k := k) (by omega)
    obtain ⟨b, h1, h2⟩ := stF_b (fm := fm) (W := W) (rs := rs) hbd ih
    show NOK n ct O (k + 1) (stF ct fm bd W rs O k _).1
    rw [h1]
    exact ih.put hd hO (by omega) h2
theorem fmr_cp {ct : Nat → Int64} {fm : Nat → Option Frm} {bd W : Nat} {rs : Bool} {O : List Nat} (hW : W ≤ 8) : ∀ {k : Nat}, (fmr ct fm bd W rs O k).2.1 ≤ 8 * k ∧ (fmr ct fm bd W rs O k).2.2 ≤ k
  | 0 => ⟨Nat.le_refl _, Nat.le_refl _⟩
  | k + 1 => by
    have ih := fmr_cp (ct := ct) (fm := fm) (bd := bd) (W := W) (rs := rs) (O := O) hW (k := k)
    show (stF ct fm bd W rs O k _).2.1 ≤ _ ∧ (stF ct fm bd W rs O k _).2.2 ≤ _
    unfold stF
    split
    · dsimp only; omega
    · dsimp only
      have := bst_cp (ct := ct) (nf := (fmr ct fm bd W rs O k).1) (bd := bd) (W := W) (p := k) (o := O.getD k 0) (cp := (fmr ct fm bd W rs O k).2.1) (O := O) hW
      omega
