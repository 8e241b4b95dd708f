/-! ===== the class's calls within their range; what the wrappers answer ===== -/
def ofr (f : Frm → Int32) (fm : Nat → Option Frm) (i : Nat) : Int32 := match fm i with
  | none => -103
  | some g => f g
theorem ofr_s {f : Frm → Int32} {fm : Nat → Option Frm} {i : Nat} {g : Frm} (h : fm i = some g) : ofr f fm i = f g := by unfold ofr; rw [h]
theorem ofr_n {f : Frm → Int32} {fm : Nat → Option Frm} {i : Nat} (h : fm i = none) : ofr f fm i = -103 := by unfold ofr; rw [h]
section QQ
variable {l : Launch} {G : cG} {A : Nat → Prop} {w : wd} {px pI pO pX n : Nat} {ia : Nat → Nat} {nm : Nat → Int32} {ct : Nat → Int64} {lv lo : Nat → Bool} {fa fb : Nat → Option Nat} {fm : Nat → Option Frm} {O X : List Nat} {cp ru : Int32}
theorem isO_f {o : Int32} {i : Nat} (hn : n ≤ 40) (h : isO n o = false) (hi : i < n) (e : o = nI i) : False := by subst e; rw [isO_nI hi hn] at h; cases h
theorem q_isLive (hl : l.stackTraces = false) (hP : PC G w px pI pO pX n ia nm ct lv lo fa fb O X cp ru) {i : Nat} (hi : i < n) : Met l yX3_isLive wsX3_isLive ({ frames := 12, cells := 1, slots := 6, locals := 205 } : Room) (Pw G A w [.ref px, .int (nI i)]) (va_Qi (fun r w' => w = w' ∧ r = bI (lv i)) (Bw G A) A) 1 6 A := mi_no (c_X3_isLive hl hP _) (fun r w' h => by
  obtain ⟨rfl, j, hj, e, rfl⟩ := h
  obtain rfl := nI_inj hP.n40 hi hj e
  exact ⟨rfl, rfl⟩) (fun E w' h => isO_f hP.n40 h.2.2 hi rfl)
theorem q_isLoose (hl : l.stackTraces = false) (hP : PC G w px pI pO pX n ia nm ct lv lo fa fb O X cp ru) {i : Nat} (hi : i < n) : Met l yX3_isLoose wsX3_isLoose ({ frames := 12, cells := 1, slots := 6, locals := 205 } : Room) (Pw G A w [.ref px, .int (nI i)]) (va_Qi (fun r w' => w = w' ∧ r = bI (lo i)) (Bw G A) A) 1 6 A := mi_no (c_X3_isLoose hl hP _) (fun r w' h => by
  obtain ⟨rfl, j, hj, e, rfl⟩ := h
  obtain rfl := nI_inj hP.n40 hi hj e
  exact ⟨rfl, rfl⟩) (fun E w' h => isO_f hP.n40 h.2.2 hi rfl)
theorem q_canRead (hl : l.stackTraces = false) (hP : PC G w px pI pO pX n ia nm ct lv lo fa fb O X cp ru) (hF : FW w n ia fa fm) (hC : CH n fm) {i : Nat} (hi : i < n) : Met l yX3_canRead wsX3_canRead ({ frames := 12, cells := 1, slots := 6, locals := 205 } : Room) (Pw G A w [.ref px, .int (nI i)]) (va_Qi (fun r w' => w = w' ∧ r = bI (rdb lv lo fm i)) (Bw G A) A) 1 6 A := mi_no (c_X3_canRead hl hP hF hC _) (fun r w' h => by
  obtain ⟨rfl, j, hj, e, rfl⟩ := h
  obtain rfl := nI_inj hP.n40 hi hj e
  exact ⟨rfl, rfl⟩) (fun E w' h => isO_f hP.n40 h.2.2 hi rfl)
theorem q_costOf (hl : l.stackTraces = false) (hP : PC G w px pI pO pX n ia nm ct lv lo fa fb O X cp ru) (hF : FW w n ia fa fm) {i : Nat} {g : Frm} (hi : i < n) (hg : fm i = some g) : Met l yX3_costOf wsX3_costOf ({ frames := 13, cells := 2, slots := 12, locals := 227 } : Room) (Pw G A w [.ref px, .int (nI i)]) (va_Qi (fun r w' => w = w' ∧ r = nI g.2.2.2.1) (Bw G A) A) 2 12 A := mi_no (c_X3_costOf hl hP hF _) (fun r w' h => by
  obtain ⟨rfl, j, g', hj, e, hg', rfl⟩ := h
  obtain rfl := nI_inj hP.n40 hi hj e
  rw [hg] at hg'; cases hg'
  exact ⟨rfl, rfl⟩) (fun E w' h => by
  rcases h with ⟨-, ⟨-, h⟩ | ⟨-, j, hj, e, h⟩⟩
  · exact isO_f hP.n40 h hi rfl
  · obtain rfl := nI_inj hP.n40 hi hj e
    rw [hg] at h; cases h)
theorem q_of2 (hl : l.stackTraces = false) (hP : PC G w px pI pO pX n ia nm ct lv lo fa fb O X cp ru) (hF : FW w n ia fa fm) {i : Nat} (hi : i < n) : Met l yL_of wsL_of ({ frames := 14, cells := 3, slots := 18, locals := 250 } : Room) (Pw G A w [.ref px, .int (nI 2), .int (nI i)]) (va_Qi (fun r w' => w = w' ∧ r = ofr (fun g => nI g.2.2.2.1) fm i) (Bw G A) A) 3 18 A := c_L_of2 hP.1 _ (c_X3_costOf hl hP hF _) (fun r w' h => by
  obtain ⟨rfl, j, g, hj, e, hg, rfl⟩ := h
  obtain rfl := nI_inj hP.n40 hi hj e
  exact ⟨rfl, (ofr_s (f := fun g => nI g.2.2.2.1) hg).symm⟩) (fun E w' h => by
  rcases h with ⟨rfl, ⟨-, h⟩ | ⟨rfl, j, hj, e, h⟩⟩
  · exact (isO_f hP.n40 h hi rfl).elim
  · obtain rfl := nI_inj hP.n40 hi hj e
    exact Or.inr ⟨rfl, rfl, (ofr_n h).symm⟩)
theorem q_depth (hl : l.stackTraces = false) (hP : PC G w px pI pO pX n ia nm ct lv lo fa fb O X cp ru) (hF : FW w n ia fa fm) {i : Nat} {g : Frm} (hi : i < n) (hg : fm i = some g) : Met l yX3_depth wsX3_depth ({ frames := 13, cells := 2, slots := 12, locals := 227 } : Room) (Pw G A w [.ref px, .int (nI i)]) (va_Qi (fun r w' => w = w' ∧ r = nI g.2.1) (Bw G A) A) 2 12 A := mi_no (c_X3_depth hl hP hF _) (fun r w' h => by
  obtain ⟨rfl, j, g', hj, e, hg', rfl⟩ := h
  obtain rfl := nI_inj hP.n40 hi hj e
  rw [hg] at hg'; cases hg'
  exact ⟨rfl, rfl⟩) (fun E w' h => by
  rcases h with ⟨-, ⟨-, h⟩ | ⟨-, j, hj, e, h⟩⟩
  · exact isO_f hP.n40 h hi rfl
  · obtain rfl := nI_inj hP.n40 hi hj e
    rw [hg] at h; cases h)
theorem q_of4 (hl : l.stackTraces = false) (hP : PC G w px pI pO pX n ia nm ct lv lo fa fb O X cp ru) (hF : FW w n ia fa fm) {i : Nat} (hi : i < n) : Met l yL_of wsL_of ({ frames := 14, cells := 3, slots := 18, locals := 250 } : Room) (Pw G A w [.ref px, .int (nI 4), .int (nI i)]) (va_Qi (fun r w' => w = w' ∧ r = ofr (fun g => nI g.2.1) fm i) (Bw G A) A) 3 18 A := c_L_of4 hP.1 _ (c_X3_depth hl hP hF _) (fun r w' h => by
  obtain ⟨rfl, j, g, hj, e, hg, rfl⟩ := h
  obtain rfl := nI_inj hP.n40 hi hj e
  exact ⟨rfl, (ofr_s (f := fun g => nI g.2.1) hg).symm⟩) (fun E w' h => by
  rcases h with ⟨rfl, ⟨-, h⟩ | ⟨rfl, j, hj, e, h⟩⟩
  · exact (isO_f hP.n40 h hi rfl).elim
  · obtain rfl := nI_inj hP.n40 hi hj e
    exact Or.inr ⟨rfl, rfl, (ofr_n h).symm⟩)
theorem q_parts (hl : l.stackTraces = false) (hP : PC G w px pI pO pX n ia nm ct lv lo fa fb O X cp ru) (hF : FW w n ia fa fm) {i : Nat} {g : Frm} (hi : i < n) (hg : fm i = some g) : Met l yX3_parts wsX3_parts ({ frames := 13, cells := 2, slots := 12, locals := 227 } : Room) (Pw G A w [.ref px, .int (nI i)]) (va_Qi (fun r w' => w = w' ∧ r = nI g.2.2.1) (Bw G A) A) 2 12 A := mi_no (c_X3_parts hl hP hF _) (fun r w' h => by
  obtain ⟨rfl, j, g', hj, e, hg', rfl⟩ := h
  obtain rfl := nI_inj hP.n40 hi hj e
  rw [hg] at hg'; cases hg'
  exact ⟨rfl, rfl⟩) (fun E w' h => by
  rcases h with ⟨-, ⟨-, h⟩ | ⟨-, j, hj, e, h⟩⟩
  · exact isO_f hP.n40 h hi rfl
  · obtain rfl := nI_inj hP.n40 hi hj e
    rw [hg] at h; cases h)
theorem q_of5 (hl : l.stackTraces = false) (hP : PC G w px pI pO pX n ia nm ct lv lo fa fb O X cp ru) (hF : FW w n ia fa fm) {i : Nat} (hi : i < n) : Met l yL_of wsL_of ({ frames := 14, cells := 3, slots := 18, locals := 250 } : Room) (Pw G A w [.ref px, .int (nI 5), .int (nI i)]) (va_Qi (fun r w' => w = w' ∧ r = ofr (fun g => nI g.2.2.1) fm i) (Bw G A) A) 3 18 A := c_L_of5 hP.1 _ (c_X3_parts hl hP hF _) (fun r w' h => by
  obtain ⟨rfl, j, g, hj, e, hg, rfl⟩ := h
  obtain rfl := nI_inj hP.n40 hi hj e
  exact ⟨rfl, (ofr_s (f := fun g => nI g.2.2.1) hg).symm⟩) (fun E w' h => by
  rcases h with ⟨rfl, ⟨-, h⟩ | ⟨rfl, j, hj, e, h⟩⟩
  · exact (isO_f hP.n40 h hi rfl).elim
  · obtain rfl := nI_inj hP.n40 hi hj e
    exact Or.inr ⟨rfl, rfl, (ofr_n h).symm⟩)
theorem q_base (hl : l.stackTraces = false) (hP : PC G w px pI pO pX n ia nm ct lv lo fa fb O X cp ru) (hF : FW w n ia fa fm) (hC : CH n fm) {i : Nat} {g : Frm} (hi : i < n) (hg : fm i = some g) : Met l yX3_base wsX3_base ({ frames := 13, cells := 2, slots := 12, locals := 227 } : Room) (Pw G A w [.ref px, .int (nI i)]) (va_Qi (fun r w' => w = w' ∧ r = nIo g.1) (Bw G A) A) 2 12 A := mi_no (c_X3_base hl hP hF hC _) (fun r w' h => by
  obtain ⟨rfl, j, g', hj, e, hg', rfl⟩ := h
  obtain rfl := nI_inj hP.n40 hi hj e
  rw [hg] at hg'; cases hg'
  exact ⟨rfl, rfl⟩) (fun E w' h => by
  rcases h with ⟨-, ⟨-, h⟩ | ⟨-, j, hj, e, h⟩⟩
  · exact isO_f hP.n40 h hi rfl
  · obtain rfl := nI_inj hP.n40 hi hj e
    rw [hg] at h; cases h)
theorem q_of3 (hl : l.stackTraces = false) (hP : PC G w px pI pO pX n ia nm ct lv lo fa fb O X cp ru) (hF : FW w n ia fa fm) (hC : CH n fm) {i : Nat} (hi : i < n) : Met l yL_of wsL_of ({ frames := 14, cells := 3, slots := 18, locals := 250 } : Room) (Pw G A w [.ref px, .int (nI 3), .int (nI i)]) (va_Qi (fun r w' => w = w' ∧ r = ofr (fun g => nIo g.1) fm i) (Bw G A) A) 3 18 A := c_L_of3 hP.1 _ (c_X3_base hl hP hF hC _) (fun r w' h => by
  obtain ⟨rfl, j, g, hj, e, hg, rfl⟩ := h
  obtain rfl := nI_inj hP.n40 hi hj e
  exact ⟨rfl, (ofr_s (f := fun g => nIo g.1) hg).symm⟩) (fun E w' h => by
  rcases h with ⟨rfl, ⟨-, h⟩ | ⟨rfl, j, hj, e, h⟩⟩
  · exact (isO_f hP.n40 h hi rfl).elim
  · obtain rfl := nI_inj hP.n40 hi hj e
    exact Or.inr ⟨rfl, rfl, (ofr_n h).symm⟩)
theorem q_dependents (hl : l.stackTraces = false) (hP : PC G w px pI pO pX n ia nm ct lv lo fa fb O X cp ru) (hF : FW w n ia fa fm) (hC : CH n fm) {i : Nat} {g : Frm} (hi : i < n) (hg : fm i = some g) : Met l yX3_dependents wsX3_dependents ({ frames := 12, cells := 2, slots := 12, locals := 205 } : Room) (Pw G A w [.ref px, .int (nI i)]) (va_Qi (fun r w' => w = w' ∧ r = nI (sumL (fun j => b1 (dpk fm j i)) O)) (Bw G A) A) 2 12 A := mi_no (c_X3_dependents hl hP hF hC _) (fun r w' h => by
  obtain ⟨rfl, j, g', hj, e, hg', rfl⟩ := h
  obtain rfl := nI_inj hP.n40 hi hj e
  rw [hg] at hg'; cases hg'
  exact ⟨rfl, rfl⟩) (fun E w' h => by
  rcases h with ⟨-, ⟨-, h⟩ | ⟨-, j, hj, e, h⟩⟩
  · exact isO_f hP.n40 h hi rfl
  · obtain rfl := nI_inj hP.n40 hi hj e
    rw [hg] at h; cases h)
theorem q_of6 (hl : l.stackTraces = false) (hP : PC G w px pI pO pX n ia nm ct lv lo fa fb O X cp ru) (hF : FW w n ia fa fm) (hC : CH n fm) {i : Nat} (hi : i < n) : Met l yL_of wsL_of ({ frames := 14, cells := 3, slots := 18, locals := 250 } : Room) (Pw G A w [.ref px, .int (nI 6), .int (nI i)]) (va_Qi (fun r w' => w = w' ∧ r = ofr (fun g => nI (sumL (fun j => b1 (dpk fm j i)) O)) fm i) (Bw G A) A) 3 18 A := c_L_of6 hP.1 _ (c_X3_dependents hl hP hF hC _) (fun r w' h => by
  obtain ⟨rfl, j, g, hj, e, hg, rfl⟩ := h
  obtain rfl := nI_inj hP.n40 hi hj e
  exact ⟨rfl, (ofr_s (f := fun g => nI (sumL (fun j => b1 (dpk fm j i)) O)) hg).symm⟩) (fun E w' h => by
  rcases h with ⟨rfl, ⟨-, h⟩ | ⟨rfl, j, hj, e, h⟩⟩
  · exact (isO_f hP.n40 h hi rfl).elim
  · obtain rfl := nI_inj hP.n40 hi hj e
    exact Or.inr ⟨rfl, rfl, (ofr_n h).symm⟩)
theorem q_deltaCost (hl : l.stackTraces = false) (hP : PC G w px pI pO pX n ia nm ct lv lo fa fb O X cp ru) (hct : ∀ i, i < n → isC (ct i) = true) {i j : Nat} (hi : i < n) (hj : j < n) : Met l yX3_deltaCost wsX3_deltaCost ({ frames := 14, cells := 2, slots := 12, locals := 259 } : Room) (Pw G A w [.ref px, .int (nI i), .int (nI j)]) (va_Qi (fun r w' => w = w' ∧ r = nI (dco (xN (ct i)) (xN (ct j)))) (Bw G A) A) 2 12 A := mi_no (c_X3_deltaCost hl hP hct _ _) (fun r w' h => by
  obtain ⟨rfl, i', j', hi', hj', e, e', rfl⟩ := h
  obtain rfl := nI_inj hP.n40 hi hi' e
  obtain rfl := nI_inj hP.n40 hj hj' e'
  exact ⟨rfl, rfl⟩) (fun E w' h => by
  have h9 := h.2.2
  rw [isO_nI hi hP.n40, isO_nI hj hP.n40] at h9; cases h9)
theorem q_hash (hl : l.stackTraces = false) (hP : PC G w px pI pO pX n ia nm ct lv lo fa fb O X cp ru) {x : Int64} (hx : isC x = true) : Met l yX3_hash wsX3_hash ({ frames := 10, cells := 1, slots := 6, locals := 168 } : Room) (Pw G A w [.ref px, .long x]) (va_Qi (fun r w' => w = w' ∧ r = nI (hsh (xN x))) (Bw G A) A) 1 6 A := mi_no (c_X3_hash hl hP _) (fun r w' h => ⟨h.1, h.2.2⟩) (fun E w' h => by
  have h9 := h.2.2
  rw [hx] at h9; cases h9)
theorem q_indexAt (hl : l.stackTraces = false) (hP : PC G w px pI pO pX n ia nm ct lv lo fa fb O X cp ru) {i : Nat} (hi : i < X.length) : Met l yX3_indexAt wsX3_indexAt ({ frames := 11, cells := 1, slots := 6, locals := 184 } : Room) (Pw G A w [.ref px, .int (nI i)]) (va_Qi (fun r w' => w = w' ∧ r = nI (X.getD i 0)) (Bw G A) A) 1 6 A := mi_no (c_X3_indexAt hl hP _) (fun r w' h => by
  obtain ⟨rfl, j, hj, e, rfl⟩ := h
  obtain rfl := nI_inj hP.x40 hi hj e
  exact ⟨rfl, rfl⟩) (fun E w' h => isO_f hP.x40 h.2.2 hi rfl)
theorem q_fanOut (hl : l.stackTraces = false) (hP : PC G w px pI pO pX n ia nm ct lv lo fa fb O X cp ru) {i : Nat} (hi : i < 16) : Met l yX3_fanOut wsX3_fanOut ({ frames := 12, cells := 1, slots := 6, locals := 207 } : Room) (Pw G A w [.ref px, .int (nI i)]) (va_Qi (fun r w' => w = w' ∧ r = nI (blw ct X (256 * (i + 1)))) (Bw G A) A) 1 6 A := mi_no (c_X3_fanOut hl hP _) (fun r w' h => by
  obtain ⟨rfl, j, hj, e, rfl⟩ := h
  obtain rfl := nI_inj (n := 16) (by decide) hi hj e
  exact ⟨rfl, rfl⟩) (fun E w' h => isO_f (n := 16) (by decide) h.2.2 hi rfl)
theorem q_find (hl : l.stackTraces = false) (hP : PC G w px pI pO pX n ia nm ct lv lo fa fb O X cp ru) {i : Nat} (hi : i < 4096) : Met l yX3_find wsX3_find ({ frames := 13, cells := 1, slots := 6, locals := 235 } : Room) (Pw G A w [.ref px, .int (nI i)]) (va_Qi (fun r w' => wle w w' ∧ r = nIo ((lku ct X i).1.map (fun p => X.getD p 0))) (Bw G A) A) 1 6 A := mi_no (c_X3_find hl hP _) (fun r w' h => by
  obtain ⟨j, hj, e, hw, rfl⟩ := h
  obtain rfl := nI_injG (n := 4096) (by decide) hi hj e
  exact ⟨hw, rfl⟩) (fun E w' h => isO_cG (n := 4096) (by decide) hi h.2.2)
theorem q_looks (hl : l.stackTraces = false) (hP : PC G w px pI pO pX n ia nm ct lv lo fa fb O X cp ru) {i : Nat} (hi : i < 4096) : Met l yX3_looks wsX3_looks ({ frames := 13, cells := 1, slots := 6, locals := 235 } : Room) (Pw G A w [.ref px, .int (nI i)]) (va_Qi (fun r w' => wle w w' ∧ r = nI (lku ct X i).2) (Bw G A) A) 1 6 A := mi_no (c_X3_looks hl hP _) (fun r w' h => by
  obtain ⟨j, hj, e, hw, rfl⟩ := h
  obtain rfl := nI_injG (n := 4096) (by decide) hi hj e
  exact ⟨hw, rfl⟩) (fun E w' h => isO_cG (n := 4096) (by decide) hi h.2.2)
theorem q_no0 (hl : l.stackTraces = false) (hP : PC G w px pI pO pX n ia nm ct lv lo fa fb O X cp ru) (hF : FW w n ia fa fm) (hC : CH n fm) (hJ : FJ n fa) {a : Int32} (ho : isO n a = false) : Met l yL_of wsL_of ({ frames := 14, cells := 3, slots := 18, locals := 250 } : Room) (Pw G A w [.ref px, .int (nI 0), .int a]) (va_Qi (fun r w' => w = w' ∧ r = -101) (Bw G A) A) 3 18 A := c_L_of0 hP.1 _ (c_X3_delete hl hP hF _) (fun r w' h => by
  obtain ⟨i, hi, e, -⟩ := h
  exact (isO_f hP.n40 ho hi e).elim) (fun E w' h => by
  rcases h with ⟨rfl, ⟨rfl, h⟩ | ⟨rfl, j, hj, e, h⟩⟩
  · exact Or.inl ⟨rfl, rfl, rfl⟩
  · exact (isO_f hP.n40 ho hj e).elim)
theorem q_no1 (hl : l.stackTraces = false) (hP : PC G w px pI pO pX n ia nm ct lv lo fa fb O X cp ru) (hF : FW w n ia fa fm) (hC : CH n fm) (hJ : FJ n fa) {a : Int32} (ho : isO n a = false) : Met l yL_of wsL_of ({ frames := 14, cells := 3, slots := 18, locals := 250 } : Room) (Pw G A w [.ref px, .int (nI 1), .int a]) (va_Qi (fun r w' => w = w' ∧ r = -101) (Bw G A) A) 3 18 A := c_L_of1 hP.1 _ (c_X3_damage hl hP hF hC hJ _) (fun r w' h => by
  obtain ⟨i, g, hi, e, -⟩ := h
  exact (isO_f hP.n40 ho hi e).elim) (fun E w' h => by
  rcases h with ⟨rfl, ⟨rfl, h⟩ | ⟨rfl, j, hj, e, h⟩⟩
  · exact Or.inl ⟨rfl, rfl, rfl⟩
  · exact (isO_f hP.n40 ho hj e).elim)
theorem q_no2 (hl : l.stackTraces = false) (hP : PC G w px pI pO pX n ia nm ct lv lo fa fb O X cp ru) (hF : FW w n ia fa fm) (hC : CH n fm) (hJ : FJ n fa) {a : Int32} (ho : isO n a = false) : Met l yL_of wsL_of ({ frames := 14, cells := 3, slots := 18, locals := 250 } : Room) (Pw G A w [.ref px, .int (nI 2), .int a]) (va_Qi (fun r w' => w = w' ∧ r = -101) (Bw G A) A) 3 18 A := c_L_of2 hP.1 _ (c_X3_costOf hl hP hF _) (fun r w' h => by
  obtain ⟨-, i, g, hi, e, -⟩ := h
  exact (isO_f hP.n40 ho hi e).elim) (fun E w' h => by
  rcases h with ⟨rfl, ⟨rfl, h⟩ | ⟨rfl, j, hj, e, h⟩⟩
  · exact Or.inl ⟨rfl, rfl, rfl⟩
  · exact (isO_f hP.n40 ho hj e).elim)
theorem q_no3 (hl : l.stackTraces = false) (hP : PC G w px pI pO pX n ia nm ct lv lo fa fb O X cp ru) (hF : FW w n ia fa fm) (hC : CH n fm) (hJ : FJ n fa) {a : Int32} (ho : isO n a = false) : Met l yL_of wsL_of ({ frames := 14, cells := 3, slots := 18, locals := 250 } : Room) (Pw G A w [.ref px, .int (nI 3), .int a]) (va_Qi (fun r w' => w = w' ∧ r = -101) (Bw G A) A) 3 18 A := c_L_of3 hP.1 _ (c_X3_base hl hP hF hC _) (fun r w' h => by
  obtain ⟨-, i, g, hi, e, -⟩ := h
  exact (isO_f hP.n40 ho hi e).elim) (fun E w' h => by
  rcases h with ⟨rfl, ⟨rfl, h⟩ | ⟨rfl, j, hj, e, h⟩⟩
  · exact Or.inl ⟨rfl, rfl, rfl⟩
  · exact (isO_f hP.n40 ho hj e).elim)
theorem q_no4 (hl : l.stackTraces = false) (hP : PC G w px pI pO pX n ia nm ct lv lo fa fb O X cp ru) (hF : FW w n ia fa fm) (hC : CH n fm) (hJ : FJ n fa) {a : Int32} (ho : isO n a = false) : Met l yL_of wsL_of ({ frames := 14, cells := 3, slots := 18, locals := 250 } : Room) (Pw G A w [.ref px, .int (nI 4), .int a]) (va_Qi (fun r w' => w = w' ∧ r = -101) (Bw G A) A) 3 18 A := c_L_of4 hP.1 _ (c_X3_depth hl hP hF _) (fun r w' h => by
  obtain ⟨-, i, g, hi, e, -⟩ := h
  exact (isO_f hP.n40 ho hi e).elim) (fun E w' h => by
  rcases h with ⟨rfl, ⟨rfl, h⟩ | ⟨rfl, j, hj, e, h⟩⟩
  · exact Or.inl ⟨rfl, rfl, rfl⟩
  · exact (isO_f hP.n40 ho hj e).elim)
theorem q_no5 (hl : l.stackTraces = false) (hP : PC G w px pI pO pX n ia nm ct lv lo fa fb O X cp ru) (hF : FW w n ia fa fm) (hC : CH n fm) (hJ : FJ n fa) {a : Int32} (ho : isO n a = false) : Met l yL_of wsL_of ({ frames := 14, cells := 3, slots := 18, locals := 250 } : Room) (Pw G A w [.ref px, .int (nI 5), .int a]) (va_Qi (fun r w' => w = w' ∧ r = -101) (Bw G A) A) 3 18 A := c_L_of5 hP.1 _ (c_X3_parts hl hP hF _) (fun r w' h => by
  obtain ⟨-, i, g, hi, e, -⟩ := h
  exact (isO_f hP.n40 ho hi e).elim) (fun E w' h => by
  rcases h with ⟨rfl, ⟨rfl, h⟩ | ⟨rfl, j, hj, e, h⟩⟩
  · exact Or.inl ⟨rfl, rfl, rfl⟩
  · exact (isO_f hP.n40 ho hj e).elim)
theorem q_no6 (hl : l.stackTraces = false) (hP : PC G w px pI pO pX n ia nm ct lv lo fa fb O X cp ru) (hF : FW w n ia fa fm) (hC : CH n fm) (hJ : FJ n fa) {a : Int32} (ho : isO n a = false) : Met l yL_of wsL_of ({ frames := 14, cells := 3, slots := 18, locals := 250 } : Room) (Pw G A w [.ref px, .int (nI 6), .int a]) (va_Qi (fun r w' => w = w' ∧ r = -101) (Bw G A) A) 3 18 A := c_L_of6 hP.1 _ (c_X3_dependents hl hP hF hC _) (fun r w' h => by
  obtain ⟨-, i, g, hi, e, -⟩ := h
  exact (isO_f hP.n40 ho hi e).elim) (fun E w' h => by
  rcases h with ⟨rfl, ⟨rfl, h⟩ | ⟨rfl, j, hj, e, h⟩⟩
  · exact Or.inl ⟨rfl, rfl, rfl⟩
  · exact (isO_f hP.n40 ho hj e).elim)
theorem q_no7 (hl : l.stackTraces = false) (hP : PC G w px pI pO pX n ia nm ct lv lo fa fb O X cp ru) (hF : FW w n ia fa fm) (hC : CH n fm) (hJ : FJ n fa) {a : Int32} (ho : isO n a = false) : Met l yL_of wsL_of ({ frames := 14, cells := 3, slots := 18, locals := 250 } : Room) (Pw G A w [.ref px, .int (nI 7), .int a]) (va_Qi (fun r w' => w = w' ∧ r = -101) (Bw G A) A) 3 18 A := c_L_of7 hP.1 _ (c_X3_isLive hl hP _) (fun r w' h => by
  obtain ⟨-, i, hi, e, -⟩ := h
  exact (isO_f hP.n40 ho hi e).elim) (fun E w' h => Or.inl ⟨h.2.1, h.1, rfl⟩)
theorem q_no8 (hl : l.stackTraces = false) (hP : PC G w px pI pO pX n ia nm ct lv lo fa fb O X cp ru) (hF : FW w n ia fa fm) (hC : CH n fm) (hJ : FJ n fa) {a : Int32} (ho : isO n a = false) : Met l yL_of wsL_of ({ frames := 14, cells := 3, slots := 18, locals := 250 } : Room) (Pw G A w [.ref px, .int (nI 8), .int a]) (va_Qi (fun r w' => w = w' ∧ r = -101) (Bw G A) A) 3 18 A := c_L_of8 hP.1 _ (c_X3_isLoose hl hP _) (fun r w' h => by
  obtain ⟨-, i, hi, e, -⟩ := h
  exact (isO_f hP.n40 ho hi e).elim) (fun E w' h => Or.inl ⟨h.2.1, h.1, rfl⟩)
theorem q_no9 (hl : l.stackTraces = false) (hP : PC G w px pI pO pX n ia nm ct lv lo fa fb O X cp ru) (hF : FW w n ia fa fm) (hC : CH n fm) (hJ : FJ n fa) {a : Int32} (ho : isO n a = false) : Met l yL_of wsL_of ({ frames := 14, cells := 3, slots := 18, locals := 250 } : Room) (Pw G A w [.ref px, .int (nI 9), .int a]) (va_Qi (fun r w' => w = w' ∧ r = -101) (Bw G A) A) 3 18 A := c_L_of9 hP.1 _ (c_X3_canRead hl hP hF hC _) (fun r w' h => by
  obtain ⟨-, i, hi, e, -⟩ := h
  exact (isO_f hP.n40 ho hi e).elim) (fun E w' h => Or.inl ⟨h.2.1, h.1, rfl⟩)
theorem q_no10 (hl : l.stackTraces = false) (hP : PC G w px pI pO pX n ia nm ct lv lo fa fb O X cp ru) {a : Int32} (ho : isO X.length a = false) : Met l yL_of wsL_of ({ frames := 14, cells := 3, slots := 18, locals := 250 } : Room) (Pw G A w [.ref px, .int (nI 10), .int a]) (va_Qi (fun r w' => w = w' ∧ r = -101) (Bw G A) A) 3 18 A := c_L_of10 hP.1 _ (c_X3_indexAt hl hP _) (fun r w' h => by
  obtain ⟨-, i, hi, e, -⟩ := h
  exact (isO_f hP.x40 ho hi e).elim) (fun E w' h => Or.inl ⟨h.2.1, h.1, rfl⟩)
theorem q_dead (hl : l.stackTraces = false) (hP : PC G w px pI pO pX n ia nm ct lv lo fa fb O X cp ru) (hF : FW w n ia fa fm) {i : Nat} (hi : i < n) (hd : lv i = false) : Met l yL_of wsL_of ({ frames := 14, cells := 3, slots := 18, locals := 250 } : Room) (Pw G A w [.ref px, .int (nI 0), .int (nI i)]) (va_Qi (fun r w' => w = w' ∧ r = -103) (Bw G A) A) 3 18 A := c_L_of0 hP.1 _ (c_X3_delete hl hP hF _) (fun r w' h => by
  obtain ⟨j, hj, e, h9, -⟩ := h
  obtain rfl := nI_inj hP.n40 hi hj e
  rw [hd] at h9; cases h9) (fun E w' h => by
  rcases h with ⟨rfl, ⟨rfl, h⟩ | ⟨rfl, j, hj, e, h⟩⟩
  · exact (isO_f hP.n40 h hi rfl).elim
  · exact Or.inr ⟨rfl, rfl, rfl⟩)
theorem q_undam (hl : l.stackTraces = false) (hP : PC G w px pI pO pX n ia nm ct lv lo fa fb O X cp ru) (hF : FW w n ia fa fm) (hC : CH n fm) (hJ : FJ n fa) {i : Nat} (hi : i < n) (hd : ∀ g, fm i = some g → g.2.2.2.2 = true) : Met l yL_of wsL_of ({ frames := 14, cells := 3, slots := 18, locals := 250 } : Room) (Pw G A w [.ref px, .int (nI 1), .int (nI i)]) (va_Qi (fun r w' => w = w' ∧ r = -103) (Bw G A) A) 3 18 A := c_L_of1 hP.1 _ (c_X3_damage hl hP hF hC hJ _) (fun r w' h => by
  obtain ⟨j, g, hj, e, hg, hf, -⟩ := h
  obtain rfl := nI_inj hP.n40 hi hj e
  rw [hd g hg] at hf; cases hf) (fun E w' h => by
  rcases h with ⟨rfl, ⟨rfl, h⟩ | ⟨rfl, j, hj, e, h⟩⟩
  · exact (isO_f hP.n40 h hi rfl).elim
  · exact Or.inr ⟨rfl, rfl, rfl⟩)
theorem mi_toL {post post' : Int64 → wd → Prop} {av : List Value} {y : MethodName} {ws : List Cond} {rm : Room} {mc ms : Nat} (hM : Met l y ws rm (Pw G A w av) (va_Ql post (Bw G A) A) mc ms A) (h1 : ∀ r w', post r w' → post' r w') : Met l y ws rm (Pw G A w av) (va_Ql post' (Bw G A) A) mc ms A := MetFree.mono hM (fun _ _ h => h) (fun _ _ _ _ _ _ => trivial) (fun a s0 o t _ hQ => by
  obtain ⟨⟨⟨r, u, e1, e2, e3⟩, e4⟩, hF⟩ := hQ
  exact ⟨⟨⟨r, u, e1, h1 r u e2, e3⟩, e4⟩, hF⟩)
theorem q_read (hl : l.stackTraces = false) (hP : PC G w px pI pO pX n ia nm ct lv lo fa fb O X cp ru) (hF : FW w n ia fa fm) (hC : CH n fm) {i : Nat} (hi : i < n) : Met l yL_read wsL_read ({ frames := 13, cells := 2, slots := 12, locals := 227 } : Room) (Pw G A w [.ref px, .int (nI i)]) (va_Ql (fun r w' => w = w' ∧ r = cond (rdb lv lo fm i) (ct i) (-103)) (Bw G A) A) 2 12 A := c_L_read hP.1 _ (c_X3_read hl hP hF hC _) (fun r w' h => by
  obtain ⟨rfl, j, hj, e, h9, rfl⟩ := h
  obtain rfl := nI_inj hP.n40 hi hj e
  exact ⟨rfl, by rw [h9]; rfl⟩) (fun E w' h => by
  rcases h with ⟨rfl, ⟨rfl, h⟩ | ⟨rfl, j, hj, e, h⟩⟩
  · exact (isO_f hP.n40 h hi rfl).elim
  · obtain rfl := nI_inj hP.n40 hi hj e
    exact Or.inr ⟨rfl, rfl, by rw [h]; rfl⟩)
theorem q_noread (hl : l.stackTraces = false) (hP : PC G w px pI pO pX n ia nm ct lv lo fa fb O X cp ru) (hF : FW w n ia fa fm) (hC : CH n fm) {a : Int32} (ho : isO n a = false) : Met l yL_read wsL_read ({ frames := 13, cells := 2, slots := 12, locals := 227 } : Room) (Pw G A w [.ref px, .int a]) (va_Ql (fun r w' => w = w' ∧ r = -101) (Bw G A) A) 2 12 A := c_L_read hP.1 _ (c_X3_read hl hP hF hC _) (fun r w' h => by
  obtain ⟨-, i, hi, e, -⟩ := h
  exact (isO_f hP.n40 ho hi e).elim) (fun E w' h => by
  rcases h with ⟨rfl, ⟨rfl, h⟩ | ⟨rfl, j, hj, e, h⟩⟩
  · exact Or.inl ⟨rfl, rfl, rfl⟩
  · exact (isO_f hP.n40 ho hj e).elim)
theorem q_nodelta (hl : l.stackTraces = false) (hP : PC G w px pI pO pX n ia nm ct lv lo fa fb O X cp ru) (hct : ∀ i, i < n → isC (ct i) = true) {a b : Int32} (ho : (isO n a && isO n b) = false) : Met l yL_deltaCost wsL_deltaCost ({ frames := 15, cells := 2, slots := 12, locals := 281 } : Room) (Pw G A w [.ref px, .int a, .int b]) (va_Qi (fun r w' => w = w' ∧ r = -101) (Bw G A) A) 2 12 A := c_L_deltaCost hP.1 _ _ (c_X3_deltaCost hl hP hct _ _) (fun r w' h => by
  obtain ⟨-, i, j, hi, hj, rfl, rfl, -⟩ := h
  rw [isO_nI hi hP.n40, isO_nI hj hP.n40] at ho; cases ho) (fun E w' h => ⟨h.2.1, h.1, rfl⟩)
theorem q_noask0 (hl : l.stackTraces = false) (hP : PC G w px pI pO pX n ia nm ct lv lo fa fb O X cp ru) {a : Int32} {x : Int64} (ho : isO 16 a = false) : Met l yL_ask wsL_ask ({ frames := 14, cells := 1, slots := 6, locals := 257 } : Room) (Pw G A w [.ref px, .int (nI 0), .int a, .long x]) (va_Qi (fun r w' => w = w' ∧ r = -102) (Bw G A) A) 1 6 A := c_L_ask0 hP.1 _ _ (c_X3_fanOut hl hP _) (fun r w' h => by
  obtain ⟨-, i, hi, rfl, -⟩ := h
  exact isO_cG (n := 16) (by decide) hi ho) (fun E w' h => ⟨h.2.1, h.1, rfl⟩)
theorem q_noask1 (hl : l.stackTraces = false) (hP : PC G w px pI pO pX n ia nm ct lv lo fa fb O X cp ru) {a : Int32} {x : Int64} (ho : isO 4096 a = false) : Met l yL_ask wsL_ask ({ frames := 14, cells := 1, slots := 6, locals := 257 } : Room) (Pw G A w [.ref px, .int (nI 1), .int a, .long x]) (va_Qi (fun r w' => w = w' ∧ r = -102) (Bw G A) A) 1 6 A := c_L_ask1 hP.1 _ _ (c_X3_find hl hP _) (fun r w' h => by
  obtain ⟨i, hi, rfl, -⟩ := h
  exact isO_cG (n := 4096) (by decide) hi ho) (fun E w' h => ⟨h.2.1, h.1, rfl⟩)
theorem q_noask2 (hl : l.stackTraces = false) (hP : PC G w px pI pO pX n ia nm ct lv lo fa fb O X cp ru) {a : Int32} {x : Int64} (ho : isO 4096 a = false) : Met l yL_ask wsL_ask ({ frames := 14, cells := 1, slots := 6, locals := 257 } : Room) (Pw G A w [.ref px, .int (nI 2), .int a, .long x]) (va_Qi (fun r w' => w = w' ∧ r = -102) (Bw G A) A) 1 6 A := c_L_ask2 hP.1 _ _ (c_X3_looks hl hP _) (fun r w' h => by
  obtain ⟨i, hi, rfl, -⟩ := h
  exact isO_cG (n := 4096) (by decide) hi ho) (fun E w' h => ⟨h.2.1, h.1, rfl⟩)
theorem q_noask3 (hl : l.stackTraces = false) (hP : PC G w px pI pO pX n ia nm ct lv lo fa fb O X cp ru) {a : Int32} {x : Int64} (ho : isC x = false) : Met l yL_ask wsL_ask ({ frames := 14, cells := 1, slots := 6, locals := 257 } : Room) (Pw G A w [.ref px, .int (nI 3), .int a, .long x]) (va_Qi (fun r w' => w = w' ∧ r = -102) (Bw G A) A) 1 6 A := c_L_ask3 hP.1 _ _ (c_X3_hash hl hP _) (fun r w' h => by
  have h9 := h.2.1
  rw [ho] at h9; cases h9) (fun E w' h => ⟨h.2.1, h.1, rfl⟩)
theorem q_nostore (hl : l.stackTraces = false) (hP : PC G w px pI pO pX n ia nm ct lv lo fa fb O X cp ru) (hF : FW w n ia fa fm) (hC : CH n fm) {a : Int32} {x : Int64} (ho : (isin a (nI 0) (nI 99) && isC x) = false) : Met l yL_store wsL_store ({ frames := 15, cells := 2, slots := 69, locals := 276 } : Room) (Pw G A w [.ref px, .int a, .long x]) (va_Qi (fun r w' => w = w' ∧ r = -102) (Bw G A) A) 2 69 A := c_L_store hP.1 _ _ (c_X3_store hl hP hF hC _ _) (fun r w' h => by
  have h9 := h.2.1
  rw [ho] at h9; cases h9) (fun E w' h => by
  rcases h with ⟨rfl, ⟨rfl, -⟩ | ⟨-, h, -⟩⟩
  · exact Or.inl ⟨rfl, rfl, rfl⟩
  · rw [ho] at h; cases h)
theorem q_full (hl : l.stackTraces = false) (hP : PC G w px pI pO pX n ia nm ct lv lo fa fb O X cp ru) (hF : FW w n ia fa fm) (hC : CH n fm) {a : Int32} {x : Int64} (hn : n = 40) (ho : (isin a (nI 0) (nI 99) && isC x) = true) : Met l yL_store wsL_store ({ frames := 15, cells := 2, slots := 69, locals := 276 } : Room) (Pw G A w [.ref px, .int a, .long x]) (va_Qi (fun r w' => w = w' ∧ r = -103) (Bw G A) A) 2 69 A := c_L_store hP.1 _ _ (c_X3_store hl hP hF hC _ _) (fun r w' h => by
  have h9 := h.1
  omega) (fun E w' h => by
  rcases h with ⟨rfl, ⟨rfl, h⟩ | ⟨rfl, -⟩⟩
  · rw [ho] at h; cases h
  · exact Or.inr ⟨rfl, rfl, rfl⟩)
theorem q_nopack (hl : l.stackTraces = false) (hP : PC G w px pI pO pX n ia nm ct lv lo fa fb O X cp ru) (hF : FW w n ia fa fm) (hI : INV n ct fm O X) {a b : Int32} {rs : Bool} (ho : (isin a (nI 1) (nI 8) && isin b (nI 0) (nI 6)) = false) : Met l yL_pack wsL_pack ({ frames := 16, cells := 160, slots := 5200, locals := 316 } : Room) (Pw G A w [.ref px, .int a, .int b, .int (bI rs)]) (va_Qi (fun r w' => w = w' ∧ r = -102) (Bw G A) A) 160 5200 A := c_L_pack hP.1 _ _ _ (c_X3_pack hl hP hF hI.2.1 hI.2.2.1 hI.1 _ _ _) (fun r w' h => by
  have h9 := h.1
  rw [ho] at h9; cases h9) (fun E w' h => ⟨h.2.1, h.1, rfl⟩)
set_option maxRecDepth 100000 in
set_option maxHeartbeats 4000000 in
theorem q_hasForm (hl : l.stackTraces = false) (hP : PC G w px pI pO pX n ia nm ct lv lo fa fb O X cp ru) (hF : FW w n ia fa fm) (hp : ∀ i, i < n → ∀ g, fm i = some g → 0 < g.2.2.2.1 ∧ g.2.2.2.1 < 2 ^ 20) {i : Nat} (hi : i < n) : Met l yL_hasForm wsL_hasForm ({ frames := 15, cells := 3, slots := 18, locals := 273 } : Room) (Pw G A w [.ref px, .int (nI i)]) (va_Qi (fun r w' => w = w' ∧ r = bI (fm i).isSome) (Bw G A) A) 3 18 A := by
  refine m_of (cc := cL_hasForm) (maxL := 2) (ret := (some .boolean)) (by decide) rfl (Nat.le_of_ble_eq_true rfl) ?_
  intro p e s m args below meth c hc hr hmn
  refine v_loc [(0, some (.ref px)), (1, some (.int (nI i)))] rfl ?_
  first | refine v_aload_n hc (i := 0) rfl dL_hasForm_0 rfl ?_ | refine v_aload_nN hc (i := 0) rfl dL_hasForm_0 rfl ?_
  refine v_iconst hc (v := nI 2) dL_hasForm_1 (by decide) ?_
  refine v_iload_n hc (i := 1) rfl dL_hasForm_2 rfl ?_
  refine v_callSWi hc (q_of2 hl hP hF hi) (vx_cwSW 3 hc.1.2.2.2.2 gL_hasForm_L_of rfl rfl rfl (by decide +kernel) ⟨Nat.le_of_ble_eq_true rfl, Nat.le_of_ble_eq_true rfl⟩) rfl rfl (Nat.le_of_ble_eq_true rfl) ⟨(by first | exact Nat.le_of_ble_eq_true rfl | omega | (dsimp only; omega) | (show _ ≤ 600130; omega) | (show _ ≤ 7301080; omega)), (by first | exact Nat.le_of_ble_eq_true rfl | omega | (dsimp only; omega) | (show _ ≤ 600130; omega) | (show _ ≤ 7301080; omega))⟩ dL_hasForm_3 (fun r w' h => ?_)
  obtain ⟨rfl, rfl⟩ := h
  cases hg : fm i with
  | none =>
    rw [ofr_n hg]
    refine v_if_le hc (tgt := 13) dL_hasForm_6 (by decide) (fun _ => ?_) (fun hb => False.elim (absurd hb (by decide)))
    refine v_iconst hc (v := nI 0) dL_hasForm_13 (by decide) ?_
    exact v_zret hc hr dL_hasForm_14 (by first | exact Nat.le_of_ble_eq_true rfl | omega | (dsimp only; omega) | (show _ ≤ 600130; omega) | (show _ ≤ 7301080; omega)) (by first | exact Nat.le_of_ble_eq_true rfl | omega | (dsimp only; omega) | (show _ ≤ 600130; omega) | (show _ ≤ 7301080; omega)) (by first | rfl | exact bI_nar _) (⟨rfl, rfl⟩)
  | some g =>
    rw [ofr_s hg]
    have h9 := hp i hi g hg
    refine v_if_leN hc (tgt := 13) dL_hasForm_6 (by decide) (by omega) (fun hb => False.elim (by omega)) (fun _ => ?_)
    refine v_iconst hc (v := nI 1) dL_hasForm_9 (by decide) ?_
    refine v_goto hc (tgt := 14) dL_hasForm_10 (by decide) ?_
    exact v_zret hc hr dL_hasForm_14 (by first | exact Nat.le_of_ble_eq_true rfl | omega | (dsimp only; omega) | (show _ ≤ 600130; omega) | (show _ ≤ 7301080; omega)) (by first | exact Nat.le_of_ble_eq_true rfl | omega | (dsimp only; omega) | (show _ ≤ 600130; omega) | (show _ ≤ 7301080; omega)) (by first | rfl | exact bI_nar _) (⟨rfl, rfl⟩)
end QQ

