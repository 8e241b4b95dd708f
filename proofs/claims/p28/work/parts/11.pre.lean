/-! ===== the model: numbers, contents, deltas ===== -/
theorem i32_nle {a b : Int32} (h : a < b) : ¬ b ≤ a := by rw [Int32.lt_iff_toInt_lt] at h; rw [Int32.le_iff_toInt_le]; omega
theorem i32_le {a b : Int32} (h : ¬ a < b) : b ≤ a := by rw [Int32.lt_iff_toInt_lt] at h; rw [Int32.le_iff_toInt_le]; omega
theorem i32_dec (x : Int32) : x + Int32.ofInt (-1) = x - nI 1 := by rw [Int32.sub_eq_add_neg]; rfl
def isin (a b c : Int32) : Bool := decide (b ≤ a) && decide (a ≤ c)
def isO (n : Nat) (o : Int32) : Bool := decide (0 ≤ o.toInt ∧ o.toInt < n)
theorem isO_of {n : Nat} {o : Int32} (h : isO n o = true) (hn : n ≤ 40) : ∃ j, j < n ∧ o = nI j := by
  unfold isO at h
  simp only [decide_eq_true_eq] at h
  refine ⟨o.toInt.toNat, by omega, Int32.toInt_inj.mp ?_⟩
  rw [nI_toInt (by omega)]
  omega
theorem isO_nI {n j : Nat} (hj : j < n) (hn : n ≤ 40) : isO n (nI j) = true := by
  unfold isO
  rw [nI_toInt (by omega)]
  simp only [decide_eq_true_eq]
  omega
theorem isin_O {n : Nat} {o : Int32} (hn : n ≤ 40) : isin o (nI 0) (nI n - nI 1) = isO n o := by
  unfold isin isO
  have h1 : (nI 0 ≤ o) ↔ 0 ≤ o.toInt := by rw [Int32.le_iff_toInt_le, nI_toInt (by decide)]; rfl
  have h2 : (o ≤ nI n - nI 1) ↔ o.toInt ≤ (n : Int) - 1 := by rw [Int32.le_iff_toInt_le, pk_sub_toInt (by omega) (by decide)]; rfl
  rw [← Bool.decide_and]
  refine decide_eq_decide.mpr ?_
  rw [h1, h2]
  omega
theorem up_n {α : Type} {f : Nat → α} {k j : Nat} {v : α} (h : j ≠ k) : va_up f k v j = f j := by unfold va_up; rw [if_neg h]
