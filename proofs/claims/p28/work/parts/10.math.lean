/-! ===== contents: their letters are hexadecimal digits ===== -/
def hxl : Nat → Nat → Nat
  | 0, _ => 0
  | f + 1, c => if c = 0 then 0 else hxl f (c / 16) + 1
def hxn (c : Nat) : Nat := hxl 16 c
def nzd : Nat → Nat → Bool
  | 0, _ => true
  | f + 1, c => if c = 0 then true else (decide (c % 16 ≠ 0) && nzd f (c / 16))
def xN (x : Int64) : Nat := x.toInt.toNat
def isC (x : Int64) : Bool := decide (0 < xN x) && (decide (hxn (xN x) ≤ 15) && nzd 16 (xN x))
def dgt (c k : Nat) : Nat := c / 16 ^ k % 16
def hsr (c : Nat) : Nat → Nat → Nat
  | 0, h => h
  | k + 1, h => hsr c k ((33 * h + dgt c k) % 4096)
def hsh (c : Nat) : Nat := hsr c (hxn c) 7
def ltr (c i : Nat) : Nat := dgt c (hxn c - 1 - i)
theorem p16 (f : Nat) : (16 : Nat) ^ (f + 1) = 16 ^ f * 16 := Nat.pow_succ ..
theorem hxl_le : ∀ (f c : Nat), hxl f c ≤ f
  | 0, _ => Nat.le_refl _
  | f + 1, c => by
    unfold hxl
    split
    · omega
    · have := hxl_le f (c / 16); omega
theorem hxl_0 (f : Nat) : hxl f 0 = 0 := by cases f <;> simp [hxl]
theorem hxl_more : ∀ (f g c : Nat), c < 16 ^ f → f ≤ g → hxl g c = hxl f c
  | 0, g, c, h, _ => by
    have : c = 0 := by simpa using h
    subst this
    rw [hxl_0, hxl_0]
  | f + 1, g, c, h, hg => by
    cases g with
    | zero => omega
    | succ g =>
      unfold hxl
      split
      · rfl
      · rw [hxl_more f g (c / 16) (by rw [p16] at h; omega) (by omega)]
theorem e63 : (2 : Nat) ^ 63 = 9223372036854775808 := by decide
theorem e1616 : (16 : Nat) ^ 16 = 18446744073709551616 := by decide
theorem e1615 : (16 : Nat) ^ 15 = 1152921504606846976 := by decide
theorem hxn_step {c : Nat} (h0 : 0 < c) (h : c < 2 ^ 63) : hxn c = hxn (c / 16) + 1 := by
  have h1 : c / 16 < 16 ^ 15 := by rw [e1615]; rw [e63] at h; omega
  unfold hxn
  rw [show hxl 16 c = if c = 0 then 0 else hxl 15 (c / 16) + 1 from rfl, if_neg (by omega), hxl_more 15 16 (c / 16) h1 (by omega)]
theorem hxn_0 : hxn 0 = 0 := by decide
theorem hxl_lt : ∀ (f c : Nat), c < 16 ^ f → c < 16 ^ hxl f c
  | 0, c, h => h
  | f + 1, c, h => by
    unfold hxl
    split
    · rename_i h0; subst h0; decide
    · have := hxl_lt f (c / 16) (by rw [p16] at h; omega)
      rw [p16]
      omega
theorem hxn_lt {c : Nat} (h : c < 2 ^ 63) : c < 16 ^ hxn c := hxl_lt 16 c (by rw [e1616]; rw [e63] at h; omega)
theorem hxl_ge : ∀ (f c k : Nat), 16 ^ k ≤ c → k < f → k < hxl f c
  | 0, _, _, _, h => absurd h (Nat.not_lt_zero _)
  | f + 1, c, k, h, hk => by
    have hp : 0 < 16 ^ k := Nat.pos_of_ne_zero (by simp)
    unfold hxl
    rw [if_neg (by omega)]
    cases k with
    | zero => omega
    | succ k =>
      have := hxl_ge f (c / 16) k (by rw [p16] at h; omega) (by omega)
      omega
theorem nzd_dgt : ∀ (f c : Nat), nzd f c = true → ∀ k, k < hxl f c → dgt c k ≠ 0
  | 0, c, _, k, hk => absurd hk (Nat.not_lt_zero _)
  | f + 1, c, h, k, hk => by
    unfold hxl at hk
    unfold nzd at h
    by_cases h0 : c = 0
    · rw [if_pos h0] at hk; omega
    · rw [if_neg h0] at hk h
      simp only [Bool.and_eq_true, decide_eq_true_eq] at h
      cases k with
      | zero => unfold dgt; simpa using h.1
      | succ k =>
        have := nzd_dgt f (c / 16) h.2 k (by omega)
        unfold dgt at this ⊢
        rw [p16, Nat.mul_comm, ← Nat.div_div_eq_div_mul]
        exact this
theorem dgt_lt (c k : Nat) : dgt c k < 16 := Nat.mod_lt _ (by decide)
theorem hsr_lt : ∀ (c k h : Nat), h < 4096 → hsr c k h < 4096
  | _, 0, _, h => h
  | c, k + 1, h, _ => hsr_lt c k _ (Nat.mod_lt _ (by decide))
theorem hsh_lt (c : Nat) : hsh c < 4096 := hsr_lt c _ 7 (by decide)
theorem xN_0 {z : Int64} (h : z ≤ 0) : xN z = 0 := by
  rw [Int64.le_iff_toInt_le] at h
  have : (0 : Int64).toInt = 0 := by decide
  unfold xN
  omega
theorem xN_of {z : Int64} (h : 0 < z) : 0 < xN z ∧ xN z < 2 ^ 63 ∧ z = lN (xN z) := by
  have h0 : ¬ z < 0 := by
    rw [Int64.lt_iff_toInt_lt] at h ⊢
    omega
  obtain ⟨k, hk, rfl⟩ := pk_lOf h0
  have e1 : xN (lN k) = k := by unfold xN; rw [pk_lT hk]; simp
  rw [e1]
  refine ⟨?_, hk, rfl⟩
  rw [Int64.lt_iff_toInt_lt, pk_lT hk] at h
  have : (0 : Int64).toInt = 0 := by decide
  omega
theorem xN_lN {k : Nat} (hk : k < 2 ^ 63) : xN (lN k) = k := by unfold xN; rw [pk_lT hk]; simp
theorem xN_lt (z : Int64) : xN z < 2 ^ 63 := by
  rcases Int.lt_trichotomy 0 z.toInt with h | h | h
  · exact (xN_of (by rw [Int64.lt_iff_toInt_lt]; exact h)).2.1
  · unfold xN; rw [← h]; decide
  · unfold xN; have : z.toInt.toNat = 0 := by omega
    rw [this]; decide
theorem xN_pos {z : Int64} : 0 < z ↔ 0 < xN z := by
  constructor
  · exact fun h => (xN_of h).1
  · intro h
    rw [Int64.lt_iff_toInt_lt]
    have : (0 : Int64).toInt = 0 := by decide
    unfold xN at h
    omega
theorem l16 : (16 : Int64) = lN 16 := by decide
theorem l0 : (0 : Int64) = lN 0 := by decide
theorem xN_div {z : Int64} (h : 0 < z) : xN (z / 16) = xN z / 16 := by
  obtain ⟨h1, h2, h3⟩ := xN_of h
  generalize xN z = k at h1 h2 h3 ⊢
  subst h3
  rw [l16, pk_lDiv h2 (by decide) (by decide), xN_lN (by omega)]
theorem isC_pos {x : Int64} (h : isC x = true) : 0 < xN x := by
  unfold isC at h; simp only [Bool.and_eq_true, decide_eq_true_eq] at h; exact h.1
theorem isC_15 {x : Int64} (h : isC x = true) : hxn (xN x) ≤ 15 := by
  unfold isC at h; simp only [Bool.and_eq_true, decide_eq_true_eq] at h; exact h.2.1
theorem isC_dg {x : Int64} (h : isC x = true) : ∀ k, k < hxn (xN x) → dgt (xN x) k ≠ 0 := by
  unfold isC at h; simp only [Bool.and_eq_true, decide_eq_true_eq] at h; exact nzd_dgt 16 _ h.2.2
theorem isC_ge {x : Int64} (h : isC x = true) : 1 ≤ hxn (xN x) := by
  have h1 := isC_pos h
  have := hxl_ge 16 (xN x) 0 (by rw [Nat.pow_zero]; exact h1) (by decide)
  unfold hxn; omega
theorem isC_60 {x : Int64} (h : isC x = true) : xN x < 16 ^ 15 := Nat.lt_of_lt_of_le (hxn_lt (xN_lt x)) (Nat.pow_le_pow_right (by decide) (isC_15 h))
