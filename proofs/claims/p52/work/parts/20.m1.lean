/-! The model: its small functions of numbers. -/
theorem i32_lt {a b : Int32} : a < b ↔ a.toInt < b.toInt := Int32.lt_iff_toInt_lt
theorem i32_le {a b : Int32} : a ≤ b ↔ a.toInt ≤ b.toInt := Int32.le_iff_toInt_le
def inB (v lo hi : Int32) : Bool := decide (lo ≤ v) && decide (v ≤ hi)
theorem inB_t {v lo hi : Int32} (h1 : ¬ v < lo) (h2 : ¬ hi < v) : inB v lo hi = true := by
  rw [i32_lt] at h1 h2
  simp only [inB, Bool.and_eq_true, decide_eq_true_eq, i32_le]
  omega
theorem inB_f1 {v lo hi : Int32} (h1 : v < lo) : inB v lo hi = false := by
  rw [i32_lt] at h1
  simp only [inB, Bool.and_eq_false_iff, decide_eq_false_iff_not, i32_le]
  omega
theorem inB_f2 {v lo hi : Int32} (h1 : hi < v) : inB v lo hi = false := by
  rw [i32_lt] at h1
  simp only [inB, Bool.and_eq_false_iff, decide_eq_false_iff_not, i32_le]
  omega
/-- an index below n -/
def ixB (v : Int32) (n : Nat) : Bool := inB v 0 (nI n - 1)
theorem ixB_nI {k n : Nat} (hn : n < 2 ^ 31) : ixB (nI k) n = true → k < 2 ^ 31 → k < n := by
  intro h1 hk
  simp only [ixB, inB, Bool.and_eq_true, decide_eq_true_eq, i32_le] at h1
  obtain ⟨-, h2⟩ := h1
  rw [nI_toInt hk] at h2
  rcases Nat.eq_zero_or_pos n with e | e
  · subst e
    rw [show (nI 0 - 1).toInt = -1 by decide] at h2
    omega
  · rw [show (1 : Int32) = nI 1 from rfl, pk_sub e, nI_toInt (by omega)] at h2
    omega
theorem ixB_t {v : Int32} {n : Nat} (hn : n < 2 ^ 31) (h : ixB v n = true) : ∃ k, k < n ∧ v = nI k := by
  have h0 : ¬ v < 0 := by
    simp only [ixB, inB, Bool.and_eq_true, decide_eq_true_eq, i32_le] at h
    rw [i32_lt]
    have := h.1
    omega
  obtain ⟨k, hk, rfl⟩ := nI_of h0
  exact ⟨k, ixB_nI hn h hk, rfl⟩
theorem ixB_of {k n : Nat} (hk : k < n) (hn : n < 2 ^ 31) : ixB (nI k) n = true := by
  simp only [ixB, inB, Bool.and_eq_true, decide_eq_true_eq, i32_le]
  rw [show (1 : Int32) = nI 1 from rfl, pk_sub (by omega), nI_toInt (by omega), nI_toInt (by omega)]
  refine ⟨?_, by omega⟩
  rw [show (0 : Int32).toInt = 0 from rfl]
  omega
def elB (e : Int32) : Bool := inB e (-999) (nI 999)
def dOf (n : Nat) : Nat := if n ≤ 4 then 1 else if n ≤ 16 then 2 else 3
def hOf (s : Nat) : Nat := if s < 16 then 1 else if s < 20 then 2 else 3
def wid (s : Nat) : Nat := if s < 16 then 4 else if s < 20 then 16 else 64
def frm (s : Nat) : Nat := if s < 16 then 4 * s else if s < 20 then 16 * (s - 16) else 0
def ith (s n : Nat) : Bool := decide (hOf s ≤ dOf n) && (decide (frm s < n) || decide (s = 0))
theorem dOf_le (n : Nat) : 1 ≤ dOf n ∧ dOf n ≤ 3 := by unfold dOf; (repeat' split) <;> omega
theorem wid_le (n : Nat) : wid n ≤ 64 := by unfold wid; (repeat' split) <;> omega
theorem frm_le (n : Nat) : frm n ≤ 60 := by unfold frm; (repeat' split) <;> omega
