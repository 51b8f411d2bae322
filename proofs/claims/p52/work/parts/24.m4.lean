/-! The model: which nodes are the same below. -/
theorem fw_le (s : Nat) : frm s + wid s ≤ 64 := by unfold frm wid; (repeat' split) <;> omega
/-- where value x ends below node s -/
def lim (S : SV) (s x : Nat) : Nat := if sSz S x < frm s + wid s then sSz S x else frm s + wid s
theorem lim_le (S : SV) (s x : Nat) : lim S s x ≤ 64 := by have := fw_le s; unfold lim; split <;> omega
def eqUp (f : Nat → Int32) (a b lo : Nat) : Nat → Bool
  | 0 => true
  | n + 1 => eqUp f a b lo n && decide (f (64 * a + (lo + n)) = f (64 * b + (lo + n)))
def smF (S : SV) (s a b j : Nat) : Bool := decide (lim S s a = lim S s b) && eqUp (sEl S) a b (frm s) j
theorem smF_s {S : SV} {s a b j : Nat} : smF S s a b (j + 1) = (smF S s a b j && decide (sEl S (64 * a + (frm s + j)) = sEl S (64 * b + (frm s + j)))) := by
  unfold smF; rw [eqUp, Bool.and_assoc]
theorem smF_m {S : SV} {s a b j : Nat} (h : smF S s a b j = false) : ∀ i, smF S s a b (j + i) = false := by
  intro i
  induction i with
  | zero => exact h
  | succ i ih => rw [Nat.add_succ, smF_s, ih]; rfl
/-- a and b are the same below node s -/
def smB (S : SV) (s a b : Nat) : Bool := smF S s a b (lim S s a - frm s)
