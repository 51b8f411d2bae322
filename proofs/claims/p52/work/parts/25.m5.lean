/-! The model: the nodes of a new value. -/
theorem sb_nil {L : LV} : ∀ q ∈ ([] : LV), q ∈ L := fun _ h => nomatch h
theorem sb_cons {L l : LV} {a : Nat × AV} (h : a ∈ L) (t : ∀ q ∈ l, q ∈ L) : ∀ q ∈ a :: l, q ∈ L := List.forall_mem_cons.2 ⟨h, t⟩
theorem nI_m1 {k : Nat} (hk : k < 2147483648) : ¬ nI k = -1 := by
  intro e
  have := congrArg Int32.toInt e
  rw [nI_toInt hk] at this
  have z : (-1 : Int32).toInt = -1 := by decide
  omega
/-- nodes made, the numbers of v's nodes and whose they are, once k of them stand -/
def nfM (S : SV) (v : Nat) (sm : Nat → Bool) : Nat → Nat
  | 0 => sMd S
  | k + 1 => if (ith k (sSz S v) && !sm k) = true then nfM S v sm k + 1 else nfM S v sm k
def nfN (S : SV) (v : Nat) (sm : Nat → Bool) (sh : Nat → Nat) : Nat → Nat → Nat
  | 0 => sNd S
  | k + 1 => va_up (nfN S v sm sh k) (21 * v + k) (if ith k (sSz S v) = true then (if sm k = true then sh k else nfM S v sm k + 1) else 0)
def nfO (S : SV) (v : Nat) : Nat → Nat → Bool
  | 0 => sOw S
  | k + 1 => va_up (nfO S v k) (21 * v + k) false
def nfS (S : SV) (v : Nat) (sm : Nat → Bool) (sh : Nat → Nat) (k : Nat) : SV := (sNv S, nfM S v sm k, sTy S, sSz S, sEl S, nfN S v sm sh k, nfO S v k, sHs S, sOf S, sMn S)
section
variable {S : SV} {v : Nat} {sm : Nat → Bool} {sh : Nat → Nat} {k : Nat}
theorem nfS_0 : nfS S v sm sh 0 = S := rfl
theorem nfS_z (h1 : ith k (sSz S v) = false) : s_7 (s_6 (nfS S v sm sh k) (21 * v + k) 0) (21 * v + k) false = nfS S v sm sh (k + 1) := by
  simp only [nfS, nfM, nfN, nfO, h1, Bool.false_and, if_neg Bool.false_ne_true]
theorem nfS_o (h1 : ith k (sSz S v) = true) (h2 : sm k = true) : s_7 (s_6 (nfS S v sm sh k) (21 * v + k) (sh k)) (21 * v + k) false = nfS S v sm sh (k + 1) := by
  simp only [nfS, nfM, nfN, nfO, h1, h2, Bool.true_and, Bool.not_true, if_neg Bool.false_ne_true, if_true]
theorem nfS_n (h1 : ith k (sSz S v) = true) (h2 : sm k = false) : s_7 (s_6 (s_2 (nfS S v sm sh k) (nfM S v sm k + 1)) (21 * v + k) (nfM S v sm k + 1)) (21 * v + k) false = nfS S v sm sh (k + 1) := by
  simp only [nfS, nfM, nfN, nfO, h1, h2, Bool.true_and, Bool.not_false, if_neg Bool.false_ne_true, if_true]
theorem nfM_le : nfM S v sm k ≤ sMd S + k := by
  induction k with
  | zero => exact Nat.le_refl _
  | succ k ih => rw [nfM]; split <;> omega
theorem nfN_b (w : Nat) {j : Nat} (hj : k ≤ j) (hj2 : j < 21) : nfN S v sm sh k (21 * w + j) = sNd S (21 * w + j) := by
  induction k with
  | zero => rfl
  | succ k ih => rw [nfN, va_up_ne _ _ (by omega), ih (by omega)]
theorem nfN_le (hS : SB S) (hmd : sMd S + 21 ≤ 1000000) (hsh : ∀ s, sh s ≤ 1000000) (hk : k ≤ 21) (j : Nat) : nfN S v sm sh k j ≤ 1000000 := by
  induction k with
  | zero => exact hS.2.2.2.2.1 j
  | succ k ih =>
    have hm := nfM_le (S := S) (v := v) (sm := sm) (k := k)
    have hz := hsh k
    rw [nfN]
    by_cases hj : j = 21 * v + k
    · subst hj; rw [va_up_self]; (repeat' split) <;> omega
    · rw [va_up_ne _ _ hj]; exact ih (by omega)
theorem SB.nf (hS : SB S) (hmd : sMd S + 21 ≤ 1000000) (hsh : ∀ s, sh s ≤ 1000000) (hk : k ≤ 21) : SB (nfS S v sm sh k) := by
  have hm := nfM_le (S := S) (v := v) (sm := sm) (k := k)
  exact ⟨hS.1, by show nfM S v sm k ≤ 1000000; omega, hS.2.2.1, hS.2.2.2.1, fun j => nfN_le hS hmd hsh hk j, hS.2.2.2.2.2⟩
end
/-- what v shares with w -/
def smO (S : SV) (v w s : Nat) : Bool := ith s (sSz S w) && smB S s v w
def shO (S : SV) (w s : Nat) : Nat := sNd S (21 * w + s)
