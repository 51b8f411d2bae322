/-! The model: get, levelOf; all values. -/
theorem hasB_j {S : SV} {k j : Nat} {u : Int32} (hz : sSz S k ≤ 64) (hu : ixB u 1000 = true → u = nI j ∧ j < 1000) (h : hasB S k u j = true) : u = nI j ∧ j < 1000 ∧ (sTy S k ≠ 109 → j < 64) := by
  unfold hasB at h
  by_cases e : sTy S k = 109
  · rw [if_pos e, Bool.and_eq_true] at h
    exact ⟨(hu h.1).1, (hu h.1).2, fun z => absurd e z⟩
  · rw [if_neg e] at h
    obtain ⟨q, hq, eq⟩ := ixB_t (by omega) h
    have h2 := hu (by rw [eq]; exact ixB_of (by omega) (by decide))
    refine ⟨h2.1, h2.2, fun _ => ?_⟩
    have e1 : nI j = nI q := h2.1.symm.trans eq
    have e2 := congrArg Int32.toNatClampNeg e1
    rw [nI_clamp (by omega), nI_clamp (by omega)] at e2
    omega
theorem lvF_le {S : SV} {v key : Nat} : ∀ m l, l ≤ 4 → lvF S v key m l ≤ 4 := by
  intro m
  induction m with
  | zero => intro l h; exact h
  | succ m ih => intro l h; rw [lvF]; split
                 · next z => exact ih _ (by omega)
                 · exact h
/-- how many places a value's nodes have; the number of a node, 0 for none; how many there are -/
def slN (S : SV) (v : Nat) : Nat := if sTy S v = 109 then 341 else 21
def ndN (S : SV) (v s : Nat) : Nat := if sTy S v = 109 then sMn S (341 * v + s) else if (vecB S v && ith s (sSz S v)) = true then sNd S (21 * v + s) else 0
def nsN (S : SV) (v : Nat) : Nat := sumN (fun s => if 0 < ndN S v s then 1 else 0) (slN S v)
def shN (S : SV) (v w : Nat) : Nat := sumN (fun s => if 0 < ndN S v s ∧ ndN S v s = ndN S w s then 1 else 0) (if slN S v = slN S w then slN S v else 0)
theorem slN_le {S : SV} {v : Nat} : slN S v ≤ 341 := by unfold slN; split <;> omega
theorem slN_21 {S : SV} {v s : Nat} (h : s < slN S v) : s < 341 ∧ (sTy S v ≠ 109 → s < 21) := by
  unfold slN at h
  split at h
  · next e => exact ⟨h, fun z => absurd e z⟩
  · exact ⟨by omega, fun _ => h⟩
theorem ndN_le {S : SV} (hS : SB S) {v s : Nat} : ndN S v s ≤ 1000000 := by
  unfold ndN
  split
  · exact hS.2.2.2.2.2 _
  · split
    · exact hS.2.2.2.2.1 _
    · exact Nat.zero_le _
theorem sum01 {f : Nat → Nat} (h : ∀ j, f j ≤ 1) : ∀ n, sumN f n ≤ n := by
  intro n
  induction n with
  | zero => exact Nat.le_refl _
  | succ n ih => rw [sumN]; have := h n; omega
/-- the same elements, up to the j-th -/
def smK (S : SV) (v w j : Nat) : Bool := (hasB S v (nI j) j == hasB S w (nI j) j) && (if sTy S v = 109 then decide (sOf S (1000 * v + j) = sOf S (1000 * w + j)) else decide (sEl S (64 * v + j) = sEl S (64 * w + j)))
def smA (S : SV) (v w : Nat) : Nat → Bool
  | 0 => true
  | j + 1 => smA S v w j && smK S v w j
def smN (S : SV) (v : Nat) : Nat := if sTy S v = 109 then 1000 else sSz S v
def o_nodes (S : SV) (v : Int32) (k : Nat) : Int32 × Int32 × SV := if (!ixB v (sNv S)) = true then (nI 1, nI 0, S) else (nI 0, nI (nsN S k), S)
def o_shared (S : SV) (v : Int32) (k : Nat) (v2 : Int32) (k2 : Nat) : Int32 × Int32 × SV := if (ixB v (sNv S) && ixB v2 (sNv S)) = false then (nI 1, nI 0, S) else (nI 0, nI (shN S k k2), S)
def o_areSame (S : SV) (v : Int32) (k : Nat) (v2 : Int32) (k2 : Nat) : Int32 × Int32 × SV :=
  if (ixB v (sNv S) && ixB v2 (sNv S)) = false then (nI 1, nI 0, S) else if sTy S k = 120 ∨ sTy S k2 = 120 then (nI 2, nI 0, S)
  else (nI 0, bI (decide (decide (sTy S k = 109) = decide (sTy S k2 = 109)) && decide (sSz S k = sSz S k2) && smA S k k2 (smN S k)), S)
