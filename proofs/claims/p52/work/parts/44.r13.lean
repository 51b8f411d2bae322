/-! The model: commit, what it delivers. -/
def pot (A : Nat → OAS) : Nat := (12 - (OA_row (A 0)).length) + (12 - (OA_row (A 1)).length) + (12 - (OA_row (A 2)).length) + (12 - (OA_row (A 3)).length)
theorem pot_st {A : Nat → OAS} {a : Nat} {z : Int32} (ha : a < 4) (hl : (OA_row (A a)).length < 12) : pot (va_up A a (OA_urow (A a) (tkL (OA_row (A a)) z))) + 1 = pot A := by
  have e : (tkL (OA_row (A a)) z).length = (OA_row (A a)).length + 1 := by unfold tkL; rw [if_pos hl, List.length_append]; rfl
  have f : ∀ j, (OA_row (va_up A a (OA_urow (A a) (tkL (OA_row (A a)) z)) j)).length = if j = a then (OA_row (A a)).length + 1 else (OA_row (A j)).length := fun j => by
    rw [va_up_app]
    split
    · exact e
    · rfl
  unfold pot
  rw [f 0, f 1, f 2, f 3]
  have ha4 : a = 0 ∨ a = 1 ∨ a = 2 ∨ a = 3 := by omega
  rcases ha4 with e0 | e0 | e0 | e0 <;> subst e0 <;> simp <;> omega
theorem up_full {A : Nat → OAS} {a : Nat} {z : Int32} (hl : ¬ (OA_row (A a)).length < 12) : va_up A a (OA_urow (A a) (tkL (OA_row (A a)) z)) = A := by
  funext j
  rw [va_up_app]
  split
  · next e => rw [e, show tkL (OA_row (A a)) z = OA_row (A a) from if_neg hl]
  · rfl
theorem dlF_step {l : List (Nat × Int32)} {c : Nat} {A : Nat → OAS} (hc : c < l.length) : dlF (l.drop c) A = dlF (l.drop (c + 1)) (va_up A (l.getD c (0, 0)).1 (OA_urow (A (l.getD c (0, 0)).1) (tkL (OA_row (A (l.getD c (0, 0)).1)) (l.getD c (0, 0)).2))) := by
  rw [getD_cons hc (0, 0)]; rfl
theorem tkL_len {l : List Int32} {z : Int32} (h : l.length ≤ 12) : (tkL l z).length ≤ 12 := by
  unfold tkL
  split
  · rw [List.length_append]; simp; omega
  · exact h
