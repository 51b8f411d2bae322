/-! The model: realising a chunk by a, d, k; realising. -/
theorem take_ga {α : Type} (z : α) : ∀ (F : List α) (k : Nat), k < F.length → F.take (k + 1) = F.take k ++ [F.getD k z]
  | [], _, h => absurd h (Nat.not_lt_zero _)
  | a :: F, 0, _ => by simp
  | a :: F, k + 1, h => by
    rw [List.take_succ_cons, List.take_succ_cons, take_ga z F k (by simpa using h), List.getD_cons_succ, List.cons_append]
theorem chF_app {w m : Int32} {a b : List Int32} : chF w m (a ++ b) = chF w m a ++ chF w m b := by unfold chF; rw [List.filter_append, List.map_append]
theorem chF_1 {w m : Int32} {e : Int32} {l : List Int32} (h : kp w m e = true) : chF w m (e :: l) = fnq w m e :: chF w m l := by unfold chF; rw [List.filter_cons_of_pos h, List.map_cons]
theorem chF_0 {w m : Int32} {e : Int32} {l : List Int32} (h : ¬ kp w m e = true) : chF w m (e :: l) = chF w m l := by unfold chF; rw [List.filter_cons_of_neg h]
theorem chF_s1 {w m : Int32} {c : List Int32} {i : Nat} (hi : i < c.length) (h : kp w m (c.getD i (nI 0)) = true) : (chF w m (c.take (i + 1))).length = (chF w m (c.take i)).length + 1 := by
  rw [take_ga (nI 0) c i hi, chF_app, chF_1 h, List.length_append]; rfl
theorem chF_s0 {w m : Int32} {c : List Int32} {i : Nat} (hi : i < c.length) (h : ¬ kp w m (c.getD i (nI 0)) = true) : (chF w m (c.take (i + 1))).length = (chF w m (c.take i)).length := by
  rw [take_ga (nI 0) c i hi, chF_app, chF_0 h, List.length_append]; rfl
theorem chF_at {w m : Int32} {c : List Int32} {i : Nat} (hi : i < c.length) (h : kp w m (c.getD i (nI 0)) = true) : (chF w m c).getD (chF w m (c.take i)).length (nI 0) = fnq w m (c.getD i (nI 0)) ∧ (chF w m (c.take i)).length < (chF w m c).length := by
  have e : chF w m c = chF w m (c.take i) ++ fnq w m (c.getD i (nI 0)) :: chF w m (c.drop (i + 1)) := by
    rw [← chF_1 h, ← getD_cons hi, ← chF_app, List.take_append_drop]
  constructor
  · rw [e]; simp [List.getD]
  · rw [e, List.length_append, List.length_cons]; omega
theorem chF_le {w m : Int32} {c : List Int32} : (chF w m c).length ≤ c.length := by unfold chF; rw [List.length_map]; exact List.length_filter_le _ _
theorem hz_in : ∀ (c : List Int32) (i : Nat), i < c.length → c.getD i (nI 0) = 0 → hz c = true
  | [], _, h, _ => absurd h (Nat.not_lt_zero _)
  | a :: l, 0, _, e => by rw [hz, Bool.or_eq_true]; exact Or.inl (decide_eq_true e)
  | a :: l, i + 1, h, e => by rw [hz, Bool.or_eq_true]; exact Or.inr (hz_in l i (by simpa using h) (by rwa [List.getD_cons_succ] at e))
theorem hz_no : ∀ (c : List Int32), (∀ i, i < c.length → ¬ c.getD i (nI 0) = 0) → hz c = false
  | [], _ => rfl
  | a :: l, h => by
    rw [hz, Bool.or_eq_false_iff]
    exact ⟨decide_eq_false (h 0 (by simp)), hz_no l (fun i hi => by have := h (i + 1) (by simpa using hi); rwa [List.getD_cons_succ] at this)⟩
theorem nI_w {w m e : Int32} (h : w ≠ nI 107) : kp w m e = true := by unfold kp; rw [if_neg h]
theorem num_ne {m : Int32} (h : 1 ≤ m.toInt) : ¬ m = 0 := fun e => by rw [e] at h; exact absurd h (by decide)
