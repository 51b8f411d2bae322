/-! The model: at, all, realised, chunks. -/
theorem enR_L {n : Nat} {x : Nat → QIS} (hW : QWs n x) {s : Nat} {r : Nat → Nat} (hs : s < n) (hL : QL n x r) : QL n x (enR x s r) := by
  unfold enR; split
  · exact bk0_L hW _ _ _ hs hL
  · exact rs1_L hW _ _ _ hs hL
theorem enR_at {n : Nat} {x : Nat → QIS} (hW : QWs n x) {s : Nat} {r : Nat → Nat} (hs : s < n) (hB : ¬ q_B (x s) = true) : (q_F (x s)).length ≤ enR x s r s := by
  unfold enR
  rw [if_neg hB, rs1]
  show _ ≤ va_up _ s _ s
  rw [va_up_app, if_pos rfl]
  exact Nat.le_max_right _ _
