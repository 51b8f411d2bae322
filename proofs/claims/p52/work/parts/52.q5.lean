/-! The model: realising a chunk by t. -/
section EN
variable {n : Nat} {x : Nat → QIS}
theorem enR_ge (hW : QWs n x) {s : Nat} {r : Nat → Nat} (hs : s < n) (j : Nat) : r j ≤ enR x s r j := by
  unfold enR; split
  · exact bk0_ge hW _ _ _ _ hs
  · exact rs1_ge hW _ _ _ _ hs
theorem enA_n {s : Nat} : ¬ enA x s = nI 1 := by unfold enA; split <;> decide
/-- one more is counted -/
theorem rz_pc (hX : QOK n x) {s : Nat} {r : Nat → Nat} (hs : s < n) (h : r s < (q_F (x s)).length) : PC n x r + 4 ≤ PC n x (rzR x s r) ∧ PS n x r + 16 ≤ PS n x (rzR x s r) := by
  have h24 := (hX.1 s hs).1
  obtain ⟨e1, e2⟩ := PC_st (r := r) hs (hX.2.2 s hs) (by omega)
  have hle : ∀ j, j < n → va_up r s (r s + 1) j ≤ rzR x s r j := fun j _ => by
    rw [(rz_1 h).1, va_up_app]
    split
    · next e => rw [e, rs0_at hX.1 hs]; exact Nat.le_max_right _ _
    · exact rs0_ge hX.1 _ _ _ _ _ hs
  have a := PC_mono (x := x) hle
  have b := PS_mono (x := x) hle
  omega
end EN
