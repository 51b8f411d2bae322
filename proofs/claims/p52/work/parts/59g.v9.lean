/-! The model: the empty model. -/
def FRE (a : Nat) : Prop := a = nm 1 17 ∨ a = nm 1 18 ∨ (2 ≤ a % 128 ∧ a % 128 ≤ 31)
def MI0 (H : Hp) : Prop := h_k H (nm 1 0) = 18 ∧ (∀ j, h_I H (nm 1 0) j = 0) ∧ (∀ i, 3 ≤ i → i ≤ 14 → h_R H (nm 1 0) i = some (nm 1 i) ∧ h_k H (nm 1 i) = mkd i ∧ (∀ j, h_I H (nm 1 i) j = 0)) ∧ (∀ i, 3 ≤ i → i ≤ 12 → i ≠ 11 → h_n H (nm 1 i) = mlen i) ∧ h_R H (nm 1 11) 1 = some 0 ∧ h_R H (nm 1 13) 1 = some 0 ∧ h_R H (nm 1 14) 1 = some 0
def SV0 : SV := (0, 0, fun _ => 0, fun _ => 0, fun _ => 0, fun _ => 0, fun _ => false, fun _ => false, fun _ => 0, fun _ => 0)
def RS0 (rr : Nat → ORS) (aa : Nat → OAS) : RS := (0, rr, 0, aa, fun _ => OT0, [], 0, 0)
/-- the model's names -/
def WMD (a : Nat) : Prop := 1 ≤ a % 128 ∧ a % 128 ≤ 31
theorem wR_fil2 {h : Hp} {a k : Nat} {r : Option Nat} {f : Nat → Option Nat} (H : ∀ j, j < k → h_R h a j = f j) (e : r = f k) : ∀ j, j < k + 1 → h_R (wR h a k r) a j = f j := fun j hj => by
  rw [gR_wR]
  split
  · next z => rw [z.2]; exact e
  · next z => exact H j (by have : j ≠ k := fun y => z ⟨rfl, y⟩; omega)
theorem WT_18 {t i : Nat} : ¬ WT t (nm 1 i) := by unfold WT nm; omega
