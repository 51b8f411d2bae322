/-! The class: the empty state stands for the empty model. -/
def CS0 (rr : Nat → KRS) (aa : Nat → KAS) : CS := (0, rr, 0, aa, fun _ => KT0, fun _ => (0, fun _ => 0), [], 0, 0)
theorem SIM.init {rr : Nat → KRS} {aa : Nat → KAS} {rr2 : Nat → ORS} {aa2 : Nat → OAS} : SIM (CS0 rr aa) (RS0 rr2 aa2) := by
  refine ⟨⟨rfl, rfl, rfl, rfl, rfl⟩, fun r hr => absurd hr (Nat.not_lt_zero _), fun a ha => absurd ha (Nat.not_lt_zero _), fun t ht => ?_, fun t a ht ha => ⟨rfl, fun j hj => absurd hj (Nat.not_lt_zero _)⟩⟩
  exact ⟨rfl, fun z => absurd (show false = true from z) (by decide), rfl, rfl, fun r hr => ⟨rfl, fun z => absurd (show false = true from z) (by decide), rfl, rfl, rfl⟩, fun _ => ⟨rfl, fun r hr => ⟨rfl, rfl, rfl, rfl⟩⟩⟩
/-- the empty class, out of what its constructor has made: the parlour's own fields and rows, three transactions, an empty log -/
theorem CR.init {h : Hp} {rr : Nat → KRS} {aa : Nat → KAS} (p0 : CP0 h (CS0 rr aa)) (p1 : CP1 h) (h8 : ∀ t, t < 3 → h_R h (nm 40 8) t = some (nm 56 t)) (hT : ∀ t, t < 3 → KT h t KT0) (hW : ∀ i, i < 12 → KW h i (0, fun _ => 0)) (hl : LOb h (nm 40 11) 69 0 68 0)
    (hf : ∀ r i, (r = 53 ∨ r = 54 ∨ r = 55 ∨ r = 65 ∨ r = 66 ∨ r = 67 ∨ r = 68) → h_k h (nm r i) = 0) : CR h (CS0 rr aa) :=
  ⟨p0, p1, ⟨fun r hr => absurd hr (Nat.not_lt_zero _), h8, fun a ha => absurd ha (Nat.not_lt_zero _)⟩, ⟨fun r hr => absurd hr (Nat.not_lt_zero _), hT, fun a ha => absurd ha (Nat.not_lt_zero _), hW⟩, ⟨hl, fun i hi => absurd hi (Nat.not_lt_zero _)⟩,
    ⟨fun i _ => hf _ i (by decide), fun i _ => hf _ i (by decide), fun i _ => hf _ i (by decide), fun i _ => hf _ i (by decide), fun i _ => hf _ i (by decide), fun i _ => hf _ i (by decide), fun i _ => hf _ i (by decide)⟩⟩
