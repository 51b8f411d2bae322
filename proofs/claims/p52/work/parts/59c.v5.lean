/-! The model: shared, areSame. -/
theorem bI_inj {a b : Bool} (h : bI a = bI b) : a = b := by revert h; cases a <;> cases b <;> simp [bI]
theorem bI_ne {a b : Bool} (h : ¬ bI a = bI b) : (a == b) = false := by revert h; cases a <;> cases b <;> simp [bI]
