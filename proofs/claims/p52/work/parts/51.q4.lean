/-! The model: realising a chunk of a range, one by t. -/
theorem tk_len {F : List (List Int32)} {k : Nat} (h : k ≤ F.length) : (F.take k).length = k := by rw [List.length_take]; omega
theorem nI_subI {a b : Nat} (ha : a < 100000) (hb : b < 100000) : (nI a - nI b).toInt = (a : Int) - b := by
  rw [Int32.toInt_sub, nI_toInt (by omega), nI_toInt (by omega)]; exact Int.bmod_eq_of_le (by omega) (by omega)
theorem nI_no4 {a b : Nat} (ha : a < 100000) (hb : b < 100000) (h : a ≤ b) : ¬ nI 4 ≤ nI a - nI b := fun z => by
  have := i32_le.mp z
  rw [nI_subI ha hb, nI_toInt (by decide)] at this
  omega
theorem nI_no0 {a b : Nat} (ha : a < 100000) (hb : b < 100000) (h : a ≤ b) : ¬ 0 < nI a - nI b := fun z => by
  have := i32_lt.mp z
  have e : (0 : Int32).toInt = 0 := by decide
  rw [nI_subI ha hb, e] at this
  omega
theorem wI_fill {H : Hp} {a k : Nat} {v : Int32} {f : Nat → Int32} (hI : ∀ j, j < k → h_I H a j = f j) (hv : v = f k) : ∀ j, j < k + 1 → h_I (wI H a k v) a j = f j := fun j hj => by
  rw [gI_wI]
  by_cases e : j = k
  · rw [if_pos ⟨rfl, e⟩, hv, e]
  · rw [if_neg (fun z => e z.2)]; exact hI j (by omega)
theorem PO2.lst {h h' : Hp} {s : Nat} (H : PO2 h) (hF : ∀ a, a ≠ nm 3 s → (∀ z, a ≠ nm 26 (16 * z + s)) → ce h' a = ce h a) : PO2 h' :=
  ⟨H.1.elim fun K z => ⟨K, z.fr (fun _ _ => hF _ (nm_ne (by decide) (by decide) (by decide)) (fun z => nm_ne (by decide) (by decide) (by decide)))⟩, H.2.elim fun K z => ⟨K, z.fr (fun _ _ => hF _ (nm_ne (by decide) (by decide) (by decide)) (fun z => nm_ne (by decide) (by decide) (by decide)))⟩⟩
/-- sequences as they can be -/
def QOK (n : Nat) (x : Nat → QIS) : Prop := QWs n x ∧ n ≤ 12 ∧ ∀ s, s < n → capB (q_cp (x s))
