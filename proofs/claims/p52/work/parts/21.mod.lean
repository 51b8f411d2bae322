/-! What a state of the model is, its values: numbers in rows, read off the heap. -/
/-- the heaps are alike but for ints at the addresses of W -/
def IB (h h' : Hp) (W : Nat → Nat → Prop) : Prop := h_k h' = h_k h ∧ h_n h' = h_n h ∧ h_R h' = h_R h ∧ h_L h' = h_L h ∧ h_F h' = h_F h ∧ ∀ b j, ¬ W b j → h_I h' b j = h_I h b j
theorem IB.rf {h : Hp} {W : Nat → Nat → Prop} : IB h h W := ⟨rfl, rfl, rfl, rfl, rfl, fun _ _ _ => rfl⟩
theorem IB.tr {h h1 h2 : Hp} {W : Nat → Nat → Prop} (a : IB h h1 W) (b : IB h1 h2 W) : IB h h2 W := ⟨b.1.trans a.1, b.2.1.trans a.2.1, b.2.2.1.trans a.2.2.1, b.2.2.2.1.trans a.2.2.2.1, b.2.2.2.2.1.trans a.2.2.2.2.1, fun q j hq => (b.2.2.2.2.2 q j hq).trans (a.2.2.2.2.2 q j hq)⟩
theorem IB.up {h h' : Hp} {W V : Nat → Nat → Prop} (a : IB h h' W) (hv : ∀ b j, W b j → V b j) : IB h h' V := ⟨a.1, a.2.1, a.2.2.1, a.2.2.2.1, a.2.2.2.2.1, fun q j hq => a.2.2.2.2.2 q j (fun z => hq (hv q j z))⟩
theorem up2_ne {α : Type} {f : Nat → Nat → α} {a k b : Nat} {v : α} (h : b ≠ a) : up2 f a k v b = f b := by unfold up2; rw [va_up_ne _ _ h]
theorem up2_self {α : Type} {f : Nat → Nat → α} {a k : Nat} {v : α} : up2 f a k v a = va_up (f a) k v := by unfold up2; rw [va_up_self]
theorem IB.w {h : Hp} {a k : Nat} {x : Int32} {W : Nat → Nat → Prop} (ha : W a k) : IB h (wI h a k x) W := ⟨rfl, rfl, rfl, rfl, rfl, fun b j hb => by
  show up2 (h_I h) a k x b j = h_I h b j
  by_cases e : b = a
  · subst e
    by_cases ej : j = k
    · subst ej; exact absurd ha hb
    · rw [up2_self, va_up_ne _ _ ej]
  · rw [up2_ne e]⟩
/-- the model's rows, by the fields that hold them -/
def mlen : Nat → Nat
  | 3 => 60 | 4 => 60 | 5 => 3840 | 6 => 1260 | 7 => 1260 | 8 => 60000 | 9 => 60000 | 10 => 20460 | 12 => 12 | 17 => 3 | _ => 0
def mkd : Nat → Nat
  | 3 => 103 | 7 => 102 | 8 => 102 | 17 => 117 | 11 => 3 | 13 => 3 | 14 => 3 | 18 => 3 | _ => 101
/-- m is a model whose fields hold the addresses A, all apart -/
def MF (h : Hp) (m : Nat) (A : Nat → Nat) : Prop := h_k h m = 18 ∧ (∀ i, 3 ≤ i → i ≤ 18 → i ≠ 15 → i ≠ 16 → h_R h m i = some (A i) ∧ h_k h (A i) = mkd i) ∧ (∀ i, 3 ≤ i → i ≤ 12 → i ≠ 11 → h_n h (A i) = mlen i) ∧ (∀ i j, 3 ≤ i → i ≤ 18 → i ≠ 15 → i ≠ 16 → 3 ≤ j → j ≤ 18 → j ≠ 15 → j ≠ 16 → A i = A j → i = j)
theorem MF.ib {h h' : Hp} {m : Nat} {A : Nat → Nat} {W : Nat → Nat → Prop} (hm : MF h m A) (e : IB h h' W) : MF h' m A := by
  obtain ⟨e1, e2, e3, -⟩ := e
  unfold MF
  rw [e1, e2, e3]
  exact hm
theorem MF.r {h : Hp} {m : Nat} {A : Nat → Nat} (hm : MF h m A) (i : Nat) (h1 : 3 ≤ i) (h2 : i ≤ 18) (h3 : i ≠ 15) (h4 : i ≠ 16) : h_R h m i = some (A i) := (hm.2.1 i h1 h2 h3 h4).1
theorem MF.k {h : Hp} {m : Nat} {A : Nat → Nat} (hm : MF h m A) (i : Nat) (h1 : 3 ≤ i) (h2 : i ≤ 18) (h3 : i ≠ 15) (h4 : i ≠ 16) : h_k h (A i) = mkd i := (hm.2.1 i h1 h2 h3 h4).2
theorem MF.n {h : Hp} {m : Nat} {A : Nat → Nat} (hm : MF h m A) (i : Nat) (h1 : 3 ≤ i) (h2 : i ≤ 12) (h3 : i ≠ 11) : h_n h (A i) = mlen i := hm.2.2.1 i h1 h2 h3
theorem MF.ne {h : Hp} {m : Nat} {A : Nat → Nat} (hm : MF h m A) {i j : Nat} (h1 : 3 ≤ i) (h2 : i ≤ 18) (h3 : i ≠ 15) (h4 : i ≠ 16) (g1 : 3 ≤ j) (g2 : j ≤ 18) (g3 : j ≠ 15) (g4 : j ≠ 16) (hij : i ≠ j) : A i ≠ A j := fun e => hij (hm.2.2.2 i j h1 h2 h3 h4 g1 g2 g3 g4 e)
theorem MF.m {h : Hp} {m : Nat} {A : Nat → Nat} (hm : MF h m A) (i : Nat) (h1 : 3 ≤ i) (h2 : i ≤ 18) (h3 : i ≠ 15) (h4 : i ≠ 16) : A i ≠ m := fun e => by
  have a := hm.k i h1 h2 h3 h4
  rw [e, hm.1] at a
  unfold mkd at a
  split at a <;> cases a
/-- the addresses that the model's values live at -/
def mW (m : Nat) (A : Nat → Nat) : Nat → Nat → Prop := fun b j => (b = m ∧ j ≤ 2) ∨ ∃ i, 3 ≤ i ∧ i ≤ 10 ∧ b = A i
/-- a state of the values: how many; nodes made; kinds, sizes, elements, node numbers, own nodes; keys, elements of keys, node numbers of maps -/
abbrev SV : Type := Nat × Nat × (Nat → Nat) × (Nat → Nat) × (Nat → Int32) × (Nat → Nat) × (Nat → Bool) × (Nat → Bool) × (Nat → Int32) × (Nat → Nat)
abbrev sNv (S : SV) : Nat := S.1
abbrev sMd (S : SV) : Nat := S.2.1
abbrev sTy (S : SV) : Nat → Nat := S.2.2.1
abbrev sSz (S : SV) : Nat → Nat := S.2.2.2.1
abbrev sEl (S : SV) : Nat → Int32 := S.2.2.2.2.1
abbrev sNd (S : SV) : Nat → Nat := S.2.2.2.2.2.1
abbrev sOw (S : SV) : Nat → Bool := S.2.2.2.2.2.2.1
abbrev sHs (S : SV) : Nat → Bool := S.2.2.2.2.2.2.2.1
abbrev sOf (S : SV) : Nat → Int32 := S.2.2.2.2.2.2.2.2.1
abbrev sMn (S : SV) : Nat → Nat := S.2.2.2.2.2.2.2.2.2
/-- the bounds of a state -/
def SB (S : SV) : Prop := sNv S ≤ 60 ∧ sMd S ≤ 1000000 ∧ (∀ j, sTy S j < 65536) ∧ (∀ j, sSz S j ≤ 64) ∧ (∀ j, sNd S j ≤ 1000000) ∧ (∀ j, sMn S j ≤ 1000000)
def MP (h : Hp) (m : Nat) (A : Nat → Nat) (S : SV) : Prop := MF h m A ∧ h_I h m 1 = nI (sNv S) ∧ h_I h m 2 = nI (sMd S) ∧ (∀ j, h_I h (A 3) j = nI (sTy S j)) ∧ (∀ j, h_I h (A 4) j = nI (sSz S j)) ∧ (∀ j, h_I h (A 5) j = sEl S j) ∧ (∀ j, h_I h (A 6) j = nI (sNd S j)) ∧ (∀ j, h_I h (A 7) j = bI (sOw S j)) ∧ (∀ j, h_I h (A 8) j = bI (sHs S j)) ∧ (∀ j, h_I h (A 9) j = sOf S j) ∧ (∀ j, h_I h (A 10) j = nI (sMn S j))
theorem wI_ne {h : Hp} {a k b : Nat} {x : Int32} (e : b ≠ a) : h_I (wI h a k x) b = h_I h b := up2_ne e
theorem wI_ss {h : Hp} {a k : Nat} {x : Int32} : h_I (wI h a k x) a k = x := by show up2 (h_I h) a k x a k = x; rw [up2_self, va_up_self]
theorem wI_sn {h : Hp} {a k j : Nat} {x : Int32} (e : j ≠ k) : h_I (wI h a k x) a j = h_I h a j := by show up2 (h_I h) a k x a j = _; rw [up2_self, va_up_ne _ _ e]
/-- the state with one place of row 3 written -/
abbrev s_3 (S : SV) (k : Nat) (x : Nat) : SV := (sNv S, sMd S, va_up (sTy S) k x, sSz S, sEl S, sNd S, sOw S, sHs S, sOf S, sMn S)
theorem MP.w3 {h : Hp} {m k : Nat} {A : Nat → Nat} {S : SV} {x : Nat} (H : MP h m A S) : MP (wI h (A 3) k (nI x)) m A (s_3 S k x) := by
  obtain ⟨hM, e1, e2, e3, e4, e5, e6, e7, e8, e9, e10⟩ := H
  exact ⟨hM.ib (IB.w (W := fun b _ => b = A 3) rfl), by rw [wI_ne (Ne.symm (hM.m 3 (by decide) (by decide) (by decide) (by decide)))]; exact e1, by rw [wI_ne (Ne.symm (hM.m 3 (by decide) (by decide) (by decide) (by decide)))]; exact e2, fun j => by
    by_cases hj : j = k
    · subst hj; rw [wI_ss]; exact congrArg _ (va_up_self _ _ _).symm
    · rw [wI_sn hj, e3 j]; exact congrArg _ (va_up_ne _ _ hj).symm, fun j => by rw [wI_ne (hM.ne (by decide) (by decide) (by decide) (by decide) (by decide) (by decide) (by decide) (by decide) (by decide))]; exact e4 j, fun j => by rw [wI_ne (hM.ne (by decide) (by decide) (by decide) (by decide) (by decide) (by decide) (by decide) (by decide) (by decide))]; exact e5 j, fun j => by rw [wI_ne (hM.ne (by decide) (by decide) (by decide) (by decide) (by decide) (by decide) (by decide) (by decide) (by decide))]; exact e6 j, fun j => by rw [wI_ne (hM.ne (by decide) (by decide) (by decide) (by decide) (by decide) (by decide) (by decide) (by decide) (by decide))]; exact e7 j, fun j => by rw [wI_ne (hM.ne (by decide) (by decide) (by decide) (by decide) (by decide) (by decide) (by decide) (by decide) (by decide))]; exact e8 j, fun j => by rw [wI_ne (hM.ne (by decide) (by decide) (by decide) (by decide) (by decide) (by decide) (by decide) (by decide) (by decide))]; exact e9 j, fun j => by rw [wI_ne (hM.ne (by decide) (by decide) (by decide) (by decide) (by decide) (by decide) (by decide) (by decide) (by decide))]; exact e10 j⟩
/-- the state with one place of row 4 written -/
abbrev s_4 (S : SV) (k : Nat) (x : Nat) : SV := (sNv S, sMd S, sTy S, va_up (sSz S) k x, sEl S, sNd S, sOw S, sHs S, sOf S, sMn S)
theorem MP.w4 {h : Hp} {m k : Nat} {A : Nat → Nat} {S : SV} {x : Nat} (H : MP h m A S) : MP (wI h (A 4) k (nI x)) m A (s_4 S k x) := by
  obtain ⟨hM, e1, e2, e3, e4, e5, e6, e7, e8, e9, e10⟩ := H
  exact ⟨hM.ib (IB.w (W := fun b _ => b = A 4) rfl), by rw [wI_ne (Ne.symm (hM.m 4 (by decide) (by decide) (by decide) (by decide)))]; exact e1, by rw [wI_ne (Ne.symm (hM.m 4 (by decide) (by decide) (by decide) (by decide)))]; exact e2, fun j => by rw [wI_ne (hM.ne (by decide) (by decide) (by decide) (by decide) (by decide) (by decide) (by decide) (by decide) (by decide))]; exact e3 j, fun j => by
    by_cases hj : j = k
    · subst hj; rw [wI_ss]; exact congrArg _ (va_up_self _ _ _).symm
    · rw [wI_sn hj, e4 j]; exact congrArg _ (va_up_ne _ _ hj).symm, fun j => by rw [wI_ne (hM.ne (by decide) (by decide) (by decide) (by decide) (by decide) (by decide) (by decide) (by decide) (by decide))]; exact e5 j, fun j => by rw [wI_ne (hM.ne (by decide) (by decide) (by decide) (by decide) (by decide) (by decide) (by decide) (by decide) (by decide))]; exact e6 j, fun j => by rw [wI_ne (hM.ne (by decide) (by decide) (by decide) (by decide) (by decide) (by decide) (by decide) (by decide) (by decide))]; exact e7 j, fun j => by rw [wI_ne (hM.ne (by decide) (by decide) (by decide) (by decide) (by decide) (by decide) (by decide) (by decide) (by decide))]; exact e8 j, fun j => by rw [wI_ne (hM.ne (by decide) (by decide) (by decide) (by decide) (by decide) (by decide) (by decide) (by decide) (by decide))]; exact e9 j, fun j => by rw [wI_ne (hM.ne (by decide) (by decide) (by decide) (by decide) (by decide) (by decide) (by decide) (by decide) (by decide))]; exact e10 j⟩
/-- the state with one place of row 5 written -/
abbrev s_5 (S : SV) (k : Nat) (x : Int32) : SV := (sNv S, sMd S, sTy S, sSz S, va_up (sEl S) k x, sNd S, sOw S, sHs S, sOf S, sMn S)
theorem MP.w5 {h : Hp} {m k : Nat} {A : Nat → Nat} {S : SV} {x : Int32} (H : MP h m A S) : MP (wI h (A 5) k (x)) m A (s_5 S k x) := by
  obtain ⟨hM, e1, e2, e3, e4, e5, e6, e7, e8, e9, e10⟩ := H
  exact ⟨hM.ib (IB.w (W := fun b _ => b = A 5) rfl), by rw [wI_ne (Ne.symm (hM.m 5 (by decide) (by decide) (by decide) (by decide)))]; exact e1, by rw [wI_ne (Ne.symm (hM.m 5 (by decide) (by decide) (by decide) (by decide)))]; exact e2, fun j => by rw [wI_ne (hM.ne (by decide) (by decide) (by decide) (by decide) (by decide) (by decide) (by decide) (by decide) (by decide))]; exact e3 j, fun j => by rw [wI_ne (hM.ne (by decide) (by decide) (by decide) (by decide) (by decide) (by decide) (by decide) (by decide) (by decide))]; exact e4 j, fun j => by
    by_cases hj : j = k
    · subst hj; rw [wI_ss]; exact (va_up_self _ _ _).symm
    · rw [wI_sn hj, e5 j]; exact (va_up_ne _ _ hj).symm, fun j => by rw [wI_ne (hM.ne (by decide) (by decide) (by decide) (by decide) (by decide) (by decide) (by decide) (by decide) (by decide))]; exact e6 j, fun j => by rw [wI_ne (hM.ne (by decide) (by decide) (by decide) (by decide) (by decide) (by decide) (by decide) (by decide) (by decide))]; exact e7 j, fun j => by rw [wI_ne (hM.ne (by decide) (by decide) (by decide) (by decide) (by decide) (by decide) (by decide) (by decide) (by decide))]; exact e8 j, fun j => by rw [wI_ne (hM.ne (by decide) (by decide) (by decide) (by decide) (by decide) (by decide) (by decide) (by decide) (by decide))]; exact e9 j, fun j => by rw [wI_ne (hM.ne (by decide) (by decide) (by decide) (by decide) (by decide) (by decide) (by decide) (by decide) (by decide))]; exact e10 j⟩
/-- the state with one place of row 6 written -/
abbrev s_6 (S : SV) (k : Nat) (x : Nat) : SV := (sNv S, sMd S, sTy S, sSz S, sEl S, va_up (sNd S) k x, sOw S, sHs S, sOf S, sMn S)
theorem MP.w6 {h : Hp} {m k : Nat} {A : Nat → Nat} {S : SV} {x : Nat} (H : MP h m A S) : MP (wI h (A 6) k (nI x)) m A (s_6 S k x) := by
  obtain ⟨hM, e1, e2, e3, e4, e5, e6, e7, e8, e9, e10⟩ := H
  exact ⟨hM.ib (IB.w (W := fun b _ => b = A 6) rfl), by rw [wI_ne (Ne.symm (hM.m 6 (by decide) (by decide) (by decide) (by decide)))]; exact e1, by rw [wI_ne (Ne.symm (hM.m 6 (by decide) (by decide) (by decide) (by decide)))]; exact e2, fun j => by rw [wI_ne (hM.ne (by decide) (by decide) (by decide) (by decide) (by decide) (by decide) (by decide) (by decide) (by decide))]; exact e3 j, fun j => by rw [wI_ne (hM.ne (by decide) (by decide) (by decide) (by decide) (by decide) (by decide) (by decide) (by decide) (by decide))]; exact e4 j, fun j => by rw [wI_ne (hM.ne (by decide) (by decide) (by decide) (by decide) (by decide) (by decide) (by decide) (by decide) (by decide))]; exact e5 j, fun j => by
    by_cases hj : j = k
    · subst hj; rw [wI_ss]; exact congrArg _ (va_up_self _ _ _).symm
    · rw [wI_sn hj, e6 j]; exact congrArg _ (va_up_ne _ _ hj).symm, fun j => by rw [wI_ne (hM.ne (by decide) (by decide) (by decide) (by decide) (by decide) (by decide) (by decide) (by decide) (by decide))]; exact e7 j, fun j => by rw [wI_ne (hM.ne (by decide) (by decide) (by decide) (by decide) (by decide) (by decide) (by decide) (by decide) (by decide))]; exact e8 j, fun j => by rw [wI_ne (hM.ne (by decide) (by decide) (by decide) (by decide) (by decide) (by decide) (by decide) (by decide) (by decide))]; exact e9 j, fun j => by rw [wI_ne (hM.ne (by decide) (by decide) (by decide) (by decide) (by decide) (by decide) (by decide) (by decide) (by decide))]; exact e10 j⟩
/-- the state with one place of row 7 written -/
abbrev s_7 (S : SV) (k : Nat) (x : Bool) : SV := (sNv S, sMd S, sTy S, sSz S, sEl S, sNd S, va_up (sOw S) k x, sHs S, sOf S, sMn S)
theorem MP.w7 {h : Hp} {m k : Nat} {A : Nat → Nat} {S : SV} {x : Bool} (H : MP h m A S) : MP (wI h (A 7) k (bI x)) m A (s_7 S k x) := by
  obtain ⟨hM, e1, e2, e3, e4, e5, e6, e7, e8, e9, e10⟩ := H
  exact ⟨hM.ib (IB.w (W := fun b _ => b = A 7) rfl), by rw [wI_ne (Ne.symm (hM.m 7 (by decide) (by decide) (by decide) (by decide)))]; exact e1, by rw [wI_ne (Ne.symm (hM.m 7 (by decide) (by decide) (by decide) (by decide)))]; exact e2, fun j => by rw [wI_ne (hM.ne (by decide) (by decide) (by decide) (by decide) (by decide) (by decide) (by decide) (by decide) (by decide))]; exact e3 j, fun j => by rw [wI_ne (hM.ne (by decide) (by decide) (by decide) (by decide) (by decide) (by decide) (by decide) (by decide) (by decide))]; exact e4 j, fun j => by rw [wI_ne (hM.ne (by decide) (by decide) (by decide) (by decide) (by decide) (by decide) (by decide) (by decide) (by decide))]; exact e5 j, fun j => by rw [wI_ne (hM.ne (by decide) (by decide) (by decide) (by decide) (by decide) (by decide) (by decide) (by decide) (by decide))]; exact e6 j, fun j => by
    by_cases hj : j = k
    · subst hj; rw [wI_ss]; exact congrArg _ (va_up_self _ _ _).symm
    · rw [wI_sn hj, e7 j]; exact congrArg _ (va_up_ne _ _ hj).symm, fun j => by rw [wI_ne (hM.ne (by decide) (by decide) (by decide) (by decide) (by decide) (by decide) (by decide) (by decide) (by decide))]; exact e8 j, fun j => by rw [wI_ne (hM.ne (by decide) (by decide) (by decide) (by decide) (by decide) (by decide) (by decide) (by decide) (by decide))]; exact e9 j, fun j => by rw [wI_ne (hM.ne (by decide) (by decide) (by decide) (by decide) (by decide) (by decide) (by decide) (by decide) (by decide))]; exact e10 j⟩
/-- the state with one place of row 8 written -/
abbrev s_8 (S : SV) (k : Nat) (x : Bool) : SV := (sNv S, sMd S, sTy S, sSz S, sEl S, sNd S, sOw S, va_up (sHs S) k x, sOf S, sMn S)
theorem MP.w8 {h : Hp} {m k : Nat} {A : Nat → Nat} {S : SV} {x : Bool} (H : MP h m A S) : MP (wI h (A 8) k (bI x)) m A (s_8 S k x) := by
  obtain ⟨hM, e1, e2, e3, e4, e5, e6, e7, e8, e9, e10⟩ := H
  exact ⟨hM.ib (IB.w (W := fun b _ => b = A 8) rfl), by rw [wI_ne (Ne.symm (hM.m 8 (by decide) (by decide) (by decide) (by decide)))]; exact e1, by rw [wI_ne (Ne.symm (hM.m 8 (by decide) (by decide) (by decide) (by decide)))]; exact e2, fun j => by rw [wI_ne (hM.ne (by decide) (by decide) (by decide) (by decide) (by decide) (by decide) (by decide) (by decide) (by decide))]; exact e3 j, fun j => by rw [wI_ne (hM.ne (by decide) (by decide) (by decide) (by decide) (by decide) (by decide) (by decide) (by decide) (by decide))]; exact e4 j, fun j => by rw [wI_ne (hM.ne (by decide) (by decide) (by decide) (by decide) (by decide) (by decide) (by decide) (by decide) (by decide))]; exact e5 j, fun j => by rw [wI_ne (hM.ne (by decide) (by decide) (by decide) (by decide) (by decide) (by decide) (by decide) (by decide) (by decide))]; exact e6 j, fun j => by rw [wI_ne (hM.ne (by decide) (by decide) (by decide) (by decide) (by decide) (by decide) (by decide) (by decide) (by decide))]; exact e7 j, fun j => by
    by_cases hj : j = k
    · subst hj; rw [wI_ss]; exact congrArg _ (va_up_self _ _ _).symm
    · rw [wI_sn hj, e8 j]; exact congrArg _ (va_up_ne _ _ hj).symm, fun j => by rw [wI_ne (hM.ne (by decide) (by decide) (by decide) (by decide) (by decide) (by decide) (by decide) (by decide) (by decide))]; exact e9 j, fun j => by rw [wI_ne (hM.ne (by decide) (by decide) (by decide) (by decide) (by decide) (by decide) (by decide) (by decide) (by decide))]; exact e10 j⟩
/-- the state with one place of row 9 written -/
abbrev s_9 (S : SV) (k : Nat) (x : Int32) : SV := (sNv S, sMd S, sTy S, sSz S, sEl S, sNd S, sOw S, sHs S, va_up (sOf S) k x, sMn S)
theorem MP.w9 {h : Hp} {m k : Nat} {A : Nat → Nat} {S : SV} {x : Int32} (H : MP h m A S) : MP (wI h (A 9) k (x)) m A (s_9 S k x) := by
  obtain ⟨hM, e1, e2, e3, e4, e5, e6, e7, e8, e9, e10⟩ := H
  exact ⟨hM.ib (IB.w (W := fun b _ => b = A 9) rfl), by rw [wI_ne (Ne.symm (hM.m 9 (by decide) (by decide) (by decide) (by decide)))]; exact e1, by rw [wI_ne (Ne.symm (hM.m 9 (by decide) (by decide) (by decide) (by decide)))]; exact e2, fun j => by rw [wI_ne (hM.ne (by decide) (by decide) (by decide) (by decide) (by decide) (by decide) (by decide) (by decide) (by decide))]; exact e3 j, fun j => by rw [wI_ne (hM.ne (by decide) (by decide) (by decide) (by decide) (by decide) (by decide) (by decide) (by decide) (by decide))]; exact e4 j, fun j => by rw [wI_ne (hM.ne (by decide) (by decide) (by decide) (by decide) (by decide) (by decide) (by decide) (by decide) (by decide))]; exact e5 j, fun j => by rw [wI_ne (hM.ne (by decide) (by decide) (by decide) (by decide) (by decide) (by decide) (by decide) (by decide) (by decide))]; exact e6 j, fun j => by rw [wI_ne (hM.ne (by decide) (by decide) (by decide) (by decide) (by decide) (by decide) (by decide) (by decide) (by decide))]; exact e7 j, fun j => by rw [wI_ne (hM.ne (by decide) (by decide) (by decide) (by decide) (by decide) (by decide) (by decide) (by decide) (by decide))]; exact e8 j, fun j => by
    by_cases hj : j = k
    · subst hj; rw [wI_ss]; exact (va_up_self _ _ _).symm
    · rw [wI_sn hj, e9 j]; exact (va_up_ne _ _ hj).symm, fun j => by rw [wI_ne (hM.ne (by decide) (by decide) (by decide) (by decide) (by decide) (by decide) (by decide) (by decide) (by decide))]; exact e10 j⟩
/-- the state with one place of row 10 written -/
abbrev s_10 (S : SV) (k : Nat) (x : Nat) : SV := (sNv S, sMd S, sTy S, sSz S, sEl S, sNd S, sOw S, sHs S, sOf S, va_up (sMn S) k x)
theorem MP.w10 {h : Hp} {m k : Nat} {A : Nat → Nat} {S : SV} {x : Nat} (H : MP h m A S) : MP (wI h (A 10) k (nI x)) m A (s_10 S k x) := by
  obtain ⟨hM, e1, e2, e3, e4, e5, e6, e7, e8, e9, e10⟩ := H
  exact ⟨hM.ib (IB.w (W := fun b _ => b = A 10) rfl), by rw [wI_ne (Ne.symm (hM.m 10 (by decide) (by decide) (by decide) (by decide)))]; exact e1, by rw [wI_ne (Ne.symm (hM.m 10 (by decide) (by decide) (by decide) (by decide)))]; exact e2, fun j => by rw [wI_ne (hM.ne (by decide) (by decide) (by decide) (by decide) (by decide) (by decide) (by decide) (by decide) (by decide))]; exact e3 j, fun j => by rw [wI_ne (hM.ne (by decide) (by decide) (by decide) (by decide) (by decide) (by decide) (by decide) (by decide) (by decide))]; exact e4 j, fun j => by rw [wI_ne (hM.ne (by decide) (by decide) (by decide) (by decide) (by decide) (by decide) (by decide) (by decide) (by decide))]; exact e5 j, fun j => by rw [wI_ne (hM.ne (by decide) (by decide) (by decide) (by decide) (by decide) (by decide) (by decide) (by decide) (by decide))]; exact e6 j, fun j => by rw [wI_ne (hM.ne (by decide) (by decide) (by decide) (by decide) (by decide) (by decide) (by decide) (by decide) (by decide))]; exact e7 j, fun j => by rw [wI_ne (hM.ne (by decide) (by decide) (by decide) (by decide) (by decide) (by decide) (by decide) (by decide) (by decide))]; exact e8 j, fun j => by rw [wI_ne (hM.ne (by decide) (by decide) (by decide) (by decide) (by decide) (by decide) (by decide) (by decide) (by decide))]; exact e9 j, fun j => by
    by_cases hj : j = k
    · subst hj; rw [wI_ss]; exact congrArg _ (va_up_self _ _ _).symm
    · rw [wI_sn hj, e10 j]; exact congrArg _ (va_up_ne _ _ hj).symm⟩
theorem MP.w0 {h : Hp} {m : Nat} {A : Nat → Nat} {S : SV} {x : Int32} (H : MP h m A S) : MP (wI h m 0 x) m A S := by
  obtain ⟨hM, e1, e2, e3, e4, e5, e6, e7, e8, e9, e10⟩ := H
  exact ⟨hM.ib (IB.w (W := fun b _ => b = m) rfl), by rw [wI_sn (by decide)]; exact e1, by rw [wI_sn (by decide)]; exact e2, fun j => by rw [wI_ne (hM.m 3 (by decide) (by decide) (by decide) (by decide))]; exact e3 j, fun j => by rw [wI_ne (hM.m 4 (by decide) (by decide) (by decide) (by decide))]; exact e4 j, fun j => by rw [wI_ne (hM.m 5 (by decide) (by decide) (by decide) (by decide))]; exact e5 j, fun j => by rw [wI_ne (hM.m 6 (by decide) (by decide) (by decide) (by decide))]; exact e6 j, fun j => by rw [wI_ne (hM.m 7 (by decide) (by decide) (by decide) (by decide))]; exact e7 j, fun j => by rw [wI_ne (hM.m 8 (by decide) (by decide) (by decide) (by decide))]; exact e8 j, fun j => by rw [wI_ne (hM.m 9 (by decide) (by decide) (by decide) (by decide))]; exact e9 j, fun j => by rw [wI_ne (hM.m 10 (by decide) (by decide) (by decide) (by decide))]; exact e10 j⟩
theorem MP.w1 {h : Hp} {m x : Nat} {A : Nat → Nat} {S : SV} (H : MP h m A S) : MP (wI h m 1 (nI x)) m A (x, sMd S, sTy S, sSz S, sEl S, sNd S, sOw S, sHs S, sOf S, sMn S) := by
  obtain ⟨hM, e1, e2, e3, e4, e5, e6, e7, e8, e9, e10⟩ := H
  exact ⟨hM.ib (IB.w (W := fun b _ => b = m) rfl), wI_ss, by rw [wI_sn (by decide)]; exact e2, fun j => by rw [wI_ne (hM.m 3 (by decide) (by decide) (by decide) (by decide))]; exact e3 j, fun j => by rw [wI_ne (hM.m 4 (by decide) (by decide) (by decide) (by decide))]; exact e4 j, fun j => by rw [wI_ne (hM.m 5 (by decide) (by decide) (by decide) (by decide))]; exact e5 j, fun j => by rw [wI_ne (hM.m 6 (by decide) (by decide) (by decide) (by decide))]; exact e6 j, fun j => by rw [wI_ne (hM.m 7 (by decide) (by decide) (by decide) (by decide))]; exact e7 j, fun j => by rw [wI_ne (hM.m 8 (by decide) (by decide) (by decide) (by decide))]; exact e8 j, fun j => by rw [wI_ne (hM.m 9 (by decide) (by decide) (by decide) (by decide))]; exact e9 j, fun j => by rw [wI_ne (hM.m 10 (by decide) (by decide) (by decide) (by decide))]; exact e10 j⟩
theorem MP.w2 {h : Hp} {m x : Nat} {A : Nat → Nat} {S : SV} (H : MP h m A S) : MP (wI h m 2 (nI x)) m A (sNv S, x, sTy S, sSz S, sEl S, sNd S, sOw S, sHs S, sOf S, sMn S) := by
  obtain ⟨hM, e1, e2, e3, e4, e5, e6, e7, e8, e9, e10⟩ := H
  exact ⟨hM.ib (IB.w (W := fun b _ => b = m) rfl), by rw [wI_sn (by decide)]; exact e1, wI_ss, fun j => by rw [wI_ne (hM.m 3 (by decide) (by decide) (by decide) (by decide))]; exact e3 j, fun j => by rw [wI_ne (hM.m 4 (by decide) (by decide) (by decide) (by decide))]; exact e4 j, fun j => by rw [wI_ne (hM.m 5 (by decide) (by decide) (by decide) (by decide))]; exact e5 j, fun j => by rw [wI_ne (hM.m 6 (by decide) (by decide) (by decide) (by decide))]; exact e6 j, fun j => by rw [wI_ne (hM.m 7 (by decide) (by decide) (by decide) (by decide))]; exact e7 j, fun j => by rw [wI_ne (hM.m 8 (by decide) (by decide) (by decide) (by decide))]; exact e8 j, fun j => by rw [wI_ne (hM.m 9 (by decide) (by decide) (by decide) (by decide))]; exact e9 j, fun j => by rw [wI_ne (hM.m 10 (by decide) (by decide) (by decide) (by decide))]; exact e10 j⟩
theorem mW_m {m k : Nat} {A : Nat → Nat} (hk : k ≤ 2 := by decide) : mW m A m k := Or.inl ⟨rfl, hk⟩
theorem mW_i {m k : Nat} {A : Nat → Nat} (i : Nat) (h1 : 3 ≤ i) (h2 : i ≤ 10) : mW m A (A i) k := Or.inr ⟨i, h1, h2, rfl⟩
