/-! Sequences: all chunks, the end, what it costs. -/
section PU2
variable {n : Nat} {x : Nat → QIS}
theorem rs1_hi (hW : QWs n x) : ∀ f s r j, s < n → s < j → rs1 x f s r j = r j := by
  intro f
  induction f with
  | zero => intro s r j _ _; rfl
  | succ f ih =>
    intro s r j hs hj
    rw [rs1]
    show va_up _ s _ j = _
    rw [va_up_app, if_neg (by omega)]
    split
    · rfl
    · next h => have := qs_lt hW hs h; (repeat' split) <;> first | rfl | exact ih _ _ _ (by omega) (by omega) | exact rs0_hi hW _ _ _ _ _ (by omega) (by omega)
theorem bk0_hi (hW : QWs n x) : ∀ f s r j, s < n → s < j → bk0 x f s r j = r j := by
  intro f
  induction f with
  | zero => intro s r j _ _; rfl
  | succ f ih =>
    intro s r j hs hj
    rw [bk0]
    show va_up _ s _ j = _
    rw [va_up_app, if_neg (by omega)]
    split
    · rfl
    · next h => have := qs_lt hW hs h; (repeat' split) <;> first | exact ih _ _ _ (by omega) (by omega) | exact rs0_hi hW _ _ _ _ _ (by omega) (by omega)
theorem vu_ge {r r1 : Nat → Nat} {s k j : Nat} (h : r j ≤ r1 j) : r j ≤ va_up r1 s (max (r1 s) k) j := by
  rw [va_up_app]
  split
  · next e => rw [e] at h ⊢; exact Nat.le_trans h (Nat.le_max_left _ _)
  · exact h
theorem rs1_ge (hW : QWs n x) : ∀ f s r j, s < n → r j ≤ rs1 x f s r j := by
  intro f
  induction f with
  | zero => intro s r j _; exact Nat.le_refl _
  | succ f ih =>
    intro s r j hs
    rw [rs1]
    refine vu_ge ?_
    split
    · exact Nat.le_refl _
    · next h => have := qs_lt hW hs h; (repeat' split) <;> first | exact Nat.le_refl _ | exact ih _ _ _ (by omega) | exact rs0_ge hW _ _ _ _ _ (by omega)
theorem bk0_ge (hW : QWs n x) : ∀ f s r j, s < n → r j ≤ bk0 x f s r j := by
  intro f
  induction f with
  | zero => intro s r j _; exact Nat.le_refl _
  | succ f ih =>
    intro s r j hs
    rw [bk0]
    refine vu_ge ?_
    split
    · exact Nat.le_refl _
    · next h => have := qs_lt hW hs h; (repeat' split) <;> first | exact ih _ _ _ (by omega) | exact rs0_ge hW _ _ _ _ _ (by omega)
theorem vu_cc {r1 : Nat → Nat} {s k j v : Nat} (hj : s < j) : va_up (va_up r1 j v) s (max (va_up r1 j v s) k) = va_up (va_up r1 s (max (r1 s) k)) j v := by
  rw [va_up_app, if_neg (by omega), vu_c (by omega)]
theorem rs1_up (hW : QWs n x) : ∀ f s r j v, s < n → s < j → rs1 x f s (va_up r j v) = va_up (rs1 x f s r) j v := by
  intro f
  induction f with
  | zero => intro s r j v _ _; rfl
  | succ f ih =>
    intro s r j v hs hj
    rw [rs1, rs1]
    show va_up _ s _ = va_up (va_up _ s _) j v
    split
    · exact vu_cc hj
    · next h =>
      have := qs_lt hW hs h
      (repeat' split)
      · exact vu_cc hj
      · rw [rs0_up hW _ _ _ _ _ _ (by omega) (by omega)]; exact vu_cc hj
      · rw [ih _ _ _ _ (by omega) (by omega)]; exact vu_cc hj
theorem bk0_up (hW : QWs n x) : ∀ f s r j v, s < n → s < j → bk0 x f s (va_up r j v) = va_up (bk0 x f s r) j v := by
  intro f
  induction f with
  | zero => intro s r j v _ _; rfl
  | succ f ih =>
    intro s r j v hs hj
    rw [bk0, bk0]
    show va_up _ s _ = va_up (va_up _ s _) j v
    split
    · exact vu_cc hj
    · next h =>
      have := qs_lt hW hs h
      (repeat' split)
      · rw [rs0_up hW _ _ _ _ _ _ (by omega) (by omega)]; exact vu_cc hj
      · rw [ih _ _ _ _ (by omega) (by omega)]; exact vu_cc hj
theorem qs_T {s : Nat} (hW : QWs n x) (hs : s < n) (ht : q_w (x s) = nI 116) : sN (x s) < s ∧ OF_num (q_o (x s)) = nI (nN (x s)) ∧ nN (x s) ≤ 99 ∧ (q_F (x s)).length = min (nN (x s)) (tot (q_F (x (sN (x s))))) ∧ (∀ j, j < (q_F (x s)).length → (q_F (x s)).getD j [] = [atF (q_F (x (sN (x s)))) j]) ∧ q_B (x s) = (q_B (x (sN (x s))) && decide (tot (q_F (x (sN (x s)))) < nN (x s))) := by
  have h2 := qs_src hW hs (by rw [ht]; decide)
  rcases h2.2.2 with z | z
  · exact ⟨h2.1, z.2⟩
  · rw [ht] at z; exact absurd z.1 (by decide)
theorem qs_L {s : Nat} (hW : QWs n x) (hs : s < n) (h : q_w (x s) ≠ nI 114) (ht : q_w (x s) ≠ nI 116) : sN (x s) < s ∧ ((q_w (x s) = nI 97 ∨ q_w (x s) = nI 100 ∨ q_w (x s) = nI 107) ∧ (q_w (x s) = nI 107 → 1 ≤ (OF_num (q_o (x s))).toInt) ∧ (q_F (x s)).length ≤ (q_F (x (sN (x s)))).length ∧ (∀ j, j < (q_F (x s)).length → (q_F (x s)).getD j [] = chF (q_w (x s)) (OF_num (q_o (x s))) ((q_F (x (sN (x s)))).getD j []) ∧ (q_w (x s) = nI 100 → hz ((q_F (x (sN (x s)))).getD j []) = false)) ∧
    ((q_F (x s)).length < (q_F (x (sN (x s)))).length → q_w (x s) = nI 100 ∧ hz ((q_F (x (sN (x s)))).getD (q_F (x s)).length []) = true ∧ q_B (x s) = true) ∧ ((q_F (x s)).length = (q_F (x (sN (x s)))).length → q_B (x s) = q_B (x (sN (x s))))) := by
  have h2 := qs_src hW hs h
  rcases h2.2.2 with z | z
  · exact absurd z.1 ht
  · exact ⟨h2.1, z⟩
theorem qs_R {s : Nat} (hW : QWs n x) (hs : s < n) (h : q_w (x s) = nI 114) : qRng x s := (hW s hs).2.2.2.elim id (fun z => absurd h z.1)
/-- what a sequence has of its source at the least -/
theorem vu_mm {r1 : Nat → Nat} {s k m : Nat} (h : k ≤ m) : va_up (va_up r1 s (max (r1 s) k)) s (max (va_up r1 s (max (r1 s) k) s) m) = va_up r1 s (max (r1 s) m) := by
  rw [vu_d, va_up_app, if_pos rfl]; congr 1; omega
theorem vu_mx {r1 r2 : Nat → Nat} {s k m v : Nat} (h : k ≤ m) (hv : v = max (r2 s) k) : va_up (va_up r1 s v) s (max (va_up r1 s v s) m) = va_up r1 s (max (r2 s) m) := by
  rw [vu_d, va_up_app, if_pos rfl, hv]; congr 1; omega
theorem rs1_ab (hW : QWs n x) : ∀ f s k r, s < n → k ≤ (q_F (x s)).length → rs1 x f s (rs0 x f s k r) = rs1 x f s r := by
  intro f
  induction f with
  | zero => intro s k r _ _; rfl
  | succ f ih =>
    intro s k r hs hk
    by_cases h : q_w (x s) = nI 114
    · simp only [rs0, rs1, if_pos h]; exact vu_mm hk
    · have h1 := qs_lt hW hs h
      by_cases ht : q_w (x s) = nI 116
      · have h3 := qs_T hW hs ht
        have h4 : (q_F (x s)).length ≤ tot (q_F (x (sN (x s)))) := by rw [h3.2.2.2.1]; exact Nat.min_le_right _ _
        by_cases hk0 : k = 0
        · have e0 : rs0 x (f + 1) s k r = r := by
            simp only [rs0, if_neg h, if_pos ht, if_pos hk0]
            exact vu_i (by omega)
          rw [e0]
        · have hs0 := rs0_hi hW f (sN (x s)) (cf (q_F (x (sN (x s)))) (k - 1)) r s (by omega) h1
          by_cases hm : nN (x s) ≤ tot (q_F (x (sN (x s))))
          · have hF0 : ¬ (q_F (x s)).length = 0 := by omega
            simp only [rs0, rs1, if_neg h, if_pos ht, if_neg hk0, if_pos (show q_w (x s) = nI 116 ∧ nN (x s) ≤ tot (q_F (x (sN (x s)))) from ⟨ht, hm⟩), if_neg hF0]
            rw [rs0_up hW _ _ _ _ _ _ (by omega) (by omega), rs0_ab hW _ _ _ _ _ (by omega) (cf_mono (by omega) (by omega)) (cf_le (by omega))]
            have e2 := rs0_hi hW f (sN (x s)) (cf (q_F (x (sN (x s)))) ((q_F (x s)).length - 1)) r s (by omega) h1
            rw [vu_mx (r2 := r) hk (by rw [hs0]), e2]
          · simp only [rs0, rs1, if_neg h, if_pos ht, if_neg hk0, if_neg (show ¬ (q_w (x s) = nI 116 ∧ nN (x s) ≤ tot (q_F (x (sN (x s))))) from fun z => hm z.2)]
            rw [rs1_up hW _ _ _ _ _ (by omega) (by omega), ih _ _ _ (by omega) (cf_le (by omega))]
            have e2 := rs1_hi hW f (sN (x s)) r s (by omega) h1
            rw [vu_mx (r2 := r) hk (by rw [hs0]), e2]
      · have h3 := (qs_L hW hs h ht).2.2.2.1
        have hs0 := rs0_hi hW f (sN (x s)) k r s (by omega) h1
        simp only [rs0, rs1, if_neg h, if_neg ht, if_neg (show ¬ (q_w (x s) = nI 116 ∧ nN (x s) ≤ tot (q_F (x (sN (x s))))) from fun z => ht z.1)]
        rw [rs1_up hW _ _ _ _ _ (by omega) (by omega), ih _ _ _ (by omega) (by omega)]
        have e2 := rs1_hi hW f (sN (x s)) r s (by omega) h1
        rw [vu_mx (r2 := r) hk (by rw [hs0]), e2]
theorem bk0_ab (hW : QWs n x) : ∀ f s k r, s < n → k ≤ (q_F (x s)).length → bk0 x f s (rs0 x f s k r) = bk0 x f s r := by
  intro f
  induction f with
  | zero => intro s k r _ _; rfl
  | succ f ih =>
    intro s k r hs hk
    by_cases h : q_w (x s) = nI 114
    · simp only [rs0, bk0, if_pos h]; exact vu_mm hk
    · have h1 := qs_lt hW hs h
      by_cases ht : q_w (x s) = nI 116
      · have h3 := qs_T hW hs ht
        have h4 : (q_F (x s)).length ≤ tot (q_F (x (sN (x s)))) := by rw [h3.2.2.2.1]; exact Nat.min_le_right _ _
        by_cases hk0 : k = 0
        · have e0 : rs0 x (f + 1) s k r = r := by
            simp only [rs0, if_neg h, if_pos ht, if_pos hk0]
            exact vu_i (by omega)
          rw [e0]
        · have hs0 := rs0_hi hW f (sN (x s)) (cf (q_F (x (sN (x s)))) (k - 1)) r s (by omega) h1
          simp only [rs0, bk0, if_neg h, if_pos ht, if_neg hk0, if_neg (show ¬ (q_w (x s) ≠ nI 116 ∧ (q_F (x s)).length < (q_F (x (sN (x s)))).length) from fun z => z.1 ht)]
          rw [bk0_up hW _ _ _ _ _ (by omega) (by omega), ih _ _ _ (by omega) (cf_le (by omega))]
          have e2 := bk0_hi hW f (sN (x s)) r s (by omega) h1
          rw [vu_mx (r2 := r) hk (by rw [hs0]), e2]
      · have h3 := (qs_L hW hs h ht).2.2.2.1
        have hs0 := rs0_hi hW f (sN (x s)) k r s (by omega) h1
        by_cases hl : (q_F (x s)).length < (q_F (x (sN (x s)))).length
        · simp only [rs0, bk0, if_neg h, if_neg ht, if_pos (show q_w (x s) ≠ nI 116 ∧ (q_F (x s)).length < (q_F (x (sN (x s)))).length from ⟨ht, hl⟩)]
          rw [rs0_up hW _ _ _ _ _ _ (by omega) (by omega), rs0_ab hW _ _ _ _ _ (by omega) (by omega) (by omega)]
          have e2 := rs0_hi hW f (sN (x s)) ((q_F (x s)).length + 1) r s (by omega) h1
          rw [vu_mx (r2 := r) hk (by rw [hs0]), e2]
        · simp only [rs0, bk0, if_neg h, if_neg ht, if_neg (show ¬ (q_w (x s) ≠ nI 116 ∧ (q_F (x s)).length < (q_F (x (sN (x s)))).length) from fun z => hl z.2)]
          rw [bk0_up hW _ _ _ _ _ (by omega) (by omega), ih _ _ _ (by omega) (by omega)]
          have e2 := bk0_hi hW f (sN (x s)) r s (by omega) h1
          rw [vu_mx (r2 := r) hk (by rw [hs0]), e2]
theorem rs1_fu (hW : QWs n x) : ∀ s f g r, s < n → s < f → s < g → rs1 x f s r = rs1 x g s r := by
  intro s
  induction s using Nat.strongRecOn with
  | _ s ih =>
    intro f g r hs hf hg
    obtain ⟨f, rfl⟩ : ∃ f', f = f' + 1 := ⟨f - 1, by omega⟩
    obtain ⟨g, rfl⟩ : ∃ g', g = g' + 1 := ⟨g - 1, by omega⟩
    rw [rs1, rs1]
    by_cases h : q_w (x s) = nI 114
    · simp only [if_pos h]
    · have h1 := qs_lt hW hs h
      simp only [if_neg h]
      rw [rs0_fu hW _ f g _ r (by omega) (by omega) (by omega), ih _ h1 f g r (by omega) (by omega) (by omega)]
theorem bk0_fu (hW : QWs n x) : ∀ s f g r, s < n → s < f → s < g → bk0 x f s r = bk0 x g s r := by
  intro s
  induction s using Nat.strongRecOn with
  | _ s ih =>
    intro f g r hs hf hg
    obtain ⟨f, rfl⟩ : ∃ f', f = f' + 1 := ⟨f - 1, by omega⟩
    obtain ⟨g, rfl⟩ : ∃ g', g = g' + 1 := ⟨g - 1, by omega⟩
    rw [bk0, bk0]
    by_cases h : q_w (x s) = nI 114
    · simp only [if_pos h]
    · have h1 := qs_lt hW hs h
      simp only [if_neg h]
      rw [rs0_fu hW _ f g _ r (by omega) (by omega) (by omega), ih _ h1 f g r (by omega) (by omega) (by omega)]
/-- no more than all -/
def QL (n : Nat) (x : Nat → QIS) (r : Nat → Nat) : Prop := ∀ s, s < n → r s ≤ (q_F (x s)).length
theorem QV.l {r : Nat → Nat} (h : QV n x r) : QL n x r := fun s hs => (h s hs).1
theorem QL.up {r1 : Nat → Nat} {s k : Nat} (h : QL n x r1) (hk : k ≤ (q_F (x s)).length) : QL n x (va_up r1 s (max (r1 s) k)) := fun j hj => by
  rw [va_up_app]
  split
  · next e => rw [← e] at hk ⊢; exact Nat.max_le.mpr ⟨h j hj, hk⟩
  · exact h j hj
theorem rs0_L (hW : QWs n x) : ∀ f s k r, s < n → QL n x r → k ≤ (q_F (x s)).length → QL n x (rs0 x f s k r) := by
  intro f
  induction f with
  | zero => intro s k r _ h _; exact h
  | succ f ih =>
    intro s k r hs hL hk
    rw [rs0]
    refine QL.up ?_ hk
    split
    · exact hL
    · next h =>
      have h1 := qs_lt hW hs h
      split
      · next ht =>
        have h3 := qs_T hW hs ht
        have h4 : (q_F (x s)).length ≤ tot (q_F (x (sN (x s)))) := by rw [h3.2.2.2.1]; exact Nat.min_le_right _ _
        split
        · exact hL
        · exact ih _ _ _ (by omega) hL (cf_le (by omega))
      · next ht =>
        have h3 := (qs_L hW hs h ht).2.2.2.1
        exact ih _ _ _ (by omega) hL (by omega)
theorem rs1_L (hW : QWs n x) : ∀ f s r, s < n → QL n x r → QL n x (rs1 x f s r) := by
  intro f
  induction f with
  | zero => intro s r _ h; exact h
  | succ f ih =>
    intro s r hs hL
    rw [rs1]
    refine QL.up ?_ (Nat.le_refl _)
    split
    · exact hL
    · next h =>
      have h1 := qs_lt hW hs h
      split
      · next ht =>
        have h3 := qs_T hW hs ht.1
        have h4 : (q_F (x s)).length ≤ tot (q_F (x (sN (x s)))) := by rw [h3.2.2.2.1]; exact Nat.min_le_right _ _
        split
        · exact hL
        · exact rs0_L hW _ _ _ _ (by omega) hL (cf_le (by omega))
      · exact ih _ _ (by omega) hL
theorem bk0_L (hW : QWs n x) : ∀ f s r, s < n → QL n x r → QL n x (bk0 x f s r) := by
  intro f
  induction f with
  | zero => intro s r _ h; exact h
  | succ f ih =>
    intro s r hs hL
    rw [bk0]
    refine QL.up ?_ (Nat.le_refl _)
    split
    · exact hL
    · next h =>
      have h1 := qs_lt hW hs h
      split
      · next ht => exact rs0_L hW _ _ _ _ (by omega) hL (by omega)
      · exact ih _ _ (by omega) hL
theorem rs1_V (hW : QWs n x) : ∀ s f r, s < n → s < f → QV n x r → QV n x (rs1 x f s r) := by
  intro s
  induction s using Nat.strongRecOn with
  | _ s ih =>
    intro f r hs hf hV
    obtain ⟨f, rfl⟩ : ∃ f', f = f' + 1 := ⟨f - 1, by omega⟩
    rw [rs1]
    have hrs := (hV s hs).1
    by_cases h : q_w (x s) = nI 114
    · simp only [if_pos h]
      exact qI_up hs hW hV (Nat.le_max_left _ _) (Nat.max_le.mpr ⟨hrs, Nat.le_refl _⟩) (Or.inl h)
    · have h1 := qs_lt hW hs h
      have hVs := (hV s hs).2.elim (fun z => absurd z h) id
      obtain ⟨f, rfl⟩ : ∃ f', f = f' + 1 := ⟨f - 1, by omega⟩
      simp only [if_neg h]
      by_cases ht : q_w (x s) = nI 116 ∧ nN (x s) ≤ tot (q_F (x (sN (x s))))
      · have h3 := qs_T hW hs ht.1
        have h4 : (q_F (x s)).length ≤ tot (q_F (x (sN (x s)))) := by rw [h3.2.2.2.1]; exact Nat.min_le_right _ _
        simp only [if_pos ht]
        by_cases hk0 : (q_F (x s)).length = 0
        · simp only [if_pos hk0]
          exact qI_up hs hW hV (Nat.le_max_left _ _) (Nat.max_le.mpr ⟨hrs, Nat.le_refl _⟩) (Or.inr ⟨fun _ => Nat.max_le.mpr ⟨hVs.1 ht.1, by omega⟩, fun z => absurd ht.1 z⟩)
        · simp only [if_neg hk0]
          have hV1 := rs0_V hW (sN (x s)) (f + 1) (cf (q_F (x (sN (x s)))) ((q_F (x s)).length - 1)) r (by omega) (by omega) hV (cf_le (by omega))
          have e1 := rs0_hi hW (f + 1) (sN (x s)) (cf (q_F (x (sN (x s)))) ((q_F (x s)).length - 1)) r s (by omega) h1
          have e2 := rs0_at hW (f := f) (s := sN (x s)) (k := cf (q_F (x (sN (x s)))) ((q_F (x s)).length - 1)) (r := r) (by omega)
          have g1 := cf_gt (F := q_F (x (sN (x s)))) (p := (q_F (x s)).length - 1) (by omega)
          refine qI_up hs hW hV1 (Nat.le_max_left _ _) (by rw [e1]; exact Nat.max_le.mpr ⟨hrs, Nat.le_refl _⟩) (Or.inr ⟨fun _ => ?_, fun z => absurd ht.1 z⟩)
          rw [e1, e2]
          have m1 := pre_mono (F := q_F (x (sN (x s)))) (Nat.le_max_left (r (sN (x s))) (cf (q_F (x (sN (x s)))) ((q_F (x s)).length - 1)))
          have m2 := pre_mono (F := q_F (x (sN (x s)))) (Nat.le_max_right (r (sN (x s))) (cf (q_F (x (sN (x s)))) ((q_F (x s)).length - 1)))
          have m3 := hVs.1 ht.1
          exact Nat.max_le.mpr ⟨by omega, by omega⟩
      · simp only [if_neg ht]
        have hV1 := ih _ h1 (f + 1) r (by omega) (by omega) hV
        have e1 := rs1_hi hW (f + 1) (sN (x s)) r s (by omega) h1
        have e2 : (q_F (x (sN (x s)))).length ≤ rs1 x (f + 1) (sN (x s)) r (sN (x s)) := by
          rw [rs1]; show _ ≤ va_up _ (sN (x s)) _ (sN (x s)); rw [va_up_app, if_pos rfl]; exact Nat.le_max_right _ _
        refine qI_up hs hW hV1 (Nat.le_max_left _ _) (by rw [e1]; exact Nat.max_le.mpr ⟨hrs, Nat.le_refl _⟩) (Or.inr ⟨fun z => ?_, fun z => ?_⟩)
        · have h3 := qs_T hW hs z
          have h4 : (q_F (x s)).length ≤ tot (q_F (x (sN (x s)))) := by rw [h3.2.2.2.1]; exact Nat.min_le_right _ _
          rw [pre_all e2, e1]
          exact Nat.max_le.mpr ⟨by omega, h4⟩
        · have h3 := (qs_L hW hs h z).2.2.2.1
          rw [e1]
          exact Nat.max_le.mpr ⟨by omega, by omega⟩
/-! one step: what is answered, what is realised then, and what is counted for a failure -/
def rzR (x : Nat → QIS) (s : Nat) (r : Nat → Nat) : Nat → Nat := if r s < (q_F (x s)).length then rs0 x (s + 1) s (r s + 1) r else if q_B (x s) = true then bk0 x (s + 1) s r else rs1 x (s + 1) s r
def rzA (x : Nat → QIS) (s : Nat) (r : Nat → Nat) : Int32 := if r s < (q_F (x s)).length then nI 1 else if q_B (x s) = true then -1 else nI 0
def rzE (x : Nat → QIS) (s : Nat) (r : Nat → Nat) : Nat := if r s < (q_F (x s)).length then 0 else s + 2
/-- behind the last one -/
def enR (x : Nat → QIS) (s : Nat) (r : Nat → Nat) : Nat → Nat := if q_B (x s) = true then bk0 x (s + 1) s r else rs1 x (s + 1) s r
def enA (x : Nat → QIS) (s : Nat) : Int32 := if q_B (x s) = true then -1 else nI 0
theorem rz_1 {s : Nat} {r : Nat → Nat} (h : r s < (q_F (x s)).length) : rzR x s r = rs0 x (s + 1) s (r s + 1) r ∧ rzA x s r = nI 1 ∧ rzE x s r = 0 := ⟨if_pos h, if_pos h, if_pos h⟩
theorem rz_0 {s : Nat} {r : Nat → Nat} (h : ¬ r s < (q_F (x s)).length) : rzR x s r = enR x s r ∧ rzA x s r = enA x s ∧ rzE x s r = s + 2 := ⟨if_neg h, if_neg h, if_neg h⟩
theorem enR_ab (hW : QWs n x) {s k : Nat} {r : Nat → Nat} (hs : s < n) (hk : k ≤ (q_F (x s)).length) : enR x s (rs0 x (s + 1) s k r) = enR x s r := by
  unfold enR
  rw [bk0_ab hW _ _ _ _ hs hk, rs1_ab hW _ _ _ _ hs hk]
theorem rz_V (hW : QWs n x) {s : Nat} {r : Nat → Nat} (hs : s < n) (hV : QV n x r) (h : r s < (q_F (x s)).length) : QV n x (rzR x s r) := by
  rw [(rz_1 h).1]; exact rs0_V hW _ _ _ _ hs (by omega) hV h
/-- a range -/
theorem rz_R1 {s : Nat} {r : Nat → Nat} (hR : q_w (x s) = nI 114) (h : r s < (q_F (x s)).length) : rzR x s r = va_up r s (r s + 1) := by
  rw [(rz_1 h).1, rs0]; simp only [if_pos hR]; congr 1; omega
theorem rz_R0 (hW : QWs n x) {s : Nat} {r : Nat → Nat} (hs : s < n) (hR : q_w (x s) = nI 114) (h : r s = (q_F (x s)).length) : rzR x s r = r ∧ rzA x s r = nI 0 := by
  have hB := (qs_R hW hs hR).2.1
  have hn : ¬ r s < (q_F (x s)).length := by omega
  rw [(rz_0 hn).1, (rz_0 hn).2.1]
  unfold enR enA
  rw [if_neg (by rw [hB]; decide), if_neg (by rw [hB]; decide), rs1]
  simp only [if_pos hR]
  exact ⟨vu_i (by omega), trivial⟩
/-- by 't' -/
theorem rz_T1 (hW : QWs n x) {s : Nat} {r : Nat → Nat} (hs : s < n) (ht : q_w (x s) = nI 116) (h : r s < (q_F (x s)).length) : rzR x s r = va_up (rs0 x (sN (x s) + 1) (sN (x s)) (cf (q_F (x (sN (x s)))) (r s)) r) s (r s + 1) ∧ r s < tot (q_F (x (sN (x s)))) ∧ r s < nN (x s) := by
  have h3 := qs_T hW hs ht
  have hm := h3.2.2.2.1
  have h4 : (q_F (x s)).length ≤ tot (q_F (x (sN (x s)))) := by rw [hm]; exact Nat.min_le_right _ _
  have h5 : (q_F (x s)).length ≤ nN (x s) := by rw [hm]; exact Nat.min_le_left _ _
  have hR : ¬ q_w (x s) = nI 114 := by rw [ht]; decide
  refine ⟨?_, by omega, by omega⟩
  rw [(rz_1 h).1, rs0]
  simp only [if_neg hR, if_pos ht, if_neg (show ¬ r s + 1 = 0 by omega), Nat.add_sub_cancel]
  rw [rs0_fu hW _ s (sN (x s) + 1) _ r (by omega) h3.1 (by omega), rs0_hi hW _ _ _ _ _ (by omega) h3.1]
  congr 1; omega
theorem rz_T2 (hW : QWs n x) {s : Nat} {r : Nat → Nat} (hs : s < n) (ht : q_w (x s) = nI 116) (h : r s = (q_F (x s)).length) (hm : r s < nN (x s)) : rzR x s r = enR x (sN (x s)) r ∧ rzA x s r = enA x (sN (x s)) ∧ r s = tot (q_F (x (sN (x s)))) := by
  have h3 := qs_T hW hs ht
  have h4 : r s = tot (q_F (x (sN (x s)))) := by have := h3.2.2.2.1; omega
  have hR : ¬ q_w (x s) = nI 114 := by rw [ht]; decide
  have hn : ¬ r s < (q_F (x s)).length := by omega
  have hB : q_B (x s) = q_B (x (sN (x s))) := by rw [h3.2.2.2.2.2, decide_eq_true (by omega), Bool.and_true]
  rw [(rz_0 hn).1, (rz_0 hn).2.1]
  refine ⟨?_, by unfold enA; rw [hB], h4⟩
  unfold enR
  rw [hB]
  split
  · rw [bk0]
    simp only [if_neg hR, if_neg (show ¬ (q_w (x s) ≠ nI 116 ∧ (q_F (x s)).length < (q_F (x (sN (x s)))).length) from fun z => z.1 ht)]
    rw [bk0_fu hW _ s (sN (x s) + 1) r (by omega) h3.1 (by omega), bk0_hi hW _ _ _ _ (by omega) h3.1]
    exact vu_i (by rw [bk0_hi hW _ _ _ _ (by omega) h3.1]; omega)
  · rw [rs1]
    simp only [if_neg hR, if_neg (show ¬ (q_w (x s) = nI 116 ∧ nN (x s) ≤ tot (q_F (x (sN (x s))))) from fun z => by omega)]
    rw [rs1_fu hW _ s (sN (x s) + 1) r (by omega) h3.1 (by omega), rs1_hi hW _ _ _ _ (by omega) h3.1]
    exact vu_i (by rw [rs1_hi hW _ _ _ _ (by omega) h3.1]; omega)
theorem rz_T3 (hW : QWs n x) {s : Nat} {r : Nat → Nat} (hs : s < n) (hV : QV n x r) (ht : q_w (x s) = nI 116) (h : r s = nN (x s)) : rzR x s r = r ∧ rzA x s r = nI 0 ∧ rzE x s r = s + 2 := by
  have h3 := qs_T hW hs ht
  have hl := (hV s hs).1
  have h4 : (q_F (x s)).length = r s := by have := h3.2.2.2.1; omega
  have h5 : nN (x s) ≤ tot (q_F (x (sN (x s)))) := by have := h3.2.2.2.1; omega
  have hR : ¬ q_w (x s) = nI 114 := by rw [ht]; decide
  have hn : ¬ r s < (q_F (x s)).length := by omega
  have hB : q_B (x s) = false := by rw [h3.2.2.2.2.2, decide_eq_false (by omega), Bool.and_false]
  have hVs := ((hV s hs).2.elim (fun z => absurd z hR) id).1 ht
  rw [(rz_0 hn).1, (rz_0 hn).2.1, (rz_0 hn).2.2]
  unfold enR enA
  rw [if_neg (by rw [hB]; decide), if_neg (by rw [hB]; decide), rs1]
  refine ⟨?_, rfl, rfl⟩
  simp only [if_neg hR, if_pos (show q_w (x s) = nI 116 ∧ nN (x s) ≤ tot (q_F (x (sN (x s)))) from ⟨ht, h5⟩)]
  by_cases h0 : (q_F (x s)).length = 0
  · simp only [if_pos h0]; exact vu_i (by omega)
  · simp only [if_neg h0]
    rw [rs0_no hW _ _ _ _ (by omega) hV (cf_of (by omega))]
    exact vu_i (by omega)
/-- by 'a', 'd', 'k' -/
theorem rz_L1 (hW : QWs n x) {s : Nat} {r : Nat → Nat} (hs : s < n) (hR : q_w (x s) ≠ nI 114) (ht : q_w (x s) ≠ nI 116) (h : r s < (q_F (x s)).length) : rzR x s r = va_up (rs0 x (sN (x s) + 1) (sN (x s)) (r s + 1) r) s (r s + 1) := by
  have h1 := qs_lt hW hs hR
  rw [(rz_1 h).1, rs0]
  simp only [if_neg hR, if_neg ht]
  rw [rs0_fu hW _ s (sN (x s) + 1) _ r (by omega) h1 (by omega), rs0_hi hW _ _ _ _ _ (by omega) h1]
  congr 1; omega
theorem rz_L0 (hW : QWs n x) {s : Nat} {r : Nat → Nat} (hs : s < n) (hR : q_w (x s) ≠ nI 114) (ht : q_w (x s) ≠ nI 116) (h : r s = (q_F (x s)).length) (hl : (q_F (x s)).length < (q_F (x (sN (x s)))).length) : rzR x s r = rs0 x (sN (x s) + 1) (sN (x s)) (r s + 1) r ∧ rzA x s r = -1 := by
  have h1 := qs_lt hW hs hR
  have h2 := (qs_L hW hs hR ht).2.2.2.2.2.1 hl
  have hn : ¬ r s < (q_F (x s)).length := by omega
  rw [(rz_0 hn).1, (rz_0 hn).2.1]
  unfold enR enA
  rw [if_pos h2.2.2, if_pos h2.2.2, bk0]
  refine ⟨?_, rfl⟩
  simp only [if_neg hR, if_pos (show q_w (x s) ≠ nI 116 ∧ (q_F (x s)).length < (q_F (x (sN (x s)))).length from ⟨ht, hl⟩)]
  rw [rs0_fu hW _ s (sN (x s) + 1) _ r (by omega) h1 (by omega), ← h]
  exact vu_i (by rw [rs0_hi hW _ _ _ _ _ (by omega) h1]; omega)
theorem rz_L2 (hW : QWs n x) {s : Nat} {r : Nat → Nat} (hs : s < n) (hR : q_w (x s) ≠ nI 114) (ht : q_w (x s) ≠ nI 116) (h : r s = (q_F (x s)).length) (hl : (q_F (x s)).length = (q_F (x (sN (x s)))).length) : rzR x s r = enR x (sN (x s)) r ∧ rzA x s r = enA x (sN (x s)) := by
  have h1 := qs_lt hW hs hR
  have hB := (qs_L hW hs hR ht).2.2.2.2.2.2 hl
  have hn : ¬ r s < (q_F (x s)).length := by omega
  rw [(rz_0 hn).1, (rz_0 hn).2.1]
  refine ⟨?_, by unfold enA; rw [hB]⟩
  unfold enR
  rw [hB]
  split
  · rw [bk0]
    simp only [if_neg hR, if_neg (show ¬ (q_w (x s) ≠ nI 116 ∧ (q_F (x s)).length < (q_F (x (sN (x s)))).length) from fun z => by omega)]
    rw [bk0_fu hW _ s (sN (x s) + 1) r (by omega) h1 (by omega)]
    exact vu_i (by rw [bk0_hi hW _ _ _ _ (by omega) h1]; omega)
  · rw [rs1]
    simp only [if_neg hR, if_neg (show ¬ (q_w (x s) = nI 116 ∧ nN (x s) ≤ tot (q_F (x (sN (x s))))) from fun z => ht z.1)]
    rw [rs1_fu hW _ s (sN (x s) + 1) r (by omega) h1 (by omega)]
    exact vu_i (by rw [rs1_hi hW _ _ _ _ (by omega) h1]; omega)
end PU2
/-! capacities and costs -/
def cp (m : Nat) : Nat := if m = 0 then 0 else if m ≤ 10 then 10 else if m ≤ 15 then 15 else if m ≤ 22 then 22 else 33
def gNc (c : Nat) : Nat := if c < 10 then 0 else if c < 15 then 1 else if c < 22 then 2 else if c < 33 then 3 else 4
def hNc (c : Nat) : Nat := if c < 10 then 0 else if c < 15 then 10 else if c < 22 then 40 else if c < 33 then 80 else 134
def capB (c : Nat) : Prop := c = 0 ∨ c = 10 ∨ c = 15 ∨ c = 22 ∨ c = 33
theorem cp_st : ∀ c ∈ [0, 10, 15, 22, 33], ∀ p, p < 24 → gcN p (max c (cp p)) = max c (cp (p + 1)) ∧ gNc (max c (cp (p + 1))) = gNc (max c (cp p)) + gcC p (max c (cp p)) ∧ hNc (max c (cp (p + 1))) = hNc (max c (cp p)) + gcS p (max c (cp p)) := by decide +kernel
theorem capB.in {c : Nat} (h : capB c) : c ∈ [0, 10, 15, 22, 33] := by
  rcases h with h | h | h | h | h <;> rw [h] <;> decide
theorem cp_le {p q : Nat} (h : p ≤ q) : cp p ≤ cp q := by unfold cp; (repeat' split) <;> omega
theorem gNc_le {p q : Nat} (h : p ≤ q) : gNc p ≤ gNc q := by unfold gNc; (repeat' split) <;> omega
theorem hNc_le {p q : Nat} (h : p ≤ q) : hNc p ≤ hNc q := by unfold hNc; (repeat' split) <;> omega
def sumN (f : Nat → Nat) : Nat → Nat
  | 0 => 0
  | n + 1 => sumN f n + f n
theorem sumN_c {f g : Nat → Nat} : ∀ n, (∀ j, j < n → f j = g j) → sumN f n = sumN g n := by
  intro n
  induction n with
  | zero => intro _; rfl
  | succ n ih => intro h; rw [sumN, sumN, ih (fun j hj => h j (by omega)), h n (by omega)]
theorem sumN_le {f g : Nat → Nat} : ∀ n, (∀ j, j < n → f j ≤ g j) → sumN f n ≤ sumN g n := by
  intro n
  induction n with
  | zero => intro _; exact Nat.le_refl _
  | succ n ih => intro h; have := ih (fun j hj => h j (by omega)); have := h n (by omega); rw [sumN, sumN]; omega
theorem sumN_up {f g : Nat → Nat} {s : Nat} : ∀ n, s < n → (∀ j, j ≠ s → f j = g j) → sumN f n + g s = sumN g n + f s := by
  intro n
  induction n with
  | zero => intro h _; exact absurd h (Nat.not_lt_zero _)
  | succ n ih =>
    intro h hj
    rw [sumN, sumN]
    by_cases e : s = n
    · rw [e, sumN_c n (fun j hjn => hj j (by omega))]; omega
    · have := ih (by omega) hj
      have := hj n (fun z => e z.symm)
      omega
abbrev capR (x : Nat → QIS) (r : Nat → Nat) (j : Nat) : Nat := max (q_cp (x j)) (cp (r j))
def PC (n : Nat) (x : Nat → QIS) (r : Nat → Nat) : Nat := sumN (fun j => 4 * r j + gNc (capR x r j)) n
def PS (n : Nat) (x : Nat → QIS) (r : Nat → Nat) : Nat := sumN (fun j => 16 * r j + hNc (capR x r j)) n
/-- the state: the same sequences, r of their chunks realised -/
def setR (x : Nat → QIS) (r : Nat → Nat) : Nat → QIS := fun j => (q_o (x j), q_F (x j), q_B (x j), r j, capR x r j)
theorem PC_mono {n : Nat} {x : Nat → QIS} {r r' : Nat → Nat} (h : ∀ j, j < n → r j ≤ r' j) : PC n x r ≤ PC n x r' :=
  sumN_le n (fun j hj => by have a := h j hj; have b := gNc_le (show capR x r j ≤ capR x r' j by have := cp_le a; unfold capR; omega); omega)
theorem PS_mono {n : Nat} {x : Nat → QIS} {r r' : Nat → Nat} (h : ∀ j, j < n → r j ≤ r' j) : PS n x r ≤ PS n x r' :=
  sumN_le n (fun j hj => by have a := h j hj; have b := hNc_le (show capR x r j ≤ capR x r' j by have := cp_le a; unfold capR; omega); omega)
theorem PC_st {n s : Nat} {x : Nat → QIS} {r : Nat → Nat} (hs : s < n) (hc : capB (q_cp (x s))) (hr : r s < 24) : PC n x (va_up r s (r s + 1)) = PC n x r + 4 + gcC (r s) (capR x r s) ∧ PS n x (va_up r s (r s + 1)) = PS n x r + 16 + gcS (r s) (capR x r s) := by
  obtain ⟨-, e2, e3⟩ := cp_st _ hc.in (r s) hr
  have n1 : ∀ j, j ≠ s → va_up r s (r s + 1) j = r j := fun j hj => by rw [va_up_app, if_neg hj]
  have n2 : va_up r s (r s + 1) s = r s + 1 := by rw [va_up_app, if_pos rfl]
  constructor
  · have := sumN_up (f := fun j => 4 * va_up r s (r s + 1) j + gNc (capR x (va_up r s (r s + 1)) j)) (g := fun j => 4 * r j + gNc (capR x r j)) n hs (fun j hj => by show 4 * va_up r s (r s + 1) j + gNc (max (q_cp (x j)) (cp (va_up r s (r s + 1) j))) = _; rw [n1 j hj])
    have t : 4 * va_up r s (r s + 1) s + gNc (max (q_cp (x s)) (cp (va_up r s (r s + 1) s))) = 4 * (r s + 1) + (gNc (max (q_cp (x s)) (cp (r s))) + gcC (r s) (max (q_cp (x s)) (cp (r s)))) := by rw [n2, e2]
    unfold PC
    simp only [capR] at this t ⊢
    omega
  · have := sumN_up (f := fun j => 16 * va_up r s (r s + 1) j + hNc (capR x (va_up r s (r s + 1)) j)) (g := fun j => 16 * r j + hNc (capR x r j)) n hs (fun j hj => by show 16 * va_up r s (r s + 1) j + hNc (max (q_cp (x j)) (cp (va_up r s (r s + 1) j))) = _; rw [n1 j hj])
    have t : 16 * va_up r s (r s + 1) s + hNc (max (q_cp (x s)) (cp (va_up r s (r s + 1) s))) = 16 * (r s + 1) + (hNc (max (q_cp (x s)) (cp (r s))) + gcS (r s) (max (q_cp (x s)) (cp (r s)))) := by rw [n2, e3]
    unfold PS
    simp only [capR] at this t ⊢
    omega
