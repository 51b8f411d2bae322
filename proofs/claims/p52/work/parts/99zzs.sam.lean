/-! When two values are the same: by the class, by the rows of the law. -/
section SAMV
variable {V : SV} {v w : Nat}
def samB (V : SV) (v w : Nat) : Bool := decide (decide (sTy V v = 109) = decide (sTy V w = 109)) && decide (sSz V v = sSz V w) && smA V v w (smN V v)
theorem an_same (hv : v < sNv V) (hw : w < sNv V) (hn : sNv V < 2 ^ 31) : dA [-20001, -20005] (o_areSame V (nI v) v (nI w) w) = if sTy V v = 120 ∨ sTy V w = 120 then -20005 else bI (samB V v w) := by
  have e : ¬ (ixB (nI v) (sNv V) && ixB (nI w) (sNv V)) = false := by rw [ixB_n1 hv hn, ixB_n1 hw hn]; decide
  unfold o_areSame
  rw [if_neg e]
  by_cases a : sTy V v = 120 ∨ sTy V w = 120
  · rw [if_pos a, if_pos a]; rfl
  · rw [if_neg a, if_neg a]; rfl
theorem smA_iffL : ∀ n, smA V v w n = true ↔ ∀ j, j < n → smK V v w j = true := by
  intro n
  induction n with
  | zero => exact ⟨fun _ j hj => absurd hj (Nat.not_lt_zero _), fun _ => rfl⟩
  | succ n ih =>
    rw [smA, Bool.and_eq_true, ih]
    refine ⟨fun h j hj => ?_, fun h => ⟨fun j hj => h j (by omega), h n (by omega)⟩⟩
    by_cases e : j = n
    · rw [e]; exact h.2
    · exact h.1 j (by omega)
/-- so many places the law looks at -/
def rwN (V : SV) (v : Nat) : Nat := if sTy V v = 109 then 40 else sSz V v
theorem smK_v {f g : Nat → Int32} (hP : RowP (vp V v) f) (hQ : RowP (vp V w) g) (hs : sSz V v ≤ 64) (ht : sTy V v = 118 ∨ sTy V v = 111) (hu : sTy V w = 118 ∨ sTy V w = 111) (hz : sSz V v = sSz V w) {j : Nat} (hj : j < sSz V v) : smK V v w j = true ↔ f (2 + j) = g (2 + j) := by
  have a1 := vec_el hP ht hj
  have a2 := vec_el hQ hu (show j < sSz V w by omega)
  unfold smK
  rw [(has_v (V := V) (k := v) (by omega) hj hs).1, (has_v (V := V) (k := w) (by omega) (show j < sSz V w by omega) (by omega)).1, if_neg (by omega), a1.1, a2.1]
  show (true == true && decide (sEl V (64 * v + j) = sEl V (64 * w + j))) = true ↔ elv V v j = elv V w j
  unfold elv
  rw [if_pos (by omega), if_pos (by omega)]
  simp
theorem smK_m {f g : Nat → Int32} (H : SVI V) (hv : v < sNv V) (hw : w < sNv V) (hP : RowP (vp V v) f) (hQ : RowP (vp V w) g) (ht : sTy V v = 109) (hu : sTy V w = 109) : (∀ j, j < 1000 → smK V v w j = true) ↔ ∀ j, j < 40 → f (2 + j) = g (2 + j) := by
  obtain ⟨a1, a2, a3⟩ := row_map hP ht
  obtain ⟨b1, b2, b3⟩ := row_map hQ hu
  have a4 : ∀ k, hsv V v k = false → ofv V v k = nI 0 := ((H.2.1 v hv).2.2.2.1 ht).2.2.2
  have b4 : ∀ k, hsv V w k = false → ofv V w k = nI 0 := ((H.2.1 w hw).2.2.2.1 hu).2.2.2
  have key : ∀ j, j < 1000 → (smK V v w j = true ↔ hsv V v j = hsv V w j ∧ ofv V v j = ofv V w j) := fun j hj => by
    unfold smK
    rw [(has_m (V := V) (k := v) ht hj).1, (has_m (V := V) (k := w) hu hj).1, if_pos ht, Bool.and_eq_true, decide_eq_true_iff, beq_iff_eq]
    unfold ofv
    rw [if_pos hj, if_pos hj]
  refine ⟨fun h j hj => ?_, fun h j hj => ?_⟩
  · obtain ⟨c1, c2⟩ := (key (25 * j) (by omega)).mp (h (25 * j) (by omega))
    rw [a1 j hj, b1 j hj, c1, c2]
  · rw [key j hj]
    by_cases q : j % 25 = 0
    · have e := h (j / 25) (by omega)
      rw [a1 _ (by omega), b1 _ (by omega), show 25 * (j / 25) = j by omega] at e
      cases p : hsv V v j with
      | true =>
        rw [p, if_pos rfl] at e
        cases r : hsv V w j with
        | true => rw [r, if_pos rfl] at e; exact ⟨rfl, e⟩
        | false =>
          rw [r, if_neg Bool.false_ne_true] at e
          exact absurd e (smE_ne (a3 j p)).1
      | false =>
        rw [p, if_neg Bool.false_ne_true] at e
        cases r : hsv V w j with
        | true =>
          rw [r, if_pos rfl] at e
          exact absurd e.symm (smE_ne (b3 j r)).1
        | false => exact ⟨rfl, by rw [a4 j p, b4 j r]⟩
    · rw [a2 j q, b2 j q, a4 j (a2 j q), b4 j (b2 j q)]
      exact ⟨rfl, rfl⟩
theorem sam_iff {f g : Nat → Int32} (H : SVI V) (hv : v < sNv V) (hw : w < sNv V) (hP : RowP (vp V v) f) (hQ : RowP (vp V w) g) (hx : ¬ (sTy V v = 120 ∨ sTy V w = 120)) : samB V v w = true ↔ ((sTy V v = 109 ↔ sTy V w = 109) ∧ sSz V v = sSz V w) ∧ ∀ j, j < rwN V v → f (2 + j) = g (2 + j) := by
  unfold samB
  rw [Bool.and_eq_true, Bool.and_eq_true, decide_eq_true_iff, decide_eq_true_iff, smA_iffL]
  have hd : (decide (sTy V v = 109) = decide (sTy V w = 109)) ↔ (sTy V v = 109 ↔ sTy V w = 109) := decide_eq_decide
  rw [hd]
  refine and_congr_right (fun hc => ?_)
  unfold smN rwN
  by_cases m : sTy V v = 109
  · rw [if_pos m, if_pos m]
    exact smK_m H hv hw hP hQ m (hc.1.mp m)
  · have m2 : ¬ sTy V w = 109 := fun z => m (hc.1.mpr z)
    have t1 := (H.2.1 v hv).1
    have t2 := (H.2.1 w hw).1
    have t1 : sTy V v = 118 ∨ sTy V v = 111 ∨ sTy V v = 109 ∨ sTy V v = 120 := t1
    have t2 : sTy V w = 118 ∨ sTy V w = 111 ∨ sTy V w = 109 ∨ sTy V w = 120 := t2
    have hs : sSz V v ≤ 64 := (H.2.1 v hv).2.1
    rw [if_neg m, if_neg m]
    exact ⟨fun h j hj => (smK_v hP hQ hs (by omega) (by omega) hc.2 hj).mp (h j hj), fun h j hj => (smK_v hP hQ hs (by omega) (by omega) hc.2 hj).mpr (h j hj)⟩
end SAMV
/-- what holds before each round of the law -/
def LSt (k K J c M n : Nat) (V : SV) (x : Nat → QIS) (R : RS) (ro : Nat → Nat) (rf : Nat → Nat → Int32) (op : Nat → Bool) (h : Hp) : Prop :=
  PU c V n x R ∧ c ≤ 4 * k ∧ (∀ v, v < sNv V → RowP (vp V v) (rf v)) ∧ IN0 V ∧ QBd n x ∧ RI k R ∧ OPI op R ∧ CLS h V M n x R ∧ LWH h (sNv V) n (RS_rn R) ro rf K J op
