/-! What holds of the sequences is kept. -/
section QXG
variable {n : Nat} {x : Nat → QIS}
theorem QX.g {ρ κ : Nat → Nat} (H : QX n x) (hV : QV n x ρ) (hc : ∀ s, s < n → capB (κ s)) (hk : ∀ s, s < n → cp (ρ s) ≤ κ s) : QX n (gst x ρ κ) := ⟨⟨fun s hs => H.1.1 s hs, H.1.2.1, hc⟩, hV, hk⟩
theorem q_range {a b c : Int32} {m : Nat} (H : QX n x) (hm : inB c (nI 0) (nI 24) = true → c = nI m ∧ m ≤ 24) : QX (o_range n x a b c m).2.2.1 (o_range n x a b c m).2.2.2 := by
  unfold o_range
  split
  · exact H
  · next g =>
    split
    · exact H
    · next h =>
      have hc : inB c (nI 0) (nI 24) = true := by
        cases q : inB c (nI 0) (nI 24) with
        | true => rfl
        | false => exact absurd (by rw [q, Bool.and_false]) g
      have := H.1.2.1
      exact H.new (by omega) (rngQ_W (hm hc).2 (by rw [va_up_app, if_pos rfl])) rfl rfl
theorem capB_cp (m : Nat) : capB (cp m) := by
  unfold cp capB
  (repeat' split) <;> simp
theorem capB_max {a b : Nat} (ha : capB a) (hb : capB b) : capB (max a b) := by
  by_cases h : a ≤ b
  · rw [Nat.max_eq_right h]; exact hb
  · rw [Nat.max_eq_left (by omega)]; exact ha
theorem QX.stay {r : Nat → Nat} (H : QX n x) : QX n (gst x (rcx x) (capR x r)) := H.g H.2.1 (fun s hs => capB_max (H.1.2.2 s hs) (capB_cp _)) (fun s hs => Nat.le_trans (H.2.2 s hs) (Nat.le_max_left _ _))
theorem QX.set {r : Nat → Nat} (H : QX n x) (hV : QV n x r) : QX n (setR x r) := H.g (ρ := r) (κ := capR x r) hV (fun s hs => capB_max (H.1.2.2 s hs) (capB_cp _)) (fun s hs => Nat.le_max_right _ _)
theorem q_over {u : Int32} {s wn : Nat} {m : Int32} (H : QX n x) (hu : ixB u n = true → u = nI s ∧ s < n) : QX (o_over n x u s wn m).2.2.1 (o_over n x u s wn m).2.2.2 := by
  unfold o_over
  split
  · exact H
  · next a =>
    have hs := (hu (nb_t9 a)).2
    split
    · exact H
    · next g =>
      split
      · exact H
      · next h =>
        have := H.1.2.1
        have g2 : (isW wn && inB m (lowQ wn) (nI 99)) = true := by
          cases q : (isW wn && inB m (lowQ wn) (nI 99)) with
          | true => rfl
          | false => exact absurd q g
        rw [Bool.and_eq_true] at g2
        have hw : wn = 97 ∨ wn = 100 ∨ wn = 107 ∨ wn = 116 := by
          have := g2.1
          unfold isW at this
          simp only [Bool.or_eq_true, decide_eq_true_eq] at this
          omega
        exact H.new (by omega) (ovQ_W hs (by omega) ⟨(H.1.1 s hs).1, (H.1.1 s hs).2.1, (H.1.1 s hs).2.2.1⟩ hw g2.2 (by rw [va_up_app, if_neg (by omega)]) (by rw [va_up_app, if_pos rfl])) (by unfold ovQ; split <;> rfl) (by unfold ovQ; split <;> rfl)
theorem q_at {u v : Int32} {s p : Nat} (H : QX n x) (hu : ixB u n = true → u = nI s ∧ s < n) : QX (o_at n x u s v p).2.2.1 (o_at n x u s v p).2.2.2 := by
  unfold o_at
  split
  · exact H
  · next a =>
    have hs := (hu (nb_t9 a)).2
    split
    · exact H.stay
    · next g => exact H.set (rs0_V H.1.1 s (s + 1) _ _ hs (Nat.lt_succ_self s) H.2.1 (cf_le (by omega)))
theorem q_all {u : Int32} {s : Nat} (H : QX n x) (hu : ixB u n = true → u = nI s ∧ s < n) : QX (o_all n x u s).2.2.1 (o_all n x u s).2.2.2 := by
  unfold o_all
  split
  · exact H
  · next a =>
    have hs := (hu (nb_t9 a)).2
    split
    · exact H.stay
    · next g =>
      have e : enR x s (rcx x) = rs1 x (s + 1) s (rcx x) := if_neg g
      rw [e]
      exact H.set (rs1_V H.1.1 s (s + 1) _ hs (Nat.lt_succ_self s) H.2.1)
theorem q_collect {S : SV} {u : Int32} {s : Nat} (H : QX n x) (hu : ixB u n = true → u = nI s ∧ s < n) : QX (o_collect S n x u s).2.2.2.1 (o_collect S n x u s).2.2.2.2 := by
  unfold o_collect
  split
  · exact H
  · next a =>
    have hs := (hu (nb_t9 a)).2
    split
    · exact H.stay
    · next g =>
      split
      · exact H.stay
      · split
        · exact H.stay
        · have e : enR x s (rcx x) = rs1 x (s + 1) s (rcx x) := if_neg g
          rw [e]
          exact H.set (rs1_V H.1.1 s (s + 1) _ hs (Nat.lt_succ_self s) H.2.1)
theorem QX.init {x : Nat → QIS} : QX 0 x := ⟨⟨fun s hs => absurd hs (Nat.not_lt_zero _), by decide, fun s hs => absurd hs (Nat.not_lt_zero _)⟩, fun s hs => absurd hs (Nat.not_lt_zero _), fun s hs => absurd hs (Nat.not_lt_zero _)⟩
end QXG
