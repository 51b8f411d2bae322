/-! What every call keeps: the bounds of the references, the last. -/
theorem RB_read {n : Nat} {S : RS} (H : RB n S) (hn : n < 600) {v u : Int32} {t r : Nat} (hv : ixB v 3 = true → v = nI t ∧ t < 3) (hu : ixB u (RS_rn S) = true → u = nI r ∧ r < RS_rn S) : RB (n + 1) (o_read S v t u r).2.2 := by
  have H1 := RB_up H hn
  unfold o_read
  split
  · exact H1
  · next e =>
    have ht : t < 3 := (hv (nb_t e)).2
    split
    · exact H1
    · next e2 =>
      have hr : r < RS_rn S := (hu (nb_t e2)).2
      repeat' split
      · exact H1
      · exact H1
      · exact H1
      · have h := H1.2.2.1 r hr
        have h2 : RB (n + 1) (RS_urr1 S r (OR_ulim (RS_rr S r) (OR_lim (RS_rr S r) + 1))) := RB_urr H1 ⟨h.1, by show (OR_hs (RS_rr S r)).length ≤ OR_lim (RS_rr S r) + 1; have := h.2.1; omega, by show OR_lim (RS_rr S r) + 1 ≤ 8; omega, h.2.2.2⟩
        exact RB_sbk h2 ht
      · have h := H1.2.2.1 r hr
        have h2 : RB (n + 1) (RS_urr1 S r (OR_ulim (RS_rr S r) (OR_lim (RS_rr S r) + 0))) := RB_urr H1 h
        exact RB_sbk h2 ht
theorem RB_act {n : Nat} {S : RS} (H : RB n S) (hn : n < 600) {w : Int32} {a : Nat} (hw : ixB w (RS_an S) = true → w = nI a ∧ a < RS_an S) : RB (n + 1) (o_act S w a).2.2 := by
  have H1 := RB_up H hn
  unfold o_act
  split
  · exact H1
  · next e =>
    have ha : a < RS_an S := (hw (nb_t e)).2
    have h := H.2.2.2 a ha
    repeat' split
    · exact H1
    · exact H1
    · refine RB_uaa H1 ?_
      unfold actd
      split
      · exact ⟨by show (OA_row (RS_aa S a)).tail.length ≤ 12; rw [List.length_tail]; omega, by show OA_er (RS_aa S a) + 0 ≤ n + 1; omega⟩
      · exact ⟨by show (OA_row (RS_aa S a)).tail.length ≤ 12; rw [List.length_tail]; omega, by show OA_er (RS_aa S a) + 1 ≤ n + 1; omega⟩
theorem RB_addReference {n : Nat} {S : RS} (H : RB n S) (hn : n < 600) {v lo hi : Int32} : RB (n + 1) (o_addReference S v lo hi).2.2 := by
  have H1 := RB_up H hn
  unfold o_addReference
  split
  · exact H1
  · split
    · exact H1
    · next e =>
      obtain ⟨⟨a1, a2, a3, a4, a5, a6, a7⟩, b, c, d⟩ := H1
      refine ⟨⟨a1, by show RS_rn S + 1 ≤ 6; omega, a3, a4, a5, a6, a7⟩, b, fun u hu => ?_, d⟩
      have hu : u < RS_rn S + 1 := hu
      have e2 : RS_rr (RS_urr (RS_urn S (RS_rn S + 1)) (va_up (RS_rr S) (RS_rn S) (lo, hi, 2, v, [(0, v)]))) u = if u = RS_rn S then (lo, hi, 2, v, [(0, v)]) else RS_rr S u := va_up_app
      show 1 ≤ (OR_hs (RS_rr (RS_urr (RS_urn S (RS_rn S + 1)) (va_up (RS_rr S) (RS_rn S) (lo, hi, 2, v, [(0, v)]))) u)).length ∧ _
      rw [e2]
      by_cases z : u = RS_rn S
      · rw [if_pos z]
        exact ⟨Nat.le_refl _, by show 1 ≤ 2; omega, by show 2 ≤ 8; omega, fun q hq => by rw [List.mem_singleton.mp hq]; exact Nat.zero_le _⟩
      · rw [if_neg z]; exact c u (by omega)
