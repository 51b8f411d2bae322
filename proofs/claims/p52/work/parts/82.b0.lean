/-! What every call keeps: the bounds of the references. -/
theorem RB_up {n : Nat} {S : RS} (H : RB n S) (hn : n < 600) : RB (n + 1) S := by
  obtain ⟨⟨a1, a2, a3, a4, a5, a6, a7⟩, b, c, d⟩ := H
  exact ⟨⟨by omega, a2, a3, by omega, by omega, by omega, a7⟩, fun t ht => ⟨by have := (b t ht).1; omega, by have := (b t ht).2.1; omega, by have := (b t ht).2.2.1; omega, (b t ht).2.2.2⟩,
    fun r hr => ⟨(c r hr).1, (c r hr).2.1, (c r hr).2.2.1, fun q hq => by have := (c r hr).2.2.2 q hq; omega⟩, fun a ha => ⟨(d a ha).1, by have := (d a ha).2; omega⟩⟩
theorem RB_utt {n t : Nat} {S : RS} {y : OTS} (H : RB n S) (h : OT_pt y ≤ n ∧ OT_ag y ≤ n ∧ (OT_sq y).length ≤ n ∧ ∀ q, q ∈ OT_sq y → q.1 < RS_an S ∧ -128 ≤ q.2.toInt ∧ q.2.toInt ≤ 127) : RB n (RS_utt1 S t y) := by
  refine ⟨H.1, fun u hu => ?_, H.2.2⟩
  have e : RS_tt (RS_utt1 S t y) u = if u = t then y else RS_tt S u := va_up_app
  rw [e]
  by_cases z : u = t
  · rw [if_pos z]; exact h
  · rw [if_neg z]; exact H.2.1 u hu
theorem RB_urr {n r : Nat} {S : RS} {y : ORS} (H : RB n S) (h : 1 ≤ (OR_hs y).length ∧ (OR_hs y).length ≤ OR_lim y ∧ OR_lim y ≤ 8 ∧ ∀ q, q ∈ OR_hs y → q.1 ≤ n) : RB n (RS_urr1 S r y) := by
  refine ⟨H.1, H.2.1, fun u hu => ?_, H.2.2.2⟩
  have e : RS_rr (RS_urr1 S r y) u = if u = r then y else RS_rr S u := va_up_app
  rw [e]
  by_cases z : u = r
  · rw [if_pos z]; exact h
  · rw [if_neg z]; exact H.2.2.1 u hu
theorem RB_uaa {n a : Nat} {S : RS} {y : OAS} (H : RB n S) (h : (OA_row y).length ≤ 12 ∧ OA_er y ≤ n) : RB n (RS_uaa1 S a y) := by
  refine ⟨H.1, H.2.1, H.2.2.1, fun u hu => ?_⟩
  have e : RS_aa (RS_uaa1 S a y) u = if u = a then y else RS_aa S u := va_up_app
  rw [e]
  by_cases z : u = a
  · rw [if_pos z]; exact h
  · rw [if_neg z]; exact H.2.2.2 u hu
theorem RB_ubg {n m : Nat} {S : RS} (H : RB n S) (hm : m ≤ n) : RB n (RS_ubg S m) := by
  obtain ⟨⟨a1, a2, a3, a4, a5, a6, a7⟩, b, c, d⟩ := H
  exact ⟨⟨a1, a2, a3, a4, hm, a6, a7⟩, b, c, d⟩
theorem RB_begin {n : Nat} {S : RS} (H : RB n S) (hn : n < 600) {v : Int32} {t : Nat} : RB (n + 1) (o_begin S v t).2.2 := by
  have H1 := RB_up H hn
  unfold o_begin
  split
  · exact H1
  · split
    · exact H1
    · exact RB_ubg (RB_utt H1 ⟨Nat.le_succ_of_le H.1.2.2.2.1, Nat.le_succ_of_le H.1.2.2.2.2.1, Nat.zero_le _, fun q hq => nomatch hq⟩) (by have := H.1.2.2.2.2.1; omega)
theorem RB_end {n : Nat} {S : RS} (H : RB n S) (hn : n < 600) {v : Int32} {t : Nat} (hv : ixB v 3 = true → v = nI t ∧ t < 3) : RB (n + 1) (o_end S v t).2.2 := by
  have H1 := RB_up H hn
  unfold o_end
  split
  · exact H1
  · next e =>
    have ht : t < 3 := (hv (by revert e; cases ixB v 3 <;> simp)).2
    split
    · exact H1
    · exact RB_utt H1 ⟨(H1.2.1 t ht).1, (H1.2.1 t ht).2.1, Nat.zero_le _, fun q hq => nomatch hq⟩
