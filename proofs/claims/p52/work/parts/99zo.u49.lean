/-! Bounds kept by addAgent and send. -/
theorem RB_addAgent {n : Nat} {S : RS} (H : RB n S) (hn : n < 600) {v lo hi md : Int32} : RB (n + 1) (o_addAgent S v lo hi md).2.2 := by
  have H1 := RB_up H hn
  unfold o_addAgent
  split
  · exact H1
  · split
    · exact H1
    · next e =>
      obtain ⟨⟨a1, a2, a3, a4, a5, a6, a7⟩, b, c, d⟩ := H1
      refine ⟨⟨a1, a2, by show RS_an S + 1 ≤ 4; omega, a4, a5, a6, a7⟩, fun t ht => ?_, c, fun u hu => ?_⟩
      · obtain ⟨b1, b2, b3, b4⟩ := b t ht
        exact ⟨b1, b2, b3, fun q hq => by have := b4 q hq; exact ⟨by show q.1 < RS_an S + 1; omega, this.2⟩⟩
      · have hu : u < RS_an S + 1 := hu
        have e2 : RS_aa (RS_uaa (RS_uan S (RS_an S + 1)) (va_up (RS_aa S) (RS_an S) (v, lo, hi, md, false, 0, []))) u = if u = RS_an S then (v, lo, hi, md, false, 0, []) else RS_aa S u := va_up_app
        show (OA_row (RS_aa (RS_uaa (RS_uan S (RS_an S + 1)) (va_up (RS_aa S) (RS_an S) (v, lo, hi, md, false, 0, []))) u)).length ≤ 12 ∧ _
        rw [e2]
        by_cases z : u = RS_an S
        · rw [if_pos z]; exact ⟨Nat.zero_le _, Nat.zero_le _⟩
        · rw [if_neg z]; exact d u (by omega)
theorem RB_send {n : Nat} {S : RS} (H : RB n S) (hn : n < 600) {v w z : Int32} {t a : Nat} (hv : ixB v 3 = true → v = nI t ∧ t < 3) (hw : ixB w (RS_an S) = true → w = nI a ∧ a < RS_an S) : RB (n + 1) (o_send S v t w a z).2.2 := by
  have H1 := RB_up H hn
  unfold o_send
  split
  · exact H1
  · next g =>
    split
    · exact H1
    · next g2 =>
      have ha := (hw (nb_t9 g2)).2
      split
      · exact H1
      · split
        · refine RB_uaa H1 ?_
          have := H1.2.2.2 a ha
          exact ⟨tkL_le this.1, this.2⟩
        · next g3 =>
          have ht : t < 3 := by
            by_cases q : ixB v 3 = true
            · exact (hv q).2
            · exact absurd (Or.inl ⟨g3, by cases r : ixB v 3 with | true => exact absurd r q | false => rfl⟩) g
          have hz : -128 ≤ z.toInt ∧ z.toInt ≤ 127 := by
            have q : inB z (-99) (nI 99) = true := by
              cases r : inB z (-99) (nI 99) with
              | true => rfl
              | false => exact absurd (Or.inr r) g
            unfold inB at q
            rw [Bool.and_eq_true, decide_eq_true_iff, decide_eq_true_iff, i32_le, i32_le, nI_toInt (by decide)] at q
            have e1 : (-99 : Int32).toInt = -99 := by decide
            omega
          obtain ⟨b1, b2, b3, b4⟩ := H.2.1 t ht
          refine RB_utt H1 ⟨by show OT_pt (RS_tt S t) ≤ n + 1; omega, by show OT_ag (RS_tt S t) ≤ n + 1; omega, by show (OT_sq (RS_tt S t) ++ [(a, z)]).length ≤ n + 1; rw [List.length_append]; show _ + 1 ≤ _; omega, fun q hq => ?_⟩
          rcases List.mem_append.mp hq with y | y
          · exact b4 q y
          · rw [List.mem_singleton.mp y]; exact ⟨ha, hz⟩
