/-! Bounds kept by commit. -/
theorem RB_cmC {N t : Nat} : ∀ m r S, r + m ≤ RS_rn S → RB N S → (RS_lg S).length + m ≤ 6 * N → RB N (cmC t m r S) := by
  intro m
  induction m with
  | zero => intro r S _ H _; exact H
  | succ m ih =>
    intro r S hr H hl
    rw [cmC]
    split
    · refine ih (r + 1) _ (by show r + 1 + m ≤ RS_rn S; omega) (RB_rec H (by omega) (by omega)) ?_
      show (RS_lg S ++ [(RS_mo S, r, (lastq (RS_rr S r)).2, vth (RS_tt S t) (RS_rr S r) r)]).length + m ≤ 6 * N
      rw [List.length_append]
      show (RS_lg S).length + 1 + m ≤ 6 * N
      omega
    · exact ih (r + 1) S (by omega) H (by omega)
theorem dlF_le {N k : Nat} : ∀ (l : List (Nat × Int32)) (A : Nat → OAS), (∀ a, a < k → (OA_row (A a)).length ≤ 12 ∧ OA_er (A a) ≤ N) → ∀ a, a < k → (OA_row (dlF l A a)).length ≤ 12 ∧ OA_er (dlF l A a) ≤ N
  | [], A, h => h
  | q :: l, A, h => by
    refine dlF_le l _ (fun a ha => ?_)
    rw [va_up_app]
    by_cases z : a = q.1
    · rw [if_pos z, ← z]; exact ⟨tkL_le (h a ha).1, (h a ha).2⟩
    · rw [if_neg z]; exact h a ha
theorem cmA_s {t : Nat} : ∀ m r S, RS_rn (cmA t m r S).2 = RS_rn S ∧ RS_lg (cmA t m r S).2 = RS_lg S := by
  have g : ∀ r S, RS_rn (gos t r true 3 S).2 = RS_rn S ∧ RS_lg (gos t r true 3 S).2 = RS_lg S := fun r S => by
    obtain ⟨f, hf⟩ := gos_utt t r true 3 S
    rw [hf]; exact ⟨rfl, rfl⟩
  intro m
  induction m with
  | zero => intro r S; exact ⟨rfl, rfl⟩
  | succ m ih =>
    intro r S
    rw [cmA]
    split
    · split
      · exact g r S
      · obtain ⟨a, b⟩ := ih (r + 1) (gos t r true 3 S).2
        exact ⟨a.trans (g r S).1, b.trans (g r S).2⟩
    · exact ih (r + 1) S
theorem RB_commit {n : Nat} {S : RS} (H : RB n S) (hn : n < 600) {v : Int32} {t : Nat} (hv : ixB v 3 = true → v = nI t ∧ t < 3) : RB (n + 1) (o_commit S v t).2.2 := by
  have H1 := RB_up H hn
  unfold o_commit
  split
  · exact H1
  · next g =>
    have ht := (hv (nb_t9 g)).2
    have A0 : RB n (cmA t (RS_rn S) 0 S).2 := RB_cmA ht _ _ _ H
    have A1 := RB_up A0 hn
    have As := cmA_s (t := t) (RS_rn S) 0 S
    split
    · exact H1
    · split
      · exact A1
      · split
        · obtain ⟨b1, b2, b3, b4⟩ := A1.2.1 t ht
          exact RB_utt A1 ⟨b1, b2, Nat.zero_le _, fun q hq => nomatch hq⟩
        · generalize hA : (cmA t (RS_rn S) 0 S).2 = A at A0 A1 As
          generalize (cmB A t (RS_rn S) 0 false false).2 = b
          have E : RB (n + 1) (cmE A t b) := by
            obtain ⟨b1, b2, b3, b4⟩ := A1.2.1 t ht
            have U : RB (n + 1) (RS_utt1 A t (OT_uop (RS_tt A t) false)) := RB_utt A1 ⟨b1, b2, b3, b4⟩
            have := A0.1.2.2.2.1
            exact RB_umo U (by cases b <;> simp <;> omega)
          have hlg := A0.1.2.2.2.2.2.1
          have hrn := A0.1.2.1
          have C := RB_cmC (N := n + 1) (t := t) (RS_rn S) 0 (cmE A t b) (by show 0 + RS_rn S ≤ RS_rn A; rw [As.1]; omega) E (by show (RS_lg A).length + RS_rn S ≤ 6 * (n + 1); have := As.1; omega)
          generalize cmC t (RS_rn S) 0 (cmE A t b) = Z at C
          have G : RB (n + 1) (cmG Z t) := ⟨C.1, C.2.1, C.2.2.1, dlF_le _ _ C.2.2.2⟩
          obtain ⟨b1, b2, b3, b4⟩ := G.2.1 t ht
          exact RB_utt G ⟨b1, b2, Nat.zero_le _, fun q hq => nomatch hq⟩
