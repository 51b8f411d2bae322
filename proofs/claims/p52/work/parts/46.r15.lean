/-! The model: commit, whole. -/
theorem gos_t {t r : Nat} {e : Bool} : ∀ m S, (gos t r e m S).1 = true → RS_tt (gos t r e m S).2 t = RS_tt S t := by
  intro m
  induction m with
  | zero => intro S _; rfl
  | succ m ih =>
    intro S h
    rw [gos] at h ⊢
    split at h
    · next c =>
      rw [if_pos c]
      split at h
      · cases h
      · next c2 => rw [if_neg c2, ih _ h]; exact va_up_ne _ _ (fun z => c.1.1 z.symm)
    · next c => rw [if_neg c]; exact ih S h
theorem cmA_t {t : Nat} : ∀ m r S, (cmA t m r S).1 = true → RS_tt (cmA t m r S).2 t = RS_tt S t := by
  intro m
  induction m with
  | zero => intro r S _; rfl
  | succ m ih =>
    intro r S h
    rw [cmA] at h ⊢
    split at h
    · next c =>
      rw [if_pos c]
      split at h
      · cases h
      · next c2 => rw [if_neg c2, ih _ _ h]; exact gos_t 3 S (by revert c2; cases (gos t r true 3 S).1 <;> simp)
    · next c => rw [if_neg c]; exact ih _ S h
theorem cgN_op {y : OTS} {b : Bool} : ∀ m r, cgN (OT_uop y b) m r = cgN y m r := by
  intro m
  induction m with
  | zero => intro r; rfl
  | succ m ih => intro r; rw [cgN, cgN, ih (r + 1)]; rfl
theorem JC.frr {h h' : Hp} (J : JC h) (hG : FRR h h') : JC h' := J.fr (fun i => hG.1 _ (by unfold WRR nm; omega))
theorem cmC_tt {t m r : Nat} {S : RS} : RS_tt (cmC t m r S) = RS_tt S ∧ RS_aa (cmC t m r S) = RS_aa S ∧ RS_an (cmC t m r S) = RS_an S ∧ RS_rn (cmC t m r S) = RS_rn S := by
  obtain ⟨v, f, e⟩ := cmC_same t m r S
  rw [e]
  exact ⟨rfl, rfl, rfl, rfl⟩
theorem cmE_tt {S : RS} {t : Nat} {b : Bool} : RS_tt (cmE S t b) t = OT_uop (RS_tt S t) false := va_up_self _ _ _
