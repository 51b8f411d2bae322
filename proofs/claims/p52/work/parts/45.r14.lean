/-! The model: commit. -/
theorem cmA_utt (t : Nat) : ∀ m r S, ∃ f, (cmA t m r S).2 = RS_utt S f := by
  intro m
  induction m with
  | zero => intro r S; exact ⟨RS_tt S, rfl⟩
  | succ m ih =>
    intro r S
    rw [cmA]
    split
    · obtain ⟨f, hf⟩ := gos_utt t r true 3 S
      split
      · exact ⟨f, hf⟩
      · obtain ⟨f2, hf2⟩ := ih (r + 1) (gos t r true 3 S).2
        rw [hf2, hf]
        exact ⟨f2, rfl⟩
    · exact ih (r + 1) S
theorem cmC_same (t : Nat) : ∀ m r S, ∃ v f, cmC t m r S = RS_urr (RS_ulg S v) f := by
  intro m
  induction m with
  | zero => intro r S; exact ⟨RS_lg S, RS_rr S, rfl⟩
  | succ m ih =>
    intro r S
    rw [cmC]
    split
    · obtain ⟨v, f, hf⟩ := ih (r + 1) (RS_urr1 (RS_ulg S (RS_lg S ++ [(RS_mo S, r, (lastq (RS_rr S r)).2, vth (RS_tt S t) (RS_rr S r) r)])) r (OR_uhs (RS_rr S r) (cmH (OR_hs (RS_rr S r)) (OR_lim (RS_rr S r)) (RS_mo S, vth (RS_tt S t) (RS_rr S r) r))))
      exact ⟨v, f, hf.trans rfl⟩
    · exact ih (r + 1) S
theorem pot_le (A : Nat → OAS) : pot A ≤ 48 := by unfold pot; omega
/-- commit, where the changes stay in their bounds -/
def cmE (S : RS) (t : Nat) (b : Bool) : RS :=
  RS_umo (RS_utt1 S t (OT_uop (RS_tt S t) false)) (RS_mo S + if b = true then 1 else 0)
def cmG (S : RS) (t : Nat) : RS := RS_uaa S (dlF (OT_sq (RS_tt S t)) (RS_aa S))
def o_commit (S : RS) (v : Int32) (t : Nat) : Int32 × Int32 × RS :=
  if (!ixB v 3) = true then (nI 1, nI 0, S) else if (!OT_op (RS_tt S t)) = true then (nI 2, nI 0, S)
  else if (cmA t (RS_rn S) 0 S).1 = false then (nI 0, nI 115, (cmA t (RS_rn S) 0 S).2)
  else if (cmB (cmA t (RS_rn S) 0 S).2 t (RS_rn S) 0 false false).1 = true then (nI 0, nI 98, RS_utt1 (cmA t (RS_rn S) 0 S).2 t (fgt (OT_uop (RS_tt (cmA t (RS_rn S) 0 S).2 t) false)))
  else (nI 0, nI 99, (fun Z => RS_utt1 Z t (fgt (RS_tt Z t))) (cmG (cmC t (RS_rn S) 0 (cmE (cmA t (RS_rn S) 0 S).2 t (cmB (cmA t (RS_rn S) 0 S).2 t (RS_rn S) 0 false false).2)) t))
