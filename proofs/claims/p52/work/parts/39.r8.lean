/-! The model: send. -/
theorem in99 {z : Int32} (h : inB z (-99) (nI 99) = true) : -128 ≤ z.toInt ∧ z.toInt ≤ 127 := by
  unfold inB at h
  have h1 := Bool.and_eq_true_iff.mp h
  have a := i32_le.mp (of_decide_eq_true h1.1)
  have b := i32_le.mp (of_decide_eq_true h1.2)
  have c : (-99 : Int32).toInt = -99 := by decide
  have d : (nI 99).toInt = 99 := by decide
  omega
def o_send (S : RS) (v : Int32) (t : Nat) (w : Int32) (a : Nat) (z : Int32) : Int32 × Int32 × RS :=
  if (v ≠ -1 ∧ (!ixB v 3) = true) ∨ inB z (-99) (nI 99) = false then (nI 1, nI 0, S) else if (!ixB w (RS_an S)) = true then (nI 2, nI 0, S) else if v ≠ -1 ∧ (!OT_op (RS_tt S t)) = true then (nI 3, nI 0, S)
  else if v = -1 then (nI 0, nI (tkL (OA_row (RS_aa S a)) z).length, RS_uaa1 S a (OA_urow (RS_aa S a) (tkL (OA_row (RS_aa S a)) z)))
  else (nI 0, nI (OA_row (RS_aa S a)).length, RS_utt1 S t (OT_usq (RS_tt S t) (OT_sq (RS_tt S t) ++ [(a, z)])))
