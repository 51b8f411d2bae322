/-! The model: agents; the log. -/
theorem lgL_get {l : List (Nat × Nat × Int32 × Int32)} {j : Nat} (hj : j < (lgL l).length) : (lgL l)[j] = [nI (l.getD j (0, 0, 0, 0)).1, nI (l.getD j (0, 0, 0, 0)).2.1, (l.getD j (0, 0, 0, 0)).2.2.1, (l.getD j (0, 0, 0, 0)).2.2.2] := by
  have h2 : j < l.length := by rwa [lgL_len] at hj
  have : l.getD j (0, 0, 0, 0) = l[j] := by simp [List.getD, List.getElem?_eq_getElem h2]
  rw [this]
  simp only [lgL, List.getElem_map]
theorem row_cons {l : List Int32} (h : ¬ l.length = 0) : ∃ z q, l = z :: q := by
  cases l with
  | nil => exact absurd rfl h
  | cons z q => exact ⟨z, q, rfl⟩
def o_errors (S : RS) (w : Int32) (a : Nat) : Int32 × Int32 × RS :=
  if (!ixB w (RS_an S)) = true then (nI 1, nI 0, S) else (nI 0, nI (OA_er (RS_aa S a)), S)
def o_beginAnew (S : RS) (w : Int32) (a : Nat) (x : Int32) : Int32 × Int32 × RS :=
  if (!ixB w (RS_an S)) = true then (nI 1, nI 0, S) else if inB x (OA_lo (RS_aa S a)) (OA_hi (RS_aa S a)) = false then (nI 2, nI 0, S) else if OA_fl (RS_aa S a) = false then (nI 3, nI 0, S)
  else (nI 0, OA_val (RS_aa S a), RS_uaa1 S a (OA_ufl (OA_uval (RS_aa S a) x) false))
/-- what the agent does with the number z -/
def actd (x : OAS) (z : Int32) (q : List Int32) : OAS :=
  if inB (OA_val x + z) (OA_lo x) (OA_hi x) = true then OA_ufl (OA_uer (OA_uval (OA_urow x q) (OA_val x + z)) (OA_er x + 0)) false
  else OA_ufl (OA_uer (OA_uval (OA_urow x q) (OA_val x)) (OA_er x + 1)) (decide (OA_md x = nI 102))
def o_act (S : RS) (w : Int32) (a : Nat) : Int32 × Int32 × RS :=
  if (!ixB w (RS_an S)) = true then (nI 1, nI 0, S) else if (OA_row (RS_aa S a)).length = 0 then (nI 2, nI 0, S) else if OA_fl (RS_aa S a) = true then (nI 3, nI 0, S)
  else (nI 0, OA_val (actd (RS_aa S a) ((OA_row (RS_aa S a)).headD 0) (OA_row (RS_aa S a)).tail), RS_uaa1 S a (actd (RS_aa S a) ((OA_row (RS_aa S a)).headD 0) (OA_row (RS_aa S a)).tail))
def logw (l : List (Nat × Nat × Int32 × Int32)) (k j : Nat) : Int32 := if j = 0 then nI (l.getD k (0, 0, 0, 0)).1 else if j = 1 then nI (l.getD k (0, 0, 0, 0)).2.1 else if j = 2 then (l.getD k (0, 0, 0, 0)).2.2.1 else (l.getD k (0, 0, 0, 0)).2.2.2
theorem logv {h : Hp} {a k j : Nat} {l : List (Nat × Nat × Int32 × Int32)} (E : PEr h a [nI (l.getD k (0, 0, 0, 0)).1, nI (l.getD k (0, 0, 0, 0)).2.1, (l.getD k (0, 0, 0, 0)).2.2.1, (l.getD k (0, 0, 0, 0)).2.2.2]) (hj : j < 4) : h_I h a j = logw l k j := by
  rcases j with _ | _ | _ | _ | j
  · exact E.2.2.2 0 (Nat.le_of_ble_eq_true rfl)
  · exact E.2.2.2 1 (Nat.le_of_ble_eq_true rfl)
  · exact E.2.2.2 2 (Nat.le_of_ble_eq_true rfl)
  · exact E.2.2.2 3 (Nat.le_of_ble_eq_true rfl)
  · omega
def o_logAt (S : RS) (w : Int32) (k : Nat) (x : Int32) (j : Nat) : Int32 × Int32 × RS :=
  if ixB w (RS_lg S).length = false then (nI 1, nI 0, S) else if inB x (nI 0) (nI 3) = false then (nI 2, nI 0, S)
  else (nI 0, logw (RS_lg S) k j, S)
