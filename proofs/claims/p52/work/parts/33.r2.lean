/-! The model: what its calls of references and transactions ask in common. -/
/-- the bounds of a state, after n calls -/
def RB (n : Nat) (S : RS) : Prop := (n ≤ 600 ∧ RS_rn S ≤ 6 ∧ RS_an S ≤ 4 ∧ RS_mo S ≤ n ∧ RS_bg S ≤ n ∧ (RS_lg S).length ≤ 6 * n ∧ ∀ q, q ∈ RS_lg S → q.2.1 < 6) ∧ (∀ t, t < 3 → OT_pt (RS_tt S t) ≤ n ∧ OT_ag (RS_tt S t) ≤ n ∧ (OT_sq (RS_tt S t)).length ≤ n ∧ ∀ q, q ∈ OT_sq (RS_tt S t) → q.1 < RS_an S ∧ -128 ≤ q.2.toInt ∧ q.2.toInt ≤ 127) ∧
  (∀ r, r < RS_rn S → 1 ≤ (OR_hs (RS_rr S r)).length ∧ (OR_hs (RS_rr S r)).length ≤ OR_lim (RS_rr S r) ∧ OR_lim (RS_rr S r) ≤ 8 ∧ ∀ q, q ∈ OR_hs (RS_rr S r) → q.1 ≤ n) ∧ ∀ a, a < RS_an S → (OA_row (RS_aa S a)).length ≤ 12 ∧ OA_er (RS_aa S a) ≤ n
theorem RB.h16 {n : Nat} {S : RS} (H : RB n S) : RS_rn S ≤ 16 ∧ RS_an S ≤ 16 := ⟨Nat.le_trans H.1.2.1 (by decide), Nat.le_trans H.1.2.2.1 (by decide)⟩
/-- what an operation answers: what was thrown, the answer, the state -/
def RO (Q : Pst) (h : Hp) (o : Int32 × Int32 × RS) : Prop := ∀ h', FRR h h' → h_I h' (nm 1 0) 0 = o.1 → MR h' o.2.2 → PO2 h' → Q (oRet (vi o.2.1)) h'
theorem nt_g {b : Bool} (h : ¬ (!b) = true) : b = true := by revert h; cases b <;> decide
def lastq (x : ORS) : Nat × Int32 := (OR_hs x).getD ((OR_hs x).length - 1) (0, 0)
theorem L2_len (l : List (Nat × Int32)) : (l.map (fun q => [nI q.1, q.2])).length = l.length := List.length_map _
theorem L2_get {l : List (Nat × Int32)} {j : Nat} (hj : j < (l.map (fun q => [nI q.1, q.2])).length) : (l.map (fun q => [nI q.1, q.2]))[j] = [nI (l.getD j (0, 0)).1, (l.getD j (0, 0)).2] := by
  have h2 : j < l.length := by rwa [List.length_map] at hj
  rw [List.getElem_map]
  have : l.getD j (0, 0) = l[j] := by simp [List.getD, List.getElem?_eq_getElem h2]
  rw [this]
theorem lastq_in {x : ORS} (h : 1 ≤ (OR_hs x).length) : lastq x ∈ OR_hs x := by
  unfold lastq
  have h2 : (OR_hs x).length - 1 < (OR_hs x).length := by omega
  have : (OR_hs x).getD ((OR_hs x).length - 1) (0, 0) = (OR_hs x)[(OR_hs x).length - 1] := by simp [List.getD, List.getElem?_eq_getElem h2]
  rw [this]
  exact List.getElem_mem h2

/-- the others, from the (3 - m)-th on, when t wants r: whether t goes on, and the state -/
def gos (t r : Nat) (e : Bool) : Nat → RS → Bool × RS
  | 0, S => (true, S)
  | m + 1, S => if (2 - m ≠ t ∧ OT_op (RS_tt S (2 - m)) = true) ∧ (OT_wr (RS_tt S (2 - m)) r = true ∨ (e = true ∧ OT_en (RS_tt S (2 - m)) r = true)) then
      if OT_ag (RS_tt S (2 - m)) < OT_ag (RS_tt S t) then (false, RS_utt1 S t (sbk (RS_tt S t) (RS_mo S))) else gos t r e m (RS_utt1 S (2 - m) (sbk (RS_tt S (2 - m)) (RS_mo S)))
    else gos t r e m S
theorem th_fr {h h' : Hp} {t : Nat} (hF : Fr h h' (WT t)) : h_I h' (nm 1 0) 0 = h_I h (nm 1 0) 0 := by rw [ce_I (hF _ (WT_n (by omega) (by decide)))]
theorem RB_sbk {n t : Nat} {S : RS} (H : RB n S) (ht : t < 3) : RB n (RS_utt1 S t (sbk (RS_tt S t) (RS_mo S))) := by
  refine ⟨H.1, fun j hj => ?_, H.2.2⟩
  have e : RS_tt (RS_utt1 S t (sbk (RS_tt S t) (RS_mo S))) j = if j = t then sbk (RS_tt S t) (RS_mo S) else RS_tt S j := va_up_app
  rw [e]
  split
  · exact ⟨H.1.2.2.2.1, (H.2.1 t ht).2.1, Nat.zero_le _, fun q hq => nomatch hq⟩
  · exact H.2.1 j hj
