/-! The model: commit, what it writes down. -/
/-- how many references are changed, from the r-th on -/
def cgN (y : OTS) : Nat → Nat → Nat
  | 0, _ => 0
  | m + 1, r => (if chg y r = true then 1 else 0) + cgN y m (r + 1)
theorem lgL_app {l : List (Nat × Nat × Int32 × Int32)} {q : Nat × Nat × Int32 × Int32} : lgL (l ++ [q]) = lgL l ++ [[nI q.1, nI q.2.1, q.2.2.1, q.2.2.2]] := by unfold lgL; rw [List.map_append]; rfl
def RC (S : RS) : Prop := RS_rn S ≤ 6 ∧ RS_an S ≤ 4 ∧ ∀ r, r < RS_rn S → 1 ≤ (OR_hs (RS_rr S r)).length ∧ (OR_hs (RS_rr S r)).length ≤ OR_lim (RS_rr S r) ∧ OR_lim (RS_rr S r) ≤ 8
theorem cmH_len {hs : List (Nat × Int32)} {lim : Nat} {q : Nat × Int32} (h1 : 1 ≤ hs.length) (h2 : hs.length ≤ lim) : 1 ≤ (cmH hs lim q).length ∧ (cmH hs lim q).length ≤ lim := by
  unfold cmH
  split
  · rw [List.length_tail, List.length_append]; simp; omega
  · rw [List.length_append]; simp; omega
theorem RC.st {S : RS} (H : RC S) {r : Nat} {v : List (Nat × Nat × Int32 × Int32)} {q : Nat × Int32} (hr : r < RS_rn S) : RC (RS_urr1 (RS_ulg S v) r (OR_uhs (RS_rr S r) (cmH (OR_hs (RS_rr S r)) (OR_lim (RS_rr S r)) q))) := by
  refine ⟨H.1, H.2.1, fun j hj => ?_⟩
  have e : RS_rr (RS_urr1 (RS_ulg S v) r (OR_uhs (RS_rr S r) (cmH (OR_hs (RS_rr S r)) (OR_lim (RS_rr S r)) q))) j = if j = r then OR_uhs (RS_rr S r) (cmH (OR_hs (RS_rr S r)) (OR_lim (RS_rr S r)) q) else RS_rr S j := va_up_app
  rw [e]
  split
  · have h1 := H.2.2 r hr
    have h2 := cmH_len (q := q) h1.1 h1.2.1
    exact ⟨h2.1, h2.2, h1.2.2⟩
  · exact H.2.2 j hj
