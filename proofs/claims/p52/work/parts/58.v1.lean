/-! The model: open vectors are changed; elements, sizes. -/
/-- whether the node s of v is changed when a place is, which had n0 elements -/
def chB (S : SV) (v n0 pl s : Nat) : Bool := ith s (sSz S v) && (!ith s n0 || inB (nI pl) (nI (frm s)) (nI (frm s + wid s - 1)))
/-- the nodes of v up to the s-th, once a place is changed -/
def chS (S : SV) (v n0 pl : Nat) : Nat → SV
  | 0 => S
  | s + 1 => (fun T => if (chB S v n0 pl s && !(ith s n0 && sOw T (21 * v + s))) = true then s_7 (s_6 (s_2 T (sMd T + 1)) (21 * v + s) (sMd T + 1)) (21 * v + s) true else T) (chS S v n0 pl s)
theorem chS_sz {S : SV} {v n0 pl : Nat} : ∀ s, sSz (chS S v n0 pl s) = sSz S := by
  intro s
  induction s with
  | zero => rfl
  | succ s ih => rw [chS]; show sSz (if _ then _ else _) = _; split <;> exact ih
theorem chS_md {S : SV} {v n0 pl : Nat} : ∀ s, sMd S ≤ sMd (chS S v n0 pl s) ∧ sMd (chS S v n0 pl s) ≤ sMd S + s := by
  intro s
  induction s with
  | zero => exact ⟨Nat.le_refl _, Nat.le_refl _⟩
  | succ s ih =>
    rw [chS]
    show sMd S ≤ sMd (if _ then _ else _) ∧ sMd (if _ then _ else _) ≤ _
    split
    · show sMd S ≤ sMd (chS S v n0 pl s) + 1 ∧ sMd (chS S v n0 pl s) + 1 ≤ _; omega
    · omega
theorem SB.w2 {S : SV} (hS : SB S) {x : Nat} (hx : x ≤ 1000000) : SB (s_2 S x) := ⟨hS.1, hx, hS.2.2⟩
theorem SB.w6 {S : SV} (hS : SB S) {k x : Nat} (hx : x ≤ 1000000) : SB (s_6 S k x) := by
  refine ⟨hS.1, hS.2.1, hS.2.2.1, hS.2.2.2.1, fun j => ?_, hS.2.2.2.2.2⟩
  show va_up (sNd S) k x j ≤ 1000000
  by_cases hj : j = k
  · subst hj; rw [va_up_self]; exact hx
  · rw [va_up_ne _ _ hj]; exact hS.2.2.2.2.1 j
theorem SB.w7 {S : SV} (hS : SB S) {k : Nat} {x : Bool} : SB (s_7 S k x) := hS
theorem SB.w10 {S : SV} (hS : SB S) {k x : Nat} (hx : x ≤ 1000000) : SB (s_10 S k x) := by
  refine ⟨hS.1, hS.2.1, hS.2.2.1, hS.2.2.2.1, hS.2.2.2.2.1, fun j => ?_⟩
  show va_up (sMn S) k x j ≤ 1000000
  by_cases hj : j = k
  · subst hj; rw [va_up_self]; exact hx
  · rw [va_up_ne _ _ hj]; exact hS.2.2.2.2.2 j
theorem chS_B {S : SV} {v n0 pl : Nat} (hS : SB S) (hmd : sMd S + 21 ≤ 1000000) : ∀ s, s ≤ 21 → SB (chS S v n0 pl s) := by
  intro s
  induction s with
  | zero => intro _; exact hS
  | succ s ih =>
    intro h
    have h1 := ih (by omega)
    have h2 := (chS_md (S := S) (v := v) (n0 := n0) (pl := pl) s).2
    rw [chS]
    show SB (if _ then _ else _)
    split
    · exact ((h1.w2 (by omega)).w6 (by omega)).w7
    · exact h1
/-- the state, the place pl of v being e -/
def chE (S : SV) (v pl : Nat) (e : Int32) : SV := s_4 (s_5 S (64 * v + pl) e) v (if pl < sSz S v then sSz S v else pl + 1)
def chX (S : SV) (v pl : Nat) (e : Int32) : SV := if pl < sSz S v ∧ sEl S (64 * v + pl) = e then chE S v pl e else chS (chE S v pl e) v (sSz S v) pl 21
def o_appendTo (S : SV) (v : Int32) (k : Nat) (e : Int32) : Int32 × Int32 × SV :=
  if (!ixB v (sNv S)) = true then (nI 1, nI 0, S) else if (!elB e) = true then (nI 2, nI 0, S) else if sTy S k ≠ 111 ∨ sSz S k = 64 then (nI 3, nI 0, S)
  else (nI 0, nI (sMd (chX S k (sSz S k) e) - sMd S), chX S k (sSz S k) e)
def o_setIn (S : SV) (v : Int32) (k : Nat) (i : Int32) (j : Nat) (e : Int32) : Int32 × Int32 × SV :=
  if (!ixB v (sNv S)) = true then (nI 1, nI 0, S) else if (!elB e) = true then (nI 2, nI 0, S) else if sTy S k ≠ 111 then (nI 3, nI 0, S) else if ixB i (sSz S k) = false then (nI 4, nI 0, S)
  else (nI 0, nI (sMd (chX S k j e) - sMd S), chX S k j e)
def o_size (S : SV) (v : Int32) (k : Nat) : Int32 × Int32 × SV := if (!ixB v (sNv S)) = true then (nI 1, nI 0, S) else (nI 0, nI (sSz S k), S)
