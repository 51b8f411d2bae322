/-! The model: vectors, one operation after another. -/
/-- what an operation of the model answers: what was thrown, the answer, the state -/
def PO (Q : Pst) (h : Hp) (m : Nat) (A : Nat → Nat) (o : Int32 × Int32 × SV) : Prop := ∀ h', IB h h' (mW m A) → h_I h' m 0 = o.1 → MP h' m A o.2.2 → Q (oRet (vi o.2.1)) h'
theorem nt_f {b : Bool} (h : (!b) = false) : b = true := by revert h; cases b <;> decide
theorem SB.w3 {S : SV} (hS : SB S) {k x : Nat} (hx : x < 65536) : SB (s_3 S k x) := by
  refine ⟨hS.1, hS.2.1, fun j => ?_, hS.2.2.2.1, hS.2.2.2.2.1, hS.2.2.2.2.2⟩
  show va_up (sTy S) k x j < 65536
  by_cases hj : j = k
  · subst hj; rw [va_up_self]; exact hx
  · rw [va_up_ne _ _ hj]; exact hS.2.2.1 j
theorem SB.w4 {S : SV} (hS : SB S) {k x : Nat} (hx : x ≤ 64) : SB (s_4 S k x) := by
  refine ⟨hS.1, hS.2.1, hS.2.2.1, fun j => ?_, hS.2.2.2.2.1, hS.2.2.2.2.2⟩
  show va_up (sSz S) k x j ≤ 64
  by_cases hj : j = k
  · subst hj; rw [va_up_self]; exact hx
  · rw [va_up_ne _ _ hj]; exact hS.2.2.2.1 j
theorem SB.w5 {S : SV} (hS : SB S) {k : Nat} {x : Int32} : SB (s_5 S k x) := hS
theorem SB.cp {S : SV} (hS : SB S) {a b : Nat} : SB (s_cp S a b) := SB.w4 hS (hS.2.2.2.1 b)
/-- the nodes of v, made anew after w -/
abbrev s_nf (S : SV) (v w : Nat) : SV := nfS S v (smO S v w) (shO S w) 21
/-- a value of kind c more, with the elements of k -/
abbrev s_dup (S : SV) (c k : Nat) : SV := s_cp (s_new S c) (sNv S) k
theorem dup_sz {S : SV} {c k : Nat} (hk : k < sNv S) : sSz (s_dup S c k) (sNv S) = sSz S k := by
  show va_up (va_up (sSz S) (sNv S) 0) (sNv S) (va_up (sSz S) (sNv S) 0 k) (sNv S) = _
  rw [va_up_self, va_up_ne _ _ (by omega)]
def o_vector (S : SV) : Int32 × Int32 × SV :=
  if sNv S = 60 then (nI 1, nI 0, S) else (nI 0, nI (sNv S), nfS (s_new S 118) (sNv S) (fun _ => false) (fun _ => 0) 21)
def o_append (S : SV) (v : Int32) (k : Nat) (e : Int32) : Int32 × Int32 × SV :=
  if (!ixB v (sNv S)) = true then (nI 1, nI 0, S) else if (!elB e) = true then (nI 2, nI 0, S) else if sTy S k ≠ 118 ∨ sSz S k = 64 then (nI 3, nI 0, S) else if sNv S = 60 then (nI 4, nI 0, S)
  else (nI 0, nI (sNv S), s_nf (s_4 (s_5 (s_dup S 118 k) (64 * sNv S + sSz S k) e) (sNv S) (sSz S k + 1)) (sNv S) k)
def o_set (S : SV) (v : Int32) (k : Nat) (i : Int32) (j : Nat) (e : Int32) : Int32 × Int32 × SV :=
  if (!ixB v (sNv S)) = true then (nI 1, nI 0, S) else if (!elB e) = true then (nI 2, nI 0, S) else if sTy S k ≠ 118 then (nI 3, nI 0, S) else if ixB i (sSz S k) = false then (nI 4, nI 0, S) else if sNv S = 60 then (nI 5, nI 0, S)
  else (nI 0, nI (sNv S), s_nf (s_5 (s_dup S 118 k) (64 * sNv S + j) e) (sNv S) k)
def o_cut (S : SV) (v : Int32) (k : Nat) : Int32 × Int32 × SV :=
  if (!ixB v (sNv S)) = true then (nI 1, nI 0, S) else if sTy S k ≠ 118 then (nI 2, nI 0, S) else if sSz S k = 0 then (nI 3, nI 0, S) else if sNv S = 60 then (nI 4, nI 0, S)
  else (nI 0, nI (sNv S), s_nf (s_4 (s_dup S 118 k) (sNv S) (sSz S k - 1)) (sNv S) k)
def o_depth (S : SV) (v : Int32) (k : Nat) : Int32 × Int32 × SV :=
  if (!ixB v (sNv S)) = true then (nI 1, nI 0, S) else if vecB S k = false then (nI 2, nI 0, S) else (nI 0, nI (dOf (sSz S k)), S)
def o_open (S : SV) (v : Int32) (k : Nat) : Int32 × Int32 × SV :=
  if (!ixB v (sNv S)) = true then (nI 1, nI 0, S) else if sTy S k ≠ 118 then (nI 2, nI 0, S) else if sNv S = 60 then (nI 3, nI 0, S)
  else (nI 0, nI (sNv S), s_nf (s_dup S 111 k) (sNv S) k)
def o_lasting (S : SV) (v : Int32) (k : Nat) : Int32 × Int32 × SV :=
  if (!ixB v (sNv S)) = true then (nI 1, nI 0, S) else if sTy S k ≠ 111 then (nI 2, nI 0, S) else if sNv S = 60 then (nI 3, nI 0, S)
  else (nI 0, nI (sNv S), s_4 (s_3 (s_nf (s_dup S 118 k) (sNv S) k) k 120) k 0)
def o_isOpen (S : SV) (v : Int32) (k : Nat) : Int32 × Int32 × SV :=
  if (!ixB v (sNv S)) = true then (nI 1, nI 0, S) else (nI 0, bI (decide (sTy S k = 111)), S)
