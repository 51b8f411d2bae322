/-! The model: maps, one operation after another. -/
/-- the nodes of v down to level l, once a key is changed -/
def cnS (S : SV) (v key : Nat) : Nat → SV
  | 0 => S
  | l + 1 => (fun T => if l = 0 ∨ 1 < alN S v key l then s_10 (s_2 T (sMd T + 1)) (341 * v + sltN key l) (sMd T + 1) else s_10 T (341 * v + sltN key l) 0) (cnS S v key l)
theorem cnS_hs {S : SV} {v key : Nat} : ∀ l, sHs (cnS S v key l) = sHs S ∧ sNv (cnS S v key l) = sNv S := by
  intro l
  induction l with
  | zero => exact ⟨rfl, rfl⟩
  | succ l ih => rw [cnS]; show sHs (if _ then _ else _) = _ ∧ sNv (if _ then _ else _) = _; split <;> exact ih
theorem cnS_md {S : SV} {v key : Nat} : ∀ l, sMd S ≤ sMd (cnS S v key l) ∧ sMd (cnS S v key l) ≤ sMd S + l := by
  intro l
  induction l with
  | zero => exact ⟨Nat.le_refl _, Nat.le_refl _⟩
  | succ l ih =>
    rw [cnS]
    show sMd S ≤ sMd (if _ then _ else _) ∧ sMd (if _ then _ else _) ≤ _
    split
    · show sMd S ≤ sMd (cnS S v key l) + 1 ∧ sMd (cnS S v key l) + 1 ≤ _; omega
    · show sMd S ≤ sMd (cnS S v key l) ∧ sMd (cnS S v key l) ≤ _; omega
theorem cnS_B {S : SV} {v key : Nat} (hS : SB S) (hmd : sMd S + 5 ≤ 1000000) : ∀ l, l ≤ 5 → SB (cnS S v key l) := by
  intro l
  induction l with
  | zero => intro _; exact hS
  | succ l ih =>
    intro h
    have h1 := ih (by omega)
    have h2 := (cnS_md (S := S) (v := v) (key := key) l).2
    rw [cnS]
    show SB (if _ then _ else _)
    split
    · exact (h1.w2 (by omega)).w10 (by omega)
    · exact h1.w10 (Nat.zero_le _)
theorem SB.map {S : SV} (hS : SB S) (hn : sNv S < 60) {b : Nat} : SB (s_mapS S b) := mp_B (hS.new (by decide) hn) (hS.2.2.2.1 _) (fun _ => hS.2.2.2.2.2 _)
theorem alK_c {S T : SV} (h : sHs T = sHs S) {v key l : Nat} : alK T v key l = alK S v key l := by funext j; unfold alK; rw [h]
theorem alN_c {S T : SV} (h : sHs T = sHs S) {v key l : Nat} : alN T v key l = alN S v key l := by unfold alN; rw [alK_c h]
theorem alN_le2 {S : SV} {v key l : Nat} : alN S v key l ≤ 1000 := alN_le 1000
def hasB (S : SV) (k : Nat) (u : Int32) (j : Nat) : Bool := if sTy S k = 109 then ixB u 1000 && sHs S (1000 * k + j) else ixB u (sSz S k)
def getV (S : SV) (k j : Nat) : Int32 := if sTy S k = 109 then sOf S (1000 * k + j) else sEl S (64 * k + j)
def lvF (S : SV) (v key : Nat) : Nat → Nat → Nat
  | 0, l => l
  | m + 1, l => if l < 4 ∧ 1 < alN S v key (l + 1) then lvF S v key m (l + 1) else l
def o_map (S : SV) : Int32 × Int32 × SV := if sNv S = 60 then (nI 1, nI 0, S) else (nI 0, nI (sNv S), s_10 (s_2 (s_mapN S) (sMd S + 1)) (341 * sNv S) (sMd S + 1))
/-- a new map as k, key having the element e -/
def ptS (S : SV) (k key : Nat) (e : Int32) : SV := s_9 (s_8 (s_4 (s_mapS S k) (sNv S) (sSz S k + if sHs S (1000 * k + key) = true then 0 else 1)) (1000 * sNv S + key) true) (1000 * sNv S + key) e
def o_put (S : SV) (v : Int32) (k : Nat) (u : Int32) (key : Nat) (e : Int32) : Int32 × Int32 × SV :=
  if (!ixB v (sNv S)) = true then (nI 1, nI 0, S) else if (ixB u 1000 && elB e) = false then (nI 2, nI 0, S) else if sTy S k ≠ 109 ∨ (sHs S (1000 * k + key) = false ∧ sSz S k = 40) then (nI 3, nI 0, S) else if sNv S = 60 then (nI 4, nI 0, S)
  else (nI 0, nI (sNv S), if sHs S (1000 * k + key) = true ∧ sOf S (1000 * k + key) = e then ptS S k key e else cnS (ptS S k key e) (sNv S) key 5)
def wtS (S : SV) (k key : Nat) : SV := s_4 (s_9 (s_8 (s_mapS S k) (1000 * sNv S + key) false) (1000 * sNv S + key) (nI 0)) (sNv S) (sSz S k - 1)
def o_without (S : SV) (v : Int32) (k : Nat) (u : Int32) (key : Nat) : Int32 × Int32 × SV :=
  if (!ixB v (sNv S)) = true then (nI 1, nI 0, S) else if sTy S k ≠ 109 then (nI 2, nI 0, S) else if (ixB u 1000 && sHs S (1000 * k + key)) = false then (nI 3, nI 0, S) else if sNv S = 60 then (nI 4, nI 0, S)
  else (nI 0, nI (sNv S), cnS (wtS S k key) (sNv S) key 5)
def o_get (S : SV) (v : Int32) (k : Nat) (u : Int32) (j : Nat) : Int32 × Int32 × SV :=
  if (!ixB v (sNv S)) = true then (nI 1, nI 0, S) else if (!hasB S k u j) = true then (nI 2, nI 0, S) else (nI 0, getV S k j, S)
def o_levelOf (S : SV) (v : Int32) (k : Nat) (u : Int32) (j : Nat) : Int32 × Int32 × SV :=
  if (!ixB v (sNv S)) = true then (nI 1, nI 0, S) else if sTy S k ≠ 109 then (nI 2, nI 0, S) else if (!hasB S k u j) = true then (nI 3, nI 0, S) else (nI 0, nI (lvF S k j 4 0), S)
