/-! The model: new values, copies of elements. -/
/-- only the model's values changed, and not what was thrown -/
def PV (h h' : Hp) (m : Nat) (A : Nat → Nat) : Prop := IB h h' (mW m A) ∧ h_I h' m 0 = h_I h m 0
theorem PV.rf {h : Hp} {m : Nat} {A : Nat → Nat} : PV h h m A := ⟨IB.rf, rfl⟩
theorem PV.tr {h h1 h2 : Hp} {m : Nat} {A : Nat → Nat} (a : PV h h1 m A) (b : PV h1 h2 m A) : PV h h2 m A := ⟨a.1.tr b.1, b.2.trans a.2⟩
theorem PV.i {h h1 : Hp} {m k : Nat} {A : Nat → Nat} {S : SV} {x : Int32} (H : MP h m A S) (a : PV h1 h m A) (i : Nat) (h1' : 3 ≤ i) (h2' : i ≤ 10) : PV h1 (wI h (A i) k x) m A :=
  ⟨a.1.tr (IB.w (mW_i i h1' h2')), (congrFun (wI_ne (Ne.symm (H.1.m i h1' (by omega) (by omega) (by omega)))) 0).trans a.2⟩
theorem PV.m {h h1 : Hp} {m k : Nat} {A : Nat → Nat} {x : Int32} (a : PV h1 h m A) (hk : (0 : Nat) ≠ k) (h2 : k ≤ 2 := by decide) : PV h1 (wI h m k x) m A :=
  ⟨a.1.tr (IB.w (mW_m h2)), (wI_sn hk).trans a.2⟩
/-- the state with a value of kind c more -/
def s_new (S : SV) (c : Nat) : SV := s_1 (s_4 (s_3 S (sNv S) c) (sNv S) 0) (sNv S + 1)
theorem SB.new {S : SV} (hS : SB S) {c : Nat} (hc : c < 65536) (hn : sNv S < 60) : SB (s_new S c) := by
  refine ⟨hn, hS.2.1, fun j => ?_, fun j => ?_, hS.2.2.2.2.1, hS.2.2.2.2.2⟩
  · show va_up (sTy S) (sNv S) c j < 65536
    by_cases hj : j = sNv S
    · subst hj; rw [va_up_self]; exact hc
    · rw [va_up_ne _ _ hj]; exact hS.2.2.1 j
  · show va_up (sSz S) (sNv S) 0 j ≤ 64
    by_cases hj : j = sNv S
    · subst hj; rw [va_up_self]; exact Nat.zero_le _
    · rw [va_up_ne _ _ hj]; exact hS.2.2.2.1 j
/-- f, with k elements of block b written over block a -/
def cpE (f : Nat → Int32) (a b k : Nat) : Nat → Int32 := fun j => if 64 * a ≤ j ∧ j < 64 * a + k then f (64 * b + (j - 64 * a)) else f j
theorem cpE_0 {f : Nat → Int32} {a b : Nat} : cpE f a b 0 = f := by
  funext j; unfold cpE; rw [if_neg (by omega)]
theorem cpE_b {f : Nat → Int32} {a b k : Nat} (hk : k < 64) : cpE f a b k (64 * b + k) = f (64 * b + k) := by
  unfold cpE
  split
  · next z => congr 1; omega
  · rfl
theorem cpE_s {f : Nat → Int32} {a b k : Nat} : va_up (cpE f a b k) (64 * a + k) (f (64 * b + k)) = cpE f a b (k + 1) := by
  funext j
  by_cases hj : j = 64 * a + k
  · subst hj; rw [va_up_self]; unfold cpE; rw [if_pos (by omega)]; congr 1; omega
  · rw [va_up_ne _ _ hj]; unfold cpE
    by_cases hh : 64 * a ≤ j ∧ j < 64 * a + k
    · rw [if_pos hh, if_pos (by omega)]
    · rw [if_neg hh, if_neg (by omega)]
/-- the state, with b's size and k elements of b written over a -/
def s_cpk (S : SV) (a b k : Nat) : SV := (sNv S, sMd S, sTy S, va_up (sSz S) a (sSz S b), cpE (sEl S) a b k, sNd S, sOw S, sHs S, sOf S, sMn S)
abbrev s_cp (S : SV) (a b : Nat) : SV := s_cpk S a b 64
