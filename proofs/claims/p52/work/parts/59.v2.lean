/-! The model: maps, their helpers. -/
/-- the code of a key, its bits up to a level, the place of a node -/
def cdN (k : Nat) : Nat := ((37 * k) ^^^ (k / 8)) &&& 255
def btN (k l : Nat) : Nat := cdN k % 2 ^ (2 * l)
def lst (l : Nat) : Nat := if l = 0 then 0 else if l = 1 then 1 else if l = 2 then 5 else if l = 3 then 21 else 85
def sltN (k l : Nat) : Nat := lst l + btN k l
theorem cdN_le (k : Nat) : cdN k ≤ 255 := Nat.and_le_right
theorem cdN_lt (k : Nat) : cdN k < 256 := by have := cdN_le k; omega
theorem btN_lt (k l : Nat) : btN k l < 2 ^ (2 * l) := Nat.mod_lt _ (Nat.two_pow_pos _)
theorem btN_le (k l : Nat) : btN k l ≤ 255 := Nat.le_trans (Nat.mod_le _ _) (cdN_le k)
theorem sltN_lt {k l : Nat} (hl : l ≤ 4) : sltN k l < 341 := by
  have h1 := btN_lt k l
  have h2 := btN_le k l
  unfold sltN lst
  match l, hl with
  | 0, _ => simp at h1 ⊢; omega
  | 1, _ => simp at h1 ⊢; omega
  | 2, _ => simp at h1 ⊢; omega
  | 3, _ => simp at h1 ⊢; omega
  | 4, _ => simp at h1 ⊢; omega
theorem btN_and {k l : Nat} : cdN k &&& (1 * 2 ^ (2 * l) - 1) = btN k l := by
  rw [Nat.one_mul, Nat.and_two_pow_sub_one_eq_mod]; rfl
/-- how many keys of v have the bits of a key -/
def alK (S : SV) (v key l j : Nat) : Nat := if sHs S (1000 * v + j) = true ∧ btN j l = btN key l then 1 else 0
def alN (S : SV) (v key l : Nat) : Nat := sumN (alK S v key l) 1000
theorem alN_le {S : SV} {v key l : Nat} : ∀ n, sumN (alK S v key l) n ≤ n := by
  intro n
  induction n with
  | zero => exact Nat.le_refl _
  | succ n ih => rw [sumN]; have : alK S v key l n ≤ 1 := by unfold alK; split <;> omega
                 omega
/-- f, with g written over the first k places of block a of width w -/
def blk {α : Type} (f g : Nat → α) (w a k : Nat) : Nat → α := fun j => if w * a ≤ j ∧ j < w * a + k then g (j - w * a) else f j
theorem blk_0 {α : Type} {f g : Nat → α} {w a : Nat} : blk f g w a 0 = f := by
  funext j; unfold blk; rw [if_neg (by omega)]
theorem blk_s {α : Type} {f g : Nat → α} {w a k : Nat} : va_up (blk f g w a k) (w * a + k) (g k) = blk f g w a (k + 1) := by
  funext j
  rw [va_up_app]
  unfold blk
  by_cases hj : j = w * a + k
  · rw [if_pos hj, if_pos (by omega), show j - w * a = k by omega]
  · rw [if_neg hj]
    by_cases hh : w * a ≤ j ∧ j < w * a + k
    · rw [if_pos hh, if_pos (by omega)]
    · rw [if_neg hh, if_neg (by omega)]
theorem blk_o {α : Type} {f g : Nat → α} {w a k j : Nat} (h : j < w * a ∨ w * a + k ≤ j) : blk f g w a k j = f j := by
  unfold blk; rw [if_neg (by omega)]
theorem blk_i {α : Type} {f g : Nat → α} {w a k i : Nat} (h : i < k) : blk f g w a k (w * a + i) = g i := by
  unfold blk; rw [if_pos (by omega), Nat.add_sub_cancel_left]
/-- a map's rows: what is copied into the new one's -/
def mpS (T : SV) (a z : Nat) (gh : Nat → Bool) (go : Nat → Int32) (gm : Nat → Nat) (k1 k2 : Nat) : SV := (sNv T, sMd T, sTy T, va_up (sSz T) a z, sEl T, sNd T, sOw T, blk (sHs T) gh 1000 a k1, blk (sOf T) go 1000 a k1, blk (sMn T) gm 341 a k2)
def s_mapN (S : SV) : SV := mpS (s_new S 109) (sNv S) 0 (fun _ => false) (fun _ => nI 0) (fun _ => 0) 1000 341
def s_mapS (S : SV) (b : Nat) : SV := mpS (s_new S 109) (sNv S) (sSz S b) (fun i => sHs S (1000 * b + i)) (fun i => sOf S (1000 * b + i)) (fun i => sMn S (341 * b + i)) 1000 341
theorem mp_B {T : SV} (hT : SB T) {a z : Nat} (hz : z ≤ 64) {gh : Nat → Bool} {go : Nat → Int32} {gm : Nat → Nat} (hg : ∀ i, gm i ≤ 1000000) {k1 k2 : Nat} : SB (mpS T a z gh go gm k1 k2) := by
  refine ⟨hT.1, hT.2.1, hT.2.2.1, fun j => ?_, hT.2.2.2.2.1, fun j => ?_⟩
  · show va_up (sSz T) a z j ≤ 64
    rw [va_up_app]; split
    · exact hz
    · exact hT.2.2.2.1 j
  · show blk (sMn T) gm 341 a k2 j ≤ 1000000
    unfold blk; split
    · exact hg _
    · exact hT.2.2.2.2.2 j
