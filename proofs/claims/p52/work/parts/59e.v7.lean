/-! The model: sharing. -/
/-- one node seen: (which were seen, how many, how many unlike ones) -/
def stp (z : (Nat → Bool) × Nat × Nat) (nd : Nat) : (Nat → Bool) × Nat × Nat := (va_up z.1 nd true, z.2.1 + (if 0 < nd then 1 else 0), z.2.2 + (if 0 < nd ∧ z.1 nd = false then 1 else 0))
def sgI (S : SV) (v : Nat) (z : (Nat → Bool) × Nat × Nat) : Nat → (Nat → Bool) × Nat × Nat
  | 0 => z
  | s + 1 => stp (sgI S v z s) (ndN S v s)
def sgO (S : SV) : Nat → (Nat → Bool) × Nat × Nat
  | 0 => (fun _ => false, 0, 0)
  | v + 1 => sgI S v (sgO S v) (slN S v)
def o_sharing (S : SV) : Int32 × UInt32 := if (sgO S (sNv S)).2.1 = 0 then (nI 1, FP.fconst0) else (nI 0, FP.fdiv (FP.i2f (nI (sgO S (sNv S)).2.2)) (FP.i2f (nI (sgO S (sNv S)).2.1)))
theorem stp_le {z : (Nat → Bool) × Nat × Nat} {nd : Nat} : (stp z nd).2.1 ≤ z.2.1 + 1 ∧ (stp z nd).2.2 ≤ z.2.2 + 1 := by
  unfold stp; constructor
  · show z.2.1 + _ ≤ _; split <;> omega
  · show z.2.2 + _ ≤ _; split <;> omega
theorem sgI_le {S : SV} {v : Nat} {z : (Nat → Bool) × Nat × Nat} : ∀ s, (sgI S v z s).2.1 ≤ z.2.1 + s ∧ (sgI S v z s).2.2 ≤ z.2.2 + s := by
  intro s
  induction s with
  | zero => exact ⟨Nat.le_refl _, Nat.le_refl _⟩
  | succ s ih => have h := stp_le (z := sgI S v z s) (nd := ndN S v s); rw [sgI]; omega
theorem sgO_le {S : SV} : ∀ v, (sgO S v).2.1 ≤ 341 * v ∧ (sgO S v).2.2 ≤ 341 * v := by
  intro v
  induction v with
  | zero => exact ⟨Nat.le_refl _, Nat.le_refl _⟩
  | succ v ih => have h := sgI_le (S := S) (v := v) (z := sgO S v) (slN S v); have hl := slN_le (S := S) (v := v); rw [sgO]; omega
theorem fdiv_n {a b : Nat} (hb : 0 < b) (h2 : b < 2 ^ 31) : vf_n32 (FP.fdiv (FP.i2f (nI a)) (FP.i2f (nI b))) := by
  have h1 : ¬ FP.Core.fIsNaN (FP.fdiv (FP.i2f (nI a)) (FP.i2f (nI b))) = true := fun h => by
    rcases (FP.Core.fdiv_nan_iff _ _).mp h with g | g | ⟨x, y, g, -⟩ | ⟨-, g⟩
    · exact (FP.Core.i2f_fin (nI a)).ne_nan g
    · exact (FP.Core.i2f_fin (nI b)).ne_nan g
    · exact (FP.Core.i2f_fin (nI a)).ne_inf x g
    · have e := (FP.Core.zero_bits232 _).mp g
      refine FP.Core.i2f_ne_zero (v := nI b) (fun z => ?_) e
      have e3 := congrArg Int32.toNatClampNeg z
      rw [nI_clamp h2] at e3
      have e4 : b = 0 := e3
      omega
  rw [FP.Core.isNaN_bits32] at h1
  unfold vf_n32
  rw [UInt32.le_iff_toNat_le, UInt32.toNat_and]
  show _ &&& (2 ^ 31 - 1) ≤ _
  rw [Nat.and_two_pow_sub_one_eq_mod]
  show _ ≤ 2139095040
  omega
/-- a row of marks stands at b; all else is as it was -/
def SHL (h H : Hp) (m : Nat) (A : Nat → Nat) (b : Nat) (S : SV) (sn : Nat → Bool) : Prop := MP H m A S ∧ h_k H b = 102 ∧ h_n H b = sMd S + 1 ∧ (∀ x, h_I H b x = bI (sn x)) ∧ (∀ a, a ≠ b → ce H a = ce h a)
theorem MP.oth {h h' : Hp} {m b : Nat} {A : Nat → Nat} {S : SV} (H : MP h m A S) (hm : m ≠ b) (hA : ∀ i, 3 ≤ i → i ≤ 18 → i ≠ 15 → i ≠ 16 → A i ≠ b) (hc : ∀ a, a ≠ b → ce h' a = ce h a) : MP h' m A S := by
  obtain ⟨hM, e1, e2, e3, e4, e5, e6, e7, e8, e9, e10⟩ := H
  have q : ∀ i, 3 ≤ i → i ≤ 18 → i ≠ 15 → i ≠ 16 → ce h' (A i) = ce h (A i) := fun i h1 h2 h3 h4 => hc _ (hA i h1 h2 h3 h4)
  refine ⟨⟨by rw [ce_k (hc _ hm)]; exact hM.1, fun i h1 h2 h3 h4 => by rw [ce_R (hc _ hm), ce_k (q i h1 h2 h3 h4)]; exact hM.2.1 i h1 h2 h3 h4, fun i h1 h2 h3 => by rw [ce_n (q i h1 (by omega) (by omega) (by omega))]; exact hM.2.2.1 i h1 h2 h3, hM.2.2.2⟩, by rw [ce_I (hc _ hm)]; exact e1, by rw [ce_I (hc _ hm)]; exact e2,
    fun j => by rw [ce_I (q 3 (by decide) (by decide) (by decide) (by decide))]; exact e3 j, fun j => by rw [ce_I (q 4 (by decide) (by decide) (by decide) (by decide))]; exact e4 j, fun j => by rw [ce_I (q 5 (by decide) (by decide) (by decide) (by decide))]; exact e5 j, fun j => by rw [ce_I (q 6 (by decide) (by decide) (by decide) (by decide))]; exact e6 j,
    fun j => by rw [ce_I (q 7 (by decide) (by decide) (by decide) (by decide))]; exact e7 j, fun j => by rw [ce_I (q 8 (by decide) (by decide) (by decide) (by decide))]; exact e8 j, fun j => by rw [ce_I (q 9 (by decide) (by decide) (by decide) (by decide))]; exact e9 j, fun j => by rw [ce_I (q 10 (by decide) (by decide) (by decide) (by decide))]; exact e10 j⟩
theorem MP.apart {h : Hp} {m b : Nat} {A : Nat → Nat} {S : SV} (H : MP h m A S) (hb : h_k h b = 0) : m ≠ b ∧ ∀ i, 3 ≤ i → i ≤ 18 → i ≠ 15 → i ≠ 16 → A i ≠ b := by
  refine ⟨fun e => ?_, fun i h1 h2 h3 h4 e => ?_⟩
  · have := H.1.1; rw [e, hb] at this; cases this
  · have g := H.1.k i h1 h2 h3 h4
    rw [e, hb] at g
    have : mkd i ≠ 0 := by
      have : i = 3 ∨ i = 4 ∨ i = 5 ∨ i = 6 ∨ i = 7 ∨ i = 8 ∨ i = 9 ∨ i = 10 ∨ i = 11 ∨ i = 12 ∨ i = 13 ∨ i = 14 ∨ i = 17 ∨ i = 18 := by omega
      rcases this with e | e | e | e | e | e | e | e | e | e | e | e | e | e <;> (subst e; decide)
    exact this g.symm
theorem SHL.st {h H : Hp} {m b n : Nat} {A : Nat → Nat} {S : SV} {sn : Nat → Bool} (L : SHL h H m A b S sn) (hm : m ≠ b) (hA : ∀ i, 3 ≤ i → i ≤ 18 → i ≠ 15 → i ≠ 16 → A i ≠ b) : SHL h (wI H b n (nI 1)) m A b S (va_up sn n true) :=
  ⟨L.1.oth hm hA (fun a ha => ce_wI ha), L.2.1, L.2.2.1, fun x => by
    rw [va_up_app]
    split
    · next e => rw [e]; exact wI_ss
    · next e => rw [wI_sn e]; exact L.2.2.2.1 x, fun a ha => (ce_wI ha).trans (L.2.2.2.2 a ha)⟩
theorem ce_w0 {h H : Hp} {m : Nat} {x y : Int32} (e : ce H m = ce (wI h m 0 x) m) : ce (wI H m 0 y) m = ce (wI h m 0 y) m := by
  have e1 := ce_k e; have e2 := ce_n e; have e3 := ce_I e; have e4 := ce_R e; have e5 := ce_L e; have e6 := ce_F e
  show (h_k H m, h_n H m, up2 (h_I H) m 0 y m, h_R H m, h_L H m, h_F H m) = (h_k h m, h_n h m, up2 (h_I h) m 0 y m, h_R h m, h_L h m, h_F h m)
  have q : up2 (h_I H) m 0 y m = up2 (h_I h) m 0 y m := by
    rw [nu_self, nu_self]
    funext j
    rw [va_up_app, va_up_app]
    split
    · rfl
    · next z => have := congrFun e3 j; rw [wI_sn z] at this; exact this
  rw [q, show h_k H m = h_k h m from e1, show h_n H m = h_n h m from e2, show h_R H m = h_R h m from e4, show h_L H m = h_L h m from e5, show h_F H m = h_F h m from e6]
