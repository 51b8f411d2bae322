/-! sharing, as the law asks of it: above 0, at most 1. -/
section FC
variable {G : GG} {y : MI} {d pc : Nat} {lv : LV} {st : List AV} {h : Hp} {bc bs : Nat} {Q : Pst}
theorem wq_fconst1 (hd : decode (mC y) pc = .ok (.fconst 1, 1)) (K : WQ G y d (pc + 1) lv (vf FP.fconst1 :: st) h bc bs Q) : WQ G y d pc lv (st) h bc bs Q := by
  intro p l e R s m args below meth c C H locs cells slots ls hr hS hl hc hs
  exact lv_fconst1 C.1 C.2.1 hd (K p l e R s m args below meth c C H locs cells slots ls hr hS hl hc hs)
theorem wp_fconst1 (hd : decode (mC y) pc = .ok (.fconst 1, 1)) (K : WP G y d (pc + 1) lv (vf FP.fconst1 :: st) h bc bs Q) : WP G y d pc lv (st) h bc bs Q := by
  intro α hp oN ol os Q0 oU
  show WQ G y d pc (lm α lv) (sm α st) hp bc bs Q0
  exact wq_fconst1 hd (K.of oN ol ((os).cons (trivial)) oU rfl rfl)
end FC
theorem sg_p (c : Nat) : FP.Core.signed false c = (c : Int) := rfl
theorem sg_false {s : Bool} {c : Nat} (h : 0 < FP.Core.signed s c) : s = false := by
  cases s with
  | false => rfl
  | true => exact absurd h (by show ¬ 0 < -(c : Int); omega)
theorem fdiv_u {a b : Nat} (ha : 0 < a) (hab : a ≤ b) (hb : b ≤ 2 ^ 20) : FP.Core.fcmp (FP.Core.fdiv (FP.Core.i2f (nI a)) (FP.Core.i2f (nI b))) FP.Core.fconst0 = some .gt ∧ (FP.Core.fcmp (FP.Core.fdiv (FP.Core.i2f (nI a)) (FP.Core.i2f (nI b))) FP.Core.fconst1 = some .lt ∨ FP.Core.fcmp (FP.Core.fdiv (FP.Core.i2f (nI a)) (FP.Core.i2f (nI b))) FP.Core.fconst1 = some .eq) := by
  have ia := FP.Core.i2f_int (a := nI a) (by rw [nI_toInt (by omega)]; omega)
  have ib := FP.Core.i2f_int (a := nI b) (by rw [nI_toInt (by omega)]; omega)
  rw [nI_toInt (by omega)] at ia ib
  have za := FP.Core.FInt_zval ia
  have zb := FP.Core.FInt_zval ib
  have fa := FP.Core.val32_fits (FP.Core.i2f (nI a))
  have fb := FP.Core.val32_fits (FP.Core.i2f (nI b))
  have hq := FP.Core.val32_fdiv (FP.Core.i2f (nI a)) (FP.Core.i2f (nI b))
  generalize FP.Core.fdiv (FP.Core.i2f (nI a)) (FP.Core.i2f (nI b)) = w at *
  unfold FP.Core.FInt at ia ib
  generalize FP.Core.val32 (FP.Core.i2f (nI a)) = da at *
  generalize FP.Core.val32 (FP.Core.i2f (nI b)) = db at *
  have h1 : 0 < FP.Core.one32 := FP.Core.one32_pos
  cases da with
  | nan => exact absurd ia id
  | inf s => exact absurd ia id
  | fin s c q =>
    cases db with
    | nan => exact absurd ib id
    | inf s => exact absurd ib id
    | fin t d r =>
      have za : FP.Core.signed s (FP.Core.inUnits c q FP.Core.b32.qmin) = (a : Int) * (FP.Core.one32 : Int) := za
      have zb : FP.Core.signed t (FP.Core.inUnits d r FP.Core.b32.qmin) = (b : Int) * (FP.Core.one32 : Int) := zb
      have pa : (0 : Int) < (a : Int) * (FP.Core.one32 : Int) := Int.mul_pos (by omega) (by omega)
      have pb : (0 : Int) < (b : Int) * (FP.Core.one32 : Int) := Int.mul_pos (by omega) (by omega)
      have hs : s = false := sg_false (by rw [za]; exact pa)
      have ht : t = false := sg_false (by rw [zb]; exact pb)
      subst hs
      subst ht
      rw [sg_p] at za zb
      have za : FP.Core.inUnits c q FP.Core.b32.qmin = a * FP.Core.one32 := by exact_mod_cast za
      have zb : FP.Core.inUnits d r FP.Core.b32.qmin = b * FP.Core.one32 := by exact_mod_cast zb
      have qm : FP.Core.b32.qmin = -149 := by decide
      have q1 : FP.Core.b32.qmin ≤ q := fa.2.1
      have r1 : FP.Core.b32.qmin ≤ r := fb.2.1
      rw [qm] at q1 r1
      have hd : d ≠ 0 := fun z => by
        rw [z] at zb
        unfold FP.Core.inUnits at zb
        rw [Nat.zero_mul] at zb
        have := Nat.mul_pos (show 0 < b by omega) h1
        omega
      have hw : FP.Core.val32 w = FP.Core.roundRatio FP.Core.b32 false c d (q - r) := by
        rw [hq]
        show (if d = 0 then _ else FP.Core.roundRatio FP.Core.b32 (false != false) c d (q - r)) = _
        rw [if_neg hd]
        rfl
      have o1 : FP.Core.one32 = 2 ^ 149 := rfl
      have eA : FP.Core.inUnits c (q - r) (-298 - r) = a * FP.Core.one32 * FP.Core.one32 := by
        rw [← za, qm, o1]
        unfold FP.Core.inUnits
        rw [show (q - r - (-298 - r)).toNat = (q - -149).toNat + 149 by omega, Nat.pow_add, Nat.mul_assoc]
      have eB : 2 ^ (FP.Core.b32.qmin - (-298 - r)).toNat * d = b * FP.Core.one32 := by
        rw [← zb, qm]
        unfold FP.Core.inUnits
        rw [show (-149 - (-298 - r)).toNat = (r - -149).toNat by omega, Nat.mul_comm]
      have v1 : FP.Core.zmag FP.Core.b32 (FP.Core.val32 FP.Core.fconst1) = FP.Core.one32 := by decide +kernel
      have v0 : FP.Core.zmag FP.Core.b32 (FP.Core.val32 1) = 1 := by decide +kernel
      have n1 : FP.Core.val32 FP.Core.fconst1 ≠ .nan := by decide +kernel
      have le := FP.Core.zmag_roundRatio_le FP.Core.good_b32 (s := false) (A := c) (B := d) (e := q - r) (e0 := -298 - r) (V := FP.Core.val32 FP.Core.fconst1) (by omega) (FP.Core.val32_fits _) n1 (by rw [qm]; omega) (by omega) (by
        rw [eA, v1, Nat.mul_assoc FP.Core.one32, eB, ← Nat.mul_assoc, Nat.mul_comm FP.Core.one32 b]
        exact Nat.mul_le_mul_right _ (Nat.mul_le_mul_right _ hab))
      have ge := FP.Core.zmag_roundRatio_ge FP.Core.good_b32 (s := false) (A := c) (B := d) (e := q - r) (e0 := -298 - r) (V := FP.Core.val32 1) (by omega) (FP.Core.val32_fits _) (by rw [qm]; omega) (by omega) (by
        rw [eA, v0, Nat.mul_assoc 1, eB, Nat.one_mul]
        refine Nat.mul_le_mul_right _ ?_
        have : b ≤ FP.Core.one32 := Nat.le_trans hb (by rw [o1]; exact Nat.pow_le_pow_right (by decide) (by decide))
        exact Nat.le_trans this (Nat.le_mul_of_pos_left _ ha))
      rw [← hw, v1] at le
      rw [← hw, v0] at ge
      have nn : FP.Core.val32 w ≠ .nan := by rw [hw]; exact FP.Core.roundRatio_ne_nan _ _ _ _ _
      have sg : FP.Core.sgn (FP.Core.val32 w) = false := by rw [hw]; exact FP.Core.sgn_roundRatio _ _ _ _ _
      have zw : FP.Core.zval FP.Core.b32 (FP.Core.val32 w) = (FP.Core.zmag FP.Core.b32 (FP.Core.val32 w) : Int) := by
        unfold FP.Core.zval
        rw [sg]
        rfl
      have z1 : FP.Core.zval FP.Core.b32 (FP.Core.val32 FP.Core.fconst1) = (FP.Core.one32 : Int) := by decide +kernel
      refine ⟨FP.Core.fcmp_gt.mpr ⟨nn, (by rw [show FP.Core.fconst0 = 0 from rfl, FP.Core.val32_zero]; exact FP.Core.Datum.noConfusion), ?_⟩, FP.Core.fcmp_le.mpr ⟨nn, n1, ?_⟩⟩
      · rw [zw, show FP.Core.fconst0 = 0 from rfl, FP.Core.zval32_zero]; omega
      · rw [zw, z1]; omega
section SG
variable {S : SV}
theorem sgI_t {v : Nat} {z : (Nat → Bool) × Nat × Nat} : ∀ n, (sgI S v z n).2.1 = z.2.1 + sumN (fun s => if 0 < ndN S v s then 1 else 0) n := by
  intro n
  induction n with
  | zero => rfl
  | succ n ih =>
    rw [sgI, sumN]
    show (sgI S v z n).2.1 + (if 0 < ndN S v n then 1 else 0) = _
    rw [ih, Nat.add_assoc]
/-- nothing was seen while nothing is counted; else something is -/
def SGP (z : (Nat → Bool) × Nat × Nat) : Prop := z.2.2 ≤ z.2.1 ∧ ((∀ j, 0 < j → z.1 j = false) ∨ 0 < z.2.2)
theorem SGP.st {z : (Nat → Bool) × Nat × Nat} (H : SGP z) (nd : Nat) : SGP (stp z nd) := by
  obtain ⟨a, b⟩ := H
  unfold stp SGP
  refine ⟨?_, ?_⟩
  · show z.2.2 + (if 0 < nd ∧ z.1 nd = false then 1 else 0) ≤ z.2.1 + (if 0 < nd then 1 else 0)
    by_cases h : 0 < nd
    · rw [if_pos h]; split <;> omega
    · rw [if_neg h, if_neg (fun q => h q.1)]; omega
  · show (∀ j, 0 < j → va_up z.1 nd true j = false) ∨ 0 < z.2.2 + (if 0 < nd ∧ z.1 nd = false then 1 else 0)
    rcases b with b | b
    · by_cases h : 0 < nd
      · rw [if_pos ⟨h, b nd h⟩]; exact Or.inr (by omega)
      · refine Or.inl (fun j hj => ?_)
        rw [va_up_ne _ _ (by omega)]
        exact b j hj
    · exact Or.inr (by omega)
theorem sgI_P {v : Nat} {z : (Nat → Bool) × Nat × Nat} (H : SGP z) : ∀ n, SGP (sgI S v z n) := by
  intro n
  induction n with
  | zero => exact H
  | succ n ih => rw [sgI]; exact ih.st _
theorem sgO_P : ∀ n, SGP (sgO S n) := by
  intro n
  induction n with
  | zero => exact ⟨Nat.le_refl _, Or.inl (fun _ _ => rfl)⟩
  | succ n ih => rw [sgO]; exact sgI_P ih _
theorem sgO_mono : ∀ n, 0 < n → nsN S 0 ≤ (sgO S n).2.1 := by
  intro n
  induction n with
  | zero => intro h; omega
  | succ n ih =>
    intro _
    rw [sgO, sgI_t]
    by_cases z : n = 0
    · subst z
      show nsN S 0 ≤ (sgO S 0).2.1 + nsN S 0
      omega
    · have := ih (by omega)
      omega
/-- something is counted, and of what is counted something is unlike -/
theorem sg_pos (H : SVI S) (h0 : IN0 S) (hp : 0 < sNv S) : 0 < (sgO S (sNv S)).2.2 ∧ (sgO S (sNv S)).2.2 ≤ (sgO S (sNv S)).2.1 ∧ (sgO S (sNv S)).2.1 ≤ 2 ^ 20 := by
  have a := sgO_mono (S := S) (sNv S) hp
  have b := ns_pos (V := S) (k := 0) H hp (h0 hp).1
  obtain ⟨c1, c2⟩ := sgO_P (S := S) (sNv S)
  have d := (sgO_le (S := S) (sNv S)).1
  have e := H.1
  refine ⟨?_, c1, by omega⟩
  rcases c2 with c2 | c2
  · have key : ∀ n, 0 < (sgO S n).2.1 → ¬ ∀ j, 0 < j → (sgO S n).1 j = false := by
      have inner : ∀ v z m, (0 < (z : (Nat → Bool) × Nat × Nat).2.1 → ¬ ∀ j, 0 < j → z.1 j = false) → (0 < (sgI S v z m).2.1 → ¬ ∀ j, 0 < j → (sgI S v z m).1 j = false) := by
        intro v z m hz
        induction m with
        | zero => exact hz
        | succ m ih =>
          rw [sgI]
          unfold stp
          intro h1 h2
          have h1 : 0 < (sgI S v z m).2.1 + (if 0 < ndN S v m then 1 else 0) := h1
          have h2 : ∀ j, 0 < j → va_up (sgI S v z m).1 (ndN S v m) true j = false := h2
          by_cases q : 0 < ndN S v m
          · have := h2 _ q
            rw [va_up_self] at this
            cases this
          · rw [if_neg q] at h1
            refine ih h1 (fun j hj => ?_)
            have := h2 j hj
            rw [va_up_ne _ _ (by omega)] at this
            exact this
      intro n
      induction n with
      | zero => intro h; exact absurd h (Nat.lt_irrefl 0)
      | succ n ih => rw [sgO]; exact inner _ _ _ ih
    exact absurd c2 (key _ (by omega))
  · exact c2
end SG
theorem c_sharing {G : GG} {d bc bs c M n : Nat} {h : Hp} {Q : Pst} {V : SV} {x : Nat → QIS} {R : RS} (B : PU c V n x R) (h0 : IN0 V) (hp : 0 < sNv V) (C : CLS h V M n x R) (hM : M < 900000) (hd : 20 ≤ d) (hbc : 80 ≤ bc) (hbs : 500 ≤ bs) (hq : ∀ h' f, Op.cmpValue (FP.fcmp f FP.fconst0) .l = nI 1 → (Op.cmpValue (FP.fcmp f FP.fconst1) .g = -1 ∨ Op.cmpValue (FP.fcmp f FP.fconst1) .g = nI 0) → CLS h' V (M + 1) n x R → FK h h' → Q (oRet (vf f)) h') : WP G m_X11_sharing d 0 (aargs 0 [vr (some (nm 40 0))]) [] h bc bs Q := by
  obtain ⟨p1, p2, p3⟩ := sg_pos B.1 h0 hp
  have eo : o_sharing V = (nI 0, FP.fdiv (FP.i2f (nI (sgO V (sNv V)).2.2)) (FP.i2f (nI (sgO V (sNv V)).2.1))) := by
    unfold o_sharing
    rw [if_neg (by omega)]
  obtain ⟨u1, u2⟩ := fdiv_u p1 p2 p3
  refine c_X11_sharing B.1 C.2.2 hM (by omega) (fun z => absurd z (by rw [eo]; exact fun z => absurd z (by show ¬ nI 0 = nI 1; decide))) (fun _ h' c9 f9 => ?_) hbc hbs
  rw [eo]
  exact hq h' _ (by show Op.cmpValue (FP.Core.fcmp _ FP.Core.fconst0) .l = nI 1; rw [u1]; rfl) (u2.imp (fun z => by show Op.cmpValue (FP.Core.fcmp _ FP.Core.fconst1) .g = -1; rw [z]; rfl) (fun z => by show Op.cmpValue (FP.Core.fcmp _ FP.Core.fconst1) .g = nI 0; rw [z]; rfl)) (C.ofV f9 c9) f9.fk
