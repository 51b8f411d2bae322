/-! The class: an open vector is changed. -/
section CHL
variable {T : SV} {k n0 pl : Nat}
/-- the node of a slot is made anew -/
def cB (T : SV) (k n0 pl t : Nat) : Bool := chB T k n0 pl t && !(ith t n0 && sOw T (21 * k + t))
def cBn (T : SV) (k n0 pl l : Nat) : Nat := sumN (fun t => if cB T k n0 pl t = true then 1 else 0) l
theorem chS_all : ∀ l, l ≤ 21 → (sNv (chS T k n0 pl l) = sNv T ∧ sTy (chS T k n0 pl l) = sTy T ∧ sSz (chS T k n0 pl l) = sSz T ∧ sEl (chS T k n0 pl l) = sEl T ∧ sHs (chS T k n0 pl l) = sHs T ∧ sOf (chS T k n0 pl l) = sOf T ∧ sMn (chS T k n0 pl l) = sMn T ∧ sMd (chS T k n0 pl l) = sMd T + cBn T k n0 pl l) ∧
    (∀ j, (∀ t, t < l → j ≠ 21 * k + t) → sNd (chS T k n0 pl l) j = sNd T j ∧ sOw (chS T k n0 pl l) j = sOw T j) ∧
    (∀ t, t < l → sNd (chS T k n0 pl l) (21 * k + t) = (if cB T k n0 pl t = true then sMd T + cBn T k n0 pl t + 1 else sNd T (21 * k + t)) ∧ sOw (chS T k n0 pl l) (21 * k + t) = (if cB T k n0 pl t = true then true else sOw T (21 * k + t))) := by
  intro l
  induction l with
  | zero => intro _; exact ⟨⟨rfl, rfl, rfl, rfl, rfl, rfl, rfl, rfl⟩, fun _ _ => ⟨rfl, rfl⟩, fun t h => absurd h (Nat.not_lt_zero _)⟩
  | succ l ih =>
    intro hl
    obtain ⟨⟨a1, a2, a3, a4, a5, a6, a7, a8⟩, b, c⟩ := ih (by omega)
    have o9 : sOw (chS T k n0 pl l) (21 * k + l) = sOw T (21 * k + l) := (b _ (fun t ht => by omega)).2
    have e : chS T k n0 pl (l + 1) = if cB T k n0 pl l = true then s_7 (s_6 (s_2 (chS T k n0 pl l) (sMd (chS T k n0 pl l) + 1)) (21 * k + l) (sMd (chS T k n0 pl l) + 1)) (21 * k + l) true else chS T k n0 pl l := by
      rw [chS]
      show (if (chB T k n0 pl l && !(ith l n0 && sOw (chS T k n0 pl l) (21 * k + l))) = true then _ else _) = _
      rw [o9]; rfl
    rw [e]
    by_cases q : cB T k n0 pl l = true
    · rw [if_pos q]
      refine ⟨⟨a1, a2, a3, a4, a5, a6, a7, ?_⟩, fun j hj => ⟨(va_ne (hj l (by omega))).trans (b j (fun t ht => hj t (by omega))).1, (va_ne (hj l (by omega))).trans (b j (fun t ht => hj t (by omega))).2⟩, fun t ht => ?_⟩
      · show sMd (chS T k n0 pl l) + 1 = _
        rw [a8, cBn, cBn, sumN, if_pos q]; rfl
      · by_cases z : t = l
        · subst z
          rw [if_pos q, if_pos q]
          exact ⟨(va_up_self _ _ _).trans (by rw [a8]), va_up_self _ _ _⟩
        · have ct := c t (by omega)
          exact ⟨(va_ne (by omega)).trans ct.1, (va_ne (by omega)).trans ct.2⟩
    · rw [if_neg q]
      refine ⟨⟨a1, a2, a3, a4, a5, a6, a7, ?_⟩, fun j hj => b j (fun t ht => hj t (by omega)), fun t ht => ?_⟩
      · rw [a8, cBn, cBn, sumN, if_neg q]; rfl
      · by_cases z : t = l
        · subst z
          rw [if_neg q, if_neg q]
          exact b _ (fun t ht => by omega)
        · exact c t (by omega)
end CHL
theorem cBn_mono {T : SV} {k n0 pl a b : Nat} (h : a ≤ b) : cBn T k n0 pl a ≤ cBn T k n0 pl b := by
  induction b with
  | zero => rw [Nat.le_zero.mp h]; exact Nat.le_refl _
  | succ b ih =>
    by_cases e : a = b + 1
    · rw [e]; exact Nat.le_refl _
    · refine Nat.le_trans (ih (by omega)) ?_
      rw [cBn, cBn, sumN]; omega
theorem cBn_s {T : SV} {k n0 pl a b : Nat} (h : a < b) (hp : cB T k n0 pl a = true) : cBn T k n0 pl a + 1 ≤ cBn T k n0 pl b := by
  have := cBn_mono (T := T) (k := k) (n0 := n0) (pl := pl) (show a + 1 ≤ b by omega)
  have e : cBn T k n0 pl (a + 1) = cBn T k n0 pl a + 1 := by rw [cBn, cBn, sumN, if_pos hp]
  omega
/-- an open vector's path is changed -/
def CHF (S S' : SV) (k pl n' : Nat) (el' : Nat → Int32) (ru : Nat → Bool) : Prop := (sNv S' = sNv S ∧ sTy S' = sTy S ∧ sSz S' k = n' ∧ elv S' k = el' ∧ (∀ v, v ≠ k → vp S' v = vp S v)) ∧ (∀ t, t < 21 → offp pl t → ith t n' = true → ndv S' k t = ndv S k t) ∧ (∀ t, t < 21 → offp pl t → owv S' k t = owv S k t) ∧
    (∀ i, 1 ≤ i → i ≤ dOf n' → owv S' k (psl pl i) = true ∧ (ru (psl pl i) = true → ndv S' k (psl pl i) = ndv S k (psl pl i)) ∧ (ru (psl pl i) = false → sMd S < ndv S' k (psl pl i) ∧ ndv S' k (psl pl i) ≤ sMd S')) ∧ (∀ i j, 1 ≤ i → i < j → j ≤ dOf n' → ru (psl pl i) = false → ru (psl pl j) = false → ndv S' k (psl pl i) ≠ ndv S' k (psl pl j)) ∧ sMd S' = sMd S + crN ru pl (dOf n' + 1)
def ruO (S : SV) (k : Nat) : Nat → Bool := fun t => ith t (sSz S k) && owv S k t
theorem psl_m {pl i j : Nat} (hp : pl < 64) (i1 : 1 ≤ i) (h : i < j) (j3 : j ≤ 3) : psl pl i < psl pl j := by
  have hij : (i = 1 ∧ j = 2) ∨ (i = 1 ∧ j = 3) ∨ (i = 2 ∧ j = 3) := by omega
  rcases hij with ⟨rfl, rfl⟩ | ⟨rfl, rfl⟩ | ⟨rfl, rfl⟩
  · rw [psl_1, psl_2]; omega
  · rw [psl_1, psl_3]; omega
  · rw [psl_2, psl_3]; omega
theorem inR {pl s : Nat} (hs : s < 21) (hp : pl < 64) : inB (nI pl) (nI (frm s)) (nI (frm s + wid s - 1)) = true ↔ frm s ≤ pl ∧ pl < frm s + wid s := by
  have h64 := fw_le s
  have hw : 1 ≤ wid s := by unfold wid; (repeat' split) <;> omega
  unfold inB
  rw [Bool.and_eq_true, decide_eq_true_iff, decide_eq_true_iff, i32_le, i32_le, nI_toInt (by omega), nI_toInt (by omega), nI_toInt (by omega)]
  omega
theorem CHF.mk {S T : SV} {k pl n' : Nat} {el' : Nat → Int32} (hp : pl < n') (hn4 : n' ≤ 64) (hn : (n' = sSz S k ∧ pl < sSz S k) ∨ (n' = sSz S k + 1 ∧ pl = sSz S k)) (h1 : sNv T = sNv S) (h2 : sTy T = sTy S) (h3 : sSz T k = n') (h4 : elv T k = el') (h5 : ∀ v, v ≠ k → vp T v = vp S v) (h6 : sMd T = sMd S) (h7 : ∀ t, sNd T (21 * k + t) = sNd S (21 * k + t)) (h8 : ∀ t, sOw T (21 * k + t) = sOw S (21 * k + t)) : CHF S (chS T k (sSz S k) pl 21) k pl n' el' (ruO S k) := by
  obtain ⟨⟨a1, a2, a3, a4, a5, a6, a7, a8⟩, b, c⟩ := chS_all (T := T) (k := k) (n0 := sSz S k) (pl := pl) 21 (Nat.le_refl _)
  have hp64 : pl < 64 := by omega
  have d3 := dOf_b n'
  have hi : ∀ i, 1 ≤ i → i ≤ 3 → (ith (psl pl i) n' = true ↔ i ≤ dOf n') := fun i i1 i3 => ⟨fun z => by rw [ith_iff, psl_h hp64 i1 i3] at z; exact z.1, fun z => psl_i hp hn4 i1 z⟩
  -- which nodes are made anew
  have cb : ∀ t, t < 21 → (cB T k (sSz S k) pl t = true ↔ ith t n' = true ∧ ¬ offp pl t ∧ ruO S k t = false) := fun t ht => by
    have ow : owv S k t = sOw S (21 * k + t) := if_pos ht
    unfold cB chB ruO
    rw [h3, h8, ← ow, Bool.and_eq_true, Bool.and_eq_true, Bool.or_eq_true, inR ht hp64, rng_p ht hp64, Bool.not_eq_true', Bool.not_eq_true']
    constructor
    · rintro ⟨⟨q1, q2⟩, q3⟩
      refine ⟨q1, fun q => ?_, q3⟩
      rcases q2 with q2 | ⟨i, i1, i3, e⟩
      · rw [← ith_offN ht hn hn4 q, q1] at q2; cases q2
      · exact q i i1 i3 e
    · rintro ⟨q1, q2, q3⟩
      exact ⟨⟨q1, Or.inr (offp_not q2)⟩, q3⟩
  have nd : ∀ t, t < 21 → ndv (chS T k (sSz S k) pl 21) k t = if cB T k (sSz S k) pl t = true then sMd S + cBn T k (sSz S k) pl t + 1 else ndv S k t := fun t ht => by
    rw [show ndv (chS T k (sSz S k) pl 21) k t = sNd (chS T k (sSz S k) pl 21) (21 * k + t) from if_pos ht, (c t ht).1, h6, h7, show ndv S k t = sNd S (21 * k + t) from if_pos ht]
  have ow : ∀ t, t < 21 → owv (chS T k (sSz S k) pl 21) k t = if cB T k (sSz S k) pl t = true then true else owv S k t := fun t ht => by
    rw [show owv (chS T k (sSz S k) pl 21) k t = sOw (chS T k (sSz S k) pl 21) (21 * k + t) from if_pos ht, (c t ht).2, h8, show owv S k t = sOw S (21 * k + t) from if_pos ht]
  have on : ∀ i, 1 ≤ i → i ≤ 3 → ¬ offp pl (psl pl i) := fun i i1 i3 z => z i i1 i3 rfl
  refine ⟨⟨a1.trans h1, a2.trans h2, by rw [a3]; exact h3, ?_, fun v hv => ?_⟩, fun t ht ho _ => ?_, fun t ht ho => ?_, fun i i1 i2 => ?_, fun i j i1 i2 i3 r1 r2 => ?_, ?_⟩
  · unfold elv; rw [a4]; exact h4
  · exact (vp_ext (by rw [a2]) (by rw [a3]) (fun s hs => (b _ (fun t ht => by omega)).1) (fun j hj => by rw [a4]) (fun s hs => (b _ (fun t ht => by omega)).2) (fun j hj => by rw [a5]) (fun j hj => by rw [a6]) (fun j hj => by rw [a7])).trans (h5 v hv)
  · rw [nd t ht, if_neg (fun z => ((cb t ht).mp z).2.1 ho)]
  · rw [ow t ht, if_neg (fun z => ((cb t ht).mp z).2.1 ho)]
  · have ht := psl_lt (h := i) hp64
    have h9 := (hi i i1 (by omega)).mpr i2
    cases hr : ruO S k (psl pl i) with
    | true =>
      have q : ¬ cB T k (sSz S k) pl (psl pl i) = true := fun z => by have := ((cb _ ht).mp z).2.2; rw [hr] at this; cases this
      have hr2 : owv S k (psl pl i) = true := by unfold ruO at hr; rw [Bool.and_eq_true] at hr; exact hr.2
      rw [nd _ ht, ow _ ht, if_neg q, if_neg q]
      exact ⟨hr2, fun _ => rfl, fun z => nomatch z⟩
    | false =>
      have q : cB T k (sSz S k) pl (psl pl i) = true := (cb _ ht).mpr ⟨h9, on i i1 (by omega), hr⟩
      rw [nd _ ht, ow _ ht, if_pos q, if_pos q, a8, h6]
      have := cBn_s (show psl pl i < 21 from ht) q
      exact ⟨rfl, fun z => (nomatch z), fun _ => ⟨by omega, by omega⟩⟩
  · have hti := psl_lt (h := i) hp64
    have htj := psl_lt (h := j) hp64
    have qi : cB T k (sSz S k) pl (psl pl i) = true := (cb _ hti).mpr ⟨(hi i i1 (by omega)).mpr (by omega), on i i1 (by omega), r1⟩
    have qj : cB T k (sSz S k) pl (psl pl j) = true := (cb _ htj).mpr ⟨(hi j (by omega) (by omega)).mpr i3, on j (by omega) (by omega), r2⟩
    rw [nd _ hti, nd _ htj, if_pos qi, if_pos qj]
    have := cBn_s (psl_m hp64 i1 i2 (by omega)) qi
    omega
  · rw [a8, h6]
    have e1 : cBn T k (sSz S k) pl 21 = (if (ith (psl pl 1) n' && !ruO S k (psl pl 1)) = true then 1 else 0) + (if (ith (psl pl 2) n' && !ruO S k (psl pl 2)) = true then 1 else 0) + (if (ith (psl pl 3) n' && !ruO S k (psl pl 3)) = true then 1 else 0) := by
      refine sum_path hp64 (fun s => ith s n' && !ruO S k s) (fun s hs q1 q2 => ?_) (fun s hs q => ?_)
      · rw [Bool.and_eq_true, Bool.not_eq_true'] at q1
        exact if_pos ((cb s hs).mpr ⟨q1.1, fun z => q2.elim fun i q => z i q.1 q.2.1 q.2.2, q1.2⟩)
      · refine if_neg (fun z => q ?_)
        obtain ⟨z1, z2, z3⟩ := (cb s hs).mp z
        exact ⟨by show (ith s n' && !ruO S k s) = true; rw [z1, z3]; rfl, offp_not z2⟩
    rw [e1]
    have i1 := hi 1 (by decide) (by decide)
    have i2 := hi 2 (by decide) (by decide)
    have i3 := hi 3 (by decide) (by decide)
    have key : ∀ i, (if (ith (psl pl i) n' && !ruO S k (psl pl i)) = true then 1 else 0) = if ith (psl pl i) n' = true then (if ruO S k (psl pl i) = true then 0 else 1) else 0 := fun i => by
      cases ith (psl pl i) n' <;> cases ruO S k (psl pl i) <;> rfl
    rw [key, key, key, if_pos (i1.mpr d3.1)]
    have c2 : crN (ruO S k) pl (1 + 1) = 0 + (if ruO S k (psl pl 1) = true then 0 else 1) := rfl
    have c3 : crN (ruO S k) pl (2 + 1) = 0 + (if ruO S k (psl pl 1) = true then 0 else 1) + (if ruO S k (psl pl 2) = true then 0 else 1) := rfl
    have c4 : crN (ruO S k) pl (3 + 1) = 0 + (if ruO S k (psl pl 1) = true then 0 else 1) + (if ruO S k (psl pl 2) = true then 0 else 1) + (if ruO S k (psl pl 3) = true then 0 else 1) := rfl
    have hD : dOf n' = 1 ∨ dOf n' = 2 ∨ dOf n' = 3 := by omega
    rcases hD with e | e | e <;> rw [e] at i2 i3 ⊢
    · have z2 : ¬ ith (psl pl 2) n' = true := fun z => by have := i2.mp z; omega
      have z3 : ¬ ith (psl pl 3) n' = true := fun z => by have := i3.mp z; omega
      rw [c2]; simp only [if_neg z2, if_neg z3]; omega
    · have z2 : ith (psl pl 2) n' = true := i2.mpr (by decide)
      have z3 : ¬ ith (psl pl 3) n' = true := fun z => by have := i3.mp z; omega
      rw [c3]; simp only [if_pos z2, if_neg z3]; omega
    · have z2 : ith (psl pl 2) n' = true := i2.mpr (by decide)
      have z3 : ith (psl pl 3) n' = true := i3.mpr (by decide)
      rw [c4]; simp only [if_pos z2, if_pos z3]; omega
