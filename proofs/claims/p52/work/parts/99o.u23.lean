/-! The class: the numbers of a new vector's nodes. -/
theorem eqUp_iff {f : Nat → Int32} {a b lo : Nat} : ∀ n, eqUp f a b lo n = true ↔ ∀ j, j < n → f (64 * a + (lo + j)) = f (64 * b + (lo + j)) := by
  intro n
  induction n with
  | zero => exact ⟨fun _ j hj => absurd hj (Nat.not_lt_zero _), fun _ => rfl⟩
  | succ n ih =>
    rw [eqUp, Bool.and_eq_true, decide_eq_true_iff, ih]
    constructor
    · rintro ⟨h1, h2⟩ j hj
      by_cases e : j = n
      · rw [e]; exact h2
      · exact h1 j (by omega)
    · exact fun h => ⟨fun j hj => h j (by omega), h n (Nat.lt_succ_self n)⟩
/-- below a slot the elements are the same -/
def smP (n n' : Nat) (el el' : Nat → Int32) (s : Nat) : Prop := min n' (frm s + wid s) = min n (frm s + wid s) ∧ ∀ j, frm s ≤ j → j < min n (frm s + wid s) → el' j = el j
theorem lim_min {S : SV} {s x : Nat} : lim S s x = min (sSz S x) (frm s + wid s) := by
  unfold lim
  by_cases e : sSz S x < frm s + wid s
  · rw [if_pos e]; omega
  · rw [if_neg e]; omega
theorem smO_iff {S : SV} {v w s : Nat} : smO S v w s = true ↔ ith s (sSz S w) = true ∧ smP (sSz S w) (sSz S v) (elv S w) (elv S v) s := by
  have h64 := fw_le s
  unfold smO smB smF
  rw [Bool.and_eq_true, Bool.and_eq_true, decide_eq_true_iff, eqUp_iff, lim_min, lim_min]
  unfold smP elv
  constructor
  · rintro ⟨h1, h2, h3⟩
    refine ⟨h1, h2, fun j h4 h5 => ?_⟩
    rw [if_pos (by omega), if_pos (by omega)]
    have := h3 (j - frm s) (by omega)
    rwa [show frm s + (j - frm s) = j by omega] at this
  · rintro ⟨h1, h2, h3⟩
    refine ⟨h1, h2, fun j hj => ?_⟩
    have := h3 (frm s + j) (by omega) (by omega)
    rwa [if_pos (by omega), if_pos (by omega)] at this
theorem rng_p {s pl : Nat} (hs : s < 21) (hp : pl < 64) : (frm s ≤ pl ∧ pl < frm s + wid s) ↔ ∃ i, 1 ≤ i ∧ i ≤ 3 ∧ s = psl pl i := by
  unfold frm wid
  constructor
  · intro h
    by_cases a : s < 16
    · rw [if_pos a, if_pos a] at h; exact ⟨1, by decide, by decide, by rw [psl_1]; omega⟩
    · rw [if_neg a, if_neg a] at h
      by_cases b : s < 20
      · rw [if_pos b, if_pos b] at h; exact ⟨2, by decide, by decide, by rw [psl_2]; omega⟩
      · exact ⟨3, by decide, by decide, by rw [psl_3]; omega⟩
  · rintro ⟨i, i1, i3, e⟩
    have hi : i = 1 ∨ i = 2 ∨ i = 3 := by omega
    rcases hi with z | z | z <;> subst z
    · rw [psl_1] at e; rw [if_pos (by omega), if_pos (by omega)]; omega
    · rw [psl_2] at e; rw [if_neg (by omega), if_pos (by omega), if_neg (by omega), if_pos (by omega)]; omega
    · rw [psl_3] at e; rw [if_neg (by omega), if_neg (by omega), if_neg (by omega), if_neg (by omega)]; omega
/-- one place is written, or one more is there: what is the same is off the path -/
theorem smP_up {n n' pl s : Nat} {el el' : Nat → Int32} (hs : s < 21) (hn4 : n' ≤ 64) (hn : (n' = n ∧ pl < n ∧ el' pl ≠ el pl) ∨ (n' = n + 1 ∧ pl = n)) (he : ∀ j, j ≠ pl → el' j = el j) (hi : ith s n' = true) : (ith s n = true ∧ smP n n' el el' s) ↔ ∀ i, 1 ≤ i → i ≤ 3 → s ≠ psl pl i := by
  have hp64 : pl < 64 := by omega
  constructor
  · rintro ⟨h1, h2, h3⟩ i i1 i3 e
    have hr := (rng_p hs hp64).mpr ⟨i, i1, i3, e⟩
    rcases hn with ⟨rfl, z1, z2⟩ | ⟨rfl, rfl⟩
    · exact z2 (h3 pl hr.1 (by omega))
    · omega
  · intro ho
    have hr : ¬ (frm s ≤ pl ∧ pl < frm s + wid s) := fun z => by
      obtain ⟨i, i1, i3, e⟩ := (rng_p hs hp64).mp z
      exact ho i i1 i3 e
    have hio := ith_offN hs (show (n' = n ∧ pl < n) ∨ (n' = n + 1 ∧ pl = n) by rcases hn with z | z; exact Or.inl ⟨z.1, z.2.1⟩; exact Or.inr z) hn4 ho
    have hi2 : ith s n = true := by rw [← hio]; exact hi
    refine ⟨hi2, ?_, fun j h4 h5 => he j (by omega)⟩
    rw [ith_iff] at hi2
    rcases hn with ⟨rfl, z1, z2⟩ | ⟨rfl, rfl⟩
    · rfl
    · have hw : 1 ≤ wid s := by unfold wid; (repeat' split) <;> omega
      by_cases q : s = 0
      · subst q
        have e1 : frm 0 = 0 := rfl
        rw [e1] at hr ⊢; omega
      · omega
theorem smP_dn {pl s : Nat} {el : Nat → Int32} (hs : s < 21) (hp64 : pl < 64) (hi : ith s pl = true) : (ith s (pl + 1) = true ∧ smP (pl + 1) pl el el s) ↔ ∀ i, 1 ≤ i → i ≤ 3 → s ≠ psl pl i := by
  constructor
  · rintro ⟨h1, h2, h3⟩ i i1 i3 e
    have hr := (rng_p hs hp64).mpr ⟨i, i1, i3, e⟩
    omega
  · intro ho
    have hr : ¬ (frm s ≤ pl ∧ pl < frm s + wid s) := fun z => by
      obtain ⟨i, i1, i3, e⟩ := (rng_p hs hp64).mp z
      exact ho i i1 i3 e
    refine ⟨by rw [← ith_dn hs hp64 ho]; exact hi, ?_, fun j _ _ => rfl⟩
    rw [ith_iff] at hi
    have hw : 1 ≤ wid s := by unfold wid; (repeat' split) <;> omega
    by_cases q : s = 0
    · subst q
      have e1 : frm 0 = 0 := rfl
      rw [e1] at hr ⊢; omega
    · omega
theorem smP_rf {n s : Nat} {el : Nat → Int32} : smP n n el el s := ⟨rfl, fun _ _ _ => rfl⟩
/-! the numbers -/
theorem nfN_at {S : SV} {v : Nat} {sm : Nat → Bool} {sh : Nat → Nat} : ∀ k s, s < k → k ≤ 21 → nfN S v sm sh k (21 * v + s) = if ith s (sSz S v) = true then (if sm s = true then sh s else nfM S v sm s + 1) else 0 := by
  intro k
  induction k with
  | zero => intro s h; exact absurd h (Nat.not_lt_zero _)
  | succ k ih =>
    intro s hs hk
    rw [nfN]
    by_cases e : s = k
    · subst e; rw [va_up_self]
    · rw [va_up_ne _ _ (by omega)]; exact ih s (by omega) (by omega)
theorem nfN_ot {S : SV} {v w : Nat} {sm : Nat → Bool} {sh : Nat → Nat} (h : w ≠ v) : ∀ k s, s < 21 → k ≤ 21 → nfN S v sm sh k (21 * w + s) = sNd S (21 * w + s) := by
  intro k
  induction k with
  | zero => intro s _ _; rfl
  | succ k ih => intro s hs hk; rw [nfN, va_up_ne _ _ (by omega)]; exact ih s hs (by omega)
theorem nfO_at {S : SV} {v : Nat} : ∀ k s, s < k → k ≤ 21 → nfO S v k (21 * v + s) = false := by
  intro k
  induction k with
  | zero => intro s h; exact absurd h (Nat.not_lt_zero _)
  | succ k ih =>
    intro s hs hk
    rw [nfO]
    by_cases e : s = k
    · subst e; rw [va_up_self]
    · rw [va_up_ne _ _ (by omega)]; exact ih s (by omega) (by omega)
theorem nfO_ot {S : SV} {v w : Nat} (h : w ≠ v) : ∀ k s, s < 21 → k ≤ 21 → nfO S v k (21 * w + s) = sOw S (21 * w + s) := by
  intro k
  induction k with
  | zero => intro s _ _; rfl
  | succ k ih => intro s hs hk; rw [nfO, va_up_ne _ _ (by omega)]; exact ih s hs (by omega)
theorem nfM_sum {S : SV} {v : Nat} {sm : Nat → Bool} : ∀ k, nfM S v sm k = sMd S + sumN (fun s => if (ith s (sSz S v) && !sm s) = true then 1 else 0) k := by
  intro k
  induction k with
  | zero => rfl
  | succ k ih =>
    rw [nfM, sumN, ih]
    split <;> omega
theorem nfM_mono {S : SV} {v : Nat} {sm : Nat → Bool} {a b : Nat} (h : a ≤ b) : nfM S v sm a ≤ nfM S v sm b := by
  induction b with
  | zero => rw [Nat.le_zero.mp h]; exact Nat.le_refl _
  | succ b ih =>
    by_cases e : a = b + 1
    · rw [e]; exact Nat.le_refl _
    · refine Nat.le_trans (ih (by omega)) ?_
      rw [nfM]; split <;> omega
theorem nfM_new {S : SV} {v s k : Nat} {sm : Nat → Bool} (h1 : ith s (sSz S v) = true) (h2 : sm s = false) (hk : s < k) : nfM S v sm s + 1 ≤ nfM S v sm k := by
  have := nfM_mono (S := S) (v := v) (sm := sm) (show s + 1 ≤ k by omega)
  rw [nfM, if_pos (by rw [h1, h2]; rfl)] at this
  exact this
theorem sum_pt {a : Nat} : ∀ n, sumN (fun s => if s = a then 1 else 0) n = if a < n then 1 else 0 := by
  intro n
  induction n with
  | zero => rfl
  | succ n ih =>
    rw [sumN, ih]
    by_cases e : n = a
    · rw [if_pos e, if_neg (by omega), if_pos (by omega)]
    · rw [if_neg e]
      by_cases q : a < n
      · rw [if_pos q, if_pos (by omega)]
      · rw [if_neg q, if_neg (by omega)]
theorem sum_add {f g : Nat → Nat} : ∀ n, sumN (fun s => f s + g s) n = sumN f n + sumN g n := by
  intro n
  induction n with
  | zero => rfl
  | succ n ih => rw [sumN, sumN, sumN, ih]; omega
theorem sum_zero : ∀ n, sumN (fun _ => 0) n = 0 := by
  intro n
  induction n with
  | zero => rfl
  | succ n ih => rw [sumN, ih]
/-- over a path -/
theorem sum_path {pl : Nat} (hp : pl < 64) (P : Nat → Bool) {f : Nat → Nat} (hf1 : ∀ s, s < 21 → P s = true → (∃ i, 1 ≤ i ∧ i ≤ 3 ∧ s = psl pl i) → f s = 1) (hf0 : ∀ s, s < 21 → ¬ (P s = true ∧ ∃ i, 1 ≤ i ∧ i ≤ 3 ∧ s = psl pl i) → f s = 0) : sumN f 21 = (if P (psl pl 1) = true then 1 else 0) + (if P (psl pl 2) = true then 1 else 0) + (if P (psl pl 3) = true then 1 else 0) := by
  have pt : ∀ i, 1 ≤ i → i ≤ 3 → sumN (fun s => if P (psl pl i) = true then (if s = psl pl i then 1 else 0) else 0) 21 = if P (psl pl i) = true then 1 else 0 := fun i i1 i3 => by
    by_cases q : P (psl pl i) = true
    · simp only [if_pos q]
      rw [sum_pt, if_pos (psl_lt hp)]
    · simp only [if_neg q]
      exact sum_zero 21
  rw [← pt 1 (by decide) (by decide), ← pt 2 (by decide) (by decide), ← pt 3 (by decide) (by decide), ← sum_add, ← sum_add]
  refine sumN_c 21 (fun s hs => ?_)
  have d12 : psl pl 1 ≠ psl pl 2 := by rw [psl_1, psl_2]; omega
  have d13 : psl pl 1 ≠ psl pl 3 := by rw [psl_1, psl_3]; omega
  have d23 : psl pl 2 ≠ psl pl 3 := by rw [psl_2, psl_3]; omega
  by_cases e1 : s = psl pl 1
  · subst e1
    rw [if_neg d12, if_neg d13, if_pos rfl, ite_self, ite_self]
    by_cases q : P (psl pl 1) = true
    · rw [if_pos q, hf1 _ hs q ⟨1, by decide, by decide, rfl⟩]
    · rw [if_neg q, hf0 _ hs (fun z => q z.1)]
  · by_cases e2 : s = psl pl 2
    · subst e2
      rw [if_neg e1, if_neg d23, if_pos rfl, ite_self, ite_self]
      by_cases q : P (psl pl 2) = true
      · rw [if_pos q, hf1 _ hs q ⟨2, by decide, by decide, rfl⟩]
      · rw [if_neg q, hf0 _ hs (fun z => q z.1)]
    · by_cases e3 : s = psl pl 3
      · subst e3
        rw [if_neg e1, if_neg e2, if_pos rfl, ite_self, ite_self]
        by_cases q : P (psl pl 3) = true
        · rw [if_pos q, hf1 _ hs q ⟨3, by decide, by decide, rfl⟩]
        · rw [if_neg q, hf0 _ hs (fun z => q z.1)]
      · rw [if_neg e1, if_neg e2, if_neg e3, ite_self, ite_self, ite_self]
        refine hf0 s hs (fun z => ?_)
        obtain ⟨-, i, i1, i3, e⟩ := z
        have hi : i = 1 ∨ i = 2 ∨ i = 3 := by omega
        rcases hi with z | z | z <;> subst z
        · exact e1 e
        · exact e2 e
        · exact e3 e
