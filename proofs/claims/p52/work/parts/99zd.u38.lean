/-! The class: the nodes of a value. -/
theorem mem_trP {α : Type} {g : α → List α} {c : Nat → Option α} {x : α} : ∀ n, x ∈ trP g c n ↔ ∃ p, p < n ∧ ∃ t, c p = some t ∧ x ∈ g t := by
  intro n
  induction n with
  | zero => exact ⟨fun h => (nomatch h), fun ⟨p, hp, _⟩ => absurd hp (Nat.not_lt_zero _)⟩
  | succ n ih =>
    rw [trP, List.mem_append, ih]
    constructor
    · rintro (⟨p, h1, h2⟩ | h)
      · exact ⟨p, by omega, h2⟩
      · cases e : c n with
        | none => rw [e] at h; exact (nomatch h)
        | some t => rw [e] at h; exact ⟨n, Nat.lt_succ_self n, t, e, h⟩
    · rintro ⟨p, h1, t, h2, h3⟩
      by_cases z : p = n
      · subst z; right; rw [h2]; exact h3
      · exact Or.inl ⟨p, by omega, t, h2, h3⟩
theorem nodup_trP {α : Type} {g : α → List α} {c : Nat → Option α} (tag : α → Nat) : ∀ n, (∀ p t, p < n → c p = some t → (g t).Nodup ∧ ∀ x, x ∈ g t → tag x = p) → (trP g c n).Nodup := by
  intro n
  induction n with
  | zero => intro _; exact List.nodup_nil
  | succ n ih =>
    intro h
    rw [trP]
    have h1 := ih (fun p t hp hc => h p t (by omega) hc)
    cases e : c n with
    | none => show (trP g c n ++ []).Nodup; rw [List.append_nil]; exact h1
    | some t =>
      have h2 := h n t (Nat.lt_succ_self n) e
      refine List.nodup_append.mpr ⟨h1, h2.1, fun a ha b hb hab => ?_⟩
      obtain ⟨p, p1, t2, p2, p3⟩ := (mem_trP n).mp ha
      have q1 := (h p t2 (by omega) p2).2 a p3
      have q2 := h2.2 b hb
      rw [← hab] at q2; omega
/-! vectors -/
def chW (n s p : Nat) : Option Nat := if s < 16 then none else if ith (chs s p) n = true then some (chs s p) else none
theorem VT.tre {h : Hp} {M n : Nat} {nd : Nat → Nat} {el : Nat → Int32} {ow : Nat → Bool} {o : Int32} (V : VT h M n nd el ow o) : ∀ f s, s < 21 → ith s n = true → hOf s ≤ f → TRE h nd (chW n) f s := by
  intro f
  induction f with
  | zero => intro s _ _ hf; exfalso; unfold hOf at hf; split at hf <;> (try split at hf) <;> omega
  | succ f ih =>
    intro s hs hi hf
    obtain ⟨x, hO, hx, -⟩ := V s hs hi
    have hw := hx.wf
    have h2 := hx.2
    refine ⟨x, hO, hw, fun hb p hp => ?_, fun hb p hp => ?_, fun p hp t ht => ?_⟩
    · unfold chW
      by_cases e : s < 16
      · rw [if_pos e]
      · rw [if_neg e] at h2
        rw [h2.2.2.2.2.1] at hb; cases hb
    · unfold chW
      by_cases e : s < 16
      · rw [if_pos e] at h2
        exact absurd h2.2.2.2.2.1 hb
      · rw [if_neg e] at h2 ⊢
        rw [h2.2.2.2.2.2.2.2.1 p hp]
        unfold chV
        by_cases q : ith (chs s p) n = true
        · rw [if_pos q, if_pos q]; rfl
        · rw [if_neg q, if_neg q]; rfl
    · unfold chW at ht
      by_cases e : s < 16
      · rw [if_pos e] at ht; cases ht
      · rw [if_neg e] at ht
        by_cases q : ith (chs s p) n = true
        · rw [if_pos q] at ht
          cases ht
          have := chs_lt e hs hp
          exact ih _ this.1 q (by omega)
        · rw [if_neg q] at ht; cases ht
theorem chW_l : ∀ n, n < 65 → (trL (chW n) 3 (rtS n)).Nodup ∧ (∀ s, s < 21 → (s ∈ trL (chW n) 3 (rtS n) ↔ ith s n = true)) ∧ ∀ s, s ∈ trL (chW n) 3 (rtS n) → s < 21 := by decide +kernel
/-! maps -/
def chM (hs : Nat → Bool) (q : Nat × Nat) (p : Nat) : Option (Nat × Nat) := if q.1 < 4 ∧ 1 < ct hs (q.1 + 1) (q.2 + 2 ^ (2 * q.1) * p) then some (q.1 + 1, q.2 + 2 ^ (2 * q.1) * p) else none
def nuM (mn : Nat → Nat) (q : Nat × Nat) : Nat := mn (lst q.1 + q.2)
theorem MTf.tre {h : Hp} {M : Nat} {hs : Nat → Bool} {of : Nat → Int32} {mn : Nat → Nat} (T : MTf h M hs of mn) : ∀ f l b, l + f = 5 → l ≤ 4 → b < 2 ^ (2 * l) → (l = 0 ∨ 1 < ct hs l b) → TRE h (nuM mn) (chM hs) f (l, b) := by
  intro f
  induction f with
  | zero => intro l b h1 h2; omega
  | succ f ih =>
    intro l b h1 hl hb hp
    obtain ⟨x, hO, hx⟩ := T l b hl hb hp
    refine ⟨x, hO, hx.wf, fun hk p hp4 => ?_, fun hk p hp4 => ?_, fun p hp4 t ht => ?_⟩
    · unfold chM
      rcases hx.2 with ⟨h4, h5, -⟩ | ⟨h4, -⟩
      · rw [h5.2.2.2.2.2.1.1] at hk; cases hk
      · exact if_neg (fun z => by have := z.1; simp only at this; omega)
    · rcases hx.2 with ⟨h4, h5, h6⟩ | ⟨h4, h5, -⟩
      · have pl := h6 p hp4
        unfold chM
        show KN_bl x p = Option.map (fun t => nm 45 (nuM mn t)) (if l < 4 ∧ 1 < ct hs (l + 1) (b + 2 ^ (2 * l) * p) then some (l + 1, b + 2 ^ (2 * l) * p) else none)
        rcases pl with ⟨c, -, -, e⟩ | ⟨c, -, e⟩ | ⟨c, -, -, e⟩
        · rw [if_neg (fun z => by omega), e]; rfl
        · rw [if_neg (fun z => by omega), e]; rfl
        · rw [if_pos ⟨h4, c⟩, e]; rfl
      · exact absurd h5.2.2.2.2.2.1 hk
    · unfold chM at ht
      by_cases q : l < 4 ∧ 1 < ct hs (l + 1) (b + 2 ^ (2 * l) * p)
      · have ht : (if l < 4 ∧ 1 < ct hs (l + 1) (b + 2 ^ (2 * l) * p) then some (l + 1, b + 2 ^ (2 * l) * p) else none) = some t := ht
        rw [if_pos q] at ht
        cases ht
        exact ih (l + 1) _ (by omega) (by omega) (blk_lt hb hp4) (Or.inr q.2)
      · have ht : (if l < 4 ∧ 1 < ct hs (l + 1) (b + 2 ^ (2 * l) * p) then some (l + 1, b + 2 ^ (2 * l) * p) else none) = some t := ht
        rw [if_neg q] at ht; cases ht
theorem ct_anc {hs : Nat → Bool} {l L B : Nat} (h : l ≤ L) : ct hs L B ≤ ct hs l (B % 2 ^ (2 * l)) := sumN_le 1000 (fun j _ => by
  unfold ctK
  by_cases q : hs j = true ∧ btN j L = B
  · have e : btN j l = B % 2 ^ (2 * l) := by
      rw [← q.2]
      unfold btN
      rw [Nat.mod_mod_of_dvd _ (Nat.pow_dvd_pow 2 (by omega))]
    rw [if_pos q, if_pos ⟨q.1, e⟩]; exact Nat.le_refl _
  · rw [if_neg q]; exact Nat.zero_le _)
/-- the nodes of a block -/
def blM (hs : Nat → Bool) (l b : Nat) (q : Nat × Nat) : Prop := l ≤ q.1 ∧ q.1 ≤ 4 ∧ q.2 < 2 ^ (2 * q.1) ∧ q.2 % 2 ^ (2 * l) = b ∧ (q.1 = l ∨ 1 < ct hs q.1 q.2)
theorem chM_s {hs : Nat → Bool} {l b p : Nat} {t : Nat × Nat} (h : chM hs (l, b) p = some t) : l < 4 ∧ 1 < ct hs (l + 1) (b + 2 ^ (2 * l) * p) ∧ t = (l + 1, b + 2 ^ (2 * l) * p) := by
  have h : (if l < 4 ∧ 1 < ct hs (l + 1) (b + 2 ^ (2 * l) * p) then some (l + 1, b + 2 ^ (2 * l) * p) else none) = some t := h
  by_cases q : l < 4 ∧ 1 < ct hs (l + 1) (b + 2 ^ (2 * l) * p)
  · rw [if_pos q] at h; cases h; exact ⟨q.1, q.2, rfl⟩
  · rw [if_neg q] at h; cases h
theorem pow_s (l : Nat) : (2 : Nat) ^ (2 * (l + 1)) = 2 ^ (2 * l) * 4 := by rw [show 2 * (l + 1) = 2 * l + 2 by omega, Nat.pow_add]
theorem mem_chM {hs : Nat → Bool} : ∀ f l b, l + f = 5 → l ≤ 4 → b < 2 ^ (2 * l) → ∀ q, q ∈ trL (chM hs) f (l, b) ↔ blM hs l b q := by
  intro f
  induction f with
  | zero => intro l b h1 h2; omega
  | succ f ih =>
    intro l b h1 hl hb q
    rw [trL, List.mem_cons, mem_trP]
    constructor
    · rintro (e | ⟨p, p1, t, p2, p3⟩)
      · rw [e]; exact ⟨Nat.le_refl _, hl, hb, Nat.mod_eq_of_lt hb, Or.inl rfl⟩
      · obtain ⟨t1, t2, t3⟩ := chM_s p2
        rw [t3] at p3
        obtain ⟨a1, a2, a3, a4, a5⟩ := (ih (l + 1) _ (by omega) (by omega) (blk_lt hb p1) q).mp p3
        refine ⟨by omega, a2, a3, ?_, Or.inr ?_⟩
        · have : q.2 % 2 ^ (2 * (l + 1)) % 2 ^ (2 * l) = (b + 2 ^ (2 * l) * p) % 2 ^ (2 * l) := by rw [a4]
          rw [Nat.mod_mod_of_dvd _ (Nat.pow_dvd_pow 2 (by omega)), Nat.add_mul_mod_self_left, Nat.mod_eq_of_lt hb] at this
          exact this
        · rcases a5 with a5 | a5
          · rw [a5] at a3 ⊢
            rw [Nat.mod_eq_of_lt a3] at a4
            rw [a4]; exact t2
          · exact a5
    · rintro ⟨a1, a2, a3, a4, a5⟩
      by_cases e : q.1 = l
      · left
        rw [e] at a3
        rw [Nat.mod_eq_of_lt a3] at a4
        exact Prod.ext e a4
      · right
        have c := a5.resolve_left e
        have em : q.2 % 2 ^ (2 * (l + 1)) = b + 2 ^ (2 * l) * (q.2 / 2 ^ (2 * l) % 4) := by rw [pow_s, Nat.mod_mul, a4]
        have hc : 1 < ct hs (l + 1) (b + 2 ^ (2 * l) * (q.2 / 2 ^ (2 * l) % 4)) := by
          rw [← em]; exact Nat.lt_of_lt_of_le c (ct_anc (by omega))
        have p4 : q.2 / 2 ^ (2 * l) % 4 < 4 := Nat.mod_lt _ (by decide)
        refine ⟨q.2 / 2 ^ (2 * l) % 4, p4, (l + 1, b + 2 ^ (2 * l) * (q.2 / 2 ^ (2 * l) % 4)), if_pos ⟨by show l < 4; omega, hc⟩, ?_⟩
        exact (ih (l + 1) _ (by omega) (by omega) (blk_lt hb p4) q).mpr ⟨by omega, a2, a3, em, Or.inr c⟩
theorem nodup_chM {hs : Nat → Bool} : ∀ f l b, l + f = 5 → l ≤ 4 → b < 2 ^ (2 * l) → (trL (chM hs) f (l, b)).Nodup := by
  intro f
  induction f with
  | zero => intro l b h1 h2; omega
  | succ f ih =>
    intro l b h1 hl hb
    rw [trL, List.nodup_cons]
    refine ⟨fun z => ?_, nodup_trP (fun q => q.2 / 2 ^ (2 * l) % 4) 4 (fun p t hp ht => ?_)⟩
    · obtain ⟨p, p1, t, p2, p3⟩ := (mem_trP 4).mp z
      obtain ⟨t1, t2, t3⟩ := chM_s p2
      rw [t3] at p3
      have := ((mem_chM f (l + 1) _ (by omega) (by omega) (blk_lt hb p1) (l, b)).mp p3).1
      simp only at this; omega
    · obtain ⟨t1, t2, t3⟩ := chM_s ht
      rw [t3]
      refine ⟨ih (l + 1) _ (by omega) (by omega) (blk_lt hb hp), fun q hq => ?_⟩
      obtain ⟨a1, a2, a3, a4, a5⟩ := (mem_chM f (l + 1) _ (by omega) (by omega) (blk_lt hb hp) q).mp hq
      rw [pow_s, Nat.mod_mul] at a4
      have e1 := congrArg (fun z => z % 2 ^ (2 * l)) a4
      simp only [Nat.add_mul_mod_self_left, Nat.mod_mod, Nat.mod_eq_of_lt hb] at e1
      rw [e1] at a4
      exact Nat.eq_of_mul_eq_mul_left pow_pos2 (Nat.add_left_cancel a4)
theorem lst_ex {s : Nat} (h : s < 341) : ∃ l b, l ≤ 4 ∧ b < 2 ^ (2 * l) ∧ s = lst l + b := by
  by_cases a0 : s < 1
  · exact ⟨0, s, by decide, a0, by show s = 0 + s; omega⟩
  · by_cases a1 : s < 5
    · exact ⟨1, s - 1, by decide, by show s - 1 < 4; omega, by show s = 1 + (s - 1); omega⟩
    · by_cases a2 : s < 21
      · exact ⟨2, s - 5, by decide, by show s - 5 < 16; omega, by show s = 5 + (s - 5); omega⟩
      · by_cases a3 : s < 85
        · exact ⟨3, s - 21, by decide, by show s - 21 < 64; omega, by show s = 21 + (s - 21); omega⟩
        · exact ⟨4, s - 85, by decide, by show s - 85 < 256; omega, by show s = 85 + (s - 85); omega⟩
/-- the slots of a map's nodes -/
theorem slM {hs : Nat → Bool} : ((trL (chM hs) 5 (0, 0)).map (fun q => lst q.1 + q.2)).Nodup ∧ ∀ s, s ∈ (trL (chM hs) 5 (0, 0)).map (fun q => lst q.1 + q.2) ↔ s < 341 ∧ ∃ l b, l ≤ 4 ∧ b < 2 ^ (2 * l) ∧ s = lst l + b ∧ (l = 0 ∨ 1 < ct hs l b) := by
  have hm := mem_chM (hs := hs) 5 0 0 rfl (by decide) (by decide)
  refine ⟨?_, fun s => ?_⟩
  · unfold List.Nodup
    rw [List.pairwise_map]
    refine List.Pairwise.imp_of_mem (fun {a b} ha hb hab e => hab ?_) (nodup_chM (hs := hs) 5 0 0 rfl (by decide) (by decide))
    obtain ⟨-, a2, a3, -⟩ := (hm a).mp ha
    obtain ⟨-, b2, b3, -⟩ := (hm b).mp hb
    obtain ⟨e1, e2⟩ := lst_inj a2 b2 a3 b3 e
    exact Prod.ext e1 e2
  · rw [List.mem_map]
    constructor
    · rintro ⟨q, hq, e⟩
      obtain ⟨-, a2, a3, -, a5⟩ := (hm q).mp hq
      exact ⟨by rw [← e]; exact lst_lt a2 a3, q.1, q.2, a2, a3, e.symm, a5⟩
    · rintro ⟨-, l, b, l1, b1, e, hp⟩
      refine ⟨(l, b), (hm (l, b)).mpr ⟨Nat.zero_le _, l1, b1, Nat.mod_one _, ?_⟩, e.symm⟩
      exact hp
/-! counting -/
theorem lsum {P : Nat → Bool} {N : Nat} : ∀ sl : List Nat, sl.Nodup → (∀ s, s ∈ sl → s < N) → (sl.filter P).length = sumN (fun s => if s ∈ sl ∧ P s = true then 1 else 0) N := by
  intro sl
  induction sl with
  | nil =>
    intro _ _
    rw [show sumN (fun s => if s ∈ ([] : List Nat) ∧ P s = true then 1 else 0) N = sumN (fun _ => 0) N from sumN_c N (fun s _ => if_neg (fun z => nomatch z.1)), sum_zero]; rfl
  | cons a l ih =>
    intro hn hl
    rw [List.nodup_cons] at hn
    have h1 := ih hn.2 (fun s hs => hl s (List.mem_cons_of_mem _ hs))
    have e : sumN (fun s => if s ∈ a :: l ∧ P s = true then 1 else 0) N = sumN (fun s => (if P a = true then (if s = a then 1 else 0) else 0) + (if s ∈ l ∧ P s = true then 1 else 0)) N := sumN_c N (fun s _ => by
      by_cases q : s = a
      · subst q
        have n2 : ¬ (s ∈ l ∧ P s = true) := fun z => hn.1 z.1
        rw [if_neg n2, Nat.add_zero]
        by_cases r : P s = true
        · rw [if_pos (show s ∈ s :: l ∧ P s = true from ⟨List.mem_cons_self, r⟩), if_pos r, if_pos rfl]
        · rw [if_neg (fun z => r z.2), if_neg r]
      · rw [if_neg q, ite_self, Nat.zero_add]
        by_cases r : s ∈ l ∧ P s = true
        · rw [if_pos r, if_pos ⟨List.mem_cons_of_mem _ r.1, r.2⟩]
        · rw [if_neg r, if_neg (fun z => r ⟨(List.mem_cons.mp z.1).resolve_left q, z.2⟩)])
    rw [e, sum_add, ← h1, List.filter_cons]
    have pt := sum_pt (a := a) N
    rw [if_pos (hl a List.mem_cons_self)] at pt
    by_cases r : P a = true
    · rw [if_pos r, List.length_cons]; simp only [if_pos r]; rw [pt]; omega
    · rw [if_neg r]; simp only [if_neg r]; rw [sum_zero]; omega
theorem mrL_n : ∀ (l : List Nat) (D : Nat → Bool), l.Nodup → (mrL l D).1 = (l.filter (fun k => !D k)).length ∧ ∀ k, (mrL l D).2 k = true ↔ D k = true ∨ k ∈ l := by
  intro l
  induction l with
  | nil => intro D _; exact ⟨rfl, fun k => ⟨Or.inl, fun z => z.resolve_right (fun q => nomatch q)⟩⟩
  | cons a l ih =>
    intro D hn
    rw [List.nodup_cons] at hn
    obtain ⟨h1, h2⟩ := ih (va_up D a true) hn.2
    refine ⟨?_, fun k => ?_⟩
    · show (if D a = true then 0 else 1) + (mrL l (va_up D a true)).1 = _
      rw [h1, List.filter_cons]
      have e : l.filter (fun k => !va_up D a true k) = l.filter (fun k => !D k) := List.filter_congr (fun k hk => by rw [va_ne (fun z : k = a => hn.1 (by rw [← z]; exact hk))])
      rw [e]
      cases q : D a with
      | true => rw [if_pos rfl, if_neg (by decide)]; omega
      | false => rw [if_neg (by decide), if_pos (by decide), List.length_cons]; omega
    · show (mrL l (va_up D a true)).2 k = true ↔ _
      rw [h2 k, va_up_app, List.mem_cons]
      by_cases z : k = a
      · rw [if_pos z]; exact ⟨fun _ => Or.inr (Or.inl z), fun _ => Or.inl rfl⟩
      · rw [if_neg z]
        exact ⟨fun q => q.elim Or.inl (fun q => Or.inr (Or.inr q)), fun q => q.elim Or.inl (fun q => Or.inr (q.resolve_left z))⟩
