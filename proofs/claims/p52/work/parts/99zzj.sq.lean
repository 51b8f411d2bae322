/-! What the calls about sequences answer in the law. -/
def inBd (F : List (List Int32)) (b : Nat) : Prop := ∀ c, c ∈ F → ∀ e, e ∈ c → -(b : Int) ≤ e.toInt ∧ e.toInt ≤ b
def QBd (n : Nat) (x : Nat → QIS) : Prop := ∀ s, s < n → inBd (q_F (x s)) (100 + 6 * s)
theorem bm31 {z : Int} (h1 : -1000000 ≤ z) (h2 : z ≤ 1000000) : z.bmod (2 ^ 32) = z := Int.bmod_eq_of_le (by omega) (by omega)
theorem atF_in : ∀ (F : List (List Int32)) (p : Nat), p < tot F → ∃ c, c ∈ F ∧ atF F p ∈ c
  | [], p, h => absurd h (Nat.not_lt_zero _)
  | a :: l, p, h => by
    rw [atF]
    split
    · next hp =>
      refine ⟨a, List.mem_cons_self, ?_⟩
      rw [List.getD_eq_getElem?_getD, List.getElem?_eq_getElem hp]
      exact List.getElem_mem _
    · next hp =>
      rw [tot] at h
      obtain ⟨c, h1, h2⟩ := atF_in l (p - a.length) (by omega)
      exact ⟨c, List.mem_cons_of_mem _ h1, h2⟩
theorem sub_toInt {p k : Nat} (hp : p < 1000) (hk : k < 1000) : (nI p - nI k).toInt = (p : Int) - k := by
  rw [Int32.toInt_sub, nI_toInt (by omega), nI_toInt (by omega)]
  exact bm31 (by omega) (by omega)
theorem rng_el {p q t : Nat} (hp : p < 9) (hq : q < 5) (ht : t < 24) : -(100 : Int) ≤ ((nI p - nI 4) + (nI q - nI 2) * nI t).toInt ∧ ((nI p - nI 4) + (nI q - nI 2) * nI t).toInt ≤ 100 := by
  have ea : (nI p - nI 4).toInt = (p : Int) - 4 := sub_toInt (by omega) (by omega)
  have eb : (nI q - nI 2).toInt = (q : Int) - 2 := sub_toInt (by omega) (by omega)
  have eq : -46 ≤ ((q : Int) - 2) * t ∧ ((q : Int) - 2) * t ≤ 46 := by
    rcases (show q = 0 ∨ q = 1 ∨ q = 2 ∨ q = 3 ∨ q = 4 by omega) with e | e | e | e | e <;> subst e <;> constructor <;> omega
  have em : ((nI q - nI 2) * nI t).toInt = ((q : Int) - 2) * t := by
    rw [Int32.toInt_mul, eb, nI_toInt (by omega)]
    exact bm31 (by omega) (by omega)
  have es : ((nI p - nI 4) + (nI q - nI 2) * nI t).toInt = ((p : Int) - 4) + ((q : Int) - 2) * t := by
    rw [Int32.toInt_add, ea, em]
    exact bm31 (by omega) (by omega)
  rw [es]
  omega
theorem rngF_in {p q m : Nat} (hp : p < 9) (hq : q < 5) (hm : m < 25) : inBd (rngF (nI p - nI 4) (nI q - nI 2) m) 100 := fun c hc e he => by
  unfold rngF at hc
  obtain ⟨j, hj, rfl⟩ := List.mem_map.mp hc
  obtain ⟨k, hk, rfl⟩ := List.mem_map.mp he
  have := List.mem_range.mp hk
  exact rng_el hp hq (by omega)
theorem fnq_in {w m e : Int32} {b : Nat} (hm1 : 1 ≤ m.toInt) (hm2 : m.toInt ≤ 6) (hb : b ≤ 1000) (he : -(b : Int) ≤ e.toInt ∧ e.toInt ≤ b) : -((b + 6 : Nat) : Int) ≤ (fnq w m e).toInt ∧ (fnq w m e).toInt ≤ ((b + 6 : Nat) : Int) := by
  unfold fnq
  split
  · rw [Int32.toInt_add, bm31 (by omega) (by omega)]
    omega
  · split
    · have a := Int.natAbs_tdiv_le_natAbs m.toInt e.toInt
      have a2 : m.toInt.natAbs ≤ 6 := by omega
      rw [Int32.toInt_div, bm31 (by omega) (by omega)]
      omega
    · omega
theorem ovL_in {w m : Int32} : ∀ (l : List (List Int32)) (b : Bool) (c : List Int32), c ∈ (ovL w m l b).1 → ∃ c0, c0 ∈ l ∧ c = chF w m c0
  | [], b, c, h => by
    rw [ovL] at h
    cases h
  | a :: l, b, c, h => by
    rw [ovL] at h
    split at h
    · cases h
    · rcases List.mem_cons.mp h with e | h
      · exact ⟨a, List.mem_cons_self, e⟩
      · obtain ⟨c0, h1, h2⟩ := ovL_in l b c h
        exact ⟨c0, List.mem_cons_of_mem _ h1, h2⟩
theorem inBd.up {F : List (List Int32)} {a b : Nat} (H : inBd F a) (h : a ≤ b) : inBd F b := fun c hc e he => by
  have := H c hc e he
  omega
section SQ
variable {n : Nat} {x : Nat → QIS}
theorem ovQ_in {s wn m b : Nat} (hm1 : 1 ≤ m) (hm : m ≤ 6) (hb : b ≤ 1000) (H : inBd (q_F (x s)) b) : inBd (q_F (ovQ x s wn (nI m))) (b + 6) := by
  unfold ovQ
  split
  · refine fun c hc e he => ?_
    have hc : c ∈ tkF (q_F (x s)) (nI m).toNatClampNeg := hc
    unfold tkF at hc
    obtain ⟨j, hj, rfl⟩ := List.mem_map.mp hc
    have hj := List.mem_range.mp hj
    have he : e = atF (q_F (x s)) j := List.mem_singleton.mp he
    obtain ⟨c0, h1, h2⟩ := atF_in (q_F (x s)) j (by omega)
    have := H c0 h1 e (by rw [he]; exact h2)
    omega
  · refine fun c hc e he => ?_
    obtain ⟨c0, h1, h2⟩ := ovL_in _ _ c hc
    rw [h2] at he
    unfold chF at he
    obtain ⟨e0, h3, rfl⟩ := List.mem_map.mp he
    exact fnq_in (by rw [nI_toInt (by omega)]; omega) (by rw [nI_toInt (by omega)]; omega) hb (H c0 h1 e0 (List.mem_filter.mp h3).1)
theorem QBd.new (H : QBd n x) {z : QIS} (h : inBd (q_F z) (100 + 6 * n)) : QBd (n + 1) (va_up x n z) := fun s hs => by
  rw [va_up_app]
  by_cases e : s = n
  · rw [if_pos e, e]; exact h
  · rw [if_neg e]; exact H s (by omega)
theorem inB_of {v lo hi : Int32} (h1 : lo.toInt ≤ v.toInt) (h2 : v.toInt ≤ hi.toInt) : inB v lo hi = true := inB_t (fun z => by rw [Int32.lt_iff_toInt_lt] at z; omega) (fun z => by rw [Int32.lt_iff_toInt_lt] at z; omega)
def chN (k : Nat) : Nat := [97, 100, 107, 116].getD k 0
theorem k4 {P : Nat → Prop} (h0 : P 0) (h1 : P 1) (h2 : P 2) (h3 : P 3) {k : Nat} (hk : k < 4) : P k := by
  rcases (show k = 0 ∨ k = 1 ∨ k = 2 ∨ k = 3 by omega) with e | e | e | e <;> subst e <;> assumption
theorem chA_nI {k : Nat} (hk : k < 4) : chA k = nI (chN k) := k4 (P := fun k => chA k = nI (chN k)) (by decide) (by decide) (by decide) (by decide) hk
theorem chN_lt {k : Nat} (hk : k < 4) : chN k < 65536 := k4 (P := fun k => chN k < 65536) (by decide) (by decide) (by decide) (by decide) hk
theorem chN_c {k : Nat} (hk : k < 4) : ((nI (chN k)).toUInt32 % 65536).toInt32 = nI (chN k) := k4 (P := fun k => ((nI (chN k)).toUInt32 % 65536).toInt32 = nI (chN k)) (by decide) (by decide) (by decide) (by decide) hk
theorem chN_w {k : Nat} (hk : k < 4) : isW (chN k) = true := k4 (P := fun k => isW (chN k) = true) (by decide) (by decide) (by decide) (by decide) hk
theorem chN_lo {k : Nat} (hk : k < 4) : (lowQ (chN k)).toInt ≤ 1 := k4 (P := fun k => (lowQ (chN k)).toInt ≤ 1) (by decide) (by decide) (by decide) (by decide) hk
theorem sq_range {p q m : Nat} (hp : p < 9) (hq : q < 5) (hm : m < 25) (hn : n < 12) (H : QX n x) (hb : QBd n x) :
    ∃ z, o_range n x (nI p - nI 4) (nI q - nI 2) (nI m) m = (nI 0, nI n, n + 1, va_up x n z) ∧ q_rc z = 0 ∧ QX (n + 1) (va_up x n z) ∧ QBd (n + 1) (va_up x n z) := by
  have a1 := sub_toInt (p := p) (k := 4) (by omega) (by omega)
  have a2 := sub_toInt (p := q) (k := 2) (by omega) (by omega)
  have a3 := nI_toInt (n := m) (by omega)
  have e : o_range n x (nI p - nI 4) (nI q - nI 2) (nI m) m = (nI 0, nI n, n + 1, va_up x n (rngQ (nI p - nI 4) (nI q - nI 2) m)) := by
    unfold o_range
    rw [inB_of (v := nI p - nI 4) (lo := -99) (hi := nI 99) (by rw [a1, show (-99 : Int32).toInt = -99 from by decide]; omega) (by rw [a1, show (nI 99).toInt = 99 from by decide]; omega), inB_of (v := nI q - nI 2) (lo := -9) (hi := nI 9) (by rw [a2, show (-9 : Int32).toInt = -9 from by decide]; omega) (by rw [a2, show (nI 9).toInt = 9 from by decide]; omega), inB_of (v := nI m) (lo := nI 0) (hi := nI 24) (by rw [a3, show (nI 0).toInt = 0 from by decide]; omega) (by rw [a3, show (nI 24).toInt = 24 from by decide]; omega), if_neg (by decide), if_neg (by omega)]
  have hX := q_range (a := nI p - nI 4) (b := nI q - nI 2) (c := nI m) (m := m) H (fun _ => ⟨rfl, by omega⟩)
  rw [e] at hX
  exact ⟨_, e, rfl, hX, hb.new ((rngF_in hp hq hm).up (by omega))⟩
theorem sq_over {s k m : Nat} (hs : s < n) (hk : k < 4) (hm1 : 1 ≤ m) (hm : m ≤ 6) (hn : n < 12) (H : QX n x) (hb : QBd n x) :
    ∃ z, o_over n x (nI s) s (chN k) (nI m) = (nI 0, nI n, n + 1, va_up x n z) ∧ q_rc z = 0 ∧ QX (n + 1) (va_up x n z) ∧ QBd (n + 1) (va_up x n z) := by
  have a3 := nI_toInt (n := m) (by omega)
  have e : o_over n x (nI s) s (chN k) (nI m) = (nI 0, nI n, n + 1, va_up x n (ovQ x s (chN k) (nI m))) := by
    unfold o_over
    have lo := chN_lo hk
    rw [if_neg (by rw [ixB_n1 hs (by omega)]; decide), chN_w hk, inB_of (v := nI m) (lo := lowQ (chN k)) (hi := nI 99) (by rw [a3]; omega) (by rw [a3, show (nI 99).toInt = 99 from by decide]; omega), if_neg (by decide), if_neg (by omega)]
  have hX := q_over (u := nI s) (s := s) (wn := chN k) (m := nI m) H (ixk (by omega) (by omega))
  rw [e] at hX
  refine ⟨_, e, ?_, hX, hb.new ((ovQ_in hm1 hm (by omega) (hb s hs)).up (by omega))⟩
  unfold ovQ
  split <;> rfl
theorem sq_obs {s : Nat} (hs : s < n) (hn : n < 2 ^ 31) : o_realised n x (nI s) s = (nI 0, nI (pre (q_F (x s)) (q_rc (x s))), n, x) ∧ o_chunks n x (nI s) s = (nI 0, nI (q_rc (x s)), n, x) := by
  unfold o_realised o_chunks
  rw [if_neg (by rw [ixB_n1 hs hn]; decide), if_neg (by rw [ixB_n1 hs hn]; decide)]
  exact ⟨rfl, rfl⟩
theorem sq_new {z : QIS} (hz : q_rc z = 0) (hn : n < 12) : o_realised (n + 1) (va_up x n z) (nI n) n = (nI 0, nI 0, n + 1, va_up x n z) ∧ o_chunks (n + 1) (va_up x n z) (nI n) n = (nI 0, nI 0, n + 1, va_up x n z) := by
  have e := sq_obs (n := n + 1) (x := va_up x n z) (s := n) (by omega) (by omega)
  rw [va_up_self, hz] at e
  exact e
theorem rs1_at (hW : QWs n x) {f s : Nat} {r : Nat → Nat} (hs : s < n) : rs1 x (f + 1) s r s = max (r s) (q_F (x s)).length := by
  rw [rs1]
  show va_up _ s _ s = _
  rw [va_up_app, if_pos rfl]
  split
  · rfl
  · next h =>
    have := qs_lt hW hs h
    (repeat' split) <;> first
      | rfl
      | rw [rs0_hi hW _ _ _ _ _ (by omega) (by omega)]
      | rw [rs1_hi hW _ _ _ _ (by omega) (by omega)]
/-- how many elements, how many chunks of a sequence are realised -/
def Obs (n : Nat) (x : Nat → QIS) (s b c : Nat) : Prop := o_realised n x (nI s) s = (nI 0, nI b, n, x) ∧ o_chunks n x (nI s) s = (nI 0, nI c, n, x) ∧ b ≤ 24 ∧ c ≤ 24 ∧ QX n x ∧ QBd n x
theorem obs_of {s b c : Nat} (hs : s < n) (H : QX n x) (hb : QBd n x) (e1 : b = pre (q_F (x s)) (q_rc (x s))) (e2 : c = q_rc (x s)) : Obs n x s b c := by
  have hn := H.1.2.1
  have e := sq_obs (x := x) hs (by omega)
  have l1 := (H.1.1 s hs).1
  have l2 := (H.1.1 s hs).2.1
  have l3 : q_rc (x s) ≤ (q_F (x s)).length := (H.2.1 s hs).1
  have l4 := @pre_le (q_F (x s)) (q_rc (x s))
  subst e1
  subst e2
  exact ⟨e.1, e.2, by omega, by show q_rc (x s) ≤ 24; omega, H, hb⟩
theorem sq_look {s : Nat} (hs : s < n) (H : QX n x) (hb : QBd n x) :
    ∃ b c, Obs n x s b c ∧ (∀ p, p < 2 ^ 31 →
      (∃ x' e b' c' x2, o_at n x (nI s) s (nI p) p = (nI 0, e, n, x') ∧ e ≠ -20004 ∧ e ≠ -20005 ∧ p < b' ∧ b ≤ b' ∧ c ≤ c' ∧ Obs n x' s b' c' ∧ o_at n x' (nI s) s (nI p) p = (nI 0, e, n, x2) ∧ Obs n x2 s b' c') ∨
      (∃ x', o_at n x (nI s) s (nI p) p = (nI 2, nI 0, n, x') ∧ Obs n x' s b c) ∨ (∃ x', o_at n x (nI s) s (nI p) p = (nI 3, nI 0, n, x') ∧ b ≤ p ∧ Obs n x' s b c)) ∧
      ((∃ x' b' c', o_all n x (nI s) s = (nI 0, nI b', n, x') ∧ b ≤ b' ∧ c ≤ c' ∧ Obs n x' s b' c') ∨ (∃ x', o_all n x (nI s) s = (nI 2, nI 0, n, x') ∧ Obs n x' s b c)) := by
  have hn := H.1.2.1
  have hi : ¬ (!ixB (nI s) n) = true := by rw [ixB_n1 hs (by omega)]; decide
  have hu := ixk (k := s) (n := n) (by omega) (by omega)
  have hle := @pre_le (q_F (x s)) (q_rc (x s))
  refine ⟨_, _, obs_of hs H hb rfl rfl, fun p hp => ?_, ?_⟩
  · have hv : ¬ nI p < 0 := nI_nn hp
    have hX := q_at (u := nI s) (v := nI p) (s := s) (p := p) H hu
    by_cases hp2 : tot (q_F (x s)) ≤ p
    · cases hB : q_B (x s) with
      | true =>
        have e : o_at n x (nI s) s (nI p) p = (nI 2, nI 0, n, gst x (rcx x) (capR x (enR x s (rcx x)))) := by unfold o_at; rw [if_neg hi, if_pos (Or.inr hp2), if_pos hB]
        rw [e] at hX
        exact Or.inr (Or.inl ⟨_, e, obs_of hs hX hb rfl rfl⟩)
      | false =>
        have e : o_at n x (nI s) s (nI p) p = (nI 3, nI 0, n, gst x (rcx x) (capR x (enR x s (rcx x)))) := by unfold o_at; rw [if_neg hi, if_pos (Or.inr hp2), if_neg (by rw [hB]; decide)]
        rw [e] at hX
        exact Or.inr (Or.inr ⟨_, e, by omega, obs_of hs hX hb rfl rfl⟩)
    · have hp3 : p < tot (q_F (x s)) := by omega
      have e : ∀ y : Nat → QIS, q_F (y s) = q_F (x s) → o_at n y (nI s) s (nI p) p = (nI 0, atF (q_F (x s)) p, n, setR y (rs0 y (s + 1) s (cf (q_F (x s)) p) (rcx y))) := fun y hy => by
        unfold o_at
        rw [if_neg hi, hy, if_neg (fun z => z.elim hv hp2)]
      have e1 := e x rfl
      rw [e1] at hX
      have hX : QX n (setR x (rs0 x (s + 1) s (cf (q_F (x s)) p) (rcx x))) := hX
      have e2 := e (setR x (rs0 x (s + 1) s (cf (q_F (x s)) p) (rcx x))) rfl
      have hX2 := q_at (u := nI s) (v := nI p) (s := s) (p := p) hX hu
      rw [e2] at hX2
      have r1 : q_rc (setR x (rs0 x (s + 1) s (cf (q_F (x s)) p) (rcx x)) s) = max (q_rc (x s)) (cf (q_F (x s)) p) := rs0_at H.1.1 hs
      have r2 : q_rc (setR (setR x (rs0 x (s + 1) s (cf (q_F (x s)) p) (rcx x))) (rs0 (setR x (rs0 x (s + 1) s (cf (q_F (x s)) p) (rcx x))) (s + 1) s (cf (q_F (x s)) p) (rcx (setR x (rs0 x (s + 1) s (cf (q_F (x s)) p) (rcx x))))) s) = max (q_rc (x s)) (cf (q_F (x s)) p) := by
        refine (rs0_at hX.1.1 hs).trans ?_
        show max (q_rc (setR x _ s)) _ = _
        rw [r1]
        omega
      have g1 := cf_gt hp3
      have g2 := @pre_mono (q_F (x s)) (cf (q_F (x s)) p) (max (q_rc (x s)) (cf (q_F (x s)) p)) (Nat.le_max_right _ _)
      have g3 := @pre_mono (q_F (x s)) (q_rc (x s)) (max (q_rc (x s)) (cf (q_F (x s)) p)) (Nat.le_max_left _ _)
      obtain ⟨c0, c1, c2⟩ := atF_in (q_F (x s)) p hp3
      have bd := hb s hs c0 c1 _ c2
      refine Or.inl ⟨_, atF (q_F (x s)) p, pre (q_F (x s)) (max (q_rc (x s)) (cf (q_F (x s)) p)), max (q_rc (x s)) (cf (q_F (x s)) p), _, e1, fun z => ?_, fun z => ?_, by omega, g3, Nat.le_max_left _ _, obs_of hs hX hb (congrArg (pre (q_F (x s))) r1).symm r1.symm, e2, obs_of hs hX2 hb (congrArg (pre (q_F (x s))) r2).symm r2.symm⟩
      · rw [z, show (-20004 : Int32).toInt = -20004 from by decide] at bd
        omega
      · rw [z, show (-20005 : Int32).toInt = -20005 from by decide] at bd
        omega
  · have hX := q_all (u := nI s) (s := s) H hu
    cases hB : q_B (x s) with
    | true =>
      have e : o_all n x (nI s) s = (nI 2, nI 0, n, gst x (rcx x) (capR x (enR x s (rcx x)))) := by unfold o_all; rw [if_neg hi, if_pos hB]
      rw [e] at hX
      exact Or.inr ⟨_, e, obs_of hs hX hb rfl rfl⟩
    | false =>
      have e : o_all n x (nI s) s = (nI 0, nI (tot (q_F (x s))), n, setR x (enR x s (rcx x))) := by unfold o_all; rw [if_neg hi, if_neg (by rw [hB]; decide)]
      rw [e] at hX
      have hE : enR x s (rcx x) = rs1 x (s + 1) s (rcx x) := if_neg (by rw [hB]; decide)
      have r1 : q_rc (setR x (enR x s (rcx x)) s) = max (q_rc (x s)) (q_F (x s)).length := by
        show enR x s (rcx x) s = _
        rw [hE]
        exact rs1_at H.1.1 hs
      have g := @pre_all (q_F (x s)) (max (q_rc (x s)) (q_F (x s)).length) (Nat.le_max_right _ _)
      exact Or.inl ⟨_, tot (q_F (x s)), max (q_rc (x s)) (q_F (x s)).length, e, hle, Nat.le_max_left _ _, obs_of hs hX hb (by show tot (q_F (x s)) = pre (q_F (x s)) (q_rc (setR x (enR x s (rcx x)) s)); rw [r1, g]) r1.symm⟩
end SQ
