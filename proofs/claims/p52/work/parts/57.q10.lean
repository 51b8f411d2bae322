/-! The model: range, over. -/
theorem MF.fr2 {h h' : Hp} {m : Nat} {A : Nat → Nat} (H : MF h m A) (h0 : h_k h' m = h_k h m) (h1 : h_R h' m = h_R h m) (h2 : ∀ i, 3 ≤ i → i ≤ 18 → h_k h' (A i) = h_k h (A i)) (h3 : ∀ i, 3 ≤ i → i ≤ 12 → i ≠ 11 → h_n h' (A i) = h_n h (A i)) : MF h' m A :=
  ⟨h0.trans H.1, fun i a b c d => by rw [h1, h2 i a b]; exact H.2.1 i a b c d, fun i a b c => by rw [h3 i a b c]; exact H.2.2.1 i a b c, H.2.2.2⟩
theorem FreeI.fr' {h h' : Hp} {r n : Nat} (H : FreeI h r n) (hF : ∀ i, n + 1 ≤ i → ce h' (nm r i) = ce h (nm r i)) : FreeI h' r (n + 1) := fun i hi => (ce_k (hF i hi)).trans (H i (by omega))
def rngF (a b : Int32) (m : Nat) : List (List Int32) := (List.range ((m + 3) / 4)).map (fun j => (List.range (min (m - 4 * j) 4)).map (fun k => a + b * nI (4 * j + k)))
def rngQ (a b : Int32) (m : Nat) : QIS := ((nI 114, -1, a, b, nI m), rngF a b m, false, 0, 0)
/-- the first elements, each a chunk -/
def tkF (F : List (List Int32)) (m : Nat) : List (List Int32) := (List.range (min m (tot F))).map (fun j => [atF F j])
def ovL (w m : Int32) : List (List Int32) → Bool → List (List Int32) × Bool
  | [], b => ([], b)
  | c :: l, b => if w = nI 100 ∧ hz c = true then ([], true) else (chF w m c :: (ovL w m l b).1, (ovL w m l b).2)
def ovQ (x : Nat → QIS) (s wn : Nat) (m : Int32) : QIS :=
  if wn = 116 then ((nI wn, nI s, m, nI 0, nI 0), tkF (q_F (x s)) m.toNatClampNeg, q_B (x s) && decide (tot (q_F (x s)) < m.toNatClampNeg), 0, 0)
  else ((nI wn, nI s, m, nI 0, nI 0), (ovL (nI wn) m (q_F (x s)) (q_B (x s))).1, (ovL (nI wn) m (q_F (x s)) (q_B (x s))).2, 0, 0)
def lowQ (wn : Nat) : Int32 := if wn = 107 then nI 1 else if wn = 116 then nI 0 else -99
def isW (wn : Nat) : Bool := decide (wn = 97) || decide (wn = 100) || decide (wn = 107) || decide (wn = 116)
def o_range (n : Nat) (x : Nat → QIS) (a b c : Int32) (m : Nat) : Int32 × Int32 × Nat × (Nat → QIS) :=
  if (inB a (-99) (nI 99) && inB b (-9) (nI 9) && inB c (nI 0) (nI 24)) = false then (nI 1, nI 0, n, x) else if n = 12 then (nI 2, nI 0, n, x) else (nI 0, nI n, n + 1, va_up x n (rngQ a b m))
def o_over (n : Nat) (x : Nat → QIS) (u : Int32) (s wn : Nat) (m : Int32) : Int32 × Int32 × Nat × (Nat → QIS) :=
  if (!ixB u n) = true then (nI 1, nI 0, n, x) else if (isW wn && inB m (lowQ wn) (nI 99)) = false then (nI 2, nI 0, n, x) else if n = 12 then (nI 3, nI 0, n, x) else (nI 0, nI n, n + 1, va_up x n (ovQ x s wn m))
theorem map_gD {β : Type} {z : β} (f : Nat → β) (m : Nat) {j : Nat} (hj : j < m) : ((List.range m).map f).getD j z = f j := by
  simp [List.getD, List.getElem?_map, List.getElem?_range hj]
theorem tot_map {f : Nat → List Int32} {b : Nat} : ∀ m, (∀ j, j < m → (f j).length ≤ b) → tot ((List.range m).map f) ≤ b * m := by
  intro m
  induction m with
  | zero => intro _; exact Nat.le_refl _
  | succ m ih =>
    intro h
    rw [List.range_succ, List.map_append, tot_app]
    have a1 := ih (fun j hj => h j (by omega))
    have a2 := h m (by omega)
    show tot _ + (_ + 0) ≤ _
    rw [Nat.mul_succ]; omega
theorem rngF_tot {a b : Int32} {m : Nat} : tot (rngF a b m) ≤ m := by
  have key : ∀ k, 4 * k ≤ m + 3 → tot ((List.range k).map (fun j => (List.range (min (m - 4 * j) 4)).map (fun k => a + b * nI (4 * j + k)))) ≤ min (4 * k) m := by
    intro k
    induction k with
    | zero => intro _; exact Nat.zero_le _
    | succ k ih =>
      intro h
      rw [List.range_succ, List.map_append, tot_app]
      have a1 := ih (by omega)
      show tot _ + (((List.range (min (m - 4 * k) 4)).map _).length + 0) ≤ _
      rw [List.length_map, List.length_range]
      omega
  have := key ((m + 3) / 4) (by omega)
  unfold rngF
  omega
theorem rngQ_W {x : Nat → QIS} {n : Nat} {a b : Int32} {m : Nat} (h : m ≤ 24) (hx : x n = rngQ a b m) : qW x n := by
  have hF : q_F (x n) = rngF a b m := by rw [hx]; rfl
  have hlen : (rngF a b m).length = (m + 3) / 4 := by unfold rngF; rw [List.length_map, List.length_range]
  refine ⟨by rw [hF, hlen]; omega, by rw [hF]; exact Nat.le_trans rngF_tot h, fun c hc => ?_, Or.inl ⟨by rw [hx]; rfl, by rw [hx]; rfl, m, h, by rw [hx]; rfl, by rw [hF, hlen], fun j hj => ?_⟩⟩
  · rw [hF] at hc
    obtain ⟨j, -, rfl⟩ := List.mem_map.mp hc
    rw [List.length_map, List.length_range]; omega
  · rw [hF, hlen] at hj
    rw [hF, hx]
    unfold rngF
    rw [map_gD _ _ hj]
    rfl
theorem ovL_len (w m : Int32) : ∀ F b, (ovL w m F b).1.length ≤ F.length
  | [], _ => Nat.le_refl _
  | c :: l, b => by
    rw [ovL]
    split
    · exact Nat.zero_le _
    · have := ovL_len w m l b
      simp; omega
theorem ovL_tot (w m : Int32) : ∀ F b, tot (ovL w m F b).1 ≤ tot F
  | [], _ => Nat.le_refl _
  | c :: l, b => by
    rw [ovL]
    split
    · exact Nat.zero_le _
    · have := ovL_tot w m l b
      have h2 := chF_le (w := w) (m := m) (c := c)
      show (chF w m c).length + tot _ ≤ c.length + tot l
      omega
theorem ovL_at (w m : Int32) : ∀ F b j, j < (ovL w m F b).1.length → (ovL w m F b).1.getD j [] = chF w m (F.getD j []) ∧ (w = nI 100 → hz (F.getD j []) = false)
  | [], _, _, h => absurd h (Nat.not_lt_zero _)
  | c :: l, b, j, h => by
    rw [ovL] at h ⊢
    by_cases e : w = nI 100 ∧ hz c = true
    · rw [if_pos e] at h; exact absurd h (Nat.not_lt_zero _)
    · rw [if_neg e] at h ⊢
      match j, h with
      | 0, _ => exact ⟨rfl, fun z => by
          cases hc : hz c with
          | false => simp [hc]
          | true => exact absurd ⟨z, hc⟩ e⟩
      | j + 1, h =>
        rw [List.getD_cons_succ, List.getD_cons_succ]
        exact ovL_at w m l b j (by simpa using h)
theorem ovL_end (w m : Int32) : ∀ F b, ((ovL w m F b).1.length < F.length → w = nI 100 ∧ hz (F.getD (ovL w m F b).1.length []) = true ∧ (ovL w m F b).2 = true) ∧ ((ovL w m F b).1.length = F.length → (ovL w m F b).2 = b)
  | [], _ => ⟨fun h => absurd h (Nat.not_lt_zero _), fun _ => rfl⟩
  | c :: l, b => by
    rw [ovL]
    by_cases e : w = nI 100 ∧ hz c = true
    · rw [if_pos e]
      exact ⟨fun _ => ⟨e.1, e.2, rfl⟩, fun h => absurd h (by simp)⟩
    · rw [if_neg e]
      have := ovL_end w m l b
      refine ⟨fun h => ?_, fun h => this.2 (by simpa using h)⟩
      have := this.1 (by simpa using h)
      rw [List.length_cons, List.getD_cons_succ]
      exact this
theorem ovL_c4 (w m : Int32) : ∀ F b, (∀ c, c ∈ F → c.length ≤ 4) → ∀ c, c ∈ (ovL w m F b).1 → c.length ≤ 4
  | [], _, _, _, h => absurd h (List.not_mem_nil)
  | c :: l, b, h4, d, hd => by
    rw [ovL] at hd
    split at hd
    · exact absurd hd (List.not_mem_nil)
    · rcases List.mem_cons.mp hd with e | e
      · rw [e]; exact Nat.le_trans chF_le (h4 c List.mem_cons_self)
      · exact ovL_c4 w m l b (fun c hc => h4 c (List.mem_cons_of_mem _ hc)) d e
theorem ixB_100 {m : Int32} (h : inB m (nI 0) (nI 99) = true) : m = nI m.toNatClampNeg ∧ m.toNatClampNeg ≤ 99 := by
  obtain ⟨k, hk, e⟩ := ixB_t (v := m) (n := 100) (by decide) h
  have e2 : m.toNatClampNeg = k := by rw [e]; exact nI_clamp (by omega)
  rw [e2]; exact ⟨e, by omega⟩
theorem inB_lo {m lo hi : Int32} (h : inB m lo hi = true) : lo ≤ m := by
  unfold inB at h; rw [Bool.and_eq_true] at h; exact of_decide_eq_true h.1
theorem ovQ_W {x y : Nat → QIS} {n s wn : Nat} {m : Int32} (hs : s < n) (hn : n ≤ 12) (hS : (q_F (x s)).length ≤ 24 ∧ tot (q_F (x s)) ≤ 24 ∧ ∀ c, c ∈ q_F (x s) → c.length ≤ 4) (hw : wn = 97 ∨ wn = 100 ∨ wn = 107 ∨ wn = 116) (hm : inB m (lowQ wn) (nI 99) = true) (hy : y s = x s) (hyn : y n = ovQ x s wn m) : qW y n := by
  have hsN : ∀ o : OFS, OF_src o = nI s → (OF_src o).toNatClampNeg = s := fun o e => by rw [e]; exact nI_clamp (by omega)
  by_cases h116 : wn = 116
  · have hq : y n = ((nI wn, nI s, m, nI 0, nI 0), tkF (q_F (x s)) m.toNatClampNeg, q_B (x s) && decide (tot (q_F (x s)) < m.toNatClampNeg), 0, 0) := by rw [hyn]; unfold ovQ; rw [if_pos h116]
    have hlow : lowQ wn = nI 0 := by unfold lowQ; rw [if_neg (by omega), if_pos h116]
    rw [hlow] at hm
    obtain ⟨em, hm99⟩ := ixB_100 hm
    have hF : q_F (y n) = tkF (q_F (x s)) m.toNatClampNeg := by rw [hq]
    have hl : (tkF (q_F (x s)) m.toNatClampNeg).length = min m.toNatClampNeg (tot (q_F (x s))) := by unfold tkF; rw [List.length_map, List.length_range]
    have hsn : sN (y n) = s := by rw [hq]; exact nI_clamp (by omega)
    have ht : tot (tkF (q_F (x s)) m.toNatClampNeg) ≤ 1 * min m.toNatClampNeg (tot (q_F (x s))) := tot_map _ (fun j _ => Nat.le_refl _)
    refine ⟨by rw [hF, hl]; omega, by rw [hF]; omega, fun c hc => ?_, Or.inr ⟨by rw [hq]; show ¬ nI wn = nI 114; rw [h116]; decide, by rw [hsn]; exact hs, by rw [hsn, hq], Or.inl ⟨by rw [hq, h116], ?_, ?_, ?_, ?_, ?_⟩⟩⟩
    · rw [hF] at hc
      obtain ⟨j, -, rfl⟩ := List.mem_map.mp hc
      exact (by decide : (1 : Nat) ≤ 4)
    · rw [hq]; exact em
    · rw [hq]; exact hm99
    · rw [hsn, hF, hy, hl, hq]
    · intro j hj
      rw [hF, hl] at hj
      rw [hsn, hF, hy]
      unfold tkF
      rw [map_gD _ _ hj]
    · rw [hsn, hy, hq]
  · have hq : y n = ((nI wn, nI s, m, nI 0, nI 0), (ovL (nI wn) m (q_F (x s)) (q_B (x s))).1, (ovL (nI wn) m (q_F (x s)) (q_B (x s))).2, 0, 0) := by rw [hyn]; unfold ovQ; rw [if_neg h116]
    have hF : q_F (y n) = (ovL (nI wn) m (q_F (x s)) (q_B (x s))).1 := by rw [hq]
    have hB : q_B (y n) = (ovL (nI wn) m (q_F (x s)) (q_B (x s))).2 := by rw [hq]
    have hwy : q_w (y n) = nI wn := by rw [hq]
    have hmy : OF_num (q_o (y n)) = m := by rw [hq]
    have hsn : sN (y n) = s := by rw [hq]; exact nI_clamp (by omega)
    have a1 := ovL_len (nI wn) m (q_F (x s)) (q_B (x s))
    have a2 := ovL_tot (nI wn) m (q_F (x s)) (q_B (x s))
    have a3 := ovL_end (nI wn) m (q_F (x s)) (q_B (x s))
    refine ⟨by rw [hF]; omega, by rw [hF]; omega, fun c hc => ovL_c4 _ _ _ _ hS.2.2 c (by rw [hF] at hc; exact hc), Or.inr ⟨by rw [hwy]; rcases hw with h | h | h | h <;> rw [h] <;> decide, by rw [hsn]; exact hs, by rw [hsn, hq], Or.inr ⟨?_, fun h107 => ?_, by rw [hsn, hF, hy]; exact a1, fun j hj => ?_, ?_, ?_⟩⟩⟩
    · rw [hwy]
      rcases hw with h | h | h | h
      · rw [h]; exact Or.inl rfl
      · rw [h]; exact Or.inr (Or.inl rfl)
      · rw [h]; exact Or.inr (Or.inr rfl)
      · exact absurd h h116
    · rw [hwy] at h107
      rw [hmy]
      have e7 : wn = 107 := by
        rcases hw with h | h | h | h
        · rw [h] at h107; exact absurd h107 (by decide)
        · rw [h] at h107; exact absurd h107 (by decide)
        · exact h
        · exact absurd h h116
      have hlow : lowQ wn = nI 1 := by unfold lowQ; rw [if_pos e7]
      rw [hlow] at hm
      have := i32_le.mp (inB_lo hm)
      have e1 : (nI 1).toInt = 1 := by decide
      rw [e1] at this
      exact this
    · rw [hF] at hj
      rw [hsn, hF, hy, hwy, hmy]
      exact ovL_at _ _ _ _ _ hj
    · rw [hsn, hF, hy, hwy, hB]
      exact a3.1
    · rw [hsn, hF, hy, hB]
      exact a3.2
theorem qSrc_c {x y : Nat → QIS} {s : Nat} (h : ∀ j, j ≤ s → y j = x j) (H : qSrc x s) : qSrc y s := by
  have e1 := h s (Nat.le_refl _)
  have e2 := h (sN (x s)) (by have := H.1; omega)
  unfold qSrc
  rw [e1, e2]
  exact H
theorem qW_c {x y : Nat → QIS} {s : Nat} (h : ∀ j, j ≤ s → y j = x j) (H : qW x s) : qW y s := by
  have e1 := h s (Nat.le_refl _)
  unfold qW
  rw [e1]
  exact ⟨H.1, H.2.1, H.2.2.1, H.2.2.2.elim (fun z => Or.inl (by unfold qRng at z ⊢; rw [e1]; exact z)) (fun z => Or.inr ⟨z.1, qSrc_c h z.2⟩)⟩
theorem QX.new {n : Nat} {x : Nat → QIS} {q : QIS} (H : QX n x) (hn : n < 12) (hW : qW (va_up x n q) n) (h0 : q_rc q = 0) (h1 : q_cp q = 0) : QX (n + 1) (va_up x n q) := by
  have e : ∀ j, j < n → va_up x n q j = x j := fun j hj => by rw [va_up_app, if_neg (by omega)]
  have en : va_up x n q n = q := by rw [va_up_app, if_pos rfl]
  refine ⟨⟨fun s hs => ?_, by omega, fun s hs => ?_⟩, fun s hs => ?_, fun s hs => ?_⟩
  · by_cases es : s = n
    · rw [es]; exact hW
    · exact qW_c (fun j hj => e j (by omega)) (H.1.1 s (by omega))
  · by_cases es : s = n
    · rw [es, en, h1]; exact Or.inl rfl
    · rw [e s (by omega)]; exact H.1.2.2 s (by omega)
  · by_cases es : s = n
    · rw [es]
      refine ⟨by show q_rc (va_up x n q n) ≤ _; rw [en, h0]; exact Nat.zero_le _, ?_⟩
      by_cases hR : q_w (va_up x n q n) = nI 114
      · exact Or.inl hR
      · exact Or.inr ⟨fun _ => by show q_rc (va_up x n q n) ≤ _; rw [en, h0]; exact Nat.zero_le _, fun _ => by show q_rc (va_up x n q n) ≤ _; rw [en, h0]; exact Nat.zero_le _⟩
    · have hV := H.2.1 s (by omega)
      refine ⟨by show q_rc (va_up x n q s) ≤ (q_F (va_up x n q s)).length; rw [e s (by omega)]; exact hV.1, ?_⟩
      rcases hV.2 with z | z
      · exact Or.inl (by rw [e s (by omega)]; exact z)
      · by_cases hR : q_w (x s) = nI 114
        · exact Or.inl (by rw [e s (by omega)]; exact hR)
        · have hk := qs_lt H.1.1 (show s < n by omega) hR
          refine Or.inr ⟨?_, ?_⟩
          · rw [e s (by omega), e (sN (x s)) (by omega)]
            show _ → q_rc (va_up x n q s) ≤ pre _ (q_rc (va_up x n q (sN (x s))))
            rw [e s (by omega), e (sN (x s)) (by omega)]; exact z.1
          · rw [e s (by omega)]
            show _ → q_rc (va_up x n q s) ≤ q_rc (va_up x n q (sN (x s)))
            rw [e s (by omega), e (sN (x s)) (by omega)]; exact z.2
  · by_cases es : s = n
    · rw [es, en, h0, h1]; exact Nat.le_refl _
    · rw [e s (by omega)]; exact H.2.2 s (by omega)
theorem MSQ.new {h h' : Hp} {n : Nat} {x : Nat → QIS} {q : QIS} (H : MSQ h n x) (hn : n < 16) (h0 : q_rc q = 0) (h1 : q_cp q = 0) (O : OF h' n (q_o q)) (L : LRc h' (nm 3 n) 26 n [] 0) (LO : LOb h' (nm 1 11) 31 0 2 (n + 1)) (hF : ∀ r i, r < 128 → ¬ ((r = 2 ∧ i = n) ∨ (r = 3 ∧ i = n) ∨ (r = 1 ∧ i = 11) ∨ r = 31) → ce h' (nm r i) = ce h (nm r i)) (hk : h_k h' (nm 1 11) = 3) : MSQ h' (n + 1) (va_up x n q) := by
  have h0' : ce h' 0 = ce h 0 := hF 0 0 (by decide) (by omega)
  refine ⟨H.1.fr2 (ce_k (hF 1 0 (by decide) (by omega))) (ce_R (hF 1 0 (by decide) (by omega))) (fun i _ hi => ?_) (fun i _ hi h11 => ce_n (hF 1 i (by decide) (by omega))), LO, fun s hs => ?_, H.2.2.2.1.fr' (fun i hi => hF 2 i (by decide) (by omega)), H.2.2.2.2.1.fr' (fun i hi => hF 3 i (by decide) (by omega)), fun i hi h16 z => (ce_k (hF 26 _ (by decide) (by omega))).trans (H.2.2.2.2.2 i (by omega) h16 z)⟩
  · by_cases e : i = 11
    · rw [e]; exact hk.trans H.2.1.k.symm
    · exact ce_k (hF 1 i (by decide) (by omega))
  · by_cases es : s = n
    · subst es
      rw [va_up_app, if_pos rfl, h0, h1]
      exact ⟨O, L⟩
    · rw [va_up_app, if_neg es]
      obtain ⟨a, b⟩ := H.2.2.1 s (by omega)
      exact ⟨a.frm (hF 2 s (by decide) (by omega)), b.frm h0' (hF 3 s (by decide) (by omega)) (fun z => hF 26 _ (by decide) (by omega)) (fun k _ => hF 22 k (by decide) (by omega))⟩
