/-! The model: range, over. -/
theorem MF.fr2 {h h' : Hp} {m : Nat} {A : Nat → Nat} (H : MF h m A) (h0 : h_k h' m = h_k h m) (h1 : h_R h' m = h_R h m) (h2 : ∀ i, 3 ≤ i → i ≤ 18 → h_k h' (A i) = h_k h (A i)) (h3 : ∀ i, 3 ≤ i → i ≤ 12 → i ≠ 11 → h_n h' (A i) = h_n h (A i)) : MF h' m A :=
  ⟨h0.trans H.1, fun i a b c d => by rw [h1, h2 i a b]; exact H.2.1 i a b c d, fun i a b c => by rw [h3 i a b c]; exact H.2.2.1 i a b c, H.2.2.2⟩
theorem FreeI.fr' {h h' : Hp} {r n : Nat} (H : FreeI h r n) (hF : ∀ i, n + 1 ≤ i → ce h' (nm r i) = ce h (nm r i)) : FreeI h' r (n + 1) := fun i hi => (ce_k (hF i hi)).trans (H i (by omega))
def rngF (a b : Int32) (m : Nat) : List (List Int32) := (List.range ((m + 3) / 4)).map (fun j => (List.range (min (m - 4 * j) 4)).map (fun k => a + b * nI (4 * j + k)))
def rngQ (a b : Int32) (m : Nat) : QIS := ((nI 114, -1, a, b, nI m), rngF a b m, false, 0, 0)
/-- the first elements, each a chunk -/
def tkF (F : List (List Int32)) (m : Nat) : List (List Int32) := (List.range (min m (tot F))).map (fun j => [atF F j])
def ovL (w m : Int32) : List (List Int32) → Bool → List (List Int32) × Bool
  | [], b => ([], b)
  | c :: l, b => if w = nI 100 ∧ hz c = true then ([], true) else (chF w m c :: (ovL w m l b).1, (ovL w m l b).2)
def ovQ (x : Nat → QIS) (s wn : Nat) (m : Int32) : QIS :=
  if wn = 116 then ((nI wn, nI s, m, nI 0, nI 0), tkF (q_F (x s)) m.toNatClampNeg, q_B (x s) && decide (tot (q_F (x s)) < m.toNatClampNeg), 0, 0)
  else ((nI wn, nI s, m, nI 0, nI 0), (ovL (nI wn) m (q_F (x s)) (q_B (x s))).1, (ovL (nI wn) m (q_F (x s)) (q_B (x s))).2, 0, 0)
def lowQ (wn : Nat) : Int32 := if wn = 107 then nI 1 else if wn = 116 then nI 0 else -99
def isW (wn : Nat) : Bool := decide (wn = 97) || decide (wn = 100) || decide (wn = 107) || decide (wn = 116)
def o_range (n : Nat) (x : Nat → QIS) (a b c : Int32) (m : Nat) : Int32 × Int32 × Nat × (Nat → QIS) :=
  if (inB a (-99) (nI 99) && inB b (-9) (nI 9) && inB c (nI 0) (nI 24)) = false then (nI 1, nI 0, n, x) else if n = 12 then (nI 2, nI 0, n, x) else (nI 0, nI n, n + 1, va_up x n (rngQ a b m))
def o_over (n : Nat) (x : Nat → QIS) (u : Int32) (s wn : Nat) (m : Int32) : Int32 × Int32 × Nat × (Nat → QIS) :=
  if (!ixB u n) = true then (nI 1, nI 0, n, x) else if (isW wn && inB m (lowQ wn) (nI 99)) = false then (nI 2, nI 0, n, x) else if n = 12 then (nI 3, nI 0, n, x) else (nI 0, nI n, n + 1, va_up x n (ovQ x s wn m))
theorem map_gD {β : Type} {z : β} (f : Nat → β) (m : Nat) {j : Nat} (hj : j < m) : ((List.range m).map f).getD j z = f j := by
  simp [List.getD, List.getElem?_map, List.getElem?_range hj]
theorem tot_map {f : Nat → List Int32} {b : Nat} : ∀ m, (∀ j, j < m → (f j).length ≤ b) → tot ((List.range m).map f) ≤ b * m := by
  intro m
  induction m with
  | zero => intro _; exact Nat.le_refl _
  | succ m ih =>
    intro h
    rw [List.range_succ, List.map_append, tot_app]
    have a1 := ih (fun j hj => h j (by omega))
    have a2 := h m (by omega)
    show tot _ + (_ + 0) ≤ _
    rw [Nat.mul_succ]; omega
theorem rngF_tot {a b : Int32} {m : Nat} : tot (rngF a b m) ≤ m := by
  have key : ∀ k, 4 * k ≤ m + 3 → tot ((List.range k).map (fun j => (List.range (min (m - 4 * j) 4)).map (fun k => a + b * nI (4 * j + k)))) ≤ min (4 * k) m := by
    intro k
    induction k with
    | zero => intro _; exact Nat.zero_le _
    | succ k ih =>
      intro h
      rw [List.range_succ, List.map_append, tot_app]
      have a1 := ih (by omega)
      show tot _ + (((List.range (min (m - 4 * k) 4)).map _).length + 0) ≤ _
      rw [List.length_map, List.length_range]
      omega
  have := key ((m + 3) / 4) (by omega)
  unfold rngF
  omega
theorem rngQ_W {x : Nat → QIS} {n : Nat} {a b : Int32} {m : Nat} (h : m ≤ 24) (hx : x n = rngQ a b m) : qW x n := by
  have hF : q_F (x n) = rngF a b m := by rw [hx]; rfl
  have hlen : (rngF a b m).length = (m + 3) / 4 := by unfold rngF; rw [List.length_map, List.length_range]
  refine ⟨by rw [hF, hlen]; omega, by rw [hF]; exact Nat.le_trans rngF_tot h, fun c hc => ?_, Or.inl ⟨by rw [hx]; rfl, by rw [hx]; rfl, m, h, by rw [hx]; rfl, by rw [hF, hlen], fun j hj => ?_⟩⟩
  · rw [hF] at hc
    obtain ⟨j, -, rfl⟩ := List.mem_map.mp hc
    rw [List.length_map, List.length_range]; omega
  · rw [hF, hlen] at hj
    rw [hF, hx]
    unfold rngF
    rw [map_gD _ _ hj]
    rfl
theorem ovL_len (w m : Int32) : ∀ F b, (ovL w m F b).1.length ≤ F.length
  | [], _ => Nat.le_refl _
  | c :: l, b => by
    rw [ovL]
    split
    · exact Nat.zero_le _
    · have := ovL_len w m l b
      simp; omega
theorem ovL_tot (w m : Int32) : ∀ F b, tot (ovL w m F b).1 ≤ tot F
  | [], _ => Nat.le_refl _
  | c :: l, b => by
    rw [ovL]
    split
    · exact Nat.zero_le _
    · have := ovL_tot w m l b
      have h2 := chF_le (w := w) (m := m) (c := c)
      show (chF w m c).length + tot _ ≤ c.length + tot l
      omega
theorem ovL_at (w m : Int32) : ∀ F b j, j < (ovL w m F b).1.length → (ovL w m F b).1.getD j [] = chF w m (F.getD j []) ∧ (w = nI 100 → hz (F.getD j []) = false)
  | [], _, _, h => absurd h (Nat.not_lt_zero _)
  | c :: l, b, j, h => by
    rw [ovL] at h ⊢
    by_cases e : w = nI 100 ∧ hz c = true
    · rw [if_pos e] at h; exact absurd h (Nat.not_lt_zero _)
    · rw [if_neg e] at h ⊢
      match j, h with
      | 0, _ => exact ⟨rfl, fun z => by
          cases hc : hz c with
          | false => simp [hc]
          | true => exact absurd ⟨z, hc⟩ e⟩
      | j + 1, h =>
        rw [List.getD_cons_succ, List.getD_cons_succ]
        exact ovL_at w m l b j (by simpa using h)
theorem ovL_end (w m : Int32) : ∀ F b, ((ovL w m F b).1.length < F.length → w = nI 100 ∧ hz (F.getD (ovL w m F b).1.length []) = true ∧ (ovL w m F b).2 = true) ∧ ((ovL w m F b).1.length = F.length → (ovL w m F b).2 = b)
  | [], _ => ⟨fun h => absurd h (Nat.not_lt_zero _), fun _ => rfl⟩
  | c :: l, b => by
    rw [ovL]
    by_cases e : w = nI 100 ∧ hz c = true
    · rw [if_pos e]
      exact ⟨fun _ => ⟨e.1, e.2, rfl⟩, fun h => absurd h (by simp)⟩
    · rw [if_neg e]
      have := ovL_end w m l b
      refine ⟨fun h => ?_, fun h => this.2 (by simpa using h)⟩
      have := this.1 (by simpa using h)
      rw [List.length_cons, List.getD_cons_succ]
      exact this
theorem ovL_c4 (w m : Int32) : ∀ F b, (∀ c, c ∈ F → c.length ≤ 4) → ∀ c, c ∈ (ovL w m F b).1 → c.length ≤ 4
  | [], _, _, _, h => absurd h (List.not_mem_nil)
  | c :: l, b, h4, d, hd => by
    rw [ovL] at hd
    split at hd
    · exact absurd hd (List.not_mem_nil)
    · rcases List.mem_cons.mp hd with e | e
      · rw [e]; exact Nat.le_trans chF_le (h4 c List.mem_cons_self)
      · exact ovL_c4 w m l b (fun c hc => h4 c (List.mem_cons_of_mem _ hc)) d e
theorem ixB_100 {m : Int32} (h : inB m (nI 0) (nI 99) = true) : m = nI m.toNatClampNeg ∧ m.toNatClampNeg ≤ 99 := by
  obtain ⟨k, hk, e⟩ := ixB_t (v := m) (n := 100) (by decide) h
  have e2 : m.toNatClampNeg = k := by rw [e]; exact nI_clamp (by omega)
  rw [e2]; exact ⟨e, by omega⟩
theorem inB_lo {m lo hi : Int32} (h : inB m lo hi = true) : lo ≤ m := by
  unfold inB at h; rw [Bool.and_eq_true] at h; exact of_decide_eq_true h.1
theorem ovQ_W {x y : Nat → QIS} {n s wn : Nat} {m : Int32} (hs : s < n) (hn : n ≤ 12) (hS : (q_F (x s)).length ≤ 24 ∧ tot (q_F (x s)) ≤ 24 ∧ ∀ c, c ∈ q_F (x s) → c.length ≤ 4) (hw : wn = 97 ∨ wn = 100 ∨ wn = 107 ∨ wn = 116) (hm : inB m (lowQ wn) (nI 99) = true) (hy : y s = x s) (hyn : y n = ovQ x s wn m) : qW y n := by
  have hsN : ∀ o : OFS, OF_src o = nI s → (OF_src o).toNatClampNeg = s := fun o e => by rw [e]; exact nI_clamp (by omega)
  by_cases h116 : wn = 116
  · have hq : y n = ((nI wn, nI s, m, nI 0, nI 0), tkF (q_F (x s)) m.toNatClampNeg, q_B (x s) && decide (tot (q_F (x s)) < m.toNatClampNeg), 0, 0) := by rw [hyn]; unfold ovQ; rw [if_pos h116]
    have hlow : lowQ wn = nI 0 := by unfold lowQ; rw [if_neg (by omega), if_pos h116]
    rw [hlow] at hm
    obtain ⟨em, hm99⟩ := ixB_100 hm
    have hF : q_F (y n) = tkF (q_F (x s)) m.toNatClampNeg := by rw [hq]
    have hl : (tkF (q_F (x s)) m.toNatClampNeg).length = min m.toNatClampNeg (tot (q_F (x s))) := by unfold tkF; rw [List.length_map, List.length_range]
    have hsn : sN (y n) = s := by rw [hq]; exact nI_clamp (by omega)
    have ht : tot (tkF (q_F (x s)) m.toNatClampNeg) ≤ 1 * min m.toNatClampNeg (tot (q_F (x s))) := tot_map _ (fun j _ => Nat.le_refl _)
    refine ⟨by rw [hF, hl]; omega, by rw [hF]; omega, fun c hc => ?_, Or.inr ⟨by rw [hq]; show ¬ nI wn = nI 114; rw [h116]; decide, by rw [hsn]; exact hs, by rw [hsn, hq], Or.inl ⟨by rw [hq, h116], ?_, ?_, ?_, ?_, ?_⟩⟩⟩
    · rw [hF] at hc
      obtain ⟨j, -, rfl⟩ := List.mem_map.mp hc
      exact (by decide : (1 : Nat) ≤ 4)
    · rw [hq]; exact em
    · rw [hq]; exact hm99
    · rw [hsn, hF, hy, hl, hq]
    · intro j hj
      rw [hF, hl] at hj
      rw [hsn, hF, hy]
      unfold tkF
      rw [map_gD _ _ hj]
    · rw [hsn, hy, hq]
  · have hq : y n = ((nI wn, nI s, m, nI 0, nI 0), (ovL (nI wn) m (q_F (x s)) (q_B (x s))).1, (ovL (nI wn) m (q_F (x s)) (q_B (x s))).2, 0, 0) := by rw [hyn]; unfold ovQ; rw [if_neg h116]
    have hF : q_F (y n) = (ovL (nI wn) m (q_F (x s)) (q_B (x s))).1 := by rw [hq]
    have hB : q_B (y n) = (ovL (nI wn) m (q_F (x s)) (q_B (x s))).2 := by rw [hq]
    have hwy : q_w (y n) = nI wn := by rw [hq]
    have hmy : OF_num (q_o (y n)) = m := by rw [hq]
    have hsn : sN (y n) = s := by rw [hq]; exact nI_clamp (by omega)
    have a1 := ovL_len (nI wn) m (q_F (x s)) (q_B (x s))
    have a2 := ovL_tot (nI wn) m (q_F (x s)) (q_B (x s))
    have a3 := ovL_end (nI wn) m (q_F (x s)) (q_B (x s))
    refine ⟨by rw [hF]; omega, by rw [hF]; omega, fun c hc => ovL_c4 _ _ _ _ hS.2.2 c (by rw [hF] at hc; exact hc), Or.inr ⟨by rw [hwy]; rcases hw with h | h | h | h <;> rw [h] <;> decide, by rw [hsn]; exact hs, by rw [hsn, hq], Or.inr ⟨?_, fun h107 => ?_, by rw [hsn, hF, hy]; exact a1, fun j hj => ?_, ?_, ?_⟩⟩⟩
    · rw [hwy]
      rcases hw with h | h | h | h
      · rw [h]; exact Or.inl rfl
      · rw [h]; exact Or.inr (Or.inl rfl)
      · rw [h]; exact Or.inr (Or.inr rfl)
      · exact absurd h h116
    · rw [hwy] at h107
      rw [hmy]
      have e7 : wn = 107 := by
        rcases hw with h | h | h | h
        · rw [h] at h107; exact absurd h107 (by decide)
        · rw [h] at h107; exact absurd h107 (by decide)
        · exact h
        · exact absurd h h116
      have hlow : lowQ wn = nI 1 := by unfold lowQ; rw [if_pos e7]
      rw [hlow] at hm
      have := i32_le.mp (inB_lo hm)
      have e1 : (nI 1).toInt = 1 := by decide
      rw [e1] at this
      exact this
    · rw [hF] at hj
      rw [hsn, hF, hy, hwy, hmy]
      exact ovL_at _ _ _ _ _ hj
    · rw [hsn, hF, hy, hwy, hB]
      exact a3.1
    · rw [hsn, hF, hy, hB]
      exact a3.2
theorem qSrc_c {x y : Nat → QIS} {s : Nat} (h : ∀ j, j ≤ s → y j = x j) (H : qSrc x s) : qSrc y s := by
  have e1 := h s (Nat.le_refl _)
  have e2 := h (sN (x s)) (by have := H.1; omega)
  unfold qSrc
  rw [e1, e2]
  exact H
theorem qW_c {x y : Nat → QIS} {s : Nat} (h : ∀ j, j ≤ s → y j = x j) (H : qW x s) : qW y s := by
  have e1 := h s (Nat.le_refl _)
  unfold qW
  rw [e1]
  exact ⟨H.1, H.2.1, H.2.2.1, H.2.2.2.elim (fun z => Or.inl (by unfold qRng at z ⊢; rw [e1]; exact z)) (fun z => Or.inr ⟨z.1, qSrc_c h z.2⟩)⟩
theorem QX.new {n : Nat} {x : Nat → QIS} {q : QIS} (H : QX n x) (hn : n < 12) (hW : qW (va_up x n q) n) (h0 : q_rc q = 0) (h1 : q_cp q = 0) : QX (n + 1) (va_up x n q) := by
  have e : ∀ j, j < n → va_up x n q j = x j := fun j hj => by rw [va_up_app, if_neg (by omega)]
  have en : va_up x n q n = q := by rw [va_up_app, if_pos rfl]
  refine ⟨⟨fun s hs => ?_, by omega, fun s hs => ?_⟩, fun s hs => ?_, fun s hs => ?_⟩
  · by_cases es : s = n
    · rw [es]; exact hW
    · exact qW_c (fun j hj => e j (by omega)) (H.1.1 s (by omega))
  · by_cases es : s = n
    · rw [es, en, h1]; exact Or.inl rfl
    · rw [e s (by omega)]; exact H.1.2.2 s (by omega)
  · by_cases es : s = n
    · rw [es]
      refine ⟨by show q_rc (va_up x n q n) ≤ _; rw [en, h0]; exact Nat.zero_le _, ?_⟩
      by_cases hR : q_w (va_up x n q n) = nI 114
      · exact Or.inl hR
      · exact Or.inr ⟨fun _ => by show q_rc (va_up x n q n) ≤ _; rw [en, h0]; exact Nat.zero_le _, fun _ => by show q_rc (va_up x n q n) ≤ _; rw [en, h0]; exact Nat.zero_le _⟩
    · have hV := H.2.1 s (by omega)
      refine ⟨by show q_rc (va_up x n q s) ≤ (q_F (va_up x n q s)).length; rw [e s (by omega)]; exact hV.1, ?_⟩
      rcases hV.2 with z | z
      · exact Or.inl (by rw [e s (by omega)]; exact z)
      · by_cases hR : q_w (x s) = nI 114
        · exact Or.inl (by rw [e s (by omega)]; exact hR)
        · have hk := qs_lt H.1.1 (show s < n by omega) hR
          refine Or.inr ⟨?_, ?_⟩
          · rw [e s (by omega), e (sN (x s)) (by omega)]
            show _ → q_rc (va_up x n q s) ≤ pre _ (q_rc (va_up x n q (sN (x s))))
            rw [e s (by omega), e (sN (x s)) (by omega)]; exact z.1
          · rw [e s (by omega)]
            show _ → q_rc (va_up x n q s) ≤ q_rc (va_up x n q (sN (x s)))
            rw [e s (by omega), e (sN (x s)) (by omega)]; exact z.2
  · by_cases es : s = n
    · rw [es, en, h0, h1]; exact Nat.le_refl _
    · rw [e s (by omega)]; exact H.2.2 s (by omega)
theorem MSQ.new {h h' : Hp} {n : Nat} {x : Nat → QIS} {q : QIS} (H : MSQ h n x) (hn : n < 16) (h0 : q_rc q = 0) (h1 : q_cp q = 0) (O : OF h' n (q_o q)) (L : LRc h' (nm 3 n) 26 n [] 0) (LO : LOb h' (nm 1 11) 31 0 2 (n + 1)) (hF : ∀ r i, r < 128 → ¬ ((r = 2 ∧ i = n) ∨ (r = 3 ∧ i = n) ∨ (r = 1 ∧ i = 11) ∨ r = 31) → ce h' (nm r i) = ce h (nm r i)) (hk : h_k h' (nm 1 11) = 3) : MSQ h' (n + 1) (va_up x n q) := by
  have h0' : ce h' 0 = ce h 0 := hF 0 0 (by decide) (by omega)
  refine ⟨H.1.fr2 (ce_k (hF 1 0 (by decide) (by omega))) (ce_R (hF 1 0 (by decide) (by omega))) (fun i _ hi => ?_) (fun i _ hi h11 => ce_n (hF 1 i (by decide) (by omega))), LO, fun s hs => ?_, H.2.2.2.1.fr' (fun i hi => hF 2 i (by decide) (by omega)), H.2.2.2.2.1.fr' (fun i hi => hF 3 i (by decide) (by omega)), fun i hi h16 z => (ce_k (hF 26 _ (by decide) (by omega))).trans (H.2.2.2.2.2 i (by omega) h16 z)⟩
  · by_cases e : i = 11
    · rw [e]; exact hk.trans H.2.1.k.symm
    · exact ce_k (hF 1 i (by decide) (by omega))
  · by_cases es : s = n
    · subst es
      rw [va_up_app, if_pos rfl, h0, h1]
      exact ⟨O, L⟩
    · rw [va_up_app, if_neg es]
      obtain ⟨a, b⟩ := H.2.2.1 s (by omega)
      exact ⟨a.frm (hF 2 s (by decide) (by omega)), b.frm h0' (hF 3 s (by decide) (by omega)) (fun z => hF 26 _ (by decide) (by omega)) (fun k _ => hF 22 k (by decide) (by omega))⟩
set_option maxRecDepth 100000 in
set_option maxHeartbeats 4000000 in
theorem c_X14_init {G : GG} {d bc bs : Nat} {h : Hp} {Q : Pst} {s : Nat} (f3 : h_k h (nm 3 s) = 0) (f26 : ∀ z, h_k h (nm 26 (16 * z + s)) = 0) (J : JC h) {wn : Nat} (hw : wn < 65536) {sr nu st my : Int32} (hd : 5 ≤ d) (hbc : 1 ≤ bc) (hbs : 3 ≤ bs) (hq : ∀ h', OF h' s (nI wn, sr, nu, st, my) → LRc h' (nm 3 s) 26 s [] 0 → (∀ b, b ≠ nm 2 s → b ≠ nm 3 s → ce h' b = ce h b) → Q oVoid h') : WP G m_X14_init d 0 (aargs 0 [vr (some (nm 2 s)), vi (nI wn), vi sr, vi nu, vi st, vi my]) [] (mk h (nm 2 s) 16 0) bc bs Q := by
  refine wp_sub [(0, vr (some (nm 2 s))), (1, vi (nI wn)), (2, vi sr), (3, vi nu), (4, vi st), (5, vi my)] (fun _ hz => hz) ?_
  refine wp_aload_n (i := 0) dX14_init_0 rfl rfl ?_
  refine wp_objInit dX14_init_1 ml_X14_1 im_java_lang_Object__init____V co_obj (by omega) (by decide) ?_
  refine wp_aload_n (i := 0) dX14_init_4 rfl rfl ?_
  refine wp_new 2 dX14_init_5 (by decide) kl_X14_7 ins_Jx4a65c ini_Jx4a65c (by omega) (by show 3 ≤ _; omega) (nm 3 s) (by simp [gI_wI, gI_wR, gI_mk, gR_wI, gR_wR, gR_mk, gk_wI, gk_wR, gk_mk, gn_wI, gn_wR, gn_mk, nm_eq, nm_i]; exact f3) ?_
  have hkl : h_k (mk (mk h (nm 2 s) 16 0) (nm 3 s) 3 0) (nm 3 s) = 3 := by rw [gk_mk, if_pos rfl]
  refine wp_dup dX14_init_8 ?_
  refine wp_cI (y' := m_Jx4a65c_init_da8c8) [] [vr (some (nm 3 s)), vr (some (nm 2 s))] 0 0 dX14_init_9 ml_X14_9 im_Jx4a65c_init_da8c8 rfl rfl ok_Jx4a65c_init_da8c8 rfl (Nat.le_of_ble_eq_true rfl) rfl (Nat.le_of_ble_eq_true rfl) (d' := d - 1) (by omega) (Nat.zero_le _) (Nat.zero_le _) (c_AL_init hkl (by omega) (cont_void ?_))
  refine wp_putRF 15 5 dX14_init_12 (by simp [gI_wI, gI_wR, gI_mk, gR_wI, gR_wR, gR_mk, gk_wI, gk_wR, gk_mk, gn_wI, gn_wR, gn_mk, nm_eq, nm_i]) (by decide) (by decide) (by decide) fl_X14_10 rfl rfl rfl (fun _ _ => rfl) rfl ?_
  refine wp_aload_n (i := 0) dX14_init_15 rfl rfl ?_
  refine wp_iload_n (i := 1) dX14_init_16 rfl rfl ?_
  refine wp_putIF 15 0 dX14_init_17 (by simp [gI_wI, gI_wR, gI_mk, gR_wI, gR_wR, gR_mk, gk_wI, gk_wR, gk_mk, gn_wI, gn_wR, gn_mk, nm_eq, nm_i]) (by decide) (by decide) (by decide) fl_X14_16 rfl rfl rfl (fun _ _ => rfl) (pk_charN hw).1 (pk_charN hw).2 ?_
  refine wp_aload_n (i := 0) dX14_init_20 rfl rfl ?_
  refine wp_iload_n (i := 2) dX14_init_21 rfl rfl ?_
  refine wp_putIF 15 1 dX14_init_22 (by simp [gI_wI, gI_wR, gI_mk, gR_wI, gR_wR, gR_mk, gk_wI, gk_wR, gk_mk, gn_wI, gn_wR, gn_mk, nm_eq, nm_i]) (by decide) (by decide) (by decide) fl_X14_20 rfl rfl rfl (fun _ _ => rfl) rfl rfl ?_
  refine wp_aload_n (i := 0) dX14_init_25 rfl rfl ?_
  refine wp_iload_n (i := 3) dX14_init_26 rfl rfl ?_
  refine wp_putIF 15 2 dX14_init_27 (by simp [gI_wI, gI_wR, gI_mk, gR_wI, gR_wR, gR_mk, gk_wI, gk_wR, gk_mk, gn_wI, gn_wR, gn_mk, nm_eq, nm_i]) (by decide) (by decide) (by decide) fl_X14_24 rfl rfl rfl (fun _ _ => rfl) rfl rfl ?_
  refine wp_aload_n (i := 0) dX14_init_30 rfl rfl ?_
  refine wp_iload (i := 4) dX14_init_31 rfl ?_
  refine wp_putIF 15 3 dX14_init_33 (by simp [gI_wI, gI_wR, gI_mk, gR_wI, gR_wR, gR_mk, gk_wI, gk_wR, gk_mk, gn_wI, gn_wR, gn_mk, nm_eq, nm_i]) (by decide) (by decide) (by decide) fl_X14_27 rfl rfl rfl (fun _ _ => rfl) rfl rfl ?_
  refine wp_aload_n (i := 0) dX14_init_36 rfl rfl ?_
  refine wp_iload (i := 5) dX14_init_37 rfl ?_
  refine wp_putIF 15 4 dX14_init_39 (by simp [gI_wI, gI_wR, gI_mk, gR_wI, gR_wR, gR_mk, gk_wI, gk_wR, gk_mk, gn_wI, gn_wR, gn_mk, nm_eq, nm_i]) (by decide) (by decide) (by decide) fl_X14_30 rfl rfl rfl (fun _ _ => rfl) rfl rfl ?_
  refine wp_return dX14_init_42 rfl ?_
  refine hq _ ⟨by simp [gI_wI, gI_wR, gI_mk, gR_wI, gR_wR, gR_mk, gk_wI, gk_wR, gk_mk, gn_wI, gn_wR, gn_mk, nm_eq, nm_i], by simp [gI_wI, gI_wR, gI_mk, gR_wI, gR_wR, gR_mk, gk_wI, gk_wR, gk_mk, gn_wI, gn_wR, gn_mk, nm_eq, nm_i], by simp [gI_wI, gI_wR, gI_mk, gR_wI, gR_wR, gR_mk, gk_wI, gk_wR, gk_mk, gn_wI, gn_wR, gn_mk, nm_eq, nm_i], by simp [gI_wI, gI_wR, gI_mk, gR_wI, gR_wR, gR_mk, gk_wI, gk_wR, gk_mk, gn_wI, gn_wR, gn_mk, nm_eq, nm_i], by simp [gI_wI, gI_wR, gI_mk, gR_wI, gR_wR, gR_mk, gk_wI, gk_wR, gk_mk, gn_wI, gn_wR, gn_mk, nm_eq, nm_i], by simp [gI_wI, gI_wR, gI_mk, gR_wI, gR_wR, gR_mk, gk_wI, gk_wR, gk_mk, gn_wI, gn_wR, gn_mk, nm_eq, nm_i], by simp [gI_wI, gI_wR, gI_mk, gR_wI, gR_wR, gR_mk, gk_wI, gk_wR, gk_mk, gn_wI, gn_wR, gn_mk, nm_eq, nm_i]⟩ ⟨0, 0, fun _ => 0, AL.nil (by simp [gI_wI, gI_wR, gI_mk, gR_wI, gR_wR, gR_mk, gk_wI, gk_wR, gk_mk, gn_wI, gn_wR, gn_mk, nm_eq, nm_i]) (by simp [gI_wI, gI_wR, gI_mk, gR_wI, gR_wR, gR_mk, gk_wI, gk_wR, gk_mk, gn_wI, gn_wR, gn_mk, nm_eq, nm_i]) (by simp [gI_wI, gI_wR, gI_mk, gR_wI, gR_wR, gR_mk, gk_wI, gk_wR, gk_mk, gn_wI, gn_wR, gn_mk, nm_eq, nm_i]; rfl) (by simp [gI_wI, gI_wR, gI_mk, gR_wI, gR_wR, gR_mk, gk_wI, gk_wR, gk_mk, gn_wI, gn_wR, gn_mk, nm_0']; exact J.1) (by simp [gI_wI, gI_wR, gI_mk, gR_wI, gR_wR, gR_mk, gk_wI, gk_wR, gk_mk, gn_wI, gn_wR, gn_mk, nm_0']; exact J.2.1) (fun g' _ => by simp [gI_wI, gI_wR, gI_mk, gR_wI, gR_wR, gR_mk, gk_wI, gk_wR, gk_mk, gn_wI, gn_wR, gn_mk, nm_eq, nm_i]; exact f26 g'), by simp [gI_wI, gI_wR, gI_mk, gR_wI, gR_wR, gR_mk, gk_wI, gk_wR, gk_mk, gn_wI, gn_wR, gn_mk, nm_0']; exact J.2.1, fun j hj => absurd hj (Nat.not_lt_zero _)⟩ (fun b n4 n5 => ?_)
  exact (ce_wI n4).trans ((ce_wI n4).trans ((ce_wI n4).trans ((ce_wI n4).trans ((ce_wI n4).trans ((ce_wR n4).trans ((ce_wR n5).trans ((ce_wI n5).trans ((ce_mk n5).trans (ce_mk n4)))))))))
set_option maxRecDepth 100000 in
set_option maxHeartbeats 4000000 in
theorem c_X16_range {G : GG} {d bc bs : Nat} {h : Hp} {Q : Pst} {n : Nat} {x : Nat → QIS} (hX : QX n x) (hM : MSQ h n x) (hP : PO2 h) (J : JC h) {a b c : Int32} {m : Nat} (hc : inB c (nI 0) (nI 24) = true → c = nI m ∧ m ≤ 24) (hd : 20 ≤ d) (hbc : 6 ≤ bc) (hbs : 100 ≤ bs) (hq : QO Q h (o_range n x a b c m))  : WP G m_X16_range d 0 (aargs 0 [vr (some (nm 1 0)), vi a, vi b, vi c]) [] h bc bs Q := by
  have hn12 := hX.1.2.1
  refine wp_sub [(0, vr (some (nm 1 0))), (1, vi a), (2, vi b), (3, vi c)] (fun _ hz => hz) ?_
  refine wp_aload_n (i := 0) dX16_range_0 rfl rfl ?_
  refine wp_iconst (nI 0) dX16_range_1 (by decide) ?_
  refine wp_putI 17 0 dX16_range_2 hM.1.1 (by decide) (by decide) (by decide) fl_X16_63 rfl (fun _ _ => rfl) rfl rfl ?_
  have hM0 := hM.wI (i := 0) (k := 0) (v := nI 0) (by decide)
  have hG0 : FRS h (wI h (nm 1 0) 0 (nI 0)) := FRS.w0
  have hP0 := PO2.m (a := nm 1 0) (k := 0) (x := nI 0) hP
  refine wp_aload_n (i := 0) dX16_range_5 rfl rfl ?_
  refine wp_iload_n (i := 1) dX16_range_6 rfl rfl ?_
  refine wp_bipush (-99) dX16_range_7 (by decide) ?_
  refine wp_bipush (nI 99) dX16_range_9 (by decide) ?_
  refine wp_cS (y' := m_X16_in) [vi a, vi (-99), vi (nI 99)] [vr (some (nm 1 0))] 0 0 dX16_range_11 ml_X16_70 st_X16_in ok_X16_in rfl (Nat.le_of_ble_eq_true rfl) rfl (Nat.le_of_ble_eq_true rfl) (d' := d - 1) (by omega) (Nat.zero_le _) (Nat.zero_le _) (c_X16_in a (-99) (nI 99) (cont_ret ?_))
  refine wp_if_eqB 38 dX16_range_14 (by decide) (fun c_14 => ?_) (fun c_14 => ?_)
  · skip
    refine wp_iconst (nI 1) dX16_range_38 (by decide) ?_
    refine wp_goto 43 dX16_range_39 (by decide) ?_
    refine wp_iconst (nI 1) dX16_range_43 (by decide) ?_
    refine wp_cV (y' := m_X16_fails) 17 [vi (nI 1), vi (nI 1)] [] 0 0 dX16_range_44 ml_X16_102 im_X16_fails se_X16_fails (by decide) hM0.1.1 ok_X16_fails rfl (Nat.le_of_ble_eq_true rfl) rfl (Nat.le_of_ble_eq_true rfl) (d' := d - 1) (by omega) (Nat.zero_le _) (Nat.zero_le _) (c_flT hM0.1.1 wI_ss (nI 1) (by decide) (cont_ret ?_))
    have hM1 := hM0.wI (i := 0) (k := 0) (v := nI 1) (by decide)
    have hG2 := hG0.tr (FRS.w0 (v := nI 1))
    have hP3 := PO2.m (a := nm 1 0) (k := 0) (x := nI 1) hP0
    refine wp_if_neN 75 dX16_range_47 (by decide) (by decide) (fun c_47 => ?_) (fun c_47 => absurd c_47 (by decide))
    refine wp_iconst (nI 0) dX16_range_75 (by decide) ?_
    refine wp_ireturn dX16_range_76 rfl ?_
    rw [show o_range n x a b c m = (nI 1, nI 0, n, x) from if_pos (by rw [c_14]; rfl)] at hq
    exact hq _ hG2 wI_ss hM1 hP3
  · skip
    refine wp_iload_n (i := 2) dX16_range_17 rfl rfl ?_
    refine wp_bipush (-9) dX16_range_18 (by decide) ?_
    refine wp_bipush (nI 9) dX16_range_20 (by decide) ?_
    refine wp_cS (y' := m_X16_in) [vi b, vi (-9), vi (nI 9)] [vr (some (nm 1 0))] 0 0 dX16_range_22 ml_X16_70 st_X16_in ok_X16_in rfl (Nat.le_of_ble_eq_true rfl) rfl (Nat.le_of_ble_eq_true rfl) (d' := d - 1) (by omega) (Nat.zero_le _) (Nat.zero_le _) (c_X16_in b (-9) (nI 9) (cont_ret ?_))
    refine wp_if_eqB 38 dX16_range_25 (by decide) (fun c_25 => ?_) (fun c_25 => ?_)
    · skip
      refine wp_iconst (nI 1) dX16_range_38 (by decide) ?_
      refine wp_goto 43 dX16_range_39 (by decide) ?_
      refine wp_iconst (nI 1) dX16_range_43 (by decide) ?_
      refine wp_cV (y' := m_X16_fails) 17 [vi (nI 1), vi (nI 1)] [] 0 0 dX16_range_44 ml_X16_102 im_X16_fails se_X16_fails (by decide) hM0.1.1 ok_X16_fails rfl (Nat.le_of_ble_eq_true rfl) rfl (Nat.le_of_ble_eq_true rfl) (d' := d - 1) (by omega) (Nat.zero_le _) (Nat.zero_le _) (c_flT hM0.1.1 wI_ss (nI 1) (by decide) (cont_ret ?_))
      have hM4 := hM0.wI (i := 0) (k := 0) (v := nI 1) (by decide)
      have hG5 := hG0.tr (FRS.w0 (v := nI 1))
      have hP6 := PO2.m (a := nm 1 0) (k := 0) (x := nI 1) hP0
      refine wp_if_neN 75 dX16_range_47 (by decide) (by decide) (fun c_47 => ?_) (fun c_47 => absurd c_47 (by decide))
      refine wp_iconst (nI 0) dX16_range_75 (by decide) ?_
      refine wp_ireturn dX16_range_76 rfl ?_
      rw [show o_range n x a b c m = (nI 1, nI 0, n, x) from if_pos (by rw [c_14, c_25]; rfl)] at hq
      exact hq _ hG5 wI_ss hM4 hP6
    · skip
      refine wp_iload_n (i := 3) dX16_range_28 rfl rfl ?_
      refine wp_iconst (nI 0) dX16_range_29 (by decide) ?_
      refine wp_bipush (nI 24) dX16_range_30 (by decide) ?_
      refine wp_cS (y' := m_X16_in) [vi c, vi (nI 0), vi (nI 24)] [vr (some (nm 1 0))] 0 0 dX16_range_32 ml_X16_70 st_X16_in ok_X16_in rfl (Nat.le_of_ble_eq_true rfl) rfl (Nat.le_of_ble_eq_true rfl) (d' := d - 1) (by omega) (Nat.zero_le _) (Nat.zero_le _) (c_X16_in c (nI 0) (nI 24) (cont_ret ?_))
      refine wp_if_neB 42 dX16_range_35 (by decide) (fun c_35 => ?_) (fun c_35 => ?_)
      · skip
        refine wp_iconst (nI 0) dX16_range_42 (by decide) ?_
        refine wp_iconst (nI 1) dX16_range_43 (by decide) ?_
        refine wp_cV (y' := m_X16_fails) 17 [vi (nI 0), vi (nI 1)] [] 0 0 dX16_range_44 ml_X16_102 im_X16_fails se_X16_fails (by decide) hM0.1.1 ok_X16_fails rfl (Nat.le_of_ble_eq_true rfl) rfl (Nat.le_of_ble_eq_true rfl) (d' := d - 1) (by omega) (Nat.zero_le _) (Nat.zero_le _) (c_flF hM0.1.1 wI_ss (nI 1) (by decide) (cont_ret ?_))
        skip
        refine wp_if_neN 75 dX16_range_47 (by decide) (by decide) (fun c_47 => absurd c_47 (by decide)) (fun c_47 => ?_)
        refine wp_aload_n (i := 0) dX16_range_50 rfl rfl ?_
        refine wp_aload_n (i := 0) dX16_range_51 rfl rfl ?_
        refine wp_get 17 11 (vr (some (nm 1 11))) dX16_range_52 hM0.1.1 (by decide) (by decide) fl_X16_40 (congrArg (fun z => toV (vr z)) (hM0.1.r 11 (by decide) (by decide) (by decide) (by decide))) ?_
        refine wp_cV (y' := m_Jx4a65c_size_8abf5) 2 [] [vr (some (nm 1 0))] 0 0 dX16_range_55 ml_X16_168 im_Jx4a65c_size_8abf5 se_Jx4a65c_size_8abf5 (by decide) hM0.2.1.k ok_Jx4a65c_size_8abf5 rfl (Nat.le_of_ble_eq_true rfl) rfl (Nat.le_of_ble_eq_true rfl) (d' := d - 1) (by omega) (Nat.zero_le _) (Nat.zero_le _) (c_LO_size hM0.2.1 (cont_ret ?_))
        refine wp_bipush (nI 12) dX16_range_58 (by decide) ?_
        refine wp_icmp_neN 67 dX16_range_60 (by decide) (by omega) (by decide) (fun c_60 => ?_) (fun c_60 => ?_)
        · skip
          refine wp_iconst (nI 0) dX16_range_67 (by decide) ?_
          refine wp_iconst (nI 2) dX16_range_68 (by decide) ?_
          refine wp_cV (y' := m_X16_fails) 17 [vi (nI 0), vi (nI 2)] [] 0 0 dX16_range_69 ml_X16_102 im_X16_fails se_X16_fails (by decide) hM0.1.1 ok_X16_fails rfl (Nat.le_of_ble_eq_true rfl) rfl (Nat.le_of_ble_eq_true rfl) (d' := d - 1) (by omega) (Nat.zero_le _) (Nat.zero_le _) (c_flF hM0.1.1 wI_ss (nI 2) (by decide) (cont_ret ?_))
          skip
          refine wp_if_eqN 77 dX16_range_72 (by decide) (by decide) (fun c_72 => ?_) (fun c_72 => absurd c_72 (by decide))
          refine wp_aload_n (i := 0) dX16_range_77 rfl rfl ?_
          refine wp_get 17 11 (vr (some (nm 1 11))) dX16_range_78 hM0.1.1 (by decide) (by decide) fl_X16_40 (congrArg (fun z => toV (vr z)) (hM0.1.r 11 (by decide) (by decide) (by decide) (by decide))) ?_
          have c15 : clN 15 = 6 := rfl
          obtain ⟨⟨K2, hK2⟩, K, hK⟩ := id hP0
          have hf2 := hM0.2.2.2.1 n (Nat.le_refl _)
          have hf3 := hM0.2.2.2.2.1 n (Nat.le_refl _)
          have hf26 := fun z => hM0.2.2.2.2.2 n (Nat.le_refl _) (by omega) z
          have J1 := J.w (a := nm 1 0) (k := 0) (x := nI 0) (by unfold nm; omega)
          refine wp_new 15 dX16_range_81 (by decide) kl_X16_170 ins_X14 ini_X14 (by omega) (by show 6 ≤ _; omega) (nm 2 n) hf2 ?_
          refine wp_dup dX16_range_84 ?_
          refine wp_bipush (nI 114) dX16_range_85 (by decide) ?_
          refine wp_iconst (-1) dX16_range_87 (by decide) ?_
          refine wp_iload_n (i := 1) dX16_range_88 rfl rfl ?_
          refine wp_iload_n (i := 2) dX16_range_89 rfl rfl ?_
          refine wp_iload_n (i := 3) dX16_range_90 rfl rfl ?_
          refine wp_cI (y' := m_X14_init) [vi (nI 114), vi (-1), vi a, vi b, vi c] [vr (some (nm 2 n)), vr (some (nm 1 11))] 1 3 dX16_range_91 ml_X16_172 im_X14_init rfl rfl ok_X14_init rfl (Nat.le_of_ble_eq_true rfl) rfl (Nat.le_of_ble_eq_true rfl) (d' := d - 1) (by omega) (by omega) (by omega) (c_X14_init (s := n) hf3 hf26 J1 (wn := 114) (by decide) (by omega) (Nat.le_refl _) (Nat.le_refl _) (fun h2 O2 L2 F2 => cont_void ?_))
          have LO2 := hM0.2.1.frm (F2 0 (by unfold nm; omega) (by unfold nm; omega)) (F2 _ (nm_ne (by decide) (by decide) (by decide)) (nm_ne (by decide) (by decide) (by decide))) (fun z => F2 _ (nm_ne (by decide) (by decide) (by decide)) (nm_ne (by decide) (by decide) (by decide)))
          refine wp_cV (y' := m_Jx4a65c_add_9ea2d) 2 [vr (some (nm 2 n))] [] 1 (10 + 2 * n) dX16_range_94 ml_X16_175 im_Jx4a65c_add_9ea2d se_Jx4a65c_add_9ea2d (by decide) LO2.k ok_Jx4a65c_add_9ea2d rfl (Nat.le_of_ble_eq_true rfl) rfl (Nat.le_of_ble_eq_true rfl) (d' := d - 1) (by omega) (by omega) (by omega) (c_LO_add LO2 (by rw [O2.k0]; decide) (by rw [O2.k0]; decide) (by omega) (by decide) (by decide) (by decide) (by omega) (Nat.le_refl _) (Nat.le_refl _) (fun h4 L4 C4 => cont_ret ?_))
          have c4 : ∀ r i, r < 128 → ¬ ((r = 2 ∧ i = n) ∨ (r = 3 ∧ i = n) ∨ (r = 1 ∧ i = 11) ∨ r = 31) → ce h4 (nm r i) = ce (wI h (nm 1 0) 0 (nI 0)) (nm r i) := fun r i hr hn => (C4 _ (by unfold nm; omega) (fun z => by unfold nm; omega)).trans (F2 _ (by unfold nm; omega) (by unfold nm; omega))
          refine wp_pop dX16_range_97 ?_
          refine wp_aload_n (i := 0) dX16_range_98 rfl rfl ?_
          refine wp_get 17 11 (vr (some (nm 1 11))) dX16_range_99 ((ce_k (c4 1 0 (by decide) (by omega))).trans hM0.1.1) (by decide) (by decide) fl_X16_40 (congrArg (fun z => toV (vr z)) ((congrFun (ce_R (c4 1 0 (by decide) (by omega))) 11).trans (hM0.1.r 11 (by decide) (by decide) (by decide) (by decide)))) ?_
          refine wp_cV (y' := m_Jx4a65c_size_8abf5) 2 [] [] 0 0 dX16_range_102 ml_X16_168 im_Jx4a65c_size_8abf5 se_Jx4a65c_size_8abf5 (by decide) L4.k ok_Jx4a65c_size_8abf5 rfl (Nat.le_of_ble_eq_true rfl) rfl (Nat.le_of_ble_eq_true rfl) (d' := d - 1) (by omega) (Nat.zero_le _) (Nat.zero_le _) (c_LO_size L4 (cont_ret ?_))
          refine wp_iconst (nI 1) dX16_range_105 (by decide) ?_
          refine wp_isubN dX16_range_106 (by omega) ?_
          refine wp_ireturn dX16_range_107 rfl ?_
          obtain ⟨ec, hm24⟩ := hc c_35
          subst ec
          rw [show o_range n x a b (nI m) m = (nI 0, nI (n + 1 - 1), n + 1, va_up x n (rngQ a b m)) from by unfold o_range; rw [if_neg (by rw [c_14, c_25, c_35]; decide), if_neg c_60]; rfl] at hq
          refine hq _ (hG0.tr (FRS.of (c4 1 0 (by decide) (by omega)) (fun a ha => (C4 a (fun e => ha (by rw [e]; unfold WSQ nm; omega)) (fun z e => ha (by rw [e]; unfold WSQ nm; omega))).trans (F2 a (fun e => ha (by rw [e]; unfold WSQ nm; omega)) (fun e => ha (by rw [e]; unfold WSQ nm; omega)))) (fun k _ => c4 22 k (by decide) (by omega)))) ((congrFun (ce_I (c4 1 0 (by decide) (by omega))) 0).trans wI_ss) ?_ ?_
          · exact MSQ.new (q := (rngQ a b m)) hM0 (by omega) rfl rfl ((O2.frm (C4 _ (by unfold nm; omega) (fun z => by unfold nm; omega)))) (L2.frm (C4 0 (by unfold nm; omega) (fun z => by unfold nm; omega)) (C4 _ (by unfold nm; omega) (fun z => by unfold nm; omega)) (fun z => C4 _ (by unfold nm; omega) (fun z => by unfold nm; omega)) (fun k _ => C4 _ (by unfold nm; omega) (fun z => by unfold nm; omega))) L4 c4 L4.k
          · exact ⟨⟨K2, fun i hi => (ce_k (c4 22 i (by decide) (by omega))).trans (hK2 i hi)⟩, ⟨K, fun i hi => (ce_k (c4 30 i (by decide) (by omega))).trans (hK i hi)⟩⟩
        · skip
          refine wp_iconst (nI 1) dX16_range_63 (by decide) ?_
          refine wp_goto 68 dX16_range_64 (by decide) ?_
          refine wp_iconst (nI 2) dX16_range_68 (by decide) ?_
          refine wp_cV (y' := m_X16_fails) 17 [vi (nI 1), vi (nI 2)] [] 0 0 dX16_range_69 ml_X16_102 im_X16_fails se_X16_fails (by decide) hM0.1.1 ok_X16_fails rfl (Nat.le_of_ble_eq_true rfl) rfl (Nat.le_of_ble_eq_true rfl) (d' := d - 1) (by omega) (Nat.zero_le _) (Nat.zero_le _) (c_flT hM0.1.1 wI_ss (nI 2) (by decide) (cont_ret ?_))
          have hM13 := hM0.wI (i := 0) (k := 0) (v := nI 2) (by decide)
          have hG14 := hG0.tr (FRS.w0 (v := nI 2))
          have hP15 := PO2.m (a := nm 1 0) (k := 0) (x := nI 2) hP0
          refine wp_if_eqN 77 dX16_range_72 (by decide) (by decide) (fun c_72 => absurd c_72 (by decide)) (fun c_72 => ?_)
          refine wp_iconst (nI 0) dX16_range_75 (by decide) ?_
          refine wp_ireturn dX16_range_76 rfl ?_
          rw [show o_range n x a b c m = (nI 2, nI 0, n, x) from by unfold o_range; rw [if_neg (by rw [c_14, c_25, c_35]; decide), if_pos c_60]] at hq
          exact hq _ hG14 wI_ss hM13 hP15
      · skip
        refine wp_iconst (nI 1) dX16_range_38 (by decide) ?_
        refine wp_goto 43 dX16_range_39 (by decide) ?_
        refine wp_iconst (nI 1) dX16_range_43 (by decide) ?_
        refine wp_cV (y' := m_X16_fails) 17 [vi (nI 1), vi (nI 1)] [] 0 0 dX16_range_44 ml_X16_102 im_X16_fails se_X16_fails (by decide) hM0.1.1 ok_X16_fails rfl (Nat.le_of_ble_eq_true rfl) rfl (Nat.le_of_ble_eq_true rfl) (d' := d - 1) (by omega) (Nat.zero_le _) (Nat.zero_le _) (c_flT hM0.1.1 wI_ss (nI 1) (by decide) (cont_ret ?_))
        have hM16 := hM0.wI (i := 0) (k := 0) (v := nI 1) (by decide)
        have hG17 := hG0.tr (FRS.w0 (v := nI 1))
        have hP18 := PO2.m (a := nm 1 0) (k := 0) (x := nI 1) hP0
        refine wp_if_neN 75 dX16_range_47 (by decide) (by decide) (fun c_47 => ?_) (fun c_47 => absurd c_47 (by decide))
        refine wp_iconst (nI 0) dX16_range_75 (by decide) ?_
        refine wp_ireturn dX16_range_76 rfl ?_
        rw [show o_range n x a b c m = (nI 1, nI 0, n, x) from if_pos (by rw [c_14, c_25, c_35]; rfl)] at hq
        exact hq _ hG17 wI_ss hM16 hP18
set_option maxRecDepth 100000 in
set_option maxHeartbeats 4000000 in
theorem c_X16_over_97 {G : GG} {d bc bs : Nat} {h : Hp} {Q : Pst} {n : Nat} {x : Nat → QIS} (hX : QX n x) (hM : MSQ h n x) (hP : PO2 h) (J : JC h) {u : Int32} {s : Nat} (hu : ixB u n = true → u = nI s ∧ s < n) {v : Int32} (hd : 20 ≤ d) (hbc : 6 ≤ bc) (hbs : 100 ≤ bs) (hq : QO Q h (o_over n x u s 97 v))  : WP G m_X16_over d 0 (aargs 0 [vr (some (nm 1 0)), vi u, vi (nI 97), vi v]) [] h bc bs Q := by
  have hn12 := hX.1.2.1
  refine wp_sub [(0, vr (some (nm 1 0))), (1, vi u), (2, vi (nI 97)), (3, vi v)] (fun _ hz => hz) ?_
  refine wp_aload_n (i := 0) dX16_over_0 rfl rfl ?_
  refine wp_iconst (nI 0) dX16_over_1 (by decide) ?_
  refine wp_putI 17 0 dX16_over_2 hM.1.1 (by decide) (by decide) (by decide) fl_X16_63 rfl (fun _ _ => rfl) rfl rfl ?_
  refine wp_iload_n (i := 2) dX16_over_5 rfl rfl ?_
  refine wp_bipush (nI 97) dX16_over_6 (by decide) ?_
  refine wp_icmp_eqN 29 dX16_over_8 (by decide) (by decide) (by decide) (fun c_8 => ?_) (fun c_8 => absurd c_8 (by decide))
  refine wp_iconst (nI 1) dX16_over_29 (by decide) ?_
  refine wp_goto 34 dX16_over_30 (by decide) ?_
  refine wp_istore (i := 4) (lv' := [(4, vi (nI 1)), (0, vr (some (nm 1 0))), (1, vi u), (2, vi (nI 97)), (3, vi v)]) dX16_over_34 (by decide) rfl ?_
  refine wp_iload_n (i := 2) dX16_over_36 rfl rfl ?_
  refine wp_bipush (nI 107) dX16_over_37 (by decide) ?_
  refine wp_icmp_neN 46 dX16_over_39 (by decide) (by decide) (by decide) (fun c_39 => ?_) (fun c_39 => absurd c_39 (by decide))
  refine wp_iload_n (i := 2) dX16_over_46 rfl rfl ?_
  refine wp_bipush (nI 116) dX16_over_47 (by decide) ?_
  refine wp_icmp_neN 56 dX16_over_49 (by decide) (by decide) (by decide) (fun c_49 => ?_) (fun c_49 => absurd c_49 (by decide))
  refine wp_bipush (-99) dX16_over_56 (by decide) ?_
  refine wp_istore (i := 5) (lv' := [(5, vi (-99)), (4, vi (nI 1)), (0, vr (some (nm 1 0))), (1, vi u), (2, vi (nI 97)), (3, vi v)]) dX16_over_58 (by decide) rfl ?_
  have hM0 := hM.wI (i := 0) (k := 0) (v := nI 0) (by decide)
  have hG0 : FRS h (wI h (nm 1 0) 0 (nI 0)) := FRS.w0
  have hP0 := PO2.m (a := nm 1 0) (k := 0) (x := nI 0) hP
  refine wp_aload_n (i := 0) dX16_over_60 rfl rfl ?_
  refine wp_aload_n (i := 0) dX16_over_61 rfl rfl ?_
  refine wp_iload_n (i := 1) dX16_over_62 rfl rfl ?_
  refine wp_cV (y' := m_X16_noSequence) 17 [vi u] [vr (some (nm 1 0))] 0 0 dX16_over_63 ml_X16_179 im_X16_noSequence se_X16_noSequence (by decide) hM0.1.1 ok_X16_noSequence rfl (Nat.le_of_ble_eq_true rfl) rfl (Nat.le_of_ble_eq_true rfl) (d' := d - 1) (by omega) (Nat.zero_le _) (Nat.zero_le _) (c_X16_noSequence hM0 u (by omega) (cont_ret ?_))
  refine wp_iconst (nI 1) dX16_over_66 (by decide) ?_
  refine wp_cV (y' := m_X16_fails) 17 [vi (bI (!ixB u n)), vi (nI 1)] [] 0 0 dX16_over_67 ml_X16_102 im_X16_fails se_X16_fails (by decide) hM0.1.1 ok_X16_fails rfl (Nat.le_of_ble_eq_true rfl) rfl (Nat.le_of_ble_eq_true rfl) (d' := d - 1) (by omega) (Nat.zero_le _) (Nat.zero_le _) (c_flB hM0.1.1 wI_ss (!ixB u n) (nI 1) (by decide) (fun g_1 => cont_ret ?_) (fun g_1 => cont_ret ?_))
  · have hM19 := hM0.wI (i := 0) (k := 0) (v := nI 1) (by decide)
    have hG20 := hG0.tr (FRS.w0 (v := nI 1))
    have hP21 := PO2.m (a := nm 1 0) (k := 0) (x := nI 1) hP0
    refine wp_if_neN 127 dX16_over_70 (by decide) (by decide) (fun c_70 => ?_) (fun c_70 => absurd c_70 (by decide))
    refine wp_iconst (nI 0) dX16_over_127 (by decide) ?_
    refine wp_ireturn dX16_over_128 rfl ?_
    rw [show o_over n x u s 97 v = (nI 1, nI 0, n, x) from if_pos g_1] at hq
    exact hq _ hG20 wI_ss hM19 hP21
  · obtain ⟨eu, hs⟩ := hu (nt_f g_1)
    subst eu
    refine wp_if_neN 127 dX16_over_70 (by decide) (by decide) (fun c_70 => absurd c_70 (by decide)) (fun c_70 => ?_)
    refine wp_aload_n (i := 0) dX16_over_73 rfl rfl ?_
    refine wp_iload (i := 4) dX16_over_74 rfl ?_
    refine wp_if_eqN 90 dX16_over_76 (by decide) (by decide) (fun c_76 => absurd c_76 (by decide)) (fun c_76 => ?_)
    refine wp_iload_n (i := 3) dX16_over_79 rfl rfl ?_
    refine wp_iload (i := 5) dX16_over_80 rfl ?_
    refine wp_bipush (nI 99) dX16_over_82 (by decide) ?_
    refine wp_cS (y' := m_X16_in) [vi v, vi (-99), vi (nI 99)] [vr (some (nm 1 0))] 0 0 dX16_over_84 ml_X16_70 st_X16_in ok_X16_in rfl (Nat.le_of_ble_eq_true rfl) rfl (Nat.le_of_ble_eq_true rfl) (d' := d - 1) (by omega) (Nat.zero_le _) (Nat.zero_le _) (c_X16_in v (-99) (nI 99) (cont_ret ?_))
    refine wp_if_neB 94 dX16_over_87 (by decide) (fun c_87 => ?_) (fun c_87 => ?_)
    · skip
      refine wp_iconst (nI 0) dX16_over_94 (by decide) ?_
      refine wp_iconst (nI 2) dX16_over_95 (by decide) ?_
      refine wp_cV (y' := m_X16_fails) 17 [vi (nI 0), vi (nI 2)] [] 0 0 dX16_over_96 ml_X16_102 im_X16_fails se_X16_fails (by decide) hM0.1.1 ok_X16_fails rfl (Nat.le_of_ble_eq_true rfl) rfl (Nat.le_of_ble_eq_true rfl) (d' := d - 1) (by omega) (Nat.zero_le _) (Nat.zero_le _) (c_flF hM0.1.1 wI_ss (nI 2) (by decide) (cont_ret ?_))
      skip
      refine wp_if_neN 127 dX16_over_99 (by decide) (by decide) (fun c_99 => absurd c_99 (by decide)) (fun c_99 => ?_)
      refine wp_aload_n (i := 0) dX16_over_102 rfl rfl ?_
      refine wp_aload_n (i := 0) dX16_over_103 rfl rfl ?_
      refine wp_get 17 11 (vr (some (nm 1 11))) dX16_over_104 hM0.1.1 (by decide) (by decide) fl_X16_40 (congrArg (fun z => toV (vr z)) (hM0.1.r 11 (by decide) (by decide) (by decide) (by decide))) ?_
      refine wp_cV (y' := m_Jx4a65c_size_8abf5) 2 [] [vr (some (nm 1 0))] 0 0 dX16_over_107 ml_X16_168 im_Jx4a65c_size_8abf5 se_Jx4a65c_size_8abf5 (by decide) hM0.2.1.k ok_Jx4a65c_size_8abf5 rfl (Nat.le_of_ble_eq_true rfl) rfl (Nat.le_of_ble_eq_true rfl) (d' := d - 1) (by omega) (Nat.zero_le _) (Nat.zero_le _) (c_LO_size hM0.2.1 (cont_ret ?_))
      refine wp_bipush (nI 12) dX16_over_110 (by decide) ?_
      refine wp_icmp_neN 119 dX16_over_112 (by decide) (by omega) (by decide) (fun c_112 => ?_) (fun c_112 => ?_)
      · skip
        refine wp_iconst (nI 0) dX16_over_119 (by decide) ?_
        refine wp_iconst (nI 3) dX16_over_120 (by decide) ?_
        refine wp_cV (y' := m_X16_fails) 17 [vi (nI 0), vi (nI 3)] [] 0 0 dX16_over_121 ml_X16_102 im_X16_fails se_X16_fails (by decide) hM0.1.1 ok_X16_fails rfl (Nat.le_of_ble_eq_true rfl) rfl (Nat.le_of_ble_eq_true rfl) (d' := d - 1) (by omega) (Nat.zero_le _) (Nat.zero_le _) (c_flF hM0.1.1 wI_ss (nI 3) (by decide) (cont_ret ?_))
        skip
        refine wp_if_eqN 129 dX16_over_124 (by decide) (by decide) (fun c_124 => ?_) (fun c_124 => absurd c_124 (by decide))
        refine wp_aload_n (i := 0) dX16_over_129 rfl rfl ?_
        refine wp_get 17 11 (vr (some (nm 1 11))) dX16_over_130 hM0.1.1 (by decide) (by decide) fl_X16_40 (congrArg (fun z => toV (vr z)) (hM0.1.r 11 (by decide) (by decide) (by decide) (by decide))) ?_
        have c15 : clN 15 = 6 := rfl
        obtain ⟨⟨K2, hK2⟩, K, hK⟩ := id hP0
        have hf2 := hM0.2.2.2.1 n (Nat.le_refl _)
        have hf3 := hM0.2.2.2.2.1 n (Nat.le_refl _)
        have hf26 := fun z => hM0.2.2.2.2.2 n (Nat.le_refl _) (by omega) z
        have J1 := J.w (a := nm 1 0) (k := 0) (x := nI 0) (by unfold nm; omega)
        refine wp_new 15 dX16_over_133 (by decide) kl_X16_170 ins_X14 ini_X14 (by omega) (by show 6 ≤ _; omega) (nm 2 n) hf2 ?_
        refine wp_dup dX16_over_136 ?_
        refine wp_iload_n (i := 2) dX16_over_137 rfl rfl ?_
        refine wp_iload_n (i := 1) dX16_over_138 rfl rfl ?_
        refine wp_iload_n (i := 3) dX16_over_139 rfl rfl ?_
        refine wp_iconst (nI 0) dX16_over_140 (by decide) ?_
        refine wp_iconst (nI 0) dX16_over_141 (by decide) ?_
        refine wp_cI (y' := m_X14_init) [vi (nI 97), vi (nI s), vi v, vi (nI 0), vi (nI 0)] [vr (some (nm 2 n)), vr (some (nm 1 11))] 1 3 dX16_over_142 ml_X16_172 im_X14_init rfl rfl ok_X14_init rfl (Nat.le_of_ble_eq_true rfl) rfl (Nat.le_of_ble_eq_true rfl) (d' := d - 1) (by omega) (by omega) (by omega) (c_X14_init (s := n) hf3 hf26 J1 (wn := 97) (by decide) (by omega) (Nat.le_refl _) (Nat.le_refl _) (fun h2 O2 L2 F2 => cont_void ?_))
        have LO2 := hM0.2.1.frm (F2 0 (by unfold nm; omega) (by unfold nm; omega)) (F2 _ (nm_ne (by decide) (by decide) (by decide)) (nm_ne (by decide) (by decide) (by decide))) (fun z => F2 _ (nm_ne (by decide) (by decide) (by decide)) (nm_ne (by decide) (by decide) (by decide)))
        refine wp_cV (y' := m_Jx4a65c_add_9ea2d) 2 [vr (some (nm 2 n))] [] 1 (10 + 2 * n) dX16_over_145 ml_X16_175 im_Jx4a65c_add_9ea2d se_Jx4a65c_add_9ea2d (by decide) LO2.k ok_Jx4a65c_add_9ea2d rfl (Nat.le_of_ble_eq_true rfl) rfl (Nat.le_of_ble_eq_true rfl) (d' := d - 1) (by omega) (by omega) (by omega) (c_LO_add LO2 (by rw [O2.k0]; decide) (by rw [O2.k0]; decide) (by omega) (by decide) (by decide) (by decide) (by omega) (Nat.le_refl _) (Nat.le_refl _) (fun h4 L4 C4 => cont_ret ?_))
        have c4 : ∀ r i, r < 128 → ¬ ((r = 2 ∧ i = n) ∨ (r = 3 ∧ i = n) ∨ (r = 1 ∧ i = 11) ∨ r = 31) → ce h4 (nm r i) = ce (wI h (nm 1 0) 0 (nI 0)) (nm r i) := fun r i hr hn => (C4 _ (by unfold nm; omega) (fun z => by unfold nm; omega)).trans (F2 _ (by unfold nm; omega) (by unfold nm; omega))
        refine wp_pop dX16_over_148 ?_
        refine wp_aload_n (i := 0) dX16_over_149 rfl rfl ?_
        refine wp_get 17 11 (vr (some (nm 1 11))) dX16_over_150 ((ce_k (c4 1 0 (by decide) (by omega))).trans hM0.1.1) (by decide) (by decide) fl_X16_40 (congrArg (fun z => toV (vr z)) ((congrFun (ce_R (c4 1 0 (by decide) (by omega))) 11).trans (hM0.1.r 11 (by decide) (by decide) (by decide) (by decide)))) ?_
        refine wp_cV (y' := m_Jx4a65c_size_8abf5) 2 [] [] 0 0 dX16_over_153 ml_X16_168 im_Jx4a65c_size_8abf5 se_Jx4a65c_size_8abf5 (by decide) L4.k ok_Jx4a65c_size_8abf5 rfl (Nat.le_of_ble_eq_true rfl) rfl (Nat.le_of_ble_eq_true rfl) (d' := d - 1) (by omega) (Nat.zero_le _) (Nat.zero_le _) (c_LO_size L4 (cont_ret ?_))
        refine wp_iconst (nI 1) dX16_over_156 (by decide) ?_
        refine wp_isubN dX16_over_157 (by omega) ?_
        refine wp_ireturn dX16_over_158 rfl ?_
        rw [show o_over n x (nI s) s 97 v = (nI 0, nI (n + 1 - 1), n + 1, va_up x n (ovQ x s 97 v)) from by unfold o_over; rw [if_neg (fun z => Bool.false_ne_true (g_1.symm.trans z)), if_neg (show ¬ (isW 97 && inB v (lowQ 97) (nI 99)) = false from (fun z => Bool.false_ne_true (z.symm.trans c_87))), if_neg c_112]; rfl] at hq
        refine hq _ (hG0.tr (FRS.of (c4 1 0 (by decide) (by omega)) (fun a ha => (C4 a (fun e => ha (by rw [e]; unfold WSQ nm; omega)) (fun z e => ha (by rw [e]; unfold WSQ nm; omega))).trans (F2 a (fun e => ha (by rw [e]; unfold WSQ nm; omega)) (fun e => ha (by rw [e]; unfold WSQ nm; omega)))) (fun k _ => c4 22 k (by decide) (by omega)))) ((congrFun (ce_I (c4 1 0 (by decide) (by omega))) 0).trans wI_ss) ?_ ?_
        · exact MSQ.new (q := (ovQ x s 97 v)) hM0 (by omega) rfl rfl ((show OF h4 n (q_o (ovQ x s 97 v)) from (O2.frm (C4 _ (by unfold nm; omega) (fun z => by unfold nm; omega))))) (L2.frm (C4 0 (by unfold nm; omega) (fun z => by unfold nm; omega)) (C4 _ (by unfold nm; omega) (fun z => by unfold nm; omega)) (fun z => C4 _ (by unfold nm; omega) (fun z => by unfold nm; omega)) (fun k _ => C4 _ (by unfold nm; omega) (fun z => by unfold nm; omega))) L4 c4 L4.k
        · exact ⟨⟨K2, fun i hi => (ce_k (c4 22 i (by decide) (by omega))).trans (hK2 i hi)⟩, ⟨K, fun i hi => (ce_k (c4 30 i (by decide) (by omega))).trans (hK i hi)⟩⟩
      · skip
        refine wp_iconst (nI 1) dX16_over_115 (by decide) ?_
        refine wp_goto 120 dX16_over_116 (by decide) ?_
        refine wp_iconst (nI 3) dX16_over_120 (by decide) ?_
        refine wp_cV (y' := m_X16_fails) 17 [vi (nI 1), vi (nI 3)] [] 0 0 dX16_over_121 ml_X16_102 im_X16_fails se_X16_fails (by decide) hM0.1.1 ok_X16_fails rfl (Nat.le_of_ble_eq_true rfl) rfl (Nat.le_of_ble_eq_true rfl) (d' := d - 1) (by omega) (Nat.zero_le _) (Nat.zero_le _) (c_flT hM0.1.1 wI_ss (nI 3) (by decide) (cont_ret ?_))
        have hM28 := hM0.wI (i := 0) (k := 0) (v := nI 3) (by decide)
        have hG29 := hG0.tr (FRS.w0 (v := nI 3))
        have hP30 := PO2.m (a := nm 1 0) (k := 0) (x := nI 3) hP0
        refine wp_if_eqN 129 dX16_over_124 (by decide) (by decide) (fun c_124 => absurd c_124 (by decide)) (fun c_124 => ?_)
        refine wp_iconst (nI 0) dX16_over_127 (by decide) ?_
        refine wp_ireturn dX16_over_128 rfl ?_
        rw [show o_over n x (nI s) s 97 v = (nI 3, nI 0, n, x) from by unfold o_over; rw [if_neg (fun z => Bool.false_ne_true (g_1.symm.trans z)), if_neg (show ¬ (isW 97 && inB v (lowQ 97) (nI 99)) = false from (fun z => Bool.false_ne_true (z.symm.trans c_87))), if_pos c_112]] at hq
        exact hq _ hG29 wI_ss hM28 hP30
    · skip
      refine wp_iconst (nI 1) dX16_over_90 (by decide) ?_
      refine wp_goto 95 dX16_over_91 (by decide) ?_
      refine wp_iconst (nI 2) dX16_over_95 (by decide) ?_
      refine wp_cV (y' := m_X16_fails) 17 [vi (nI 1), vi (nI 2)] [] 0 0 dX16_over_96 ml_X16_102 im_X16_fails se_X16_fails (by decide) hM0.1.1 ok_X16_fails rfl (Nat.le_of_ble_eq_true rfl) rfl (Nat.le_of_ble_eq_true rfl) (d' := d - 1) (by omega) (Nat.zero_le _) (Nat.zero_le _) (c_flT hM0.1.1 wI_ss (nI 2) (by decide) (cont_ret ?_))
      have hM31 := hM0.wI (i := 0) (k := 0) (v := nI 2) (by decide)
      have hG32 := hG0.tr (FRS.w0 (v := nI 2))
      have hP33 := PO2.m (a := nm 1 0) (k := 0) (x := nI 2) hP0
      refine wp_if_neN 127 dX16_over_99 (by decide) (by decide) (fun c_99 => ?_) (fun c_99 => absurd c_99 (by decide))
      refine wp_iconst (nI 0) dX16_over_127 (by decide) ?_
      refine wp_ireturn dX16_over_128 rfl ?_
      rw [show o_over n x (nI s) s 97 v = (nI 2, nI 0, n, x) from by unfold o_over; rw [if_neg (fun z => Bool.false_ne_true (g_1.symm.trans z)), if_pos (show (isW 97 && inB v (lowQ 97) (nI 99)) = false from c_87)]] at hq
      exact hq _ hG32 wI_ss hM31 hP33
set_option maxRecDepth 100000 in
set_option maxHeartbeats 4000000 in
theorem c_X16_over_100 {G : GG} {d bc bs : Nat} {h : Hp} {Q : Pst} {n : Nat} {x : Nat → QIS} (hX : QX n x) (hM : MSQ h n x) (hP : PO2 h) (J : JC h) {u : Int32} {s : Nat} (hu : ixB u n = true → u = nI s ∧ s < n) {v : Int32} (hd : 20 ≤ d) (hbc : 6 ≤ bc) (hbs : 100 ≤ bs) (hq : QO Q h (o_over n x u s 100 v))  : WP G m_X16_over d 0 (aargs 0 [vr (some (nm 1 0)), vi u, vi (nI 100), vi v]) [] h bc bs Q := by
  have hn12 := hX.1.2.1
  refine wp_sub [(0, vr (some (nm 1 0))), (1, vi u), (2, vi (nI 100)), (3, vi v)] (fun _ hz => hz) ?_
  refine wp_aload_n (i := 0) dX16_over_0 rfl rfl ?_
  refine wp_iconst (nI 0) dX16_over_1 (by decide) ?_
  refine wp_putI 17 0 dX16_over_2 hM.1.1 (by decide) (by decide) (by decide) fl_X16_63 rfl (fun _ _ => rfl) rfl rfl ?_
  refine wp_iload_n (i := 2) dX16_over_5 rfl rfl ?_
  refine wp_bipush (nI 97) dX16_over_6 (by decide) ?_
  refine wp_icmp_eqN 29 dX16_over_8 (by decide) (by decide) (by decide) (fun c_8 => absurd c_8 (by decide)) (fun c_8 => ?_)
  refine wp_iload_n (i := 2) dX16_over_11 rfl rfl ?_
  refine wp_bipush (nI 100) dX16_over_12 (by decide) ?_
  refine wp_icmp_eqN 29 dX16_over_14 (by decide) (by decide) (by decide) (fun c_14 => ?_) (fun c_14 => absurd c_14 (by decide))
  refine wp_iconst (nI 1) dX16_over_29 (by decide) ?_
  refine wp_goto 34 dX16_over_30 (by decide) ?_
  refine wp_istore (i := 4) (lv' := [(4, vi (nI 1)), (0, vr (some (nm 1 0))), (1, vi u), (2, vi (nI 100)), (3, vi v)]) dX16_over_34 (by decide) rfl ?_
  refine wp_iload_n (i := 2) dX16_over_36 rfl rfl ?_
  refine wp_bipush (nI 107) dX16_over_37 (by decide) ?_
  refine wp_icmp_neN 46 dX16_over_39 (by decide) (by decide) (by decide) (fun c_39 => ?_) (fun c_39 => absurd c_39 (by decide))
  refine wp_iload_n (i := 2) dX16_over_46 rfl rfl ?_
  refine wp_bipush (nI 116) dX16_over_47 (by decide) ?_
  refine wp_icmp_neN 56 dX16_over_49 (by decide) (by decide) (by decide) (fun c_49 => ?_) (fun c_49 => absurd c_49 (by decide))
  refine wp_bipush (-99) dX16_over_56 (by decide) ?_
  refine wp_istore (i := 5) (lv' := [(5, vi (-99)), (4, vi (nI 1)), (0, vr (some (nm 1 0))), (1, vi u), (2, vi (nI 100)), (3, vi v)]) dX16_over_58 (by decide) rfl ?_
  have hM0 := hM.wI (i := 0) (k := 0) (v := nI 0) (by decide)
  have hG0 : FRS h (wI h (nm 1 0) 0 (nI 0)) := FRS.w0
  have hP0 := PO2.m (a := nm 1 0) (k := 0) (x := nI 0) hP
  refine wp_aload_n (i := 0) dX16_over_60 rfl rfl ?_
  refine wp_aload_n (i := 0) dX16_over_61 rfl rfl ?_
  refine wp_iload_n (i := 1) dX16_over_62 rfl rfl ?_
  refine wp_cV (y' := m_X16_noSequence) 17 [vi u] [vr (some (nm 1 0))] 0 0 dX16_over_63 ml_X16_179 im_X16_noSequence se_X16_noSequence (by decide) hM0.1.1 ok_X16_noSequence rfl (Nat.le_of_ble_eq_true rfl) rfl (Nat.le_of_ble_eq_true rfl) (d' := d - 1) (by omega) (Nat.zero_le _) (Nat.zero_le _) (c_X16_noSequence hM0 u (by omega) (cont_ret ?_))
  refine wp_iconst (nI 1) dX16_over_66 (by decide) ?_
  refine wp_cV (y' := m_X16_fails) 17 [vi (bI (!ixB u n)), vi (nI 1)] [] 0 0 dX16_over_67 ml_X16_102 im_X16_fails se_X16_fails (by decide) hM0.1.1 ok_X16_fails rfl (Nat.le_of_ble_eq_true rfl) rfl (Nat.le_of_ble_eq_true rfl) (d' := d - 1) (by omega) (Nat.zero_le _) (Nat.zero_le _) (c_flB hM0.1.1 wI_ss (!ixB u n) (nI 1) (by decide) (fun g_1 => cont_ret ?_) (fun g_1 => cont_ret ?_))
  · have hM34 := hM0.wI (i := 0) (k := 0) (v := nI 1) (by decide)
    have hG35 := hG0.tr (FRS.w0 (v := nI 1))
    have hP36 := PO2.m (a := nm 1 0) (k := 0) (x := nI 1) hP0
    refine wp_if_neN 127 dX16_over_70 (by decide) (by decide) (fun c_70 => ?_) (fun c_70 => absurd c_70 (by decide))
    refine wp_iconst (nI 0) dX16_over_127 (by decide) ?_
    refine wp_ireturn dX16_over_128 rfl ?_
    rw [show o_over n x u s 100 v = (nI 1, nI 0, n, x) from if_pos g_1] at hq
    exact hq _ hG35 wI_ss hM34 hP36
  · obtain ⟨eu, hs⟩ := hu (nt_f g_1)
    subst eu
    refine wp_if_neN 127 dX16_over_70 (by decide) (by decide) (fun c_70 => absurd c_70 (by decide)) (fun c_70 => ?_)
    refine wp_aload_n (i := 0) dX16_over_73 rfl rfl ?_
    refine wp_iload (i := 4) dX16_over_74 rfl ?_
    refine wp_if_eqN 90 dX16_over_76 (by decide) (by decide) (fun c_76 => absurd c_76 (by decide)) (fun c_76 => ?_)
    refine wp_iload_n (i := 3) dX16_over_79 rfl rfl ?_
    refine wp_iload (i := 5) dX16_over_80 rfl ?_
    refine wp_bipush (nI 99) dX16_over_82 (by decide) ?_
    refine wp_cS (y' := m_X16_in) [vi v, vi (-99), vi (nI 99)] [vr (some (nm 1 0))] 0 0 dX16_over_84 ml_X16_70 st_X16_in ok_X16_in rfl (Nat.le_of_ble_eq_true rfl) rfl (Nat.le_of_ble_eq_true rfl) (d' := d - 1) (by omega) (Nat.zero_le _) (Nat.zero_le _) (c_X16_in v (-99) (nI 99) (cont_ret ?_))
    refine wp_if_neB 94 dX16_over_87 (by decide) (fun c_87 => ?_) (fun c_87 => ?_)
    · skip
      refine wp_iconst (nI 0) dX16_over_94 (by decide) ?_
      refine wp_iconst (nI 2) dX16_over_95 (by decide) ?_
      refine wp_cV (y' := m_X16_fails) 17 [vi (nI 0), vi (nI 2)] [] 0 0 dX16_over_96 ml_X16_102 im_X16_fails se_X16_fails (by decide) hM0.1.1 ok_X16_fails rfl (Nat.le_of_ble_eq_true rfl) rfl (Nat.le_of_ble_eq_true rfl) (d' := d - 1) (by omega) (Nat.zero_le _) (Nat.zero_le _) (c_flF hM0.1.1 wI_ss (nI 2) (by decide) (cont_ret ?_))
      skip
      refine wp_if_neN 127 dX16_over_99 (by decide) (by decide) (fun c_99 => absurd c_99 (by decide)) (fun c_99 => ?_)
      refine wp_aload_n (i := 0) dX16_over_102 rfl rfl ?_
      refine wp_aload_n (i := 0) dX16_over_103 rfl rfl ?_
      refine wp_get 17 11 (vr (some (nm 1 11))) dX16_over_104 hM0.1.1 (by decide) (by decide) fl_X16_40 (congrArg (fun z => toV (vr z)) (hM0.1.r 11 (by decide) (by decide) (by decide) (by decide))) ?_
      refine wp_cV (y' := m_Jx4a65c_size_8abf5) 2 [] [vr (some (nm 1 0))] 0 0 dX16_over_107 ml_X16_168 im_Jx4a65c_size_8abf5 se_Jx4a65c_size_8abf5 (by decide) hM0.2.1.k ok_Jx4a65c_size_8abf5 rfl (Nat.le_of_ble_eq_true rfl) rfl (Nat.le_of_ble_eq_true rfl) (d' := d - 1) (by omega) (Nat.zero_le _) (Nat.zero_le _) (c_LO_size hM0.2.1 (cont_ret ?_))
      refine wp_bipush (nI 12) dX16_over_110 (by decide) ?_
      refine wp_icmp_neN 119 dX16_over_112 (by decide) (by omega) (by decide) (fun c_112 => ?_) (fun c_112 => ?_)
      · skip
        refine wp_iconst (nI 0) dX16_over_119 (by decide) ?_
        refine wp_iconst (nI 3) dX16_over_120 (by decide) ?_
        refine wp_cV (y' := m_X16_fails) 17 [vi (nI 0), vi (nI 3)] [] 0 0 dX16_over_121 ml_X16_102 im_X16_fails se_X16_fails (by decide) hM0.1.1 ok_X16_fails rfl (Nat.le_of_ble_eq_true rfl) rfl (Nat.le_of_ble_eq_true rfl) (d' := d - 1) (by omega) (Nat.zero_le _) (Nat.zero_le _) (c_flF hM0.1.1 wI_ss (nI 3) (by decide) (cont_ret ?_))
        skip
        refine wp_if_eqN 129 dX16_over_124 (by decide) (by decide) (fun c_124 => ?_) (fun c_124 => absurd c_124 (by decide))
        refine wp_aload_n (i := 0) dX16_over_129 rfl rfl ?_
        refine wp_get 17 11 (vr (some (nm 1 11))) dX16_over_130 hM0.1.1 (by decide) (by decide) fl_X16_40 (congrArg (fun z => toV (vr z)) (hM0.1.r 11 (by decide) (by decide) (by decide) (by decide))) ?_
        have c15 : clN 15 = 6 := rfl
        obtain ⟨⟨K2, hK2⟩, K, hK⟩ := id hP0
        have hf2 := hM0.2.2.2.1 n (Nat.le_refl _)
        have hf3 := hM0.2.2.2.2.1 n (Nat.le_refl _)
        have hf26 := fun z => hM0.2.2.2.2.2 n (Nat.le_refl _) (by omega) z
        have J1 := J.w (a := nm 1 0) (k := 0) (x := nI 0) (by unfold nm; omega)
        refine wp_new 15 dX16_over_133 (by decide) kl_X16_170 ins_X14 ini_X14 (by omega) (by show 6 ≤ _; omega) (nm 2 n) hf2 ?_
        refine wp_dup dX16_over_136 ?_
        refine wp_iload_n (i := 2) dX16_over_137 rfl rfl ?_
        refine wp_iload_n (i := 1) dX16_over_138 rfl rfl ?_
        refine wp_iload_n (i := 3) dX16_over_139 rfl rfl ?_
        refine wp_iconst (nI 0) dX16_over_140 (by decide) ?_
        refine wp_iconst (nI 0) dX16_over_141 (by decide) ?_
        refine wp_cI (y' := m_X14_init) [vi (nI 100), vi (nI s), vi v, vi (nI 0), vi (nI 0)] [vr (some (nm 2 n)), vr (some (nm 1 11))] 1 3 dX16_over_142 ml_X16_172 im_X14_init rfl rfl ok_X14_init rfl (Nat.le_of_ble_eq_true rfl) rfl (Nat.le_of_ble_eq_true rfl) (d' := d - 1) (by omega) (by omega) (by omega) (c_X14_init (s := n) hf3 hf26 J1 (wn := 100) (by decide) (by omega) (Nat.le_refl _) (Nat.le_refl _) (fun h2 O2 L2 F2 => cont_void ?_))
        have LO2 := hM0.2.1.frm (F2 0 (by unfold nm; omega) (by unfold nm; omega)) (F2 _ (nm_ne (by decide) (by decide) (by decide)) (nm_ne (by decide) (by decide) (by decide))) (fun z => F2 _ (nm_ne (by decide) (by decide) (by decide)) (nm_ne (by decide) (by decide) (by decide)))
        refine wp_cV (y' := m_Jx4a65c_add_9ea2d) 2 [vr (some (nm 2 n))] [] 1 (10 + 2 * n) dX16_over_145 ml_X16_175 im_Jx4a65c_add_9ea2d se_Jx4a65c_add_9ea2d (by decide) LO2.k ok_Jx4a65c_add_9ea2d rfl (Nat.le_of_ble_eq_true rfl) rfl (Nat.le_of_ble_eq_true rfl) (d' := d - 1) (by omega) (by omega) (by omega) (c_LO_add LO2 (by rw [O2.k0]; decide) (by rw [O2.k0]; decide) (by omega) (by decide) (by decide) (by decide) (by omega) (Nat.le_refl _) (Nat.le_refl _) (fun h4 L4 C4 => cont_ret ?_))
        have c4 : ∀ r i, r < 128 → ¬ ((r = 2 ∧ i = n) ∨ (r = 3 ∧ i = n) ∨ (r = 1 ∧ i = 11) ∨ r = 31) → ce h4 (nm r i) = ce (wI h (nm 1 0) 0 (nI 0)) (nm r i) := fun r i hr hn => (C4 _ (by unfold nm; omega) (fun z => by unfold nm; omega)).trans (F2 _ (by unfold nm; omega) (by unfold nm; omega))
        refine wp_pop dX16_over_148 ?_
        refine wp_aload_n (i := 0) dX16_over_149 rfl rfl ?_
        refine wp_get 17 11 (vr (some (nm 1 11))) dX16_over_150 ((ce_k (c4 1 0 (by decide) (by omega))).trans hM0.1.1) (by decide) (by decide) fl_X16_40 (congrArg (fun z => toV (vr z)) ((congrFun (ce_R (c4 1 0 (by decide) (by omega))) 11).trans (hM0.1.r 11 (by decide) (by decide) (by decide) (by decide)))) ?_
        refine wp_cV (y' := m_Jx4a65c_size_8abf5) 2 [] [] 0 0 dX16_over_153 ml_X16_168 im_Jx4a65c_size_8abf5 se_Jx4a65c_size_8abf5 (by decide) L4.k ok_Jx4a65c_size_8abf5 rfl (Nat.le_of_ble_eq_true rfl) rfl (Nat.le_of_ble_eq_true rfl) (d' := d - 1) (by omega) (Nat.zero_le _) (Nat.zero_le _) (c_LO_size L4 (cont_ret ?_))
        refine wp_iconst (nI 1) dX16_over_156 (by decide) ?_
        refine wp_isubN dX16_over_157 (by omega) ?_
        refine wp_ireturn dX16_over_158 rfl ?_
        rw [show o_over n x (nI s) s 100 v = (nI 0, nI (n + 1 - 1), n + 1, va_up x n (ovQ x s 100 v)) from by unfold o_over; rw [if_neg (fun z => Bool.false_ne_true (g_1.symm.trans z)), if_neg (show ¬ (isW 100 && inB v (lowQ 100) (nI 99)) = false from (fun z => Bool.false_ne_true (z.symm.trans c_87))), if_neg c_112]; rfl] at hq
        refine hq _ (hG0.tr (FRS.of (c4 1 0 (by decide) (by omega)) (fun a ha => (C4 a (fun e => ha (by rw [e]; unfold WSQ nm; omega)) (fun z e => ha (by rw [e]; unfold WSQ nm; omega))).trans (F2 a (fun e => ha (by rw [e]; unfold WSQ nm; omega)) (fun e => ha (by rw [e]; unfold WSQ nm; omega)))) (fun k _ => c4 22 k (by decide) (by omega)))) ((congrFun (ce_I (c4 1 0 (by decide) (by omega))) 0).trans wI_ss) ?_ ?_
        · exact MSQ.new (q := (ovQ x s 100 v)) hM0 (by omega) rfl rfl ((show OF h4 n (q_o (ovQ x s 100 v)) from (O2.frm (C4 _ (by unfold nm; omega) (fun z => by unfold nm; omega))))) (L2.frm (C4 0 (by unfold nm; omega) (fun z => by unfold nm; omega)) (C4 _ (by unfold nm; omega) (fun z => by unfold nm; omega)) (fun z => C4 _ (by unfold nm; omega) (fun z => by unfold nm; omega)) (fun k _ => C4 _ (by unfold nm; omega) (fun z => by unfold nm; omega))) L4 c4 L4.k
        · exact ⟨⟨K2, fun i hi => (ce_k (c4 22 i (by decide) (by omega))).trans (hK2 i hi)⟩, ⟨K, fun i hi => (ce_k (c4 30 i (by decide) (by omega))).trans (hK i hi)⟩⟩
      · skip
        refine wp_iconst (nI 1) dX16_over_115 (by decide) ?_
        refine wp_goto 120 dX16_over_116 (by decide) ?_
        refine wp_iconst (nI 3) dX16_over_120 (by decide) ?_
        refine wp_cV (y' := m_X16_fails) 17 [vi (nI 1), vi (nI 3)] [] 0 0 dX16_over_121 ml_X16_102 im_X16_fails se_X16_fails (by decide) hM0.1.1 ok_X16_fails rfl (Nat.le_of_ble_eq_true rfl) rfl (Nat.le_of_ble_eq_true rfl) (d' := d - 1) (by omega) (Nat.zero_le _) (Nat.zero_le _) (c_flT hM0.1.1 wI_ss (nI 3) (by decide) (cont_ret ?_))
        have hM43 := hM0.wI (i := 0) (k := 0) (v := nI 3) (by decide)
        have hG44 := hG0.tr (FRS.w0 (v := nI 3))
        have hP45 := PO2.m (a := nm 1 0) (k := 0) (x := nI 3) hP0
        refine wp_if_eqN 129 dX16_over_124 (by decide) (by decide) (fun c_124 => absurd c_124 (by decide)) (fun c_124 => ?_)
        refine wp_iconst (nI 0) dX16_over_127 (by decide) ?_
        refine wp_ireturn dX16_over_128 rfl ?_
        rw [show o_over n x (nI s) s 100 v = (nI 3, nI 0, n, x) from by unfold o_over; rw [if_neg (fun z => Bool.false_ne_true (g_1.symm.trans z)), if_neg (show ¬ (isW 100 && inB v (lowQ 100) (nI 99)) = false from (fun z => Bool.false_ne_true (z.symm.trans c_87))), if_pos c_112]] at hq
        exact hq _ hG44 wI_ss hM43 hP45
    · skip
      refine wp_iconst (nI 1) dX16_over_90 (by decide) ?_
      refine wp_goto 95 dX16_over_91 (by decide) ?_
      refine wp_iconst (nI 2) dX16_over_95 (by decide) ?_
      refine wp_cV (y' := m_X16_fails) 17 [vi (nI 1), vi (nI 2)] [] 0 0 dX16_over_96 ml_X16_102 im_X16_fails se_X16_fails (by decide) hM0.1.1 ok_X16_fails rfl (Nat.le_of_ble_eq_true rfl) rfl (Nat.le_of_ble_eq_true rfl) (d' := d - 1) (by omega) (Nat.zero_le _) (Nat.zero_le _) (c_flT hM0.1.1 wI_ss (nI 2) (by decide) (cont_ret ?_))
      have hM46 := hM0.wI (i := 0) (k := 0) (v := nI 2) (by decide)
      have hG47 := hG0.tr (FRS.w0 (v := nI 2))
      have hP48 := PO2.m (a := nm 1 0) (k := 0) (x := nI 2) hP0
      refine wp_if_neN 127 dX16_over_99 (by decide) (by decide) (fun c_99 => ?_) (fun c_99 => absurd c_99 (by decide))
      refine wp_iconst (nI 0) dX16_over_127 (by decide) ?_
      refine wp_ireturn dX16_over_128 rfl ?_
      rw [show o_over n x (nI s) s 100 v = (nI 2, nI 0, n, x) from by unfold o_over; rw [if_neg (fun z => Bool.false_ne_true (g_1.symm.trans z)), if_pos (show (isW 100 && inB v (lowQ 100) (nI 99)) = false from c_87)]] at hq
      exact hq _ hG47 wI_ss hM46 hP48
set_option maxRecDepth 100000 in
set_option maxHeartbeats 4000000 in
theorem c_X16_over_107 {G : GG} {d bc bs : Nat} {h : Hp} {Q : Pst} {n : Nat} {x : Nat → QIS} (hX : QX n x) (hM : MSQ h n x) (hP : PO2 h) (J : JC h) {u : Int32} {s : Nat} (hu : ixB u n = true → u = nI s ∧ s < n) {v : Int32} (hd : 20 ≤ d) (hbc : 6 ≤ bc) (hbs : 100 ≤ bs) (hq : QO Q h (o_over n x u s 107 v))  : WP G m_X16_over d 0 (aargs 0 [vr (some (nm 1 0)), vi u, vi (nI 107), vi v]) [] h bc bs Q := by
  have hn12 := hX.1.2.1
  refine wp_sub [(0, vr (some (nm 1 0))), (1, vi u), (2, vi (nI 107)), (3, vi v)] (fun _ hz => hz) ?_
  refine wp_aload_n (i := 0) dX16_over_0 rfl rfl ?_
  refine wp_iconst (nI 0) dX16_over_1 (by decide) ?_
  refine wp_putI 17 0 dX16_over_2 hM.1.1 (by decide) (by decide) (by decide) fl_X16_63 rfl (fun _ _ => rfl) rfl rfl ?_
  refine wp_iload_n (i := 2) dX16_over_5 rfl rfl ?_
  refine wp_bipush (nI 97) dX16_over_6 (by decide) ?_
  refine wp_icmp_eqN 29 dX16_over_8 (by decide) (by decide) (by decide) (fun c_8 => absurd c_8 (by decide)) (fun c_8 => ?_)
  refine wp_iload_n (i := 2) dX16_over_11 rfl rfl ?_
  refine wp_bipush (nI 100) dX16_over_12 (by decide) ?_
  refine wp_icmp_eqN 29 dX16_over_14 (by decide) (by decide) (by decide) (fun c_14 => absurd c_14 (by decide)) (fun c_14 => ?_)
  refine wp_iload_n (i := 2) dX16_over_17 rfl rfl ?_
  refine wp_bipush (nI 107) dX16_over_18 (by decide) ?_
  refine wp_icmp_eqN 29 dX16_over_20 (by decide) (by decide) (by decide) (fun c_20 => ?_) (fun c_20 => absurd c_20 (by decide))
  refine wp_iconst (nI 1) dX16_over_29 (by decide) ?_
  refine wp_goto 34 dX16_over_30 (by decide) ?_
  refine wp_istore (i := 4) (lv' := [(4, vi (nI 1)), (0, vr (some (nm 1 0))), (1, vi u), (2, vi (nI 107)), (3, vi v)]) dX16_over_34 (by decide) rfl ?_
  refine wp_iload_n (i := 2) dX16_over_36 rfl rfl ?_
  refine wp_bipush (nI 107) dX16_over_37 (by decide) ?_
  refine wp_icmp_neN 46 dX16_over_39 (by decide) (by decide) (by decide) (fun c_39 => absurd c_39 (by decide)) (fun c_39 => ?_)
  refine wp_iconst (nI 1) dX16_over_42 (by decide) ?_
  refine wp_goto 58 dX16_over_43 (by decide) ?_
  refine wp_istore (i := 5) (lv' := [(5, vi (nI 1)), (4, vi (nI 1)), (0, vr (some (nm 1 0))), (1, vi u), (2, vi (nI 107)), (3, vi v)]) dX16_over_58 (by decide) rfl ?_
  have hM0 := hM.wI (i := 0) (k := 0) (v := nI 0) (by decide)
  have hG0 : FRS h (wI h (nm 1 0) 0 (nI 0)) := FRS.w0
  have hP0 := PO2.m (a := nm 1 0) (k := 0) (x := nI 0) hP
  refine wp_aload_n (i := 0) dX16_over_60 rfl rfl ?_
  refine wp_aload_n (i := 0) dX16_over_61 rfl rfl ?_
  refine wp_iload_n (i := 1) dX16_over_62 rfl rfl ?_
  refine wp_cV (y' := m_X16_noSequence) 17 [vi u] [vr (some (nm 1 0))] 0 0 dX16_over_63 ml_X16_179 im_X16_noSequence se_X16_noSequence (by decide) hM0.1.1 ok_X16_noSequence rfl (Nat.le_of_ble_eq_true rfl) rfl (Nat.le_of_ble_eq_true rfl) (d' := d - 1) (by omega) (Nat.zero_le _) (Nat.zero_le _) (c_X16_noSequence hM0 u (by omega) (cont_ret ?_))
  refine wp_iconst (nI 1) dX16_over_66 (by decide) ?_
  refine wp_cV (y' := m_X16_fails) 17 [vi (bI (!ixB u n)), vi (nI 1)] [] 0 0 dX16_over_67 ml_X16_102 im_X16_fails se_X16_fails (by decide) hM0.1.1 ok_X16_fails rfl (Nat.le_of_ble_eq_true rfl) rfl (Nat.le_of_ble_eq_true rfl) (d' := d - 1) (by omega) (Nat.zero_le _) (Nat.zero_le _) (c_flB hM0.1.1 wI_ss (!ixB u n) (nI 1) (by decide) (fun g_1 => cont_ret ?_) (fun g_1 => cont_ret ?_))
  · have hM49 := hM0.wI (i := 0) (k := 0) (v := nI 1) (by decide)
    have hG50 := hG0.tr (FRS.w0 (v := nI 1))
    have hP51 := PO2.m (a := nm 1 0) (k := 0) (x := nI 1) hP0
    refine wp_if_neN 127 dX16_over_70 (by decide) (by decide) (fun c_70 => ?_) (fun c_70 => absurd c_70 (by decide))
    refine wp_iconst (nI 0) dX16_over_127 (by decide) ?_
    refine wp_ireturn dX16_over_128 rfl ?_
    rw [show o_over n x u s 107 v = (nI 1, nI 0, n, x) from if_pos g_1] at hq
    exact hq _ hG50 wI_ss hM49 hP51
  · obtain ⟨eu, hs⟩ := hu (nt_f g_1)
    subst eu
    refine wp_if_neN 127 dX16_over_70 (by decide) (by decide) (fun c_70 => absurd c_70 (by decide)) (fun c_70 => ?_)
    refine wp_aload_n (i := 0) dX16_over_73 rfl rfl ?_
    refine wp_iload (i := 4) dX16_over_74 rfl ?_
    refine wp_if_eqN 90 dX16_over_76 (by decide) (by decide) (fun c_76 => absurd c_76 (by decide)) (fun c_76 => ?_)
    refine wp_iload_n (i := 3) dX16_over_79 rfl rfl ?_
    refine wp_iload (i := 5) dX16_over_80 rfl ?_
    refine wp_bipush (nI 99) dX16_over_82 (by decide) ?_
    refine wp_cS (y' := m_X16_in) [vi v, vi (nI 1), vi (nI 99)] [vr (some (nm 1 0))] 0 0 dX16_over_84 ml_X16_70 st_X16_in ok_X16_in rfl (Nat.le_of_ble_eq_true rfl) rfl (Nat.le_of_ble_eq_true rfl) (d' := d - 1) (by omega) (Nat.zero_le _) (Nat.zero_le _) (c_X16_in v (nI 1) (nI 99) (cont_ret ?_))
    refine wp_if_neB 94 dX16_over_87 (by decide) (fun c_87 => ?_) (fun c_87 => ?_)
    · skip
      refine wp_iconst (nI 0) dX16_over_94 (by decide) ?_
      refine wp_iconst (nI 2) dX16_over_95 (by decide) ?_
      refine wp_cV (y' := m_X16_fails) 17 [vi (nI 0), vi (nI 2)] [] 0 0 dX16_over_96 ml_X16_102 im_X16_fails se_X16_fails (by decide) hM0.1.1 ok_X16_fails rfl (Nat.le_of_ble_eq_true rfl) rfl (Nat.le_of_ble_eq_true rfl) (d' := d - 1) (by omega) (Nat.zero_le _) (Nat.zero_le _) (c_flF hM0.1.1 wI_ss (nI 2) (by decide) (cont_ret ?_))
      skip
      refine wp_if_neN 127 dX16_over_99 (by decide) (by decide) (fun c_99 => absurd c_99 (by decide)) (fun c_99 => ?_)
      refine wp_aload_n (i := 0) dX16_over_102 rfl rfl ?_
      refine wp_aload_n (i := 0) dX16_over_103 rfl rfl ?_
      refine wp_get 17 11 (vr (some (nm 1 11))) dX16_over_104 hM0.1.1 (by decide) (by decide) fl_X16_40 (congrArg (fun z => toV (vr z)) (hM0.1.r 11 (by decide) (by decide) (by decide) (by decide))) ?_
      refine wp_cV (y' := m_Jx4a65c_size_8abf5) 2 [] [vr (some (nm 1 0))] 0 0 dX16_over_107 ml_X16_168 im_Jx4a65c_size_8abf5 se_Jx4a65c_size_8abf5 (by decide) hM0.2.1.k ok_Jx4a65c_size_8abf5 rfl (Nat.le_of_ble_eq_true rfl) rfl (Nat.le_of_ble_eq_true rfl) (d' := d - 1) (by omega) (Nat.zero_le _) (Nat.zero_le _) (c_LO_size hM0.2.1 (cont_ret ?_))
      refine wp_bipush (nI 12) dX16_over_110 (by decide) ?_
      refine wp_icmp_neN 119 dX16_over_112 (by decide) (by omega) (by decide) (fun c_112 => ?_) (fun c_112 => ?_)
      · skip
        refine wp_iconst (nI 0) dX16_over_119 (by decide) ?_
        refine wp_iconst (nI 3) dX16_over_120 (by decide) ?_
        refine wp_cV (y' := m_X16_fails) 17 [vi (nI 0), vi (nI 3)] [] 0 0 dX16_over_121 ml_X16_102 im_X16_fails se_X16_fails (by decide) hM0.1.1 ok_X16_fails rfl (Nat.le_of_ble_eq_true rfl) rfl (Nat.le_of_ble_eq_true rfl) (d' := d - 1) (by omega) (Nat.zero_le _) (Nat.zero_le _) (c_flF hM0.1.1 wI_ss (nI 3) (by decide) (cont_ret ?_))
        skip
        refine wp_if_eqN 129 dX16_over_124 (by decide) (by decide) (fun c_124 => ?_) (fun c_124 => absurd c_124 (by decide))
        refine wp_aload_n (i := 0) dX16_over_129 rfl rfl ?_
        refine wp_get 17 11 (vr (some (nm 1 11))) dX16_over_130 hM0.1.1 (by decide) (by decide) fl_X16_40 (congrArg (fun z => toV (vr z)) (hM0.1.r 11 (by decide) (by decide) (by decide) (by decide))) ?_
        have c15 : clN 15 = 6 := rfl
        obtain ⟨⟨K2, hK2⟩, K, hK⟩ := id hP0
        have hf2 := hM0.2.2.2.1 n (Nat.le_refl _)
        have hf3 := hM0.2.2.2.2.1 n (Nat.le_refl _)
        have hf26 := fun z => hM0.2.2.2.2.2 n (Nat.le_refl _) (by omega) z
        have J1 := J.w (a := nm 1 0) (k := 0) (x := nI 0) (by unfold nm; omega)
        refine wp_new 15 dX16_over_133 (by decide) kl_X16_170 ins_X14 ini_X14 (by omega) (by show 6 ≤ _; omega) (nm 2 n) hf2 ?_
        refine wp_dup dX16_over_136 ?_
        refine wp_iload_n (i := 2) dX16_over_137 rfl rfl ?_
        refine wp_iload_n (i := 1) dX16_over_138 rfl rfl ?_
        refine wp_iload_n (i := 3) dX16_over_139 rfl rfl ?_
        refine wp_iconst (nI 0) dX16_over_140 (by decide) ?_
        refine wp_iconst (nI 0) dX16_over_141 (by decide) ?_
        refine wp_cI (y' := m_X14_init) [vi (nI 107), vi (nI s), vi v, vi (nI 0), vi (nI 0)] [vr (some (nm 2 n)), vr (some (nm 1 11))] 1 3 dX16_over_142 ml_X16_172 im_X14_init rfl rfl ok_X14_init rfl (Nat.le_of_ble_eq_true rfl) rfl (Nat.le_of_ble_eq_true rfl) (d' := d - 1) (by omega) (by omega) (by omega) (c_X14_init (s := n) hf3 hf26 J1 (wn := 107) (by decide) (by omega) (Nat.le_refl _) (Nat.le_refl _) (fun h2 O2 L2 F2 => cont_void ?_))
        have LO2 := hM0.2.1.frm (F2 0 (by unfold nm; omega) (by unfold nm; omega)) (F2 _ (nm_ne (by decide) (by decide) (by decide)) (nm_ne (by decide) (by decide) (by decide))) (fun z => F2 _ (nm_ne (by decide) (by decide) (by decide)) (nm_ne (by decide) (by decide) (by decide)))
        refine wp_cV (y' := m_Jx4a65c_add_9ea2d) 2 [vr (some (nm 2 n))] [] 1 (10 + 2 * n) dX16_over_145 ml_X16_175 im_Jx4a65c_add_9ea2d se_Jx4a65c_add_9ea2d (by decide) LO2.k ok_Jx4a65c_add_9ea2d rfl (Nat.le_of_ble_eq_true rfl) rfl (Nat.le_of_ble_eq_true rfl) (d' := d - 1) (by omega) (by omega) (by omega) (c_LO_add LO2 (by rw [O2.k0]; decide) (by rw [O2.k0]; decide) (by omega) (by decide) (by decide) (by decide) (by omega) (Nat.le_refl _) (Nat.le_refl _) (fun h4 L4 C4 => cont_ret ?_))
        have c4 : ∀ r i, r < 128 → ¬ ((r = 2 ∧ i = n) ∨ (r = 3 ∧ i = n) ∨ (r = 1 ∧ i = 11) ∨ r = 31) → ce h4 (nm r i) = ce (wI h (nm 1 0) 0 (nI 0)) (nm r i) := fun r i hr hn => (C4 _ (by unfold nm; omega) (fun z => by unfold nm; omega)).trans (F2 _ (by unfold nm; omega) (by unfold nm; omega))
        refine wp_pop dX16_over_148 ?_
        refine wp_aload_n (i := 0) dX16_over_149 rfl rfl ?_
        refine wp_get 17 11 (vr (some (nm 1 11))) dX16_over_150 ((ce_k (c4 1 0 (by decide) (by omega))).trans hM0.1.1) (by decide) (by decide) fl_X16_40 (congrArg (fun z => toV (vr z)) ((congrFun (ce_R (c4 1 0 (by decide) (by omega))) 11).trans (hM0.1.r 11 (by decide) (by decide) (by decide) (by decide)))) ?_
        refine wp_cV (y' := m_Jx4a65c_size_8abf5) 2 [] [] 0 0 dX16_over_153 ml_X16_168 im_Jx4a65c_size_8abf5 se_Jx4a65c_size_8abf5 (by decide) L4.k ok_Jx4a65c_size_8abf5 rfl (Nat.le_of_ble_eq_true rfl) rfl (Nat.le_of_ble_eq_true rfl) (d' := d - 1) (by omega) (Nat.zero_le _) (Nat.zero_le _) (c_LO_size L4 (cont_ret ?_))
        refine wp_iconst (nI 1) dX16_over_156 (by decide) ?_
        refine wp_isubN dX16_over_157 (by omega) ?_
        refine wp_ireturn dX16_over_158 rfl ?_
        rw [show o_over n x (nI s) s 107 v = (nI 0, nI (n + 1 - 1), n + 1, va_up x n (ovQ x s 107 v)) from by unfold o_over; rw [if_neg (fun z => Bool.false_ne_true (g_1.symm.trans z)), if_neg (show ¬ (isW 107 && inB v (lowQ 107) (nI 99)) = false from (fun z => Bool.false_ne_true (z.symm.trans c_87))), if_neg c_112]; rfl] at hq
        refine hq _ (hG0.tr (FRS.of (c4 1 0 (by decide) (by omega)) (fun a ha => (C4 a (fun e => ha (by rw [e]; unfold WSQ nm; omega)) (fun z e => ha (by rw [e]; unfold WSQ nm; omega))).trans (F2 a (fun e => ha (by rw [e]; unfold WSQ nm; omega)) (fun e => ha (by rw [e]; unfold WSQ nm; omega)))) (fun k _ => c4 22 k (by decide) (by omega)))) ((congrFun (ce_I (c4 1 0 (by decide) (by omega))) 0).trans wI_ss) ?_ ?_
        · exact MSQ.new (q := (ovQ x s 107 v)) hM0 (by omega) rfl rfl ((show OF h4 n (q_o (ovQ x s 107 v)) from (O2.frm (C4 _ (by unfold nm; omega) (fun z => by unfold nm; omega))))) (L2.frm (C4 0 (by unfold nm; omega) (fun z => by unfold nm; omega)) (C4 _ (by unfold nm; omega) (fun z => by unfold nm; omega)) (fun z => C4 _ (by unfold nm; omega) (fun z => by unfold nm; omega)) (fun k _ => C4 _ (by unfold nm; omega) (fun z => by unfold nm; omega))) L4 c4 L4.k
        · exact ⟨⟨K2, fun i hi => (ce_k (c4 22 i (by decide) (by omega))).trans (hK2 i hi)⟩, ⟨K, fun i hi => (ce_k (c4 30 i (by decide) (by omega))).trans (hK i hi)⟩⟩
      · skip
        refine wp_iconst (nI 1) dX16_over_115 (by decide) ?_
        refine wp_goto 120 dX16_over_116 (by decide) ?_
        refine wp_iconst (nI 3) dX16_over_120 (by decide) ?_
        refine wp_cV (y' := m_X16_fails) 17 [vi (nI 1), vi (nI 3)] [] 0 0 dX16_over_121 ml_X16_102 im_X16_fails se_X16_fails (by decide) hM0.1.1 ok_X16_fails rfl (Nat.le_of_ble_eq_true rfl) rfl (Nat.le_of_ble_eq_true rfl) (d' := d - 1) (by omega) (Nat.zero_le _) (Nat.zero_le _) (c_flT hM0.1.1 wI_ss (nI 3) (by decide) (cont_ret ?_))
        have hM58 := hM0.wI (i := 0) (k := 0) (v := nI 3) (by decide)
        have hG59 := hG0.tr (FRS.w0 (v := nI 3))
        have hP60 := PO2.m (a := nm 1 0) (k := 0) (x := nI 3) hP0
        refine wp_if_eqN 129 dX16_over_124 (by decide) (by decide) (fun c_124 => absurd c_124 (by decide)) (fun c_124 => ?_)
        refine wp_iconst (nI 0) dX16_over_127 (by decide) ?_
        refine wp_ireturn dX16_over_128 rfl ?_
        rw [show o_over n x (nI s) s 107 v = (nI 3, nI 0, n, x) from by unfold o_over; rw [if_neg (fun z => Bool.false_ne_true (g_1.symm.trans z)), if_neg (show ¬ (isW 107 && inB v (lowQ 107) (nI 99)) = false from (fun z => Bool.false_ne_true (z.symm.trans c_87))), if_pos c_112]] at hq
        exact hq _ hG59 wI_ss hM58 hP60
    · skip
      refine wp_iconst (nI 1) dX16_over_90 (by decide) ?_
      refine wp_goto 95 dX16_over_91 (by decide) ?_
      refine wp_iconst (nI 2) dX16_over_95 (by decide) ?_
      refine wp_cV (y' := m_X16_fails) 17 [vi (nI 1), vi (nI 2)] [] 0 0 dX16_over_96 ml_X16_102 im_X16_fails se_X16_fails (by decide) hM0.1.1 ok_X16_fails rfl (Nat.le_of_ble_eq_true rfl) rfl (Nat.le_of_ble_eq_true rfl) (d' := d - 1) (by omega) (Nat.zero_le _) (Nat.zero_le _) (c_flT hM0.1.1 wI_ss (nI 2) (by decide) (cont_ret ?_))
      have hM61 := hM0.wI (i := 0) (k := 0) (v := nI 2) (by decide)
      have hG62 := hG0.tr (FRS.w0 (v := nI 2))
      have hP63 := PO2.m (a := nm 1 0) (k := 0) (x := nI 2) hP0
      refine wp_if_neN 127 dX16_over_99 (by decide) (by decide) (fun c_99 => ?_) (fun c_99 => absurd c_99 (by decide))
      refine wp_iconst (nI 0) dX16_over_127 (by decide) ?_
      refine wp_ireturn dX16_over_128 rfl ?_
      rw [show o_over n x (nI s) s 107 v = (nI 2, nI 0, n, x) from by unfold o_over; rw [if_neg (fun z => Bool.false_ne_true (g_1.symm.trans z)), if_pos (show (isW 107 && inB v (lowQ 107) (nI 99)) = false from c_87)]] at hq
      exact hq _ hG62 wI_ss hM61 hP63
set_option maxRecDepth 100000 in
set_option maxHeartbeats 4000000 in
theorem c_X16_over_116 {G : GG} {d bc bs : Nat} {h : Hp} {Q : Pst} {n : Nat} {x : Nat → QIS} (hX : QX n x) (hM : MSQ h n x) (hP : PO2 h) (J : JC h) {u : Int32} {s : Nat} (hu : ixB u n = true → u = nI s ∧ s < n) {v : Int32} (hd : 20 ≤ d) (hbc : 6 ≤ bc) (hbs : 100 ≤ bs) (hq : QO Q h (o_over n x u s 116 v))  : WP G m_X16_over d 0 (aargs 0 [vr (some (nm 1 0)), vi u, vi (nI 116), vi v]) [] h bc bs Q := by
  have hn12 := hX.1.2.1
  refine wp_sub [(0, vr (some (nm 1 0))), (1, vi u), (2, vi (nI 116)), (3, vi v)] (fun _ hz => hz) ?_
  refine wp_aload_n (i := 0) dX16_over_0 rfl rfl ?_
  refine wp_iconst (nI 0) dX16_over_1 (by decide) ?_
  refine wp_putI 17 0 dX16_over_2 hM.1.1 (by decide) (by decide) (by decide) fl_X16_63 rfl (fun _ _ => rfl) rfl rfl ?_
  refine wp_iload_n (i := 2) dX16_over_5 rfl rfl ?_
  refine wp_bipush (nI 97) dX16_over_6 (by decide) ?_
  refine wp_icmp_eqN 29 dX16_over_8 (by decide) (by decide) (by decide) (fun c_8 => absurd c_8 (by decide)) (fun c_8 => ?_)
  refine wp_iload_n (i := 2) dX16_over_11 rfl rfl ?_
  refine wp_bipush (nI 100) dX16_over_12 (by decide) ?_
  refine wp_icmp_eqN 29 dX16_over_14 (by decide) (by decide) (by decide) (fun c_14 => absurd c_14 (by decide)) (fun c_14 => ?_)
  refine wp_iload_n (i := 2) dX16_over_17 rfl rfl ?_
  refine wp_bipush (nI 107) dX16_over_18 (by decide) ?_
  refine wp_icmp_eqN 29 dX16_over_20 (by decide) (by decide) (by decide) (fun c_20 => absurd c_20 (by decide)) (fun c_20 => ?_)
  refine wp_iload_n (i := 2) dX16_over_23 rfl rfl ?_
  refine wp_bipush (nI 116) dX16_over_24 (by decide) ?_
  refine wp_icmp_neN 33 dX16_over_26 (by decide) (by decide) (by decide) (fun c_26 => absurd c_26 (by decide)) (fun c_26 => ?_)
  refine wp_iconst (nI 1) dX16_over_29 (by decide) ?_
  refine wp_goto 34 dX16_over_30 (by decide) ?_
  refine wp_istore (i := 4) (lv' := [(4, vi (nI 1)), (0, vr (some (nm 1 0))), (1, vi u), (2, vi (nI 116)), (3, vi v)]) dX16_over_34 (by decide) rfl ?_
  refine wp_iload_n (i := 2) dX16_over_36 rfl rfl ?_
  refine wp_bipush (nI 107) dX16_over_37 (by decide) ?_
  refine wp_icmp_neN 46 dX16_over_39 (by decide) (by decide) (by decide) (fun c_39 => ?_) (fun c_39 => absurd c_39 (by decide))
  refine wp_iload_n (i := 2) dX16_over_46 rfl rfl ?_
  refine wp_bipush (nI 116) dX16_over_47 (by decide) ?_
  refine wp_icmp_neN 56 dX16_over_49 (by decide) (by decide) (by decide) (fun c_49 => absurd c_49 (by decide)) (fun c_49 => ?_)
  refine wp_iconst (nI 0) dX16_over_52 (by decide) ?_
  refine wp_goto 58 dX16_over_53 (by decide) ?_
  refine wp_istore (i := 5) (lv' := [(5, vi (nI 0)), (4, vi (nI 1)), (0, vr (some (nm 1 0))), (1, vi u), (2, vi (nI 116)), (3, vi v)]) dX16_over_58 (by decide) rfl ?_
  have hM0 := hM.wI (i := 0) (k := 0) (v := nI 0) (by decide)
  have hG0 : FRS h (wI h (nm 1 0) 0 (nI 0)) := FRS.w0
  have hP0 := PO2.m (a := nm 1 0) (k := 0) (x := nI 0) hP
  refine wp_aload_n (i := 0) dX16_over_60 rfl rfl ?_
  refine wp_aload_n (i := 0) dX16_over_61 rfl rfl ?_
  refine wp_iload_n (i := 1) dX16_over_62 rfl rfl ?_
  refine wp_cV (y' := m_X16_noSequence) 17 [vi u] [vr (some (nm 1 0))] 0 0 dX16_over_63 ml_X16_179 im_X16_noSequence se_X16_noSequence (by decide) hM0.1.1 ok_X16_noSequence rfl (Nat.le_of_ble_eq_true rfl) rfl (Nat.le_of_ble_eq_true rfl) (d' := d - 1) (by omega) (Nat.zero_le _) (Nat.zero_le _) (c_X16_noSequence hM0 u (by omega) (cont_ret ?_))
  refine wp_iconst (nI 1) dX16_over_66 (by decide) ?_
  refine wp_cV (y' := m_X16_fails) 17 [vi (bI (!ixB u n)), vi (nI 1)] [] 0 0 dX16_over_67 ml_X16_102 im_X16_fails se_X16_fails (by decide) hM0.1.1 ok_X16_fails rfl (Nat.le_of_ble_eq_true rfl) rfl (Nat.le_of_ble_eq_true rfl) (d' := d - 1) (by omega) (Nat.zero_le _) (Nat.zero_le _) (c_flB hM0.1.1 wI_ss (!ixB u n) (nI 1) (by decide) (fun g_1 => cont_ret ?_) (fun g_1 => cont_ret ?_))
  · have hM64 := hM0.wI (i := 0) (k := 0) (v := nI 1) (by decide)
    have hG65 := hG0.tr (FRS.w0 (v := nI 1))
    have hP66 := PO2.m (a := nm 1 0) (k := 0) (x := nI 1) hP0
    refine wp_if_neN 127 dX16_over_70 (by decide) (by decide) (fun c_70 => ?_) (fun c_70 => absurd c_70 (by decide))
    refine wp_iconst (nI 0) dX16_over_127 (by decide) ?_
    refine wp_ireturn dX16_over_128 rfl ?_
    rw [show o_over n x u s 116 v = (nI 1, nI 0, n, x) from if_pos g_1] at hq
    exact hq _ hG65 wI_ss hM64 hP66
  · obtain ⟨eu, hs⟩ := hu (nt_f g_1)
    subst eu
    refine wp_if_neN 127 dX16_over_70 (by decide) (by decide) (fun c_70 => absurd c_70 (by decide)) (fun c_70 => ?_)
    refine wp_aload_n (i := 0) dX16_over_73 rfl rfl ?_
    refine wp_iload (i := 4) dX16_over_74 rfl ?_
    refine wp_if_eqN 90 dX16_over_76 (by decide) (by decide) (fun c_76 => absurd c_76 (by decide)) (fun c_76 => ?_)
    refine wp_iload_n (i := 3) dX16_over_79 rfl rfl ?_
    refine wp_iload (i := 5) dX16_over_80 rfl ?_
    refine wp_bipush (nI 99) dX16_over_82 (by decide) ?_
    refine wp_cS (y' := m_X16_in) [vi v, vi (nI 0), vi (nI 99)] [vr (some (nm 1 0))] 0 0 dX16_over_84 ml_X16_70 st_X16_in ok_X16_in rfl (Nat.le_of_ble_eq_true rfl) rfl (Nat.le_of_ble_eq_true rfl) (d' := d - 1) (by omega) (Nat.zero_le _) (Nat.zero_le _) (c_X16_in v (nI 0) (nI 99) (cont_ret ?_))
    refine wp_if_neB 94 dX16_over_87 (by decide) (fun c_87 => ?_) (fun c_87 => ?_)
    · skip
      refine wp_iconst (nI 0) dX16_over_94 (by decide) ?_
      refine wp_iconst (nI 2) dX16_over_95 (by decide) ?_
      refine wp_cV (y' := m_X16_fails) 17 [vi (nI 0), vi (nI 2)] [] 0 0 dX16_over_96 ml_X16_102 im_X16_fails se_X16_fails (by decide) hM0.1.1 ok_X16_fails rfl (Nat.le_of_ble_eq_true rfl) rfl (Nat.le_of_ble_eq_true rfl) (d' := d - 1) (by omega) (Nat.zero_le _) (Nat.zero_le _) (c_flF hM0.1.1 wI_ss (nI 2) (by decide) (cont_ret ?_))
      skip
      refine wp_if_neN 127 dX16_over_99 (by decide) (by decide) (fun c_99 => absurd c_99 (by decide)) (fun c_99 => ?_)
      refine wp_aload_n (i := 0) dX16_over_102 rfl rfl ?_
      refine wp_aload_n (i := 0) dX16_over_103 rfl rfl ?_
      refine wp_get 17 11 (vr (some (nm 1 11))) dX16_over_104 hM0.1.1 (by decide) (by decide) fl_X16_40 (congrArg (fun z => toV (vr z)) (hM0.1.r 11 (by decide) (by decide) (by decide) (by decide))) ?_
      refine wp_cV (y' := m_Jx4a65c_size_8abf5) 2 [] [vr (some (nm 1 0))] 0 0 dX16_over_107 ml_X16_168 im_Jx4a65c_size_8abf5 se_Jx4a65c_size_8abf5 (by decide) hM0.2.1.k ok_Jx4a65c_size_8abf5 rfl (Nat.le_of_ble_eq_true rfl) rfl (Nat.le_of_ble_eq_true rfl) (d' := d - 1) (by omega) (Nat.zero_le _) (Nat.zero_le _) (c_LO_size hM0.2.1 (cont_ret ?_))
      refine wp_bipush (nI 12) dX16_over_110 (by decide) ?_
      refine wp_icmp_neN 119 dX16_over_112 (by decide) (by omega) (by decide) (fun c_112 => ?_) (fun c_112 => ?_)
      · skip
        refine wp_iconst (nI 0) dX16_over_119 (by decide) ?_
        refine wp_iconst (nI 3) dX16_over_120 (by decide) ?_
        refine wp_cV (y' := m_X16_fails) 17 [vi (nI 0), vi (nI 3)] [] 0 0 dX16_over_121 ml_X16_102 im_X16_fails se_X16_fails (by decide) hM0.1.1 ok_X16_fails rfl (Nat.le_of_ble_eq_true rfl) rfl (Nat.le_of_ble_eq_true rfl) (d' := d - 1) (by omega) (Nat.zero_le _) (Nat.zero_le _) (c_flF hM0.1.1 wI_ss (nI 3) (by decide) (cont_ret ?_))
        skip
        refine wp_if_eqN 129 dX16_over_124 (by decide) (by decide) (fun c_124 => ?_) (fun c_124 => absurd c_124 (by decide))
        refine wp_aload_n (i := 0) dX16_over_129 rfl rfl ?_
        refine wp_get 17 11 (vr (some (nm 1 11))) dX16_over_130 hM0.1.1 (by decide) (by decide) fl_X16_40 (congrArg (fun z => toV (vr z)) (hM0.1.r 11 (by decide) (by decide) (by decide) (by decide))) ?_
        have c15 : clN 15 = 6 := rfl
        obtain ⟨⟨K2, hK2⟩, K, hK⟩ := id hP0
        have hf2 := hM0.2.2.2.1 n (Nat.le_refl _)
        have hf3 := hM0.2.2.2.2.1 n (Nat.le_refl _)
        have hf26 := fun z => hM0.2.2.2.2.2 n (Nat.le_refl _) (by omega) z
        have J1 := J.w (a := nm 1 0) (k := 0) (x := nI 0) (by unfold nm; omega)
        refine wp_new 15 dX16_over_133 (by decide) kl_X16_170 ins_X14 ini_X14 (by omega) (by show 6 ≤ _; omega) (nm 2 n) hf2 ?_
        refine wp_dup dX16_over_136 ?_
        refine wp_iload_n (i := 2) dX16_over_137 rfl rfl ?_
        refine wp_iload_n (i := 1) dX16_over_138 rfl rfl ?_
        refine wp_iload_n (i := 3) dX16_over_139 rfl rfl ?_
        refine wp_iconst (nI 0) dX16_over_140 (by decide) ?_
        refine wp_iconst (nI 0) dX16_over_141 (by decide) ?_
        refine wp_cI (y' := m_X14_init) [vi (nI 116), vi (nI s), vi v, vi (nI 0), vi (nI 0)] [vr (some (nm 2 n)), vr (some (nm 1 11))] 1 3 dX16_over_142 ml_X16_172 im_X14_init rfl rfl ok_X14_init rfl (Nat.le_of_ble_eq_true rfl) rfl (Nat.le_of_ble_eq_true rfl) (d' := d - 1) (by omega) (by omega) (by omega) (c_X14_init (s := n) hf3 hf26 J1 (wn := 116) (by decide) (by omega) (Nat.le_refl _) (Nat.le_refl _) (fun h2 O2 L2 F2 => cont_void ?_))
        have LO2 := hM0.2.1.frm (F2 0 (by unfold nm; omega) (by unfold nm; omega)) (F2 _ (nm_ne (by decide) (by decide) (by decide)) (nm_ne (by decide) (by decide) (by decide))) (fun z => F2 _ (nm_ne (by decide) (by decide) (by decide)) (nm_ne (by decide) (by decide) (by decide)))
        refine wp_cV (y' := m_Jx4a65c_add_9ea2d) 2 [vr (some (nm 2 n))] [] 1 (10 + 2 * n) dX16_over_145 ml_X16_175 im_Jx4a65c_add_9ea2d se_Jx4a65c_add_9ea2d (by decide) LO2.k ok_Jx4a65c_add_9ea2d rfl (Nat.le_of_ble_eq_true rfl) rfl (Nat.le_of_ble_eq_true rfl) (d' := d - 1) (by omega) (by omega) (by omega) (c_LO_add LO2 (by rw [O2.k0]; decide) (by rw [O2.k0]; decide) (by omega) (by decide) (by decide) (by decide) (by omega) (Nat.le_refl _) (Nat.le_refl _) (fun h4 L4 C4 => cont_ret ?_))
        have c4 : ∀ r i, r < 128 → ¬ ((r = 2 ∧ i = n) ∨ (r = 3 ∧ i = n) ∨ (r = 1 ∧ i = 11) ∨ r = 31) → ce h4 (nm r i) = ce (wI h (nm 1 0) 0 (nI 0)) (nm r i) := fun r i hr hn => (C4 _ (by unfold nm; omega) (fun z => by unfold nm; omega)).trans (F2 _ (by unfold nm; omega) (by unfold nm; omega))
        refine wp_pop dX16_over_148 ?_
        refine wp_aload_n (i := 0) dX16_over_149 rfl rfl ?_
        refine wp_get 17 11 (vr (some (nm 1 11))) dX16_over_150 ((ce_k (c4 1 0 (by decide) (by omega))).trans hM0.1.1) (by decide) (by decide) fl_X16_40 (congrArg (fun z => toV (vr z)) ((congrFun (ce_R (c4 1 0 (by decide) (by omega))) 11).trans (hM0.1.r 11 (by decide) (by decide) (by decide) (by decide)))) ?_
        refine wp_cV (y' := m_Jx4a65c_size_8abf5) 2 [] [] 0 0 dX16_over_153 ml_X16_168 im_Jx4a65c_size_8abf5 se_Jx4a65c_size_8abf5 (by decide) L4.k ok_Jx4a65c_size_8abf5 rfl (Nat.le_of_ble_eq_true rfl) rfl (Nat.le_of_ble_eq_true rfl) (d' := d - 1) (by omega) (Nat.zero_le _) (Nat.zero_le _) (c_LO_size L4 (cont_ret ?_))
        refine wp_iconst (nI 1) dX16_over_156 (by decide) ?_
        refine wp_isubN dX16_over_157 (by omega) ?_
        refine wp_ireturn dX16_over_158 rfl ?_
        rw [show o_over n x (nI s) s 116 v = (nI 0, nI (n + 1 - 1), n + 1, va_up x n (ovQ x s 116 v)) from by unfold o_over; rw [if_neg (fun z => Bool.false_ne_true (g_1.symm.trans z)), if_neg (show ¬ (isW 116 && inB v (lowQ 116) (nI 99)) = false from (fun z => Bool.false_ne_true (z.symm.trans c_87))), if_neg c_112]; rfl] at hq
        refine hq _ (hG0.tr (FRS.of (c4 1 0 (by decide) (by omega)) (fun a ha => (C4 a (fun e => ha (by rw [e]; unfold WSQ nm; omega)) (fun z e => ha (by rw [e]; unfold WSQ nm; omega))).trans (F2 a (fun e => ha (by rw [e]; unfold WSQ nm; omega)) (fun e => ha (by rw [e]; unfold WSQ nm; omega)))) (fun k _ => c4 22 k (by decide) (by omega)))) ((congrFun (ce_I (c4 1 0 (by decide) (by omega))) 0).trans wI_ss) ?_ ?_
        · exact MSQ.new (q := (ovQ x s 116 v)) hM0 (by omega) rfl rfl ((show OF h4 n (q_o (ovQ x s 116 v)) from (O2.frm (C4 _ (by unfold nm; omega) (fun z => by unfold nm; omega))))) (L2.frm (C4 0 (by unfold nm; omega) (fun z => by unfold nm; omega)) (C4 _ (by unfold nm; omega) (fun z => by unfold nm; omega)) (fun z => C4 _ (by unfold nm; omega) (fun z => by unfold nm; omega)) (fun k _ => C4 _ (by unfold nm; omega) (fun z => by unfold nm; omega))) L4 c4 L4.k
        · exact ⟨⟨K2, fun i hi => (ce_k (c4 22 i (by decide) (by omega))).trans (hK2 i hi)⟩, ⟨K, fun i hi => (ce_k (c4 30 i (by decide) (by omega))).trans (hK i hi)⟩⟩
      · skip
        refine wp_iconst (nI 1) dX16_over_115 (by decide) ?_
        refine wp_goto 120 dX16_over_116 (by decide) ?_
        refine wp_iconst (nI 3) dX16_over_120 (by decide) ?_
        refine wp_cV (y' := m_X16_fails) 17 [vi (nI 1), vi (nI 3)] [] 0 0 dX16_over_121 ml_X16_102 im_X16_fails se_X16_fails (by decide) hM0.1.1 ok_X16_fails rfl (Nat.le_of_ble_eq_true rfl) rfl (Nat.le_of_ble_eq_true rfl) (d' := d - 1) (by omega) (Nat.zero_le _) (Nat.zero_le _) (c_flT hM0.1.1 wI_ss (nI 3) (by decide) (cont_ret ?_))
        have hM73 := hM0.wI (i := 0) (k := 0) (v := nI 3) (by decide)
        have hG74 := hG0.tr (FRS.w0 (v := nI 3))
        have hP75 := PO2.m (a := nm 1 0) (k := 0) (x := nI 3) hP0
        refine wp_if_eqN 129 dX16_over_124 (by decide) (by decide) (fun c_124 => absurd c_124 (by decide)) (fun c_124 => ?_)
        refine wp_iconst (nI 0) dX16_over_127 (by decide) ?_
        refine wp_ireturn dX16_over_128 rfl ?_
        rw [show o_over n x (nI s) s 116 v = (nI 3, nI 0, n, x) from by unfold o_over; rw [if_neg (fun z => Bool.false_ne_true (g_1.symm.trans z)), if_neg (show ¬ (isW 116 && inB v (lowQ 116) (nI 99)) = false from (fun z => Bool.false_ne_true (z.symm.trans c_87))), if_pos c_112]] at hq
        exact hq _ hG74 wI_ss hM73 hP75
    · skip
      refine wp_iconst (nI 1) dX16_over_90 (by decide) ?_
      refine wp_goto 95 dX16_over_91 (by decide) ?_
      refine wp_iconst (nI 2) dX16_over_95 (by decide) ?_
      refine wp_cV (y' := m_X16_fails) 17 [vi (nI 1), vi (nI 2)] [] 0 0 dX16_over_96 ml_X16_102 im_X16_fails se_X16_fails (by decide) hM0.1.1 ok_X16_fails rfl (Nat.le_of_ble_eq_true rfl) rfl (Nat.le_of_ble_eq_true rfl) (d' := d - 1) (by omega) (Nat.zero_le _) (Nat.zero_le _) (c_flT hM0.1.1 wI_ss (nI 2) (by decide) (cont_ret ?_))
      have hM76 := hM0.wI (i := 0) (k := 0) (v := nI 2) (by decide)
      have hG77 := hG0.tr (FRS.w0 (v := nI 2))
      have hP78 := PO2.m (a := nm 1 0) (k := 0) (x := nI 2) hP0
      refine wp_if_neN 127 dX16_over_99 (by decide) (by decide) (fun c_99 => ?_) (fun c_99 => absurd c_99 (by decide))
      refine wp_iconst (nI 0) dX16_over_127 (by decide) ?_
      refine wp_ireturn dX16_over_128 rfl ?_
      rw [show o_over n x (nI s) s 116 v = (nI 2, nI 0, n, x) from by unfold o_over; rw [if_neg (fun z => Bool.false_ne_true (g_1.symm.trans z)), if_pos (show (isW 116 && inB v (lowQ 116) (nI 99)) = false from c_87)]] at hq
      exact hq _ hG77 wI_ss hM76 hP78
set_option maxRecDepth 100000 in
set_option maxHeartbeats 4000000 in
theorem c_X16_over_n {G : GG} {d bc bs : Nat} {h : Hp} {Q : Pst} {n : Nat} {x : Nat → QIS} (hX : QX n x) (hM : MSQ h n x) (hP : PO2 h) (J : JC h) {u : Int32} {s : Nat} (hu : ixB u n = true → u = nI s ∧ s < n) {v : Int32} {wn : Nat} (hw : wn < 65536 ∧ wn ≠ 97 ∧ wn ≠ 100 ∧ wn ≠ 107 ∧ wn ≠ 116) (hd : 20 ≤ d) (hbc : 6 ≤ bc) (hbs : 100 ≤ bs) (hq : QO Q h (o_over n x u s wn v))  : WP G m_X16_over d 0 (aargs 0 [vr (some (nm 1 0)), vi u, vi (nI wn), vi v]) [] h bc bs Q := by
  have hn12 := hX.1.2.1
  refine wp_sub [(0, vr (some (nm 1 0))), (1, vi u), (2, vi (nI wn)), (3, vi v)] (fun _ hz => hz) ?_
  refine wp_aload_n (i := 0) dX16_over_0 rfl rfl ?_
  refine wp_iconst (nI 0) dX16_over_1 (by decide) ?_
  refine wp_putI 17 0 dX16_over_2 hM.1.1 (by decide) (by decide) (by decide) fl_X16_63 rfl (fun _ _ => rfl) rfl rfl ?_
  refine wp_iload_n (i := 2) dX16_over_5 rfl rfl ?_
  refine wp_bipush (nI 97) dX16_over_6 (by decide) ?_
  refine wp_icmp_eqN 29 dX16_over_8 (by decide) (by omega) (by decide) (fun c_8 => absurd c_8 (by omega)) (fun c_8 => ?_)
  refine wp_iload_n (i := 2) dX16_over_11 rfl rfl ?_
  refine wp_bipush (nI 100) dX16_over_12 (by decide) ?_
  refine wp_icmp_eqN 29 dX16_over_14 (by decide) (by omega) (by decide) (fun c_14 => absurd c_14 (by omega)) (fun c_14 => ?_)
  refine wp_iload_n (i := 2) dX16_over_17 rfl rfl ?_
  refine wp_bipush (nI 107) dX16_over_18 (by decide) ?_
  refine wp_icmp_eqN 29 dX16_over_20 (by decide) (by omega) (by decide) (fun c_20 => absurd c_20 (by omega)) (fun c_20 => ?_)
  refine wp_iload_n (i := 2) dX16_over_23 rfl rfl ?_
  refine wp_bipush (nI 116) dX16_over_24 (by decide) ?_
  refine wp_icmp_neN 33 dX16_over_26 (by decide) (by omega) (by decide) (fun c_26 => ?_) (fun c_26 => absurd c_26 (by omega))
  refine wp_iconst (nI 0) dX16_over_33 (by decide) ?_
  refine wp_istore (i := 4) (lv' := [(4, vi (nI 0)), (0, vr (some (nm 1 0))), (1, vi u), (2, vi (nI wn)), (3, vi v)]) dX16_over_34 (by decide) rfl ?_
  refine wp_iload_n (i := 2) dX16_over_36 rfl rfl ?_
  refine wp_bipush (nI 107) dX16_over_37 (by decide) ?_
  refine wp_icmp_neN 46 dX16_over_39 (by decide) (by omega) (by decide) (fun c_39 => ?_) (fun c_39 => absurd c_39 (by omega))
  refine wp_iload_n (i := 2) dX16_over_46 rfl rfl ?_
  refine wp_bipush (nI 116) dX16_over_47 (by decide) ?_
  refine wp_icmp_neN 56 dX16_over_49 (by decide) (by omega) (by decide) (fun c_49 => ?_) (fun c_49 => absurd c_49 (by omega))
  refine wp_bipush (-99) dX16_over_56 (by decide) ?_
  refine wp_istore (i := 5) (lv' := [(5, vi (-99)), (4, vi (nI 0)), (0, vr (some (nm 1 0))), (1, vi u), (2, vi (nI wn)), (3, vi v)]) dX16_over_58 (by decide) rfl ?_
  have hM0 := hM.wI (i := 0) (k := 0) (v := nI 0) (by decide)
  have hG0 : FRS h (wI h (nm 1 0) 0 (nI 0)) := FRS.w0
  have hP0 := PO2.m (a := nm 1 0) (k := 0) (x := nI 0) hP
  refine wp_aload_n (i := 0) dX16_over_60 rfl rfl ?_
  refine wp_aload_n (i := 0) dX16_over_61 rfl rfl ?_
  refine wp_iload_n (i := 1) dX16_over_62 rfl rfl ?_
  refine wp_cV (y' := m_X16_noSequence) 17 [vi u] [vr (some (nm 1 0))] 0 0 dX16_over_63 ml_X16_179 im_X16_noSequence se_X16_noSequence (by decide) hM0.1.1 ok_X16_noSequence rfl (Nat.le_of_ble_eq_true rfl) rfl (Nat.le_of_ble_eq_true rfl) (d' := d - 1) (by omega) (Nat.zero_le _) (Nat.zero_le _) (c_X16_noSequence hM0 u (by omega) (cont_ret ?_))
  refine wp_iconst (nI 1) dX16_over_66 (by decide) ?_
  refine wp_cV (y' := m_X16_fails) 17 [vi (bI (!ixB u n)), vi (nI 1)] [] 0 0 dX16_over_67 ml_X16_102 im_X16_fails se_X16_fails (by decide) hM0.1.1 ok_X16_fails rfl (Nat.le_of_ble_eq_true rfl) rfl (Nat.le_of_ble_eq_true rfl) (d' := d - 1) (by omega) (Nat.zero_le _) (Nat.zero_le _) (c_flB hM0.1.1 wI_ss (!ixB u n) (nI 1) (by decide) (fun g_1 => cont_ret ?_) (fun g_1 => cont_ret ?_))
  · have hM79 := hM0.wI (i := 0) (k := 0) (v := nI 1) (by decide)
    have hG80 := hG0.tr (FRS.w0 (v := nI 1))
    have hP81 := PO2.m (a := nm 1 0) (k := 0) (x := nI 1) hP0
    refine wp_if_neN 127 dX16_over_70 (by decide) (by decide) (fun c_70 => ?_) (fun c_70 => absurd c_70 (by decide))
    refine wp_iconst (nI 0) dX16_over_127 (by decide) ?_
    refine wp_ireturn dX16_over_128 rfl ?_
    rw [show o_over n x u s wn v = (nI 1, nI 0, n, x) from if_pos g_1] at hq
    exact hq _ hG80 wI_ss hM79 hP81
  · obtain ⟨eu, hs⟩ := hu (nt_f g_1)
    subst eu
    refine wp_if_neN 127 dX16_over_70 (by decide) (by decide) (fun c_70 => absurd c_70 (by decide)) (fun c_70 => ?_)
    refine wp_aload_n (i := 0) dX16_over_73 rfl rfl ?_
    refine wp_iload (i := 4) dX16_over_74 rfl ?_
    refine wp_if_eqN 90 dX16_over_76 (by decide) (by decide) (fun c_76 => ?_) (fun c_76 => absurd c_76 (by decide))
    refine wp_iconst (nI 1) dX16_over_90 (by decide) ?_
    refine wp_goto 95 dX16_over_91 (by decide) ?_
    refine wp_iconst (nI 2) dX16_over_95 (by decide) ?_
    refine wp_cV (y' := m_X16_fails) 17 [vi (nI 1), vi (nI 2)] [] 0 0 dX16_over_96 ml_X16_102 im_X16_fails se_X16_fails (by decide) hM0.1.1 ok_X16_fails rfl (Nat.le_of_ble_eq_true rfl) rfl (Nat.le_of_ble_eq_true rfl) (d' := d - 1) (by omega) (Nat.zero_le _) (Nat.zero_le _) (c_flT hM0.1.1 wI_ss (nI 2) (by decide) (cont_ret ?_))
    have hM82 := hM0.wI (i := 0) (k := 0) (v := nI 2) (by decide)
    have hG83 := hG0.tr (FRS.w0 (v := nI 2))
    have hP84 := PO2.m (a := nm 1 0) (k := 0) (x := nI 2) hP0
    refine wp_if_neN 127 dX16_over_99 (by decide) (by decide) (fun c_99 => ?_) (fun c_99 => absurd c_99 (by decide))
    refine wp_iconst (nI 0) dX16_over_127 (by decide) ?_
    refine wp_ireturn dX16_over_128 rfl ?_
    rw [show o_over n x (nI s) s wn v = (nI 2, nI 0, n, x) from by unfold o_over; rw [if_neg (fun z => Bool.false_ne_true (g_1.symm.trans z)), if_pos (by rw [show isW wn = false from by unfold isW; simp; omega]; rfl)]] at hq
    exact hq _ hG83 wI_ss hM82 hP84
