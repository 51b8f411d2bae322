/-! Sequences as lists of chunks: what is realised when. -/
abbrev OFS : Type := (Int32) × (Int32) × (Int32) × (Int32) × (Int32)
abbrev OF_way (x : OFS) : Int32 := x.1
abbrev OF_src (x : OFS) : Int32 := x.2.1
abbrev OF_num (x : OFS) : Int32 := x.2.2.1
abbrev OF_stp (x : OFS) : Int32 := x.2.2.2.1
abbrev OF_mny (x : OFS) : Int32 := x.2.2.2.2
abbrev OF_uway (x : OFS) (v : Int32) : OFS := (v, OF_src x, OF_num x, OF_stp x, OF_mny x)
abbrev OF_usrc (x : OFS) (v : Int32) : OFS := (OF_way x, v, OF_num x, OF_stp x, OF_mny x)
abbrev OF_unum (x : OFS) (v : Int32) : OFS := (OF_way x, OF_src x, v, OF_stp x, OF_mny x)
abbrev OF_ustp (x : OFS) (v : Int32) : OFS := (OF_way x, OF_src x, OF_num x, v, OF_mny x)
abbrev OF_umny (x : OFS) (v : Int32) : OFS := (OF_way x, OF_src x, OF_num x, OF_stp x, v)
def OF (h : Hp) (s : Nat) (x : OFS) : Prop := (h_k h (nm 2 s) = 16) ∧ (h_I h (nm 2 s) 0 = OF_way x) ∧ (h_I h (nm 2 s) 1 = OF_src x) ∧ (h_I h (nm 2 s) 2 = OF_num x) ∧ (h_I h (nm 2 s) 3 = OF_stp x) ∧ (h_I h (nm 2 s) 4 = OF_mny x) ∧ (h_R h (nm 2 s) 5 = some (nm 3 s))
theorem OF.k0 {h : Hp} {s : Nat} {x : OFS} (H : OF h s x) : h_k h (nm 2 s) = 16 := H.1
theorem OF.f_way {h : Hp} {s : Nat} {x : OFS} (H : OF h s x) : h_I h (nm 2 s) 0 = OF_way x := H.2.1
theorem OF.f_src {h : Hp} {s : Nat} {x : OFS} (H : OF h s x) : h_I h (nm 2 s) 1 = OF_src x := H.2.2.1
theorem OF.f_num {h : Hp} {s : Nat} {x : OFS} (H : OF h s x) : h_I h (nm 2 s) 2 = OF_num x := H.2.2.2.1
theorem OF.f_stp {h : Hp} {s : Nat} {x : OFS} (H : OF h s x) : h_I h (nm 2 s) 3 = OF_stp x := H.2.2.2.2.1
theorem OF.f_mny {h : Hp} {s : Nat} {x : OFS} (H : OF h s x) : h_I h (nm 2 s) 4 = OF_mny x := H.2.2.2.2.2.1
theorem OF.r6_5 {h : Hp} {s : Nat} {x : OFS} (H : OF h s x) : h_R h (nm 2 s) 5 = some (nm 3 s) := H.2.2.2.2.2.2
theorem OF.frm {h h' : Hp} {s : Nat} {x : OFS} (H : OF h s x) (f2 : ce h' (nm 2 s) = ce h (nm 2 s)) : OF h' s x := ⟨(ce_k f2).trans (H.1), by rw [ce_I f2]; exact H.2.1, by rw [ce_I f2]; exact H.2.2.1, by rw [ce_I f2]; exact H.2.2.2.1, by rw [ce_I f2]; exact H.2.2.2.2.1, by rw [ce_I f2]; exact H.2.2.2.2.2.1, by rw [ce_R f2]; exact H.2.2.2.2.2.2⟩
theorem OF.wway {h : Hp} {s : Nat} {x : OFS} {v : Int32} (H : OF h s x) : OF (wI h (nm 2 s) 0 (v)) s (OF_uway x v) := ⟨H.1, by rw [gI_wI, if_pos ⟨rfl, rfl⟩], by rw [gI_wI, if_neg (fun z => absurd z.2 (by decide))]; exact H.2.2.1, by rw [gI_wI, if_neg (fun z => absurd z.2 (by decide))]; exact H.2.2.2.1, by rw [gI_wI, if_neg (fun z => absurd z.2 (by decide))]; exact H.2.2.2.2.1, by rw [gI_wI, if_neg (fun z => absurd z.2 (by decide))]; exact H.2.2.2.2.2.1, H.2.2.2.2.2.2⟩
theorem OF.wsrc {h : Hp} {s : Nat} {x : OFS} {v : Int32} (H : OF h s x) : OF (wI h (nm 2 s) 1 (v)) s (OF_usrc x v) := ⟨H.1, by rw [gI_wI, if_neg (fun z => absurd z.2 (by decide))]; exact H.2.1, by rw [gI_wI, if_pos ⟨rfl, rfl⟩], by rw [gI_wI, if_neg (fun z => absurd z.2 (by decide))]; exact H.2.2.2.1, by rw [gI_wI, if_neg (fun z => absurd z.2 (by decide))]; exact H.2.2.2.2.1, by rw [gI_wI, if_neg (fun z => absurd z.2 (by decide))]; exact H.2.2.2.2.2.1, H.2.2.2.2.2.2⟩
theorem OF.wnum {h : Hp} {s : Nat} {x : OFS} {v : Int32} (H : OF h s x) : OF (wI h (nm 2 s) 2 (v)) s (OF_unum x v) := ⟨H.1, by rw [gI_wI, if_neg (fun z => absurd z.2 (by decide))]; exact H.2.1, by rw [gI_wI, if_neg (fun z => absurd z.2 (by decide))]; exact H.2.2.1, by rw [gI_wI, if_pos ⟨rfl, rfl⟩], by rw [gI_wI, if_neg (fun z => absurd z.2 (by decide))]; exact H.2.2.2.2.1, by rw [gI_wI, if_neg (fun z => absurd z.2 (by decide))]; exact H.2.2.2.2.2.1, H.2.2.2.2.2.2⟩
theorem OF.wstp {h : Hp} {s : Nat} {x : OFS} {v : Int32} (H : OF h s x) : OF (wI h (nm 2 s) 3 (v)) s (OF_ustp x v) := ⟨H.1, by rw [gI_wI, if_neg (fun z => absurd z.2 (by decide))]; exact H.2.1, by rw [gI_wI, if_neg (fun z => absurd z.2 (by decide))]; exact H.2.2.1, by rw [gI_wI, if_neg (fun z => absurd z.2 (by decide))]; exact H.2.2.2.1, by rw [gI_wI, if_pos ⟨rfl, rfl⟩], by rw [gI_wI, if_neg (fun z => absurd z.2 (by decide))]; exact H.2.2.2.2.2.1, H.2.2.2.2.2.2⟩
theorem OF.wmny {h : Hp} {s : Nat} {x : OFS} {v : Int32} (H : OF h s x) : OF (wI h (nm 2 s) 4 (v)) s (OF_umny x v) := ⟨H.1, by rw [gI_wI, if_neg (fun z => absurd z.2 (by decide))]; exact H.2.1, by rw [gI_wI, if_neg (fun z => absurd z.2 (by decide))]; exact H.2.2.1, by rw [gI_wI, if_neg (fun z => absurd z.2 (by decide))]; exact H.2.2.2.1, by rw [gI_wI, if_neg (fun z => absurd z.2 (by decide))]; exact H.2.2.2.2.1, by rw [gI_wI, if_pos ⟨rfl, rfl⟩], H.2.2.2.2.2.2⟩
def tot : List (List Int32) → Nat
  | [] => 0
  | a :: l => a.length + tot l
theorem tot_app : ∀ a b : List (List Int32), tot (a ++ b) = tot a + tot b
  | [], b => by simp [tot]
  | x :: a, b => by rw [List.cons_append, tot, tot, tot_app a b, Nat.add_assoc]
/-- the element at a place -/
def atF : List (List Int32) → Nat → Int32
  | [], _ => nI 0
  | a :: l, p => if p < a.length then a.getD p (nI 0) else atF l (p - a.length)
/-- how many elements the first chunks have -/
def pre (F : List (List Int32)) (k : Nat) : Nat := tot (F.take k)
theorem pre_0 {F : List (List Int32)} : pre F 0 = 0 := rfl
theorem pre_s : ∀ (F : List (List Int32)) (k : Nat), k < F.length → pre F (k + 1) = pre F k + (F.getD k []).length
  | [], _, h => absurd h (Nat.not_lt_zero _)
  | a :: F, 0, _ => by simp [pre, tot]
  | a :: F, k + 1, h => by
    have := pre_s F k (by simpa using h)
    unfold pre at this ⊢
    rw [List.take_succ_cons, List.take_succ_cons, tot, tot, this, List.getD_cons_succ]
    omega
theorem pre_all {F : List (List Int32)} {k : Nat} (h : F.length ≤ k) : pre F k = tot F := by unfold pre; rw [List.take_of_length_le h]
theorem pre_le1 (F : List (List Int32)) (k : Nat) : pre F k ≤ pre F (k + 1) := by
  by_cases h : k < F.length
  · rw [pre_s F k h]; omega
  · rw [pre_all (by omega), pre_all (by omega)]; exact Nat.le_refl _
theorem pre_mono {F : List (List Int32)} {k m : Nat} (h : k ≤ m) : pre F k ≤ pre F m := by
  induction m with
  | zero => rw [Nat.le_zero.mp h]; exact Nat.le_refl _
  | succ m ih =>
    by_cases e : k = m + 1
    · rw [e]; exact Nat.le_refl _
    · exact Nat.le_trans (ih (by omega)) (pre_le1 F m)
theorem pre_le {F : List (List Int32)} {k : Nat} : pre F k ≤ tot F := by
  by_cases h : k ≤ F.length
  · rw [← pre_all (Nat.le_refl F.length)]; exact pre_mono h
  · rw [pre_all (by omega)]; exact Nat.le_refl _
theorem atF_take : ∀ (F : List (List Int32)) (k p : Nat), p < pre F k → atF (F.take k) p = atF F p
  | [], k, p, _ => by rw [List.take_nil]
  | a :: F, 0, p, h => absurd h (Nat.not_lt_zero _)
  | a :: F, k + 1, p, h => by
    unfold pre at h
    rw [List.take_succ_cons, tot] at h
    rw [List.take_succ_cons, atF, atF]
    by_cases e : p < a.length
    · rw [if_pos e, if_pos e]
    · rw [if_neg e, if_neg e]
      exact atF_take F k (p - a.length) (by unfold pre; omega)
/-- how many chunks a place needs -/
def cfG (F : List (List Int32)) (p : Nat) : Nat → Nat → Nat
  | 0, k => k
  | m + 1, k => if k < F.length ∧ pre F k ≤ p then cfG F p m (k + 1) else k
def cf (F : List (List Int32)) (p : Nat) : Nat := cfG F p F.length 1
theorem cfG_sp {F : List (List Int32)} {p : Nat} : ∀ m k, F.length ≤ m + k → (∀ j, 1 ≤ j → j < k → pre F j ≤ p) → k ≤ cfG F p m k ∧ (∀ j, 1 ≤ j → j < cfG F p m k → pre F j ≤ p) ∧ (cfG F p m k < F.length → p < pre F (cfG F p m k)) ∧ (k ≤ F.length → cfG F p m k ≤ F.length) := by
  intro m
  induction m with
  | zero =>
    intro k hk hj
    exact ⟨Nat.le_refl _, hj, fun h => by unfold cfG at h; omega, fun h => h⟩
  | succ m ih =>
    intro k hk hj
    rw [cfG]
    by_cases e : k < F.length ∧ pre F k ≤ p
    · rw [if_pos e]
      obtain ⟨a1, a2, a3, a4⟩ := ih (k + 1) (by omega) (fun j h1 h2 => by
        by_cases ej : j = k
        · rw [ej]; exact e.2
        · exact hj j h1 (by omega))
      exact ⟨by omega, a2, a3, fun _ => a4 (by omega)⟩
    · rw [if_neg e]
      exact ⟨Nat.le_refl _, hj, fun h => by
        by_cases h2 : pre F k ≤ p
        · exact absurd ⟨h, h2⟩ e
        · omega, fun h => h⟩
section CFS
variable {F : List (List Int32)} {p k : Nat}
theorem cf_1 : 1 ≤ cf F p := (cfG_sp F.length 1 (by omega) (fun j _ _ => by omega)).1
theorem cf_lt {j : Nat} (h1 : 1 ≤ j) (h2 : j < cf F p) : pre F j ≤ p := (cfG_sp F.length 1 (by omega) (fun j _ _ => by omega)).2.1 j h1 h2
theorem cf_gt (h : p < tot F) : p < pre F (cf F p) := by
  by_cases e : cf F p < F.length
  · exact (cfG_sp F.length 1 (by omega) (fun j _ _ => by omega)).2.2.1 e
  · rw [pre_all (by omega)]; exact h
theorem tot_pos (h : p < tot F) : 1 ≤ F.length := by
  cases F with
  | nil => exact absurd h (Nat.not_lt_zero _)
  | cons a l => simp
theorem cf_le (h : p < tot F) : cf F p ≤ F.length := (cfG_sp F.length 1 (by omega) (fun j _ _ => by omega)).2.2.2 (tot_pos h)
theorem cf_of (h : p < pre F k) : cf F p ≤ k := by
  rcases Nat.lt_or_ge k (cf F p) with e | e
  · rcases Nat.eq_zero_or_pos k with z | z
    · rw [z] at h; exact absurd h (Nat.not_lt_zero _)
    · have := cf_lt z e; omega
  · exact e
theorem cf_mono {q : Nat} (h : p ≤ q) (hq : q < tot F) : cf F p ≤ cf F q := cf_of (Nat.lt_of_le_of_lt h (cf_gt hq))
end CFS
/-! a sequence: what it is made of; all its chunks; whether one would divide by 0 behind them; how many are realised; the capacity of its list -/
abbrev QIS : Type := OFS × List (List Int32) × Bool × Nat × Nat
abbrev q_o (x : QIS) : OFS := x.1
abbrev q_F (x : QIS) : List (List Int32) := x.2.1
abbrev q_B (x : QIS) : Bool := x.2.2.1
abbrev q_rc (x : QIS) : Nat := x.2.2.2.1
abbrev q_cp (x : QIS) : Nat := x.2.2.2.2
abbrev q_w (x : QIS) : Int32 := OF_way (q_o x)
abbrev sN (x : QIS) : Nat := (OF_src (q_o x)).toNatClampNeg
abbrev nN (x : QIS) : Nat := (OF_num (q_o x)).toNatClampNeg
/-- the sequence s has at least k chunks realised, and the others what that needs -/
def rs0 (x : Nat → QIS) : Nat → Nat → Nat → (Nat → Nat) → Nat → Nat
  | 0, _, _, r => r
  | f + 1, s, k, r => (fun r1 => va_up r1 s (max (r1 s) k)) (if q_w (x s) = nI 114 then r else if q_w (x s) = nI 116 then (if k = 0 then r else rs0 x f (sN (x s)) (cf (q_F (x (sN (x s)))) (k - 1)) r) else rs0 x f (sN (x s)) k r)
/-- all chunks are realised, and the end is seen -/
def rs1 (x : Nat → QIS) : Nat → Nat → (Nat → Nat) → Nat → Nat
  | 0, _, r => r
  | f + 1, s, r => (fun r1 => va_up r1 s (max (r1 s) (q_F (x s)).length)) (if q_w (x s) = nI 114 then r else if q_w (x s) = nI 116 ∧ nN (x s) ≤ tot (q_F (x (sN (x s)))) then (if (q_F (x s)).length = 0 then r else rs0 x f (sN (x s)) (cf (q_F (x (sN (x s)))) ((q_F (x s)).length - 1)) r) else rs1 x f (sN (x s)) r)
/-- what was realised when one would divide by 0 -/
def bk0 (x : Nat → QIS) : Nat → Nat → (Nat → Nat) → Nat → Nat
  | 0, _, r => r
  | f + 1, s, r => (fun r1 => va_up r1 s (max (r1 s) (q_F (x s)).length)) (if q_w (x s) = nI 114 then r else if q_w (x s) ≠ nI 116 ∧ (q_F (x s)).length < (q_F (x (sN (x s)))).length then rs0 x f (sN (x s)) ((q_F (x s)).length + 1) r else bk0 x f (sN (x s)) r)
def hz : List Int32 → Bool
  | [] => false
  | a :: l => decide (a = nI 0) || hz l
/-- by 'k', an element stays or doesn't; what becomes of one -/
def kp (w m e : Int32) : Bool := if w = nI 107 then decide (e - e / m * m = nI 0) else true
def fnq (w m e : Int32) : Int32 := if w = nI 97 then e + m else if w = nI 100 then m / e else e
def chF (w m : Int32) (c : List Int32) : List Int32 := (c.filter (kp w m)).map (fnq w m)
/-- what is so between a sequence and its source -/
def qSrc (x : Nat → QIS) (s : Nat) : Prop := sN (x s) < s ∧ OF_src (q_o (x s)) = nI (sN (x s)) ∧
  ((q_w (x s) = nI 116 ∧ OF_num (q_o (x s)) = nI (nN (x s)) ∧ nN (x s) ≤ 99 ∧ (q_F (x s)).length = min (nN (x s)) (tot (q_F (x (sN (x s))))) ∧ (∀ j, j < (q_F (x s)).length → (q_F (x s)).getD j [] = [atF (q_F (x (sN (x s)))) j]) ∧ q_B (x s) = (q_B (x (sN (x s))) && decide (tot (q_F (x (sN (x s)))) < nN (x s)))) ∨
   ((q_w (x s) = nI 97 ∨ q_w (x s) = nI 100 ∨ q_w (x s) = nI 107) ∧ (q_w (x s) = nI 107 → 1 ≤ (OF_num (q_o (x s))).toInt) ∧ (q_F (x s)).length ≤ (q_F (x (sN (x s)))).length ∧ (∀ j, j < (q_F (x s)).length → (q_F (x s)).getD j [] = chF (q_w (x s)) (OF_num (q_o (x s))) ((q_F (x (sN (x s)))).getD j []) ∧ (q_w (x s) = nI 100 → hz ((q_F (x (sN (x s)))).getD j []) = false)) ∧
    ((q_F (x s)).length < (q_F (x (sN (x s)))).length → q_w (x s) = nI 100 ∧ hz ((q_F (x (sN (x s)))).getD (q_F (x s)).length []) = true ∧ q_B (x s) = true) ∧ ((q_F (x s)).length = (q_F (x (sN (x s)))).length → q_B (x s) = q_B (x (sN (x s))))))
def qRng (x : Nat → QIS) (s : Nat) : Prop := q_w (x s) = nI 114 ∧ q_B (x s) = false ∧ ∃ m, m ≤ 24 ∧ OF_mny (q_o (x s)) = nI m ∧ (q_F (x s)).length = (m + 3) / 4 ∧ ∀ j, j < (q_F (x s)).length → (q_F (x s)).getD j [] = (List.range (min (m - 4 * j) 4)).map (fun k => OF_num (q_o (x s)) + OF_stp (q_o (x s)) * nI (4 * j + k))
def qW (x : Nat → QIS) (s : Nat) : Prop := (q_F (x s)).length ≤ 24 ∧ tot (q_F (x s)) ≤ 24 ∧ (∀ c, c ∈ q_F (x s) → c.length ≤ 4) ∧ (qRng x s ∨ (q_w (x s) ≠ nI 114 ∧ qSrc x s))
def qI (x : Nat → QIS) (r : Nat → Nat) (s : Nat) : Prop := q_w (x s) = nI 114 ∨ ((q_w (x s) = nI 116 → r s ≤ pre (q_F (x (sN (x s)))) (r (sN (x s)))) ∧ (q_w (x s) ≠ nI 116 → r s ≤ r (sN (x s))))
def QV (n : Nat) (x : Nat → QIS) (r : Nat → Nat) : Prop := ∀ s, s < n → r s ≤ (q_F (x s)).length ∧ qI x r s
def QWs (n : Nat) (x : Nat → QIS) : Prop := ∀ s, s < n → qW x s
theorem vu_c {r : Nat → Nat} {a b v u : Nat} (h : a ≠ b) : va_up (va_up r a v) b u = va_up (va_up r b u) a v := by
  funext j
  rw [va_up_app, va_up_app, va_up_app, va_up_app]
  by_cases e : j = b
  · rw [if_pos e, if_neg (by omega), if_pos e]
  · rw [if_neg e, if_neg e]
theorem vu_d {r : Nat → Nat} {a v u : Nat} : va_up (va_up r a v) a u = va_up r a u := by
  funext j
  rw [va_up_app, va_up_app, va_up_app]
  by_cases e : j = a
  · rw [if_pos e, if_pos e]
  · rw [if_neg e, if_neg e, if_neg e]
theorem vu_i {r : Nat → Nat} {a v : Nat} (h : v = r a) : va_up r a v = r := by
  funext j
  rw [va_up_app]
  by_cases e : j = a
  · rw [if_pos e, e, h]
  · rw [if_neg e]
section PUR
variable {n : Nat} {x : Nat → QIS} (hW : QWs n x)
theorem qs_src {s : Nat} (hW : QWs n x) (hs : s < n) (h : q_w (x s) ≠ nI 114) : qSrc x s := (hW s hs).2.2.2.elim (fun z => absurd z.1 h) (fun z => z.2)
theorem qs_lt {s : Nat} (hW : QWs n x) (hs : s < n) (h : q_w (x s) ≠ nI 114) : sN (x s) < s := (qs_src hW hs h).1
/-- above s nothing changes; nothing sinks -/
theorem rs0_hi (hW : QWs n x) : ∀ f s k r j, s < n → s < j → rs0 x f s k r j = r j := by
  intro f
  induction f with
  | zero => intro s k r j _ _; rfl
  | succ f ih =>
    intro s k r j hs hj
    rw [rs0]
    show va_up _ s _ j = _
    rw [va_up_app, if_neg (by omega)]
    split
    · rfl
    · next h => have := qs_lt hW hs h; (repeat' split) <;> first | rfl | exact ih _ _ _ _ (by omega) (by omega)
theorem rs0_ge (hW : QWs n x) : ∀ f s k r j, s < n → r j ≤ rs0 x f s k r j := by
  intro f
  induction f with
  | zero => intro s k r j _; exact Nat.le_refl _
  | succ f ih =>
    intro s k r j hs
    rw [rs0]
    show r j ≤ va_up _ s _ j
    have key : ∀ r1 : Nat → Nat, r j ≤ r1 j → r j ≤ va_up r1 s (max (r1 s) k) j := fun r1 h => by
      rw [va_up_app]
      split
      · next e => rw [e] at h ⊢; exact Nat.le_trans h (Nat.le_max_left _ _)
      · exact h
    refine key _ ?_
    split
    · exact Nat.le_refl _
    · next h => have := qs_lt hW hs h; (repeat' split) <;> first | exact Nat.le_refl _ | exact ih _ _ _ _ (by omega)
theorem rs0_at (hW : QWs n x) {f s k : Nat} {r : Nat → Nat} (hs : s < n) : rs0 x (f + 1) s k r s = max (r s) k := by
  rw [rs0]
  show va_up _ s _ s = _
  rw [va_up_app, if_pos rfl]
  split
  · rfl
  · next h => have := qs_lt hW hs h; (repeat' split) <;> first | rfl | rw [rs0_hi hW _ _ _ _ _ (by omega) (by omega)]
theorem rs0_up (hW : QWs n x) : ∀ f s k r j v, s < n → s < j → rs0 x f s k (va_up r j v) = va_up (rs0 x f s k r) j v := by
  intro f
  induction f with
  | zero => intro s k r j v _ _; rfl
  | succ f ih =>
    intro s k r j v hs hj
    have key : ∀ r1 : Nat → Nat, va_up (va_up r1 j v) s (max (va_up r1 j v s) k) = va_up (va_up r1 s (max (r1 s) k)) j v := fun r1 => by
      rw [va_up_app, if_neg (by omega), vu_c (by omega)]
    rw [rs0, rs0]
    show va_up _ s _ = va_up (va_up _ s _) j v
    split
    · exact key r
    · next h =>
      have := qs_lt hW hs h
      (repeat' split)
      · exact key r
      · rw [ih _ _ _ _ _ (by omega) (by omega)]; exact key _
      · rw [ih _ _ _ _ _ (by omega) (by omega)]; exact key _
/-- what is there needs nothing -/
theorem rs0_no (hW : QWs n x) : ∀ f s k r, s < n → QV n x r → k ≤ r s → rs0 x f s k r = r := by
  intro f
  induction f with
  | zero => intro s k r _ _ _; rfl
  | succ f ih =>
    intro s k r hs hV hk
    rw [rs0]
    have key : ∀ r1 : Nat → Nat, r1 = r → va_up r1 s (max (r1 s) k) = r := fun r1 e => by
      rw [e]; exact vu_i (Nat.max_eq_left hk)
    refine key _ ?_
    split
    · rfl
    · next h =>
      have h1 := qs_lt hW hs h
      have h2 := (hV s hs).2.elim (fun z => absurd z h) id
      split
      · next ht =>
        split
        · rfl
        · exact ih _ _ _ (by omega) hV (cf_of (by have := h2.1 ht; omega))
      · next ht => exact ih _ _ _ (by omega) hV (Nat.le_trans hk (h2.2 ht))
/-- more takes in less -/
theorem rs0_ab (hW : QWs n x) : ∀ f s k m r, s < n → k ≤ m → m ≤ (q_F (x s)).length → rs0 x f s m (rs0 x f s k r) = rs0 x f s m r := by
  intro f
  induction f with
  | zero => intro s k m r _ _ _; rfl
  | succ f ih =>
    intro s k m r hs hk hm
    have key : ∀ r1 : Nat → Nat, va_up (va_up r1 s (max (r1 s) k)) s (max (va_up r1 s (max (r1 s) k) s) m) = va_up r1 s (max (r1 s) m) := fun r1 => by
      rw [vu_d, va_up_app, if_pos rfl]; congr 1; omega
    by_cases h : q_w (x s) = nI 114
    · simp only [rs0, if_pos h]; exact key r
    · have h1 := qs_lt hW hs h
      have h2 := qs_src hW hs h
      by_cases ht : q_w (x s) = nI 116
      · have h3 : (q_F (x s)).length ≤ tot (q_F (x (sN (x s)))) := by
          rcases h2.2.2 with z | z
          · rw [z.2.2.2.1]; exact Nat.min_le_right _ _
          · rw [ht] at z; exact absurd z.1 (by decide)
        by_cases hk0 : k = 0
        · simp only [rs0, if_neg h, if_pos ht, if_pos hk0]
          have e0 : va_up r s (max (r s) k) = r := vu_i (by omega)
          rw [e0]
        · have hm0 : ¬ m = 0 := by omega
          simp only [rs0, if_neg h, if_pos ht, if_neg hk0, if_neg hm0]
          rw [rs0_up hW _ _ _ _ _ _ (by omega) (by omega), ih _ _ _ _ (by omega) (cf_mono (by omega) (by omega)) (cf_le (by omega))]
          rw [vu_d, va_up_app, if_pos rfl]
          congr 1
          rw [rs0_hi hW _ _ _ _ _ (by omega) (by omega), rs0_hi hW _ _ _ _ _ (by omega) (by omega)]
          omega
      · have h3 : (q_F (x s)).length ≤ (q_F (x (sN (x s)))).length := by
          rcases h2.2.2 with z | z
          · exact absurd z.1 ht
          · exact z.2.2.1
        simp only [rs0, if_neg h, if_neg ht]
        rw [rs0_up hW _ _ _ _ _ _ (by omega) (by omega), ih _ _ _ _ (by omega) hk (by omega)]
        rw [vu_d, va_up_app, if_pos rfl]
        congr 1
        rw [rs0_hi hW _ _ _ _ _ (by omega) (by omega), rs0_hi hW _ _ _ _ _ (by omega) (by omega)]
        omega
/-- fuel enough is as good as any -/
theorem rs0_fu (hW : QWs n x) : ∀ s f g k r, s < n → s < f → s < g → rs0 x f s k r = rs0 x g s k r := by
  intro s
  induction s using Nat.strongRecOn with
  | _ s ih =>
    intro f g k r hs hf hg
    obtain ⟨f, rfl⟩ : ∃ f', f = f' + 1 := ⟨f - 1, by omega⟩
    obtain ⟨g, rfl⟩ : ∃ g', g = g' + 1 := ⟨g - 1, by omega⟩
    rw [rs0, rs0]
    by_cases h : q_w (x s) = nI 114
    · simp only [if_pos h]
    · have h1 := qs_lt hW hs h
      simp only [if_neg h]
      rw [ih _ h1 f g (cf (q_F (x (sN (x s)))) (k - 1)) r (by omega) (by omega) (by omega), ih _ h1 f g k r (by omega) (by omega) (by omega)]
/-- what holds between a sequence and its source goes on to hold -/
theorem qI_up {r : Nat → Nat} {s v : Nat} (hs : s < n) (hW : QWs n x) (hV : QV n x r) (hv : r s ≤ v) (hl : v ≤ (q_F (x s)).length) (hi : q_w (x s) = nI 114 ∨ ((q_w (x s) = nI 116 → v ≤ pre (q_F (x (sN (x s)))) (r (sN (x s)))) ∧ (q_w (x s) ≠ nI 116 → v ≤ r (sN (x s))))) : QV n x (va_up r s v) := by
  intro t ht
  have hge : ∀ j, r j ≤ va_up r s v j := fun j => by
    rw [va_up_app]; split
    · next e => rw [e]; exact hv
    · exact Nat.le_refl _
  by_cases e : t = s
  · subst e
    refine ⟨by rw [va_up_app, if_pos rfl]; exact hl, ?_⟩
    rcases hi with h | h
    · exact Or.inl h
    · by_cases hR : q_w (x t) = nI 114
      · exact Or.inl hR
      · have h1 := qs_lt hW ht hR
        refine Or.inr ⟨fun z => ?_, fun z => ?_⟩
        · rw [va_up_app, if_pos rfl, va_up_app, if_neg (by omega)]; exact h.1 z
        · rw [va_up_app, if_pos rfl, va_up_app, if_neg (by omega)]; exact h.2 z
  · refine ⟨by rw [va_up_app, if_neg e]; exact (hV t ht).1, ?_⟩
    rcases (hV t ht).2 with h | h
    · exact Or.inl h
    · refine Or.inr ⟨fun z => ?_, fun z => ?_⟩
      · rw [va_up_app, if_neg e]; exact Nat.le_trans (h.1 z) (pre_mono (hge _))
      · rw [va_up_app, if_neg e]; exact Nat.le_trans (h.2 z) (hge _)
theorem rs0_V (hW : QWs n x) : ∀ s f k r, s < n → s < f → QV n x r → k ≤ (q_F (x s)).length → QV n x (rs0 x f s k r) := by
  intro s
  induction s using Nat.strongRecOn with
  | _ s ih =>
    intro f k r hs hf hV hk
    obtain ⟨f, rfl⟩ : ∃ f', f = f' + 1 := ⟨f - 1, by omega⟩
    rw [rs0]
    have hrs := (hV s hs).1
    by_cases h : q_w (x s) = nI 114
    · simp only [if_pos h]
      exact qI_up hs hW hV (Nat.le_max_left _ _) (Nat.max_le.mpr ⟨hrs, hk⟩) (Or.inl h)
    · have h1 := qs_lt hW hs h
      have h2 := qs_src hW hs h
      have hVs := (hV s hs).2.elim (fun z => absurd z h) id
      obtain ⟨f, rfl⟩ : ∃ f', f = f' + 1 := ⟨f - 1, by omega⟩
      by_cases ht : q_w (x s) = nI 116
      · have h3 : (q_F (x s)).length ≤ tot (q_F (x (sN (x s)))) := by
          rcases h2.2.2 with z | z
          · rw [z.2.2.2.1]; exact Nat.min_le_right _ _
          · rw [ht] at z; exact absurd z.1 (by decide)
        simp only [if_neg h, if_pos ht]
        by_cases hk0 : k = 0
        · simp only [if_pos hk0]
          exact qI_up hs hW hV (Nat.le_max_left _ _) (Nat.max_le.mpr ⟨hrs, hk⟩) (Or.inr ⟨fun _ => Nat.max_le.mpr ⟨hVs.1 ht, by omega⟩, fun z => absurd ht z⟩)
        · simp only [if_neg hk0]
          have hV1 := ih _ h1 (f + 1) (cf (q_F (x (sN (x s)))) (k - 1)) r (by omega) (by omega) hV (cf_le (by omega))
          have e1 := rs0_hi hW (f + 1) (sN (x s)) (cf (q_F (x (sN (x s)))) (k - 1)) r s (by omega) h1
          have e2 := rs0_at hW (f := f) (s := sN (x s)) (k := cf (q_F (x (sN (x s)))) (k - 1)) (r := r) (by omega)
          have g1 := cf_gt (F := q_F (x (sN (x s)))) (p := k - 1) (by omega)
          refine qI_up hs hW hV1 (Nat.le_max_left _ _) (by rw [e1]; exact Nat.max_le.mpr ⟨hrs, hk⟩) (Or.inr ⟨fun _ => ?_, fun z => absurd ht z⟩)
          rw [e1, e2]
          have m1 := pre_mono (F := q_F (x (sN (x s)))) (Nat.le_max_left (r (sN (x s))) (cf (q_F (x (sN (x s)))) (k - 1)))
          have m2 := pre_mono (F := q_F (x (sN (x s)))) (Nat.le_max_right (r (sN (x s))) (cf (q_F (x (sN (x s)))) (k - 1)))
          have m3 := hVs.1 ht
          exact Nat.max_le.mpr ⟨by omega, by omega⟩
      · have h3 : (q_F (x s)).length ≤ (q_F (x (sN (x s)))).length := by
          rcases h2.2.2 with z | z
          · exact absurd z.1 ht
          · exact z.2.2.1
        simp only [if_neg h, if_neg ht]
        have hV1 := ih _ h1 (f + 1) k r (by omega) (by omega) hV (by omega)
        have e1 := rs0_hi hW (f + 1) (sN (x s)) k r s (by omega) h1
        have e2 := rs0_at hW (f := f) (s := sN (x s)) (k := k) (r := r) (by omega)
        refine qI_up hs hW hV1 (Nat.le_max_left _ _) (by rw [e1]; exact Nat.max_le.mpr ⟨hrs, hk⟩) (Or.inr ⟨fun z => absurd z ht, fun _ => ?_⟩)
        rw [e1, e2]
        have m3 := hVs.2 ht
        exact Nat.max_le.mpr ⟨by omega, by omega⟩
end PUR
