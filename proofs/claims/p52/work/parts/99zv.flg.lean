/-! What every call keeps of the state alone: flags and log, bounds, room. -/
abbrev fl (y : OTS) : Nat := cgN y 6 0
theorem cgN_c {y z : OTS} : ∀ m r, (∀ j, r ≤ j → j < r + m → chg y j = chg z j) → cgN y m r = cgN z m r := by
  intro m
  induction m with
  | zero => intro r _; rfl
  | succ m ih => intro r h; rw [cgN, cgN, h r (Nat.le_refl _) (by omega), ih (r + 1) (fun j h1 h2 => h j (by omega) (by omega))]
theorem cgN_z {y : OTS} : ∀ m r, (∀ j, r ≤ j → j < r + m → chg y j = false) → cgN y m r = 0 := by
  intro m
  induction m with
  | zero => intro r _; rfl
  | succ m ih => intro r h; rw [cgN, h r (Nat.le_refl _) (by omega), if_neg Bool.false_ne_true, ih (r + 1) (fun j h1 h2 => h j (by omega) (by omega))]
theorem cgN_s {y z : OTS} {q : Nat} (h : ∀ j, j ≠ q → chg y j = chg z j) : ∀ m r, cgN y m r ≤ cgN z m r + (if r ≤ q then 1 else 0) := by
  intro m
  induction m with
  | zero => intro r; exact Nat.zero_le _
  | succ m ih =>
    intro r
    have i1 := ih (r + 1)
    rw [cgN, cgN]
    by_cases e : r = q
    · subst e
      rw [if_pos (Nat.le_refl _)]
      rw [if_neg (by omega)] at i1
      split <;> split <;> omega
    · rw [h r e]
      by_cases e2 : r ≤ q
      · rw [if_pos e2]; rw [if_pos (by omega)] at i1; omega
      · rw [if_neg e2]; rw [if_neg (by omega)] at i1; omega
theorem fl_1 {y z : OTS} {q : Nat} (h : ∀ j, j ≠ q → chg y j = chg z j) : fl y ≤ fl z + 1 := by
  have := cgN_s h 6 0
  rw [if_pos (Nat.zero_le _)] at this
  exact this
theorem fl_fgt {y : OTS} : fl (fgt y) = 0 := cgN_z 6 0 (fun j _ hj => by
  show (fgB 6 (OT_wr y) j || fgB 6 (OT_ad y) j) = false
  unfold fgB
  rw [if_pos (by omega), if_pos (by omega)]
  rfl)
theorem fl_sbk {y : OTS} {m : Nat} : fl (sbk y m) = 0 := (cgN_c (y := sbk y m) (z := fgt y) 6 0 (fun _ _ _ => rfl)).trans fl_fgt
theorem flg_e {S : RS} {t : Nat} {y : OTS} (ht : t < 3) : flg (RS_utt1 S t y) + fl (RS_tt S t) = flg S + fl y := by
  have e : ∀ j, RS_tt (RS_utt1 S t y) j = if j = t then y else RS_tt S j := fun j => va_up_app
  unfold flg fl
  rw [e 0, e 1, e 2]
  have : t = 0 ∨ t = 1 ∨ t = 2 := by omega
  rcases this with q | q | q
  · subst q; rw [if_pos rfl, if_neg (by decide), if_neg (by decide)]; omega
  · subst q; rw [if_neg (by decide), if_pos rfl, if_neg (by decide)]; omega
  · subst q; rw [if_neg (by decide), if_neg (by decide), if_pos rfl]; omega
theorem flg_o {S : RS} {t : Nat} {y : OTS} (ht : ¬ t < 3) : flg (RS_utt1 S t y) = flg S := by
  have e : ∀ j, RS_tt (RS_utt1 S t y) j = if j = t then y else RS_tt S j := fun j => va_up_app
  unfold flg
  rw [e 0, e 1, e 2, if_neg (by omega), if_neg (by omega), if_neg (by omega)]
theorem flg_u {S : RS} {t k : Nat} {y : OTS} (h : fl y ≤ fl (RS_tt S t) + k) : flg (RS_utt1 S t y) ≤ flg S + k := by
  by_cases ht : t < 3
  · have := flg_e (S := S) (y := y) ht; omega
  · rw [flg_o ht]; omega
theorem gos_lg {t r : Nat} {e : Bool} {m : Nat} {S : RS} : RS_lg (gos t r e m S).2 = RS_lg S := by
  obtain ⟨f, hf⟩ := gos_utt t r e m S
  rw [hf]
theorem gos_fl {t r : Nat} {e : Bool} (ht : t < 3) : ∀ m S, m ≤ 3 → flg (gos t r e m S).2 + (if (gos t r e m S).1 = true then 0 else fl (RS_tt S t)) ≤ flg S := by
  intro m
  induction m with
  | zero => intro S _; exact Nat.le_refl _
  | succ m ih =>
    intro S hm
    rw [gos]
    split
    · next c =>
      split
      · have h1 := flg_e (S := S) (y := sbk (RS_tt S t) (RS_mo S)) ht
        have h2 : fl (sbk (RS_tt S t) (RS_mo S)) = 0 := fl_sbk
        rw [if_neg (show ¬ (false, RS_utt1 S t (sbk (RS_tt S t) (RS_mo S))).1 = true from Bool.false_ne_true)]
        show flg (RS_utt1 S t (sbk (RS_tt S t) (RS_mo S))) + fl (RS_tt S t) ≤ flg S
        omega
      · have h1 := ih (RS_utt1 S (2 - m) (sbk (RS_tt S (2 - m)) (RS_mo S))) (by omega)
        have h2 := flg_e (S := S) (t := 2 - m) (y := sbk (RS_tt S (2 - m)) (RS_mo S)) (by omega)
        have h3 : RS_tt (RS_utt1 S (2 - m) (sbk (RS_tt S (2 - m)) (RS_mo S))) t = RS_tt S t := va_up_ne _ _ (fun z => c.1.1 z.symm)
        have h4 : fl (sbk (RS_tt S (2 - m)) (RS_mo S)) = 0 := fl_sbk
        rw [h3] at h1
        exact Nat.le_trans h1 (by omega)
    · exact ih S (by omega)
theorem gos_le {t r : Nat} {e : Bool} {S : RS} : flg (gos t r e 3 S).2 ≤ flg S := by
  have : ∀ m S, flg (gos t r e m S).2 ≤ flg S := by
    intro m
    induction m with
    | zero => intro S; exact Nat.le_refl _
    | succ m ih =>
      intro S
      rw [gos]
      split
      · split
        · exact flg_u (k := 0) (by rw [fl_sbk]; exact Nat.zero_le _)
        · exact Nat.le_trans (ih _) (flg_u (k := 0) (by rw [fl_sbk]; exact Nat.zero_le _))
      · exact ih S
  exact this 3 S
theorem cmA_fl {t : Nat} (ht : t < 3) : ∀ m r S, flg (cmA t m r S).2 + (if (cmA t m r S).1 = true then 0 else fl (RS_tt S t)) ≤ flg S := by
  intro m
  induction m with
  | zero => intro r S; exact Nat.le_refl _
  | succ m ih =>
    intro r S
    rw [cmA]
    split
    · have g := gos_fl (r := r) (e := true) ht 3 S (Nat.le_refl _)
      split
      · next c2 =>
        rw [c2, if_neg Bool.false_ne_true] at g
        exact g
      · next c2 =>
        have c3 : (gos t r true 3 S).1 = true := by revert c2; cases (gos t r true 3 S).1 <;> simp
        have h1 := ih (r + 1) (gos t r true 3 S).2
        rw [gos_t 3 S c3] at h1
        rw [c3, if_pos rfl] at g
        exact Nat.le_trans h1 g
    · exact ih (r + 1) S
theorem cmC_lg {t : Nat} {y : OTS} : ∀ m r S, RS_tt S t = y → (RS_lg (cmC t m r S)).length = (RS_lg S).length + cgN y m r := by
  intro m
  induction m with
  | zero => intro r S _; rfl
  | succ m ih =>
    intro r S hy
    rw [cmC, cgN, hy]
    by_cases e : chg y r = true
    · rw [if_pos e, if_pos e]
      refine (ih (r + 1) _ ?_).trans ?_
      · exact hy
      show (RS_lg S ++ [_]).length + _ = _
      rw [List.length_append]
      show (RS_lg S).length + 1 + _ = _
      omega
    · rw [if_neg e, if_neg e, ih (r + 1) S hy]
      omega
/-- log and flags grow by one a call at most -/
def LFS (R R' : RS) : Prop := (RS_lg R').length + flg R' ≤ (RS_lg R).length + flg R + 1 ∧ flg R' ≤ flg R + 1
theorem LFS.rf {R : RS} : LFS R R := ⟨by omega, by omega⟩
theorem LFS.of {R R' : RS} (h1 : RS_lg R' = RS_lg R) (h2 : flg R' ≤ flg R + 1) : LFS R R' := ⟨by rw [h1]; omega, h2⟩
theorem f_begin {R : RS} {v : Int32} {t : Nat} : LFS R (o_begin R v t).2.2 := by
  unfold o_begin
  (repeat' split)
  · exact .rf
  · exact .rf
  · exact .of rfl (flg_u (S := R) (k := 1) (by rw [fl_fgt]; exact Nat.zero_le _))
theorem f_end {R : RS} {v : Int32} {t : Nat} : LFS R (o_end R v t).2.2 := by
  unfold o_end
  (repeat' split)
  · exact .rf
  · exact .rf
  · exact .of rfl (flg_u (S := R) (k := 1) (by rw [fl_fgt]; exact Nat.zero_le _))
theorem f_write {R : RS} {v u x : Int32} {t r : Nat} : LFS R (o_write R v t u r x).2.2 := by
  unfold o_write
  (repeat' split)
  · exact .rf
  · exact .rf
  · exact .rf
  · exact .rf
  · exact .of rfl (flg_u (S := R) (k := 1) (by rw [fl_sbk]; exact Nat.zero_le _))
  · exact .of gos_lg (Nat.le_trans gos_le (Nat.le_succ _))
  · refine .of (gos_lg (S := R)) (Nat.le_trans (flg_u (k := 1) ?_) (Nat.succ_le_succ (gos_le (S := R))))
    refine fl_1 (q := r) (fun j hj => ?_)
    show (va_up (OT_wr (RS_tt (gos t r true 3 R).2 t)) r true j || OT_ad (RS_tt (gos t r true 3 R).2 t) j) = _
    rw [va_up_ne _ _ hj]
    rfl
theorem f_ensure {R : RS} {v u : Int32} {t r : Nat} : LFS R (o_ensure R v t u r).2.2 := by
  unfold o_ensure
  (repeat' split)
  · exact .rf
  · exact .rf
  · exact .rf
  · exact .of rfl (flg_u (S := R) (k := 1) (by rw [fl_sbk]; exact Nat.zero_le _))
  · exact .of gos_lg (Nat.le_trans gos_le (Nat.le_succ _))
  · refine .of (gos_lg (S := R)) (Nat.le_trans (flg_u (k := 1) ?_) (Nat.succ_le_succ (gos_le (S := R))))
    exact fl_1 (q := r) (fun j hj => rfl)
theorem f_add {R : RS} {v u y : Int32} {t r : Nat} : LFS R (o_add R v t u r y).2.2 := by
  unfold o_add
  (repeat' split)
  · exact .rf
  · exact .rf
  · exact .rf
  · exact .rf
  · exact .of rfl (flg_u (S := R) (k := 1) (fl_1 (q := r) (fun j hj => rfl)))
  · refine .of rfl (flg_u (S := R) (k := 1) (fl_1 (q := r) (fun j hj => ?_)))
    show (OT_wr (RS_tt R t) j || va_up (OT_ad (RS_tt R t)) r true j) = _
    rw [va_up_ne _ _ hj]
    rfl
theorem f_read {R : RS} {v u : Int32} {t r : Nat} : LFS R (o_read R v t u r).2.2 := by
  unfold o_read
  (repeat' split) <;> first | exact .rf | exact .of rfl (flg_u (S := RS_urr1 R r _) (k := 1) (by rw [fl_sbk]; exact Nat.zero_le _))
theorem f_send {R : RS} {v w z : Int32} {t a : Nat} : LFS R (o_send R v t w a z).2.2 := by
  unfold o_send
  (repeat' split)
  · exact .rf
  · exact .rf
  · exact .rf
  · exact .of rfl (Nat.le_succ _)
  · exact .of rfl (flg_u (S := R) (k := 1) (fl_1 (q := 0) (fun j hj => rfl)))
theorem f_act {R : RS} {w : Int32} {a : Nat} : LFS R (o_act R w a).2.2 := by
  unfold o_act
  (repeat' split) <;> first | exact .rf | exact .of rfl (Nat.le_succ _)
theorem f_beginAnew {R : RS} {w x : Int32} {a : Nat} : LFS R (o_beginAnew R w a x).2.2 := by
  unfold o_beginAnew
  (repeat' split) <;> first | exact .rf | exact .of rfl (Nat.le_succ _)
theorem f_addReference {R : RS} {v lo hi : Int32} : LFS R (o_addReference R v lo hi).2.2 := by
  unfold o_addReference
  (repeat' split) <;> first | exact .rf | exact .of rfl (Nat.le_succ _)
theorem f_addAgent {R : RS} {v lo hi md : Int32} : LFS R (o_addAgent R v lo hi md).2.2 := by
  unfold o_addAgent
  (repeat' split) <;> first | exact .rf | exact .of rfl (Nat.le_succ _)
theorem r_sentBack {R : RS} {v : Int32} {t : Nat} : (o_sentBack R v t).2.2 = R := by
  unfold o_sentBack
  (repeat' split) <;> rfl
theorem r_valueOf {R : RS} {v : Int32} {t : Nat} : (o_valueOf R v t).2.2 = R := by
  unfold o_valueOf
  (repeat' split) <;> rfl
theorem r_history {R : RS} {v : Int32} {t : Nat} : (o_history R v t).2.2 = R := by
  unfold o_history
  (repeat' split) <;> rfl
theorem r_valueByLog {R : RS} {v : Int32} {t : Nat} : (o_valueByLog R v t).2.2 = R := by
  unfold o_valueByLog
  (repeat' split) <;> rfl
theorem r_errors {R : RS} {v : Int32} {t : Nat} : (o_errors R v t).2.2 = R := by
  unfold o_errors
  (repeat' split) <;> rfl
theorem r_logAt {R : RS} {v y : Int32} {t j : Nat} : (o_logAt R v t y j).2.2 = R := by
  unfold o_logAt
  (repeat' split) <;> rfl
theorem r_depth {V : SV} {v : Int32} {k : Nat} : (o_depth V v k).2.2 = V := by
  unfold o_depth
  (repeat' split) <;> rfl
theorem r_isOpen {V : SV} {v : Int32} {k : Nat} : (o_isOpen V v k).2.2 = V := by
  unfold o_isOpen
  (repeat' split) <;> rfl
theorem r_get {V : SV} {v w : Int32} {k j : Nat} : (o_get V v k w j).2.2 = V := by
  unfold o_get
  (repeat' split) <;> rfl
theorem r_levelOf {V : SV} {v w : Int32} {k j : Nat} : (o_levelOf V v k w j).2.2 = V := by
  unfold o_levelOf
  (repeat' split) <;> rfl
theorem r_size {V : SV} {v : Int32} {k : Nat} : (o_size V v k).2.2 = V := by
  unfold o_size
  (repeat' split) <;> rfl
theorem r_nodes {V : SV} {v : Int32} {k : Nat} : (o_nodes V v k).2.2 = V := by
  unfold o_nodes
  (repeat' split) <;> rfl
theorem r_shared {V : SV} {v w : Int32} {k j : Nat} : (o_shared V v k w j).2.2 = V := by
  unfold o_shared
  (repeat' split) <;> rfl
theorem r_areSame {V : SV} {v w : Int32} {k j : Nat} : (o_areSame V v k w j).2.2 = V := by
  unfold o_areSame
  (repeat' split) <;> rfl
theorem r_realised {n : Nat} {x : Nat → QIS} {u : Int32} {s : Nat} : (o_realised n x u s).2.2 = (n, x) := by
  unfold o_realised
  (repeat' split) <;> rfl
theorem r_chunks {n : Nat} {x : Nat → QIS} {u : Int32} {s : Nat} : (o_chunks n x u s).2.2 = (n, x) := by
  unfold o_chunks
  (repeat' split) <;> rfl
/-- commit: log and flags don't grow; what is changed is cleared -/
theorem f_commit {R : RS} {v : Int32} {t : Nat} (ht : t < 3) (h6 : RS_rn R ≤ 6) : (RS_lg (o_commit R v t).2.2).length + flg (o_commit R v t).2.2 ≤ (RS_lg R).length + flg R ∧ ((o_commit R v t).1 = nI 0 → flg (o_commit R v t).2.2 + cgN (RS_tt R t) (RS_rn R) 0 ≤ flg R) ∧ flg (o_commit R v t).2.2 ≤ flg R := by
  have hle : cgN (RS_tt R t) (RS_rn R) 0 ≤ fl (RS_tt R t) := cgN_le (y := RS_tt R t) (RS_rn R) 6 0 h6
  have hA := cmA_fl ht (RS_rn R) 0 R
  have hs := cmA_s (t := t) (RS_rn R) 0 R
  unfold o_commit
  split
  · exact ⟨Nat.le_refl _, fun z => absurd (show nI 1 = nI 0 from z) (by decide), Nat.le_refl _⟩
  · split
    · exact ⟨Nat.le_refl _, fun z => absurd (show nI 2 = nI 0 from z) (by decide), Nat.le_refl _⟩
    · split
      · next c =>
        rw [c, if_neg Bool.false_ne_true] at hA
        refine ⟨?_, fun _ => ?_, ?_⟩
        · show (RS_lg (cmA t (RS_rn R) 0 R).2).length + _ ≤ _
          rw [hs.2]
          show _ + flg (cmA t (RS_rn R) 0 R).2 ≤ _
          omega
        · show flg (cmA t (RS_rn R) 0 R).2 + _ ≤ _
          omega
        · show flg (cmA t (RS_rn R) 0 R).2 ≤ _
          omega
      · next c =>
        have c3 : (cmA t (RS_rn R) 0 R).1 = true := by revert c; cases (cmA t (RS_rn R) 0 R).1 <;> simp
        have hT := cmA_t (RS_rn R) 0 R c3
        rw [c3, if_pos rfl] at hA
        generalize hZ : (cmA t (RS_rn R) 0 R).2 = Z at hA hs hT
        split
        · have h1 := flg_e (S := Z) (y := fgt (OT_uop (RS_tt Z t) false)) ht
          have h2 : fl (fgt (OT_uop (RS_tt Z t) false)) = 0 := fl_fgt
          rw [hT] at h1
          refine ⟨?_, fun _ => ?_, ?_⟩
          · show (RS_lg Z).length + flg (RS_utt1 Z t (fgt (OT_uop (RS_tt Z t) false))) ≤ _
            rw [hs.2]
            rw [hT] at h2 ⊢
            omega
          · show flg (RS_utt1 Z t (fgt (OT_uop (RS_tt Z t) false))) + _ ≤ _
            rw [hT] at h2 ⊢
            omega
          · show flg (RS_utt1 Z t (fgt (OT_uop (RS_tt Z t) false))) ≤ _
            rw [hT] at h2 ⊢
            omega
        · generalize (cmB Z t (RS_rn R) 0 false false).2 = b
          have E1 : RS_tt (cmE Z t b) t = OT_uop (RS_tt R t) false := by rw [cmE_tt, hT]
          have E2 : flg (cmE Z t b) ≤ flg Z := flg_u (S := Z) (k := 0) (by
            have : fl (OT_uop (RS_tt Z t) false) = fl (RS_tt Z t) := cgN_op 6 0
            omega)
          have C1 := cmC_lg (t := t) (y := OT_uop (RS_tt R t) false) (RS_rn R) 0 (cmE Z t b) E1
          obtain ⟨C2, -, -, -⟩ := cmC_tt (t := t) (m := RS_rn R) (r := 0) (S := cmE Z t b)
          rw [cgN_op] at C1
          have C3 : RS_lg (cmE Z t b) = RS_lg R := hs.2
          rw [C3] at C1
          generalize hY : cmC t (RS_rn R) 0 (cmE Z t b) = Y at C1 C2
          have F1 : flg Y ≤ flg Z := by
            have : flg Y = flg (cmE Z t b) := by unfold flg; rw [C2]
            omega
          have F2 : RS_tt Y t = OT_uop (RS_tt R t) false := by rw [C2]; exact E1
          have F3 := flg_e (S := cmG Y t) (t := t) (y := fgt (RS_tt (cmG Y t) t)) ht
          have F4 : fl (fgt (RS_tt (cmG Y t) t)) = 0 := fl_fgt
          have F5 : flg (cmG Y t) = flg Y := rfl
          have F6 : fl (RS_tt (cmG Y t) t) = fl (RS_tt R t) := by
            show fl (RS_tt Y t) = _
            rw [F2]
            exact cgN_op 6 0
          refine ⟨?_, fun _ => ?_, ?_⟩
          · show (RS_lg Y).length + flg (RS_utt1 (cmG Y t) t (fgt (RS_tt (cmG Y t) t))) ≤ _
            omega
          · show flg (RS_utt1 (cmG Y t) t (fgt (RS_tt (cmG Y t) t))) + _ ≤ _
            omega
          · show flg (RS_utt1 (cmG Y t) t (fgt (RS_tt (cmG Y t) t))) ≤ _
            omega
section PU
variable {c M M' n n' : Nat} {V V' : SV} {x x' : Nat → QIS} {R R' : RS}
/-- the room that is left, after c calls -/
def BUD (c n : Nat) (x : Nat → QIS) (R : RS) (bc bs : Nat) : Prop := 1170 * (512 - c) + 1128 ≤ bc + PC n x (rcx x) ∧ 13400 * (512 - c) + 2400 * flg R + 6000 ≤ bs + PS n x (rcx x)
theorem sumN_b {f : Nat → Nat} {a b : Nat} : ∀ n, (0 < n → f 0 ≤ a) → (∀ j, j < n → f j ≤ b) → sumN f n ≤ a + b * (n - 1) := by
  intro n
  induction n with
  | zero => intro _ _; exact Nat.zero_le _
  | succ n ih =>
    intro h0 h
    rw [sumN]
    rcases Nat.eq_zero_or_pos n with e | e
    · subst e
      have := h0 (by omega)
      show 0 + f 0 ≤ _
      omega
    · have i1 := ih (fun _ => h0 (by omega)) (fun j hj => h j (by omega))
      have i2 := h n (by omega)
      have e1 : b * (n + 1 - 1) = b * (n - 1) + b := by
        rw [show n + 1 - 1 = (n - 1) + 1 by omega, Nat.mul_succ]
      omega
theorem gNc_4 (k : Nat) : gNc k ≤ 4 := by unfold gNc; (repeat' split) <;> omega
theorem hNc_134 (k : Nat) : hNc k ≤ 134 := by unfold hNc; (repeat' split) <;> omega
theorem QX.f0 (H : QX n x) (h0 : 0 < n) : (q_F (x 0)).length ≤ 6 := by
  have hW := H.1.1 0 h0
  rcases hW.2.2.2 with g | g
  · obtain ⟨-, -, m, m1, -, m2, -⟩ := g
    omega
  · exact absurd g.2.1 (Nat.not_lt_zero _)
theorem sum4 (H : QX n x) {r : Nat → Nat} (hr : ∀ s, s < n → r s ≤ (q_F (x s)).length) {k : Nat} : sumN (fun j => k * r j) n ≤ k * 270 := by
  have hn := H.1.2.1
  have h1 := sumN_b (f := r) (a := 6) (b := 24) n (fun h0 => Nat.le_trans (hr 0 h0) (H.f0 h0)) (fun j hj => Nat.le_trans (hr j hj) (H.1.1 j hj).1)
  have h2 : sumN r n ≤ 270 := by
    have : 24 * (n - 1) ≤ 24 * 11 := Nat.mul_le_mul_left _ (by omega)
    omega
  have h3 : ∀ n, sumN (fun j => k * r j) n = k * sumN r n := by
    intro n
    induction n with
    | zero => rfl
    | succ n ih => rw [sumN, sumN, ih, Nat.mul_add]
  rw [h3]
  exact Nat.mul_le_mul_left _ h2
theorem sumN_a {f g : Nat → Nat} : ∀ n, sumN (fun j => f j + g j) n = sumN f n + sumN g n := by
  intro n
  induction n with
  | zero => rfl
  | succ n ih => rw [sumN, sumN, sumN, ih]; omega
/-- what is realised and taken back costs 1080 at most, the lists' growth apart -/
theorem PC_back (H : QX n x) {r : Nat → Nat} (hr : ∀ s, s < n → r s ≤ (q_F (x s)).length) : PC n x r ≤ PC n (gst x (rcx x) (capR x r)) (rcx x) + 1080 ∧ PS n x r ≤ PS n (gst x (rcx x) (capR x r)) (rcx x) + 4320 := by
  have h1 := sum4 H hr (k := 4)
  have h2 := sum4 H hr (k := 16)
  constructor
  · have := sumN_le (f := fun j => 4 * r j + gNc (capR x r j)) (g := fun j => (4 * rcx x j + gNc (capR (gst x (rcx x) (capR x r)) (rcx x) j)) + 4 * r j) n (fun j _ => by
      have := gNc_le (show capR x r j ≤ capR (gst x (rcx x) (capR x r)) (rcx x) j from Nat.le_max_left _ _)
      show 4 * r j + gNc (capR x r j) ≤ (4 * rcx x j + gNc (capR (gst x (rcx x) (capR x r)) (rcx x) j)) + 4 * r j
      omega)
    rw [sumN_a (f := fun j => 4 * rcx x j + gNc (capR (gst x (rcx x) (capR x r)) (rcx x) j)) (g := fun j => 4 * r j)] at this
    exact Nat.le_trans this (Nat.add_le_add_left h1 _)
  · have := sumN_le (f := fun j => 16 * r j + hNc (capR x r j)) (g := fun j => (16 * rcx x j + hNc (capR (gst x (rcx x) (capR x r)) (rcx x) j)) + 16 * r j) n (fun j _ => by
      have := hNc_le (show capR x r j ≤ capR (gst x (rcx x) (capR x r)) (rcx x) j from Nat.le_max_left _ _)
      show 16 * r j + hNc (capR x r j) ≤ (16 * rcx x j + hNc (capR (gst x (rcx x) (capR x r)) (rcx x) j)) + 16 * r j
      omega)
    rw [sumN_a (f := fun j => 16 * rcx x j + hNc (capR (gst x (rcx x) (capR x r)) (rcx x) j)) (g := fun j => 16 * r j)] at this
    exact Nat.le_trans this (Nat.add_le_add_left h2 _)
theorem PC_max (H : QX n x) {r : Nat → Nat} (hr : ∀ s, s < n → r s ≤ (q_F (x s)).length) : PC n x r ≤ 1128 ∧ PS n x r ≤ 5928 := by
  have h1 := sum4 H hr (k := 4)
  have h2 := sum4 H hr (k := 16)
  have hn := H.1.2.1
  have cb : ∀ m, m ≤ 12 → ∀ f : Nat → Nat, ∀ b, (∀ j, f j ≤ b) → sumN f m ≤ b * m := by
    intro m
    induction m with
    | zero => intro _ f b _; exact Nat.le_refl _
    | succ m ih =>
      intro hm f b hf
      have i1 := ih (by omega) f b hf
      have i2 := hf m
      rw [sumN, Nat.mul_succ]
      omega
  have a1 := cb n hn (fun j => gNc (capR x r j)) 4 (fun j => gNc_4 _)
  have a2 := cb n hn (fun j => hNc (capR x r j)) 134 (fun j => hNc_134 _)
  have e1 : PC n x r = sumN (fun j => 4 * r j) n + sumN (fun j => gNc (capR x r j)) n := sumN_a n
  have e2 : PS n x r = sumN (fun j => 16 * r j) n + sumN (fun j => hNc (capR x r j)) n := sumN_a n
  rw [e1, e2]
  omega
theorem PC_set {r : Nat → Nat} : PC n (setR x r) r = PC n x r ∧ PS n (setR x r) r = PS n x r := by
  have e : ∀ j, capR (setR x r) r j = capR x r j := fun j => by
    show max (max (q_cp (x j)) (cp (r j))) (cp (r j)) = max (q_cp (x j)) (cp (r j))
    omega
  constructor
  · exact sumN_c n (fun j _ => by rw [e j])
  · exact sumN_c n (fun j _ => by rw [e j])
theorem PC_new {q : QIS} (h0 : q_rc q = 0) (h1 : q_cp q = 0) : PC n x (rcx x) ≤ PC (n + 1) (va_up x n q) (rcx (va_up x n q)) ∧ PS n x (rcx x) ≤ PS (n + 1) (va_up x n q) (rcx (va_up x n q)) := by
  have e : ∀ j, j < n → va_up x n q j = x j := fun j hj => va_up_ne _ _ (by omega)
  constructor
  · show _ ≤ sumN _ n + _
    refine Nat.le_trans (Nat.le_of_eq ?_) (Nat.le_add_right _ _)
    exact sumN_c n (fun j hj => by show 4 * q_rc (x j) + gNc (max (q_cp (x j)) (cp (q_rc (x j)))) = 4 * q_rc (va_up x n q j) + gNc (max (q_cp (va_up x n q j)) (cp (q_rc (va_up x n q j)))); rw [e j hj])
  · show _ ≤ sumN _ n + _
    refine Nat.le_trans (Nat.le_of_eq ?_) (Nat.le_add_right _ _)
    exact sumN_c n (fun j hj => by show 16 * q_rc (x j) + hNc (max (q_cp (x j)) (cp (q_rc (x j)))) = 16 * q_rc (va_up x n q j) + hNc (max (q_cp (va_up x n q j)) (cp (q_rc (va_up x n q j)))); rw [e j hj])
end PU
