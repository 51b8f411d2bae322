/-! The law's helpers: each calls the class and says which exception it throws. -/
abbrev tn (v : Int32) : Nat := v.toNatClampNeg
theorem ix_tn {v : Int32} {n : Nat} (hn : n < 2 ^ 31) (h : ixB v n = true) : v = nI (tn v) ∧ tn v < n := by
  obtain ⟨k, hk, e⟩ := ixB_t hn h
  subst e
  rw [show tn (nI k) = k from nI_clamp (Nat.lt_trans hk hn)]
  exact ⟨rfl, hk⟩
theorem ix_t3 {v : Int32} (h : ixB v 3 = true) : v = nI (tn v % 3) ∧ tn v % 3 < 3 := by
  obtain ⟨a, b⟩ := ix_tn (by decide) h
  rw [Nat.mod_eq_of_lt b]
  exact ⟨a, b⟩
theorem in_tn {v : Int32} {m : Nat} (hm : m + 1 < 2 ^ 31) (h : inB v (nI 0) (nI m) = true) : v = nI (tn v) ∧ tn v < m + 1 := ix_tn hm (by
  rw [← ixB_n, ← nI_add, show nI m + nI 1 - nI 1 = nI m from Int32.add_sub_cancel _ _]; exact h)
theorem nn_tn {v : Int32} (h : ¬ v < 0) : v = nI (tn v) ∧ tn v < 2 ^ 31 := by
  have h1 : 0 ≤ v.toInt := Jvm.Kit.i32_nonneg.mp (Int32.not_lt.mp h)
  have h2 := Int32.toInt_lt v
  have e : tn v = v.toInt.toNat := rfl
  refine ⟨?_, by rw [e]; omega⟩
  apply Int32.toInt_inj.mp
  rw [nI_toInt (by rw [e]; omega), e]
  omega
/-- how many flags are set -/
def flg (R : RS) : Nat := cgN (RS_tt R 0) 6 0 + cgN (RS_tt R 1) 6 0 + cgN (RS_tt R 2) 6 0
def LF (c : Nat) (R : RS) : Prop := (RS_lg R).length + flg R ≤ c
theorem cgN_le {y : OTS} : ∀ m k r, m ≤ k → cgN y m r ≤ cgN y k r := by
  intro m
  induction m with
  | zero => intro k r _; exact Nat.zero_le _
  | succ m ih =>
    intro k r h
    obtain ⟨j, rfl⟩ : ∃ j, k = j + 1 := ⟨k - 1, by omega⟩
    rw [cgN, cgN]
    have := ih j (r + 1) (by omega)
    omega
theorem flg_t {R : RS} {t : Nat} (ht : t < 3) (h6 : RS_rn R ≤ 6) : cgN (RS_tt R t) (RS_rn R) 0 ≤ flg R := by
  have e := cgN_le (y := RS_tt R t) (RS_rn R) 6 0 h6
  have : t = 0 ∨ t = 1 ∨ t = 2 := by omega
  unfold flg
  rcases this with q | q | q <;> subst q <;> omega
section KST
variable {h h' h1 : Hp} {V V' : SV} {M M' n n' : Nat} {x x' : Nat → QIS} {R R' : RS}
theorem CLS.ofV (C : CLS h V M n x R) (F : FRV h h') (H : CV h' V' M') : CLS h' V' M' n x R := ⟨C.1.elim fun X a => ⟨X, a.1.frV F, a.2⟩, C.2.1.frV F, H⟩
theorem CLS.ofR {X' : CS} (C : CLS h V M n x R) (F : FRK h h') (H : CR h' X') (H2 : SIM X' R') : CLS h' V M n x R' := ⟨⟨X', H, H2⟩, C.2.1.frK F, C.2.2.frK F⟩
theorem CLS.ofQ (C : CLS h V M n x R) (F : FRKQ h h') (H : CQR h' n' x') : CLS h' V M n' x' R := ⟨C.1.elim fun X a => ⟨X, a.1.frQ F, a.2⟩, H, C.2.2.frQ F⟩
theorem CLS.ofC (C : CLS h V M n x R) (F1 : FRKQ h h1) (F : FRV h1 h') (H : CQR h' n' x') (H2 : CV h' V' M') : CLS h' V' M' n' x' R := ⟨C.1.elim fun X a => ⟨X, (a.1.frQ F1).frV F, a.2⟩, H, H2⟩
theorem CLS.hk (C : CLS h V M n x R) : h_k h (nm 40 0) = 13 := C.2.2.1.1.1
theorem FK.out (F : FK h h') (O : h_k h (nm 70 0) = 104 ∧ h_n h (nm 70 0) = 1) : h_k h' (nm 70 0) = 104 ∧ h_n h' (nm 70 0) = 1 := by
  have e := F (nm 70 0) (by unfold nm; omega)
  exact ⟨(ce_k e).trans O.1, (ce_n e).trans O.2⟩
end KST
theorem e_sentBack {R : RS} {v : Int32} (h : ¬ (o_sentBack R v (tn v)).1 = nI 0) : (o_sentBack R v (tn v)).2.2 = R := by
  revert h
  unfold o_sentBack
  (repeat' split) <;> intro h <;> first | rfl | exact absurd rfl h
theorem e_valueOf {R : RS} {u : Int32} (h : ¬ (o_valueOf R u (tn u)).1 = nI 0) : (o_valueOf R u (tn u)).2.2 = R := by
  revert h
  unfold o_valueOf
  (repeat' split) <;> intro h <;> first | rfl | exact absurd rfl h
theorem e_valueByLog {R : RS} {u : Int32} (h : ¬ (o_valueByLog R u (tn u)).1 = nI 0) : (o_valueByLog R u (tn u)).2.2 = R := by
  revert h
  unfold o_valueByLog
  (repeat' split) <;> intro h <;> first | rfl | exact absurd rfl h
theorem e_history {R : RS} {u : Int32} (h : ¬ (o_history R u (tn u)).1 = nI 0) : (o_history R u (tn u)).2.2 = R := by
  revert h
  unfold o_history
  (repeat' split) <;> intro h <;> first | rfl | exact absurd rfl h
theorem e_logAt {R : RS} {w : Int32} {y : Int32} (h : ¬ (o_logAt R w (tn w) y (tn y)).1 = nI 0) : (o_logAt R w (tn w) y (tn y)).2.2 = R := by
  revert h
  unfold o_logAt
  (repeat' split) <;> intro h <;> first | rfl | exact absurd rfl h
theorem e_addAgent {R : RS} {v : Int32} {lo : Int32} {hi : Int32} {md : Nat} (h : ¬ (o_addAgent R v lo hi (nI md)).1 = nI 0) : (o_addAgent R v lo hi (nI md)).2.2 = R := by
  revert h
  unfold o_addAgent
  (repeat' split) <;> intro h <;> first | rfl | exact absurd rfl h
theorem e_send {R : RS} {v : Int32} {w : Int32} {z : Int32} (h : ¬ (o_send R v (tn v) w (tn w) z).1 = nI 0) : (o_send R v (tn v) w (tn w) z).2.2 = R := by
  revert h
  unfold o_send
  (repeat' split) <;> intro h <;> first | rfl | exact absurd rfl h
theorem e_act {R : RS} {w : Int32} (h : ¬ (o_act R w (tn w)).1 = nI 0) : (o_act R w (tn w)).2.2 = R := by
  revert h
  unfold o_act
  (repeat' split) <;> intro h <;> first | rfl | exact absurd rfl h
theorem e_beginAnew {R : RS} {w : Int32} {y : Int32} (h : ¬ (o_beginAnew R w (tn w) y).1 = nI 0) : (o_beginAnew R w (tn w) y).2.2 = R := by
  revert h
  unfold o_beginAnew
  (repeat' split) <;> intro h <;> first | rfl | exact absurd rfl h
theorem e_errors {R : RS} {w : Int32} (h : ¬ (o_errors R w (tn w)).1 = nI 0) : (o_errors R w (tn w)).2.2 = R := by
  revert h
  unfold o_errors
  (repeat' split) <;> intro h <;> first | rfl | exact absurd rfl h
