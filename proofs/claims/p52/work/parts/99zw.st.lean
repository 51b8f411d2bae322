/-! The state as one: what deed and ask answer. -/
/-- what holds of the state alone, after c changing calls -/
def PU (c : Nat) (V : SV) (n : Nat) (x : Nat → QIS) (R : RS) : Prop := SVI V ∧ WB V ∧ sMd V ≤ 25 * c ∧ QX n x ∧ RB c R ∧ LF c R
theorem PU.v {c n : Nat} {V V' : SV} {x : Nat → QIS} {R : RS} (B : PU c V n x R) (k : VK V V') (b : WB V') (hc : c < 600) : PU (c + 1) V' n x R := by
  obtain ⟨hS, hW, hmd, hX, hRB, hLF⟩ := B
  obtain ⟨k1, k2, k3⟩ := k
  exact ⟨k1, b, by omega, hX, RB_up hRB (by omega), Nat.le_succ_of_le hLF⟩
theorem PU.q {c n n' : Nat} {V : SV} {x x' : Nat → QIS} {R : RS} (B : PU c V n x R) (q : QX n' x') : PU c V n' x' R := by
  obtain ⟨hS, hW, hmd, hX, hRB, hLF⟩ := B
  exact ⟨hS, hW, hmd, q, hRB, hLF⟩
theorem PU.r {c n : Nat} {V : SV} {x : Nat → QIS} {R R' : RS} (B : PU c V n x R) (q : RB (c + 1) R') (l : LFS R R') : PU (c + 1) V n x R' := by
  obtain ⟨hS, hW, hmd, hX, hRB, hLF⟩ := B
  refine ⟨hS, hW, by omega, hX, q, ?_⟩
  have := l.1
  unfold LF at hLF ⊢
  omega
theorem RB_ups {c : Nat} {S : RS} (H : RB c S) : ∀ m, c + m ≤ 600 → RB (c + m) S := by
  intro m
  induction m with
  | zero => intro _; exact H
  | succ m ih => intro h; exact RB_up (n := c + m) (ih (by omega)) (by omega)
theorem PU.up {c c' n : Nat} {V : SV} {x : Nat → QIS} {R : RS} (B : PU c V n x R) (h : c ≤ c') (hc : c' ≤ 600) : PU c' V n x R := by
  obtain ⟨hS, hW, hmd, hX, hRB, hLF⟩ := B
  have e := RB_ups hRB (c' - c) (by omega)
  rw [show c + (c' - c) = c' by omega] at e
  exact ⟨hS, hW, by omega, hX, e, Nat.le_trans hLF h⟩
theorem ixk {k n : Nat} (hk : k < 2 ^ 31) (hn : n < 2 ^ 31) (h : ixB (nI k) n = true) : nI k = nI k ∧ k < n := by
  have := (ix_tn hn h).2
  rw [show tn (nI k) = k from nI_clamp hk] at this
  exact ⟨rfl, this⟩
theorem hwn {j : Nat} (hj : j < 2 ^ 31) : ∀ n, n < 2 ^ 31 → ixB (nI j) n = true → nI j = nI j ∧ j < n := fun _ hn h => ixk hj hn h
theorem ixm {n : Nat} (hn : n < 2 ^ 31) : ixB (-1) n = false := by
  cases h : ixB (-1) n with
  | false => rfl
  | true =>
    have := (ix_tn hn h).1
    exact absurd this (by rw [show tn (-1) = 0 from by decide]; decide)
theorem hwm : ∀ n, n < 2 ^ 31 → ixB (-1) n = true → (-1 : Int32) = nI 0 ∧ 0 < n := fun _ hn h => by rw [ixm hn] at h; cases h
/-- the number that the law sees: the answer, or the exception's number -/
def dA {α : Type} (L : List Int32) (o : Int32 × Int32 × α) : Int32 := if o.1 = nI 0 then o.2.1 else L.getD (o.1.toNatClampNeg - 1) 0
theorem dA_0 {α : Type} {L : List Int32} {o : Int32 × Int32 × α} (h : o.1 = nI 0) : dA L o = o.2.1 := if_pos h
theorem nIs {i : Nat} (hi : i < 1000) : ¬ nI (i + 1) = nI 0 := fun e => by
  have := congrArg Int32.toNatClampNeg e
  rw [nI_clamp (by omega), nI_clamp (by decide)] at this
  omega
theorem dA_x {α : Type} {L : List Int32} {o : Int32 × Int32 × α} {i : Nat} (hi : i < 1000) (h : o.1 = nI (i + 1)) : dA L o = L.getD i 0 := by
  unfold dA
  rw [h, if_neg (nIs hi), nI_clamp (by omega)]
  rfl
def xlD (E : List String) (L : List Int32) : Prop := E.length ≤ 5 ∧ ∀ i e, E[i]? = some e → exC e = some (L.getD i 0)
def xlA (E : List String) (L : List Int32) : Prop := xlD E L ∧ ∀ i e, E[i]? = some e → L.getD i 0 ≠ -20003
theorem xl_i {E : List String} {L : List Int32} (h : xlD E L) {i : Nat} {e : String} (he : E[i]? = some e) : i < 1000 := by
  have := (List.getElem?_eq_some_iff.mp he).1
  have := h.1
  omega
theorem xl_of {E : List String} {L : List Int32} (h : (decide (E.length ≤ 5) && (List.range E.length).all (fun i => decide (exC (E.getD i "") = some (L.getD i 0)))) = true) : xlD E L := by
  rw [Bool.and_eq_true] at h
  refine ⟨of_decide_eq_true h.1, fun i e he => ?_⟩
  have hi := (List.getElem?_eq_some_iff.mp he).1
  have := of_decide_eq_true (List.all_eq_true.mp h.2 i (List.mem_range.mpr hi))
  rw [List.getD_eq_getElem?_getD, he] at this
  exact this
theorem xla_of {E : List String} {L : List Int32} (h : (decide (E.length ≤ 5) && (List.range E.length).all (fun i => decide (exC (E.getD i "") = some (L.getD i 0)))) = true) (h2 : ((List.range E.length).all (fun i => decide (L.getD i 0 ≠ -20003))) = true) : xlA E L := ⟨xl_of h, fun i e he => of_decide_eq_true (List.all_eq_true.mp h2 i (List.mem_range.mpr (List.getElem?_eq_some_iff.mp he).1))⟩
section KD
variable {h : Hp} {V : SV} {M n : Nat} {x : Nat → QIS} {R : RS} {Q : Pst} {E : List String} {L : List Int32}
theorem kov_d {o : Int32 × Int32 × SV} (hE : xlD E L) (C : CLS h V M n x R) (hq : ∀ h' M', M ≤ M' → M' ≤ M + 1 → CLS h' o.2.2 M' n x R → FK h h' → Q (oRet (vi (dA L o))) h') : KOV (dQ Q) h E M o := fun h' M' m1 m2 c f =>
  ⟨fun i e h1 h2 => ⟨_, hE.2 i e h2, by rw [← dA_x (xl_i hE h2) h1]; exact hq h' M' m1 m2 (C.ofV f c) f.fk⟩, fun h1 => by
    have := hq h' M' m1 m2 (C.ofV f c) f.fk
    rw [dA_0 h1] at this
    exact this⟩
theorem kov_a {o : Int32 × Int32 × SV} (hE : xlA E L) (C : CLS h V M n x R) (hq : ∀ h' M', M ≤ M' → M' ≤ M + 1 → CLS h' o.2.2 M' n x R → FK h h' → Q (oRet (vi (dA L o))) h') : KOV (aQ Q) h E M o := fun h' M' m1 m2 c f =>
  ⟨fun i e h1 h2 => ⟨_, hE.1.2 i e h2, hE.2 i e h2, by rw [← dA_x (xl_i hE.1 h2) h1]; exact hq h' M' m1 m2 (C.ofV f c) f.fk⟩, fun h1 => by
    have := hq h' M' m1 m2 (C.ofV f c) f.fk
    rw [dA_0 h1] at this
    exact this⟩
theorem kov_b {o : Int32 × Int32 × SV} (hE : xlA E L) (hb : o.1 = nI 0 → ∃ b, o.2.1 = bI b) (C : CLS h V M n x R) (hq : ∀ h' M', M ≤ M' → M' ≤ M + 1 → CLS h' o.2.2 M' n x R → FK h h' → Q (oRet (vi (dA L o))) h') : KOV (bQ (aQ Q)) h E M o := fun h' M' m1 m2 c f =>
  ⟨fun i e h1 h2 => ⟨_, hE.1.2 i e h2, hE.2 i e h2, by rw [← dA_x (xl_i hE.1 h2) h1]; exact hq h' M' m1 m2 (C.ofV f c) f.fk⟩, fun h1 => by
    obtain ⟨b, hb⟩ := hb h1
    have := hq h' M' m1 m2 (C.ofV f c) f.fk
    rw [dA_0 h1, hb] at this
    exact ⟨b, hb, this⟩⟩
theorem koq_d {o : Int32 × Int32 × Nat × (Nat → QIS)} (hE : xlD E L) (C : CLS h V M n x R) (hq : ∀ h', CLS h' V M o.2.2.1 o.2.2.2 R → FK h h' → Q (oRet (vi (dA L o))) h') : KOQ (dQ Q) h E o :=
  ⟨fun i e h1 h2 c => ⟨_, hE.2 i e h2, by rw [← dA_x (xl_i hE h2) h1]; exact hq h (C.ofQ FRKQ.rf c) FK.rf⟩, fun h1 h' c f => by
    have := hq h' (C.ofQ f c) f.fk
    rw [dA_0 h1] at this
    exact this⟩
theorem koq_a {o : Int32 × Int32 × Nat × (Nat → QIS)} (hE : xlA E L) (C : CLS h V M n x R) (hq : ∀ h', CLS h' V M o.2.2.1 o.2.2.2 R → FK h h' → Q (oRet (vi (dA L o))) h') : KOQ (aQ Q) h E o :=
  ⟨fun i e h1 h2 c => ⟨_, hE.1.2 i e h2, hE.2 i e h2, by rw [← dA_x (xl_i hE.1 h2) h1]; exact hq h (C.ofQ FRKQ.rf c) FK.rf⟩, fun h1 h' c f => by
    have := hq h' (C.ofQ f c) f.fk
    rw [dA_0 h1] at this
    exact this⟩
theorem ko_d {o : Int32 × Int32 × RS} (hE : xlD E L) (he : ¬ o.1 = nI 0 → o.2.2 = R) (C : CLS h V M n x R) (hq : ∀ h', CLS h' V M n x o.2.2 → FK h h' → Q (oRet (vi (dA L o))) h') : KO (dQ Q) h E o :=
  ⟨fun i e h1 h2 => ⟨_, hE.2 i e h2, by
    rw [← dA_x (xl_i hE h2) h1]
    exact hq h (by rw [he (by rw [h1]; exact nIs (xl_i hE h2))]; exact C) FK.rf⟩, fun h1 h' X' c s f => by
    have := hq h' (C.ofR f c s) f.fk
    rw [dA_0 h1] at this
    exact this⟩
theorem ko_a {o : Int32 × Int32 × RS} (hE : xlA E L) (he : ¬ o.1 = nI 0 → o.2.2 = R) (C : CLS h V M n x R) (hq : ∀ h', CLS h' V M n x o.2.2 → FK h h' → Q (oRet (vi (dA L o))) h') : KO (aQ Q) h E o :=
  ⟨fun i e h1 h2 => ⟨_, hE.1.2 i e h2, hE.2 i e h2, by
    rw [← dA_x (xl_i hE.1 h2) h1]
    exact hq h (by rw [he (by rw [h1]; exact nIs (xl_i hE.1 h2))]; exact C) FK.rf⟩, fun h1 h' X' c s f => by
    have := hq h' (C.ofR f c s) f.fk
    rw [dA_0 h1] at this
    exact this⟩
theorem ko_b {o : Int32 × Int32 × RS} (hE : xlD E L) (hb : o.1 = nI 0 → ∃ b, o.2.1 = bI b) (he : ¬ o.1 = nI 0 → o.2.2 = R) (C : CLS h V M n x R) (hq : ∀ h', CLS h' V M n x o.2.2 → FK h h' → Q (oRet (vi (dA L o))) h') : KO (bQ (dQ Q)) h E o :=
  ⟨fun i e h1 h2 => ⟨_, hE.2 i e h2, by
    rw [← dA_x (xl_i hE h2) h1]
    exact hq h (by rw [he (by rw [h1]; exact nIs (xl_i hE h2))]; exact C) FK.rf⟩, fun h1 h' X' c s f => by
    obtain ⟨b, hb⟩ := hb h1
    have := hq h' (C.ofR f c s) f.fk
    rw [dA_0 h1, hb] at this
    exact ⟨b, hb, this⟩⟩
end KD
