/-! What the law needs of references and transactions, and that calls keep it. -/
def clr (y : OTS) : Prop := ∀ r, r < 6 → OT_wr y r = false ∧ OT_en y r = false
/-- how often a transaction was sent back, by rounds -/
def FPk (k : Nat) (y : OTS) : Prop := OT_bk y ≤ k ∧ (OT_bk y = k → clr y)
def SMk (y : OTS) : Prop := (∀ r, r < 6 → elB (OT_sm y r) = true ∧ (OT_wr y r = true → elB (OT_wn y r) = true)) ∧ (OT_op y = false → cgN y 6 0 = 0)
abbrev LgT : Type := List (Nat × Nat × Int32 × Int32)
def lgz : Nat × Nat × Int32 × Int32 := (0, 0, 0, 0)
def LGk (S : RS) : Prop := (∀ j, j < (RS_lg S).length → ((RS_lg S).getD j (0, 0, 0, 0)).1 ≤ RS_mo S ∧ ((RS_lg S).getD j (0, 0, 0, 0)).2.1 < RS_rn S ∧ ((RS_lg S).getD j (0, 0, 0, 0)).2.2.1 = vbF ((RS_lg S).getD j (0, 0, 0, 0)).2.1 ((RS_lg S).take j) (OR_fst (RS_rr S ((RS_lg S).getD j (0, 0, 0, 0)).2.1))) ∧
  ∀ j, j + 1 < (RS_lg S).length → ((RS_lg S).getD j (0, 0, 0, 0)).1 ≤ ((RS_lg S).getD (j + 1) (0, 0, 0, 0)).1
def LST (S : RS) : Prop := ((RS_lg S).length = 0 → RS_mo S = 0) ∧ (0 < (RS_lg S).length → ((RS_lg S).getD ((RS_lg S).length - 1) (0, 0, 0, 0)).1 = RS_mo S)
def RFk (S : RS) : Prop := ∀ r, r < RS_rn S → -10 ≤ (OR_lo (RS_rr S r)).toInt ∧ (OR_hi (RS_rr S r)).toInt ≤ 10 ∧ (∀ q, q ∈ OR_hs (RS_rr S r) → -10 ≤ q.2.toInt ∧ q.2.toInt ≤ 10) ∧ (1 ≤ (OR_hs (RS_rr S r)).length ∧ (OR_hs (RS_rr S r)).length ≤ OR_lim (RS_rr S r) ∧ OR_lim (RS_rr S r) ≤ 8) ∧ vbF r (RS_lg S) (OR_fst (RS_rr S r)) = (lastq (RS_rr S r)).2
def RI (k : Nat) (S : RS) : Prop := (∀ t, t < 3 → FPk k (RS_tt S t) ∧ SMk (RS_tt S t)) ∧ LGk S ∧ LST S ∧ RFk S
theorem FPk.up {k : Nat} {y : OTS} (H : FPk k y) : FPk (k + 1) y := ⟨Nat.le_succ_of_le H.1, fun e => absurd e (by have := H.1; omega)⟩
theorem clr_fgt {y : OTS} : clr (fgt y) := fun r hr => ⟨if_pos hr, if_pos hr⟩
theorem clr_sbk {y : OTS} {m : Nat} : clr (sbk y m) := fun r hr => ⟨if_pos hr, if_pos hr⟩
theorem SM_c {y : OTS} (h : clr y) (h2 : ∀ r, r < 6 → OT_sm y r = nI 0) (h3 : cgN y 6 0 = 0) : SMk y := ⟨fun r hr => ⟨by rw [h2 r hr]; decide, fun z => by rw [(h r hr).1] at z; cases z⟩, fun _ => h3⟩
theorem SM_fgt {y : OTS} : SMk (fgt y) := SM_c clr_fgt (fun r hr => if_pos hr) fl_fgt
theorem SM_sbk {y : OTS} {m : Nat} : SMk (sbk y m) := SM_c clr_sbk (fun r hr => if_pos hr) fl_sbk
theorem FP_sbk {k m : Nat} {y : OTS} (H : OT_bk y ≤ k) : FPk (k + 1) (sbk y m) := ⟨Nat.succ_le_succ H, fun _ => clr_sbk⟩
theorem inB_b {v lo hi : Int32} (h : inB v lo hi = true) : lo.toInt ≤ v.toInt ∧ v.toInt ≤ hi.toInt := by
  unfold inB at h
  rw [Bool.and_eq_true] at h
  exact ⟨Int32.le_iff_toInt_le.mp (of_decide_eq_true h.1), Int32.le_iff_toInt_le.mp (of_decide_eq_true h.2)⟩
theorem elB_b {z : Int32} (h : elB z = true) : -999 ≤ z.toInt ∧ z.toInt ≤ 999 := by
  have := inB_b (lo := -999) (hi := nI 999) h
  rw [show (-999 : Int32).toInt = -999 from by decide, show (nI 999).toInt = 999 from by decide] at this
  exact this
theorem elB_of {z : Int32} (h1 : -999 ≤ z.toInt) (h2 : z.toInt ≤ 999) : elB z = true := inB_of (lo := -999) (hi := nI 999) (by rw [show (-999 : Int32).toInt = -999 from by decide]; exact h1) (by rw [show (nI 999).toInt = 999 from by decide]; exact h2)
theorem ne_of_toInt {z : Int32} {a : Int32} (b : Int) (h : a.toInt = b) (h2 : z.toInt ≠ b) : z ≠ a := fun e => h2 (by rw [e]; exact h)
section RFS
variable {k t r : Nat} {S : RS}
/-- what holds of all transactions, t aside -/
def TP (k t : Nat) (f : Nat → OTS) : Prop := ∀ u, u < 3 → SMk (f u) ∧ (u ≠ t → FPk k (f u))
theorem TP.of (H : RI k S) : TP k t (RS_tt S) := fun u hu => ⟨(H.1 u hu).2, fun _ => (H.1 u hu).1⟩
theorem gos_P {e : Bool} (hr : r < 6) : ∀ m S, m ≤ 3 → TP k t (RS_tt S) → TP k t (RS_tt (gos t r e m S).2) ∧ ((gos t r e m S).1 = false → RS_tt (gos t r e m S).2 t = sbk (RS_tt S t) (RS_mo S)) := by
  intro m
  induction m with
  | zero => intro S _ H; exact ⟨H, fun z => by cases z⟩
  | succ m ih =>
    intro S hm H
    rw [gos]
    split
    · next c =>
      split
      · refine ⟨fun u hu => ?_, fun _ => va_up_self _ _ _⟩
        have e1 : RS_tt (RS_utt1 S t (sbk (RS_tt S t) (RS_mo S))) u = if u = t then sbk (RS_tt S t) (RS_mo S) else RS_tt S u := va_up_app
        show SMk (RS_tt (RS_utt1 S t (sbk (RS_tt S t) (RS_mo S))) u) ∧ (u ≠ t → FPk k (RS_tt (RS_utt1 S t (sbk (RS_tt S t) (RS_mo S))) u))
        rw [e1]
        by_cases q : u = t
        · rw [if_pos q]; exact ⟨SM_sbk, fun z => absurd q z⟩
        · rw [if_neg q]; exact H u hu
      · have H1 : TP k t (RS_tt (RS_utt1 S (2 - m) (sbk (RS_tt S (2 - m)) (RS_mo S)))) := fun u hu => by
          have e1 : RS_tt (RS_utt1 S (2 - m) (sbk (RS_tt S (2 - m)) (RS_mo S))) u = if u = 2 - m then sbk (RS_tt S (2 - m)) (RS_mo S) else RS_tt S u := va_up_app
          rw [e1]
          by_cases q : u = 2 - m
          · rw [if_pos q]
            refine ⟨SM_sbk, fun _ => ?_⟩
            have F := (H (2 - m) (by omega)).2 c.1.1
            have hb : OT_bk (RS_tt S (2 - m)) ≠ k := fun z => by
              have := F.2 z r hr
              rcases c.2 with w | w
              · rw [this.1] at w; cases w
              · rw [this.2] at w; exact absurd w.2 Bool.false_ne_true
            have := F.1
            exact ⟨show OT_bk (RS_tt S (2 - m)) + 1 ≤ k by omega, fun _ => clr_sbk⟩
          · rw [if_neg q]; exact H u hu
        obtain ⟨a1, a2⟩ := ih (RS_utt1 S (2 - m) (sbk (RS_tt S (2 - m)) (RS_mo S))) (by omega) H1
        refine ⟨a1, fun z => (a2 z).trans ?_⟩
        rw [show RS_tt (RS_utt1 S (2 - m) (sbk (RS_tt S (2 - m)) (RS_mo S))) t = RS_tt S t from va_up_ne _ _ (fun z => c.1.1 z.symm)]
    · exact ih S (by omega) H
theorem cmA_P : ∀ m r S, r + m ≤ 6 → TP k t (RS_tt S) → TP k t (RS_tt (cmA t m r S).2) ∧ ((cmA t m r S).1 = false → RS_tt (cmA t m r S).2 t = sbk (RS_tt S t) (RS_mo S)) := by
  intro m
  induction m with
  | zero => intro r S _ H; exact ⟨H, fun z => by cases z⟩
  | succ m ih =>
    intro r S hr H
    rw [cmA]
    split
    · have g := gos_P (k := k) (t := t) (r := r) (e := true) (by omega) 3 S (Nat.le_refl _) H
      split
      · next c => exact ⟨g.1, fun _ => g.2 c⟩
      · next c =>
        have c3 : (gos t r true 3 S).1 = true := by revert c; cases (gos t r true 3 S).1 <;> simp
        obtain ⟨a1, a2⟩ := ih (r + 1) (gos t r true 3 S).2 (by omega) g.1
        refine ⟨a1, fun z => (a2 z).trans ?_⟩
        obtain ⟨f, hf⟩ := gos_utt t r true 3 S
        rw [gos_t 3 S c3, hf]
    · exact ih (r + 1) S (by omega) H
theorem RI.one (H : RI k S) {y : OTS} (h1 : FPk (k + 1) y) (h2 : SMk y) : RI (k + 1) (RS_utt1 S t y) := ⟨fun u hu => by
  have e : RS_tt (RS_utt1 S t y) u = if u = t then y else RS_tt S u := va_up_app
  rw [e]
  split
  · exact ⟨h1, h2⟩
  · exact ⟨(H.1 u hu).1.up, (H.1 u hu).2⟩, H.2⟩
theorem RI.utt (H : RI k S) {f : Nat → OTS} {k' : Nat} (h : ∀ u, u < 3 → FPk k' (f u) ∧ SMk (f u)) : RI k' (RS_utt S f) := ⟨h, H.2⟩
theorem RI.up (H : RI k S) : RI (k + 1) S := ⟨fun u hu => ⟨(H.1 u hu).1.up, (H.1 u hu).2⟩, H.2⟩
theorem LGk.to {S' : RS} (H : LGk S) (e1 : RS_lg S' = RS_lg S) (e2 : RS_mo S ≤ RS_mo S') (e3 : RS_rn S ≤ RS_rn S') (e4 : ∀ r, r < RS_rn S → OR_fst (RS_rr S' r) = OR_fst (RS_rr S r)) : LGk S' := by
  unfold LGk
  rw [e1]
  exact ⟨fun j hj => by
    have a := H.1 j hj
    exact ⟨Nat.le_trans a.1 e2, Nat.lt_of_lt_of_le a.2.1 e3, by rw [e4 _ a.2.1]; exact a.2.2⟩, H.2⟩
/-! lists -/
theorem gD_app {α : Type} (d : α) : ∀ (l e : List α) (j : Nat), j < l.length → (l ++ e).getD j d = l.getD j d
  | [], _, _, h => absurd h (Nat.not_lt_zero _)
  | _ :: _, _, 0, _ => rfl
  | _ :: l, e, j + 1, h => gD_app d l e j (Nat.lt_of_succ_lt_succ h)
theorem gD_len {α : Type} (d q : α) : ∀ (l : List α), (l ++ [q]).getD l.length d = q
  | [] => rfl
  | _ :: l => gD_len d q l
theorem vbF_app {q : Nat × Nat × Int32 × Int32} : ∀ (l : LgT) (z : Int32), vbF r (l ++ [q]) z = if q.2.1 = r then q.2.2.2 else vbF r l z
  | [], _ => rfl
  | _ :: l, _ => vbF_app l _
theorem vbF_no : ∀ (l : LgT) (z : Int32), (∀ q, q ∈ l → q.2.1 ≠ r) → vbF r l z = z
  | [], _, _ => rfl
  | q :: l, z, h => by
    show vbF r l (if q.2.1 = r then q.2.2.2 else z) = z
    rw [if_neg (h q List.mem_cons_self)]
    exact vbF_no l z (fun p hp => h p (List.mem_cons_of_mem _ hp))
theorem cmH_last {lim : Nat} {q : Nat × Int32} : ∀ hs : List (Nat × Int32), 1 ≤ hs.length → (cmH hs lim q).getD ((cmH hs lim q).length - 1) (0, 0) = q
  | [], h => absurd h (by decide)
  | a :: l, _ => by
    unfold cmH
    split
    · show (l ++ [q]).getD ((l ++ [q]).length - 1) (0, 0) = q
      rw [List.length_append]
      exact gD_len _ q l
    · show (a :: l ++ [q]).getD ((a :: l ++ [q]).length - 1) (0, 0) = q
      rw [List.length_append]
      exact gD_len _ q (a :: l)
theorem cmH_in {lim : Nat} {q p : Nat × Int32} {hs : List (Nat × Int32)} (h : p ∈ cmH hs lim q) : p ∈ hs ∨ p = q := by
  unfold cmH at h
  split at h
  · rcases List.mem_append.mp (List.mem_of_mem_tail h) with a | a
    · exact Or.inl a
    · exact Or.inr (List.mem_singleton.mp a)
  · rcases List.mem_append.mp h with a | a
    · exact Or.inl a
    · exact Or.inr (List.mem_singleton.mp a)
/-- one change is recorded -/
theorem rec_P (HL : LGk S) (HR : RFk S) (hr : r < RS_rn S) {v : Int32} (hv : inB v (OR_lo (RS_rr S r)) (OR_hi (RS_rr S r)) = true) :
    LGk (RS_urr1 (RS_ulg S (RS_lg S ++ [(RS_mo S, r, (lastq (RS_rr S r)).2, v)])) r (OR_uhs (RS_rr S r) (cmH (OR_hs (RS_rr S r)) (OR_lim (RS_rr S r)) (RS_mo S, v)))) ∧ RFk (RS_urr1 (RS_ulg S (RS_lg S ++ [(RS_mo S, r, (lastq (RS_rr S r)).2, v)])) r (OR_uhs (RS_rr S r) (cmH (OR_hs (RS_rr S r)) (OR_lim (RS_rr S r)) (RS_mo S, v)))) := by
  obtain ⟨b1, b2, b3, b4, b5⟩ := HR r hr
  generalize hq : (RS_mo S, r, (lastq (RS_rr S r)).2, v) = q
  have q1 : q.1 = RS_mo S := by rw [← hq]
  have q2 : q.2.1 = r := by rw [← hq]
  have q3 : q.2.2.1 = (lastq (RS_rr S r)).2 := by rw [← hq]
  have q4 : q.2.2.2 = v := by rw [← hq]
  have er : ∀ j, RS_rr (RS_urr1 (RS_ulg S (RS_lg S ++ [q])) r (OR_uhs (RS_rr S r) (cmH (OR_hs (RS_rr S r)) (OR_lim (RS_rr S r)) (RS_mo S, v)))) j = if j = r then OR_uhs (RS_rr S r) (cmH (OR_hs (RS_rr S r)) (OR_lim (RS_rr S r)) (RS_mo S, v)) else RS_rr S j := fun j => va_up_app
  have ef : ∀ j, OR_fst (RS_rr (RS_urr1 (RS_ulg S (RS_lg S ++ [q])) r (OR_uhs (RS_rr S r) (cmH (OR_hs (RS_rr S r)) (OR_lim (RS_rr S r)) (RS_mo S, v)))) j) = OR_fst (RS_rr S j) := fun j => by
    rw [er]
    split
    · next e => rw [e]
    · rfl
  generalize hT : RS_urr1 (RS_ulg S (RS_lg S ++ [q])) r (OR_uhs (RS_rr S r) (cmH (OR_hs (RS_rr S r)) (OR_lim (RS_rr S r)) (RS_mo S, v))) = T at er ef
  have tl : RS_lg T = RS_lg S ++ [q] := by rw [← hT]
  have tm : RS_mo T = RS_mo S := by rw [← hT]
  have tn' : RS_rn T = RS_rn S := by rw [← hT]
  have ll : (RS_lg T).length = (RS_lg S).length + 1 := by rw [tl, List.length_append]; rfl
  have g1 : ∀ j, j < (RS_lg S).length → (RS_lg T).getD j (0, 0, 0, 0) = (RS_lg S).getD j (0, 0, 0, 0) := fun j hj => by rw [tl]; exact gD_app _ _ _ j hj
  have g2 : (RS_lg T).getD (RS_lg S).length (0, 0, 0, 0) = q := by rw [tl]; exact gD_len _ _ _
  refine ⟨⟨fun j hj => ?_, fun j hj => ?_⟩, fun j hj => ?_⟩
  · rw [ll] at hj
    by_cases e : j < (RS_lg S).length
    · rw [g1 j e, tm, tn', ef, tl, List.take_append_of_le_length (Nat.le_of_lt e)]
      exact HL.1 j e
    · have e2 : j = (RS_lg S).length := by omega
      rw [e2, g2, tm, tn', ef, tl, List.take_append_of_le_length (Nat.le_refl _), List.take_length, q1, q2, q3]
      exact ⟨Nat.le_refl _, hr, b5.symm⟩
  · rw [ll] at hj
    rw [g1 j (by omega)]
    by_cases e : j + 1 < (RS_lg S).length
    · rw [g1 (j + 1) e]; exact HL.2 j e
    · have e2 : j + 1 = (RS_lg S).length := by omega
      rw [e2, g2, q1]
      exact (HL.1 j (by omega)).1
  · rw [tn'] at hj
    rw [ef, tl, vbF_app, q2, q4, er]
    by_cases e : j = r
    · rw [if_pos e, if_pos e.symm]
      have hb := inB_b hv
      refine ⟨b1, b2, fun p hp => ?_, ⟨?_, ?_, b4.2.2⟩, ?_⟩
      · rcases cmH_in hp with z | z
        · exact b3 p z
        · rw [z]
          show -10 ≤ v.toInt ∧ v.toInt ≤ 10
          omega
      · exact (cmH_len b4.1 b4.2.1).1
      · exact (cmH_len b4.1 b4.2.1).2
      · exact (congrArg Prod.snd (cmH_last (lim := OR_lim (RS_rr S r)) (q := (RS_mo S, v)) (OR_hs (RS_rr S r)) b4.1)).symm
    · rw [if_neg e, if_neg (fun z => e z.symm)]
      exact HR j hj
theorem cmC_P {y : OTS} : ∀ m r S, RS_tt S t = y → r + m ≤ RS_rn S → LGk S → RFk S → (∀ j, r ≤ j → j < r + m → chg y j = true → inB (vth y (RS_rr S j) j) (OR_lo (RS_rr S j)) (OR_hi (RS_rr S j)) = true) →
    LGk (cmC t m r S) ∧ RFk (cmC t m r S) ∧ RS_mo (cmC t m r S) = RS_mo S ∧ ∃ e : LgT, RS_lg (cmC t m r S) = RS_lg S ++ e ∧ e.length = cgN y m r ∧ ∀ q, q ∈ e → q.1 = RS_mo S := by
  intro m
  induction m with
  | zero => intro r S _ _ HL HR _; exact ⟨HL, HR, rfl, [], (List.append_nil _).symm, rfl, fun q h => nomatch h⟩
  | succ m ih =>
    intro r S hy hr HL HR hin
    rw [cmC, cgN, hy]
    by_cases c : chg y r = true
    · rw [if_pos c, if_pos c]
      have P := rec_P HL HR (r := r) (by omega) (hin r (Nat.le_refl _) (by omega) c)
      obtain ⟨a1, a2, a3, e, a4, a5, a6⟩ := ih (r + 1) _ (by exact hy) (by show r + 1 + m ≤ RS_rn S; omega) P.1 P.2 (fun j j1 j2 jc => by
        have er : RS_rr (RS_urr1 (RS_ulg S (RS_lg S ++ [(RS_mo S, r, (lastq (RS_rr S r)).2, vth y (RS_rr S r) r)])) r (OR_uhs (RS_rr S r) (cmH (OR_hs (RS_rr S r)) (OR_lim (RS_rr S r)) (RS_mo S, vth y (RS_rr S r) r)))) j = RS_rr S j := va_up_ne _ _ (by omega)
        rw [er]
        exact hin j (by omega) (by omega) jc)
      refine ⟨a1, a2, a3, (RS_mo S, r, (lastq (RS_rr S r)).2, vth y (RS_rr S r) r) :: e, a4.trans ?_, ?_, fun q hq => ?_⟩
      · show (RS_lg S ++ [_]) ++ e = RS_lg S ++ (_ :: e)
        rw [List.append_assoc]
        rfl
      · rw [List.length_cons, a5]; omega
      · rcases List.mem_cons.mp hq with z | z
        · rw [z]
        · exact a6 q z
    · rw [if_neg c, if_neg c]
      obtain ⟨a1, a2, a3, e, a4, a5, a6⟩ := ih (r + 1) S hy (by omega) HL HR (fun j j1 j2 => hin j (by omega) (by omega))
      exact ⟨a1, a2, a3, e, a4, by rw [a5]; omega, a6⟩
theorem cmB_2 : ∀ m r (o s : Bool), (cmB S t m r o s).2 = true ↔ s = true ∨ 0 < cgN (RS_tt S t) m r := by
  intro m
  induction m with
  | zero => intro r o s; exact ⟨fun h => Or.inl h, fun h => h.elim id (fun z => absurd z (Nat.lt_irrefl 0))⟩
  | succ m ih =>
    intro r o s
    rw [cmB, cgN, ih]
    cases c : chg (RS_tt S t) r with
    | true =>
      rw [if_pos rfl, Bool.or_true]
      exact ⟨fun _ => Or.inr (by omega), fun _ => Or.inl rfl⟩
    | false => rw [if_neg Bool.false_ne_true, Bool.or_false, Nat.zero_add]
theorem cmB_1 : ∀ m r (o s : Bool), (cmB S t m r o s).1 = false → o = false ∧ ∀ j, r ≤ j → j < r + m → chg (RS_tt S t) j = true → inB (vth (RS_tt S t) (RS_rr S j) j) (OR_lo (RS_rr S j)) (OR_hi (RS_rr S j)) = true := by
  intro m
  induction m with
  | zero => intro r o s h; exact ⟨h, fun j j1 j2 => absurd j2 (by omega)⟩
  | succ m ih =>
    intro r o s h
    rw [cmB] at h
    obtain ⟨a1, a2⟩ := ih _ _ _ h
    rw [Bool.or_eq_false_iff, Bool.and_eq_false_iff] at a1
    refine ⟨a1.1, fun j j1 j2 jc => ?_⟩
    by_cases e : j = r
    · subst e
      rcases a1.2 with z | z
      · rw [jc] at z; cases z
      · revert z; cases inB (vth (RS_tt S t) (RS_rr S j) j) (OR_lo (RS_rr S j)) (OR_hi (RS_rr S j)) <;> simp
    · exact a2 j (by omega) (by omega) jc
end RFS
