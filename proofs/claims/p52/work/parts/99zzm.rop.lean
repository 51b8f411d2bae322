/-! What the calls about references answer in the law. -/
section ROP
variable {k t r : Nat} {S : RS}
/-- the calls below change no log, no moment, no number of references -/
def SAM (S S' : RS) : Prop := RS_lg S' = RS_lg S ∧ RS_mo S' = RS_mo S ∧ RS_rn S' = RS_rn S
theorem i3n (ht : t < 3) : ¬ (!ixB (nI t) 3) = true := by rw [ixB_n1 ht (by decide)]; decide
theorem irn (h6 : RS_rn S ≤ 6) (hr : r < RS_rn S) : ¬ (!ixB (nI r) (RS_rn S)) = true := by rw [ixB_n1 hr (by omega)]; decide
theorem ion {b : Bool} (h : b = true) : ¬ (!b) = true := by rw [h]; decide
theorem rx_idx {y : Int32} (ht : t < 3) (hr : RS_rn S ≤ r) (hr2 : r < 6) : o_read S (nI t) t (nI r) r = (nI 2, nI 0, S) ∧ o_write S (nI t) t (nI r) r y = (nI 2, nI 0, S) ∧ o_ensure S (nI t) t (nI r) r = (nI 2, nI 0, S) ∧ o_add S (nI t) t (nI r) r y = (nI 2, nI 0, S) := by
  have e : (!ixB (nI r) (RS_rn S)) = true := by rw [ixB_n0 hr (by omega)]; rfl
  unfold o_read o_write o_ensure o_add
  rw [if_neg (i3n ht), if_neg (i3n ht), if_neg (i3n ht), if_neg (i3n ht), if_pos e, if_pos e, if_pos e, if_pos e]
  exact ⟨rfl, rfl, rfl, rfl⟩
theorem rx_shut {y : Int32} (ht : t < 3) (h6 : RS_rn S ≤ 6) (hr : r < RS_rn S) (ho : OT_op (RS_tt S t) = false) : o_read S (nI t) t (nI r) r = (nI 3, nI 0, S) ∧ o_write S (nI t) t (nI r) r y = (nI 3, nI 0, S) ∧ o_ensure S (nI t) t (nI r) r = (nI 3, nI 0, S) ∧ o_add S (nI t) t (nI r) r y = (nI 3, nI 0, S) := by
  have e : (!OT_op (RS_tt S t)) = true := by rw [ho]; rfl
  unfold o_read o_write o_ensure o_add
  rw [if_neg (i3n ht), if_neg (i3n ht), if_neg (i3n ht), if_neg (i3n ht), if_neg (irn h6 hr), if_neg (irn h6 hr), if_neg (irn h6 hr), if_neg (irn h6 hr), if_pos e, if_pos e, if_pos e, if_pos e]
  exact ⟨rfl, rfl, rfl, rfl⟩
theorem rx_shut2 (ht : t < 3) (ho : OT_op (RS_tt S t) = false) : o_commit S (nI t) t = (nI 2, nI 0, S) ∧ o_end S (nI t) t = (nI 2, nI 0, S) := by
  have e : (!OT_op (RS_tt S t)) = true := by rw [ho]; rfl
  unfold o_commit o_end
  rw [if_neg (i3n ht), if_neg (i3n ht), if_pos e, if_pos e]
  exact ⟨rfl, rfl⟩
theorem rx_sent (ht : t < 3) : o_sentBack S (nI t) t = (nI 0, nI (OT_bk (RS_tt S t)), S) := by
  unfold o_sentBack
  rw [if_neg (i3n ht)]
theorem rdF_in {pt : Nat} {P : Int32 → Prop} : ∀ (l : List (Nat × Int32)) (a : Bool × Int32), P a.2 → (∀ q, q ∈ l → P q.2) → P (rdF pt l a).2
  | [], _, h, _ => h
  | q :: l, a, h, h2 => by
    rw [rdF]
    refine rdF_in l _ ?_ (fun p hp => h2 p (List.mem_cons_of_mem _ hp))
    split
    · exact h2 q List.mem_cons_self
    · exact h
/-- operations leave open what was -/
def SOP (S S' : RS) : Prop := ∀ u, OT_op (RS_tt S' u) = OT_op (RS_tt S u)
theorem SOP.one {y : OTS} (h : OT_op y = OT_op (RS_tt S t)) : SOP S (RS_utt1 S t y) := fun u => by
  have e : RS_tt (RS_utt1 S t y) u = if u = t then y else RS_tt S u := va_up_app
  rw [e]
  split
  · next q => rw [q]; exact h
  · rfl
theorem tt_one {y : OTS} : RS_tt (RS_utt1 S t y) t = y := va_up_self _ _ _
theorem RI.lim (H : RI k S) : RI k (RS_urr1 S r (OR_ulim (RS_rr S r) (OR_lim (RS_rr S r) + if OR_lim (RS_rr S r) < 8 then 1 else 0))) := by
  have er : ∀ j, RS_rr (RS_urr1 S r (OR_ulim (RS_rr S r) (OR_lim (RS_rr S r) + if OR_lim (RS_rr S r) < 8 then 1 else 0))) j = if j = r then OR_ulim (RS_rr S r) (OR_lim (RS_rr S r) + if OR_lim (RS_rr S r) < 8 then 1 else 0) else RS_rr S j := fun j => va_up_app
  refine ⟨H.1, H.2.1.to rfl (Nat.le_refl _) (Nat.le_refl _) (fun j _ => ?_), H.2.2.1, fun j hj => ?_⟩
  · rw [er]
    split
    · next e => rw [e]
    · rfl
  · have a := H.2.2.2 j hj
    rw [er]
    by_cases e : j = r
    · rw [if_pos e]
      subst e
      refine ⟨a.1, a.2.1, a.2.2.1, ⟨a.2.2.2.1.1, ?_, ?_⟩, a.2.2.2.2⟩
      · exact Nat.le_trans a.2.2.2.1.2.1 (Nat.le_add_right _ _)
      · have := a.2.2.2.1.2.2
        show OR_lim (RS_rr S j) + (if OR_lim (RS_rr S j) < 8 then 1 else 0) ≤ 8
        split <;> omega
    · rw [if_neg e]; exact a
theorem rx_read (ht : t < 3) (h6 : RS_rn S ≤ 6) (hr : r < RS_rn S) (ho : OT_op (RS_tt S t) = true) (H : RI k S) :
    (∃ e, o_read S (nI t) t (nI r) r = (nI 0, e, S) ∧ e ≠ -10000 ∧ e ≠ -20004) ∨ (∃ S', o_read S (nI t) t (nI r) r = (nI 0, -10000, S') ∧ RI (k + 1) S' ∧ SOP S S' ∧ SAM S S' ∧ OT_bk (RS_tt S' t) = OT_bk (RS_tt S t) + 1) := by
  have sm := (H.1 t ht).2.1 r (by omega)
  have hne : ∀ e : Int32, -2000 ≤ e.toInt → e.toInt ≤ 2000 → e ≠ -10000 ∧ e ≠ -20004 := fun e a b => ⟨ne_of_toInt (-10000) (by decide) (by omega), ne_of_toInt (-20004) (by decide) (by omega)⟩
  unfold o_read
  rw [if_neg (i3n ht), if_neg (irn h6 hr), if_neg (ion ho)]
  by_cases w : OT_wr (RS_tt S t) r = true
  · have b := elB_b (sm.2 w)
    exact Or.inl ⟨_, if_pos w, hne _ (by omega) (by omega)⟩
  · rw [if_neg w]
    by_cases g : (rdF (OT_pt (RS_tt S t)) (OR_hs (RS_rr S r)) (false, nI 0)).1 = true
    · have b := elB_b sm.1
      have b2 := rdF_in (pt := OT_pt (RS_tt S t)) (P := fun z => -10 ≤ z.toInt ∧ z.toInt ≤ 10) (OR_hs (RS_rr S r)) (false, nI 0) (by decide) (H.2.2.2 r hr).2.2.1
      have e : ((rdF (OT_pt (RS_tt S t)) (OR_hs (RS_rr S r)) (false, nI 0)).2 + OT_sm (RS_tt S t) r).toInt = (rdF (OT_pt (RS_tt S t)) (OR_hs (RS_rr S r)) (false, nI 0)).2.toInt + (OT_sm (RS_tt S t) r).toInt := by
        rw [Int32.toInt_add]
        exact bm31 (by omega) (by omega)
      exact Or.inl ⟨_, if_pos g, hne _ (by omega) (by omega)⟩
    · rw [if_neg g]
      exact Or.inr ⟨_, rfl, (H.lim (r := r)).one (FP_sbk (H.1 t ht).1.1) SM_sbk, SOP.one rfl, ⟨rfl, rfl, rfl⟩, congrArg OT_bk (tt_one (S := RS_urr1 S r _))⟩
/-- what wants a reference is sent back, or wins -/
theorem gos_R {e : Bool} (ht : t < 3) (hr : r < 6) (H : RI k S) : SOP S (gos t r e 3 S).2 ∧ SAM S (gos t r e 3 S).2 ∧
    ((gos t r e 3 S).1 = false → RI (k + 1) (gos t r e 3 S).2 ∧ OT_bk (RS_tt (gos t r e 3 S).2 t) = OT_bk (RS_tt S t) + 1) ∧ ((gos t r e 3 S).1 = true → RI k (gos t r e 3 S).2 ∧ RS_tt (gos t r e 3 S).2 t = RS_tt S t) := by
  obtain ⟨P1, P2⟩ := gos_P (k := k) (t := t) (r := r) (e := e) hr 3 S (Nat.le_refl _) (TP.of H)
  have P3 := gos_t (t := t) (r := r) (e := e) 3 S
  have P4 := fun u => gos_op (t := t) (r := r) (e := e) (u := u) 3 S
  obtain ⟨f, hf⟩ := gos_utt t r e 3 S
  refine ⟨P4, ?_, fun z => ?_, fun z => ?_⟩
  · rw [hf]; exact ⟨rfl, rfl, rfl⟩
  · have Q := P2 z
    rw [hf] at P1 Q ⊢
    refine ⟨H.utt (fun u hu => ?_), by rw [Q]⟩
    by_cases q : u = t
    · rw [q]
      have Q : f t = sbk (RS_tt S t) (RS_mo S) := Q
      rw [Q]
      exact ⟨FP_sbk (H.1 t ht).1.1, SM_sbk⟩
    · exact ⟨((P1 u hu).2 q).up, (P1 u hu).1⟩
  · have Q := P3 z
    rw [hf] at P1 Q ⊢
    refine ⟨H.utt (fun u hu => ?_), Q⟩
    by_cases q : u = t
    · rw [q]
      have Q : f t = RS_tt S t := Q
      rw [Q]
      exact H.1 t ht
    · exact ⟨(P1 u hu).2 q, (P1 u hu).1⟩
theorem gf {b : Bool} (h : ¬ b = false) : b = true := by revert h; cases b <;> simp
theorem rx_write {y : Int32} (ht : t < 3) (h6 : RS_rn S ≤ 6) (hr : r < RS_rn S) (ho : OT_op (RS_tt S t) = true) (H : RI k S) :
    o_write S (nI t) t (nI r) r y = (nI 4, nI 0, S) ∨ (∃ S', o_write S (nI t) t (nI r) r y = (nI 0, nI 0, S') ∧ RI (k + 1) S' ∧ SOP S S' ∧ SAM S S' ∧ OT_bk (RS_tt S' t) = OT_bk (RS_tt S t) + 1) ∨ (∃ S', o_write S (nI t) t (nI r) r y = (nI 0, nI 1, S') ∧ RI (k + 1) S' ∧ SOP S S' ∧ SAM S S' ∧ OT_bk (RS_tt S' t) = OT_bk (RS_tt S t) ∧ o_read S' (nI t) t (nI r) r = (nI 0, y, S')) := by
  obtain ⟨G1, G2, G3, G4⟩ := gos_R (e := true) ht (show r < 6 by omega) H
  unfold o_write
  rw [if_neg (i3n ht), if_neg (irn h6 hr), if_neg (ion ho)]
  by_cases c1 : OT_ad (RS_tt S t) r = true ∨ (!elB y) = true
  · exact Or.inl (if_pos c1)
  · rw [if_neg c1]
    have hy : elB y = true := by
      cases q : elB y with
      | true => rfl
      | false => exact absurd (Or.inr (by rw [q]; rfl)) c1
    by_cases c2 : OT_pt (RS_tt S t) < (lastq (RS_rr S r)).1
    · rw [if_pos c2]
      exact Or.inr (Or.inl ⟨_, rfl, H.one (FP_sbk (H.1 t ht).1.1) SM_sbk, SOP.one rfl, ⟨rfl, rfl, rfl⟩, congrArg OT_bk tt_one⟩)
    · rw [if_neg c2]
      by_cases c3 : (gos t r true 3 S).1 = false
      · rw [if_pos c3]
        exact Or.inr (Or.inl ⟨_, rfl, (G3 c3).1, G1, G2, (G3 c3).2⟩)
      · rw [if_neg c3]
        obtain ⟨G5, G6⟩ := G4 (gf c3)
        refine Or.inr (Or.inr ⟨_, rfl, G5.one ?_ ?_, fun u => (SOP.one (S := (gos t r true 3 S).2) (t := t) (y := OT_uwn (OT_uwr (RS_tt (gos t r true 3 S).2 t) r true) r y) rfl u).trans (G1 u), G2, ?_, ?_⟩)
        · refine ⟨?_, fun z => ?_⟩
          · show OT_bk (RS_tt (gos t r true 3 S).2 t) ≤ k + 1
            rw [G6]
            exact Nat.le_succ_of_le (H.1 t ht).1.1
          · have z : OT_bk (RS_tt (gos t r true 3 S).2 t) = k + 1 := z
            rw [G6] at z
            exact absurd z (by have := (H.1 t ht).1.1; omega)
        · rw [G6]
          refine ⟨fun j hj => ?_, fun z => Bool.noConfusion (ho.symm.trans z)⟩
          have a := (H.1 t ht).2.1 j hj
          refine ⟨a.1, fun z => ?_⟩
          show elB (va_up (OT_wn (RS_tt S t)) r y j) = true
          rw [va_up_app]
          split
          · exact hy
          · next q =>
            have z : va_up (OT_wr (RS_tt S t)) r true j = true := z
            rw [va_up_ne _ _ q] at z
            exact a.2 z
        · rw [tt_one, G6]
        · have hn : RS_rn (gos t r true 3 S).2 = RS_rn S := G2.2.2
          have T : RS_tt (RS_utt1 (gos t r true 3 S).2 t (OT_uwn (OT_uwr (RS_tt (gos t r true 3 S).2 t) r true) r y)) t = OT_uwn (OT_uwr (RS_tt (gos t r true 3 S).2 t) r true) r y := tt_one
          have T1 : OT_wr (RS_tt (RS_utt1 (gos t r true 3 S).2 t (OT_uwn (OT_uwr (RS_tt (gos t r true 3 S).2 t) r true) r y)) t) r = true := by rw [T]; exact va_up_self _ _ _
          have T2 : OT_wn (RS_tt (RS_utt1 (gos t r true 3 S).2 t (OT_uwn (OT_uwr (RS_tt (gos t r true 3 S).2 t) r true) r y)) t) r = y := by rw [T]; exact va_up_self _ _ _
          have T3 : OT_op (RS_tt (RS_utt1 (gos t r true 3 S).2 t (OT_uwn (OT_uwr (RS_tt (gos t r true 3 S).2 t) r true) r y)) t) = true := by
            rw [T]
            show OT_op (RS_tt (gos t r true 3 S).2 t) = true
            rw [G6]; exact ho
          unfold o_read
          rw [if_neg (i3n ht), if_neg (irn (S := RS_utt1 (gos t r true 3 S).2 t _) (by show RS_rn (gos t r true 3 S).2 ≤ 6; omega) (by show r < RS_rn (gos t r true 3 S).2; omega)), if_neg (ion T3), if_pos T1, T2]
theorem rx_ensure (ht : t < 3) (h6 : RS_rn S ≤ 6) (hr : r < RS_rn S) (ho : OT_op (RS_tt S t) = true) (H : RI k S) :
    (∃ S', o_ensure S (nI t) t (nI r) r = (nI 0, nI 0, S') ∧ RI (k + 1) S' ∧ SOP S S' ∧ SAM S S' ∧ OT_bk (RS_tt S' t) = OT_bk (RS_tt S t) + 1) ∨ (∃ S', o_ensure S (nI t) t (nI r) r = (nI 0, nI 1, S') ∧ RI (k + 1) S' ∧ SOP S S' ∧ SAM S S' ∧ OT_bk (RS_tt S' t) = OT_bk (RS_tt S t)) := by
  obtain ⟨G1, G2, G3, G4⟩ := gos_R (e := false) ht (show r < 6 by omega) H
  unfold o_ensure
  rw [if_neg (i3n ht), if_neg (irn h6 hr), if_neg (ion ho)]
  by_cases c2 : OT_pt (RS_tt S t) < (lastq (RS_rr S r)).1
  · rw [if_pos c2]
    exact Or.inl ⟨_, rfl, H.one (FP_sbk (H.1 t ht).1.1) SM_sbk, SOP.one rfl, ⟨rfl, rfl, rfl⟩, congrArg OT_bk tt_one⟩
  · rw [if_neg c2]
    by_cases c3 : (gos t r false 3 S).1 = false
    · rw [if_pos c3]
      exact Or.inl ⟨_, rfl, (G3 c3).1, G1, G2, (G3 c3).2⟩
    · rw [if_neg c3]
      obtain ⟨G5, G6⟩ := G4 (gf c3)
      refine Or.inr ⟨_, rfl, G5.one ?_ ?_, fun u => (SOP.one (S := (gos t r false 3 S).2) (t := t) (y := OT_uen (RS_tt (gos t r false 3 S).2 t) r true) rfl u).trans (G1 u), G2, ?_⟩
      · refine ⟨?_, fun z => ?_⟩
        · show OT_bk (RS_tt (gos t r false 3 S).2 t) ≤ k + 1
          rw [G6]
          exact Nat.le_succ_of_le (H.1 t ht).1.1
        · have z : OT_bk (RS_tt (gos t r false 3 S).2 t) = k + 1 := z
          rw [G6] at z
          exact absurd z (by have := (H.1 t ht).1.1; omega)
      · rw [G6]; exact ⟨(H.1 t ht).2.1, fun z => Bool.noConfusion (ho.symm.trans z)⟩
      · rw [tt_one, G6]
theorem rx_add {y : Int32} (ht : t < 3) (h6 : RS_rn S ≤ 6) (hr : r < RS_rn S) (ho : OT_op (RS_tt S t) = true) (H : RI k S) :
    o_add S (nI t) t (nI r) r y = (nI 4, nI 0, S) ∨ (∃ S', o_add S (nI t) t (nI r) r y = (nI 0, nI 1, S') ∧ RI (k + 1) S' ∧ SOP S S' ∧ SAM S S' ∧ OT_bk (RS_tt S' t) = OT_bk (RS_tt S t)) := by
  unfold o_add
  rw [if_neg (i3n ht), if_neg (irn h6 hr), if_neg (ion ho)]
  by_cases c1 : inB y (-99) (nI 99) = false ∨ (!elB (adz (RS_tt S t) r y)) = true
  · exact Or.inl (if_pos c1)
  · rw [if_neg c1]
    have hz : elB (adz (RS_tt S t) r y) = true := by
      cases q : elB (adz (RS_tt S t) r y) with
      | true => rfl
      | false => exact absurd (Or.inr (by rw [q]; rfl)) c1
    have hb : ∀ y' : OTS, OT_bk y' = OT_bk (RS_tt S t) → FPk (k + 1) y' := fun y' e => ⟨by rw [e]; exact Nat.le_succ_of_le (H.1 t ht).1.1, fun z => absurd z (by rw [e]; have := (H.1 t ht).1.1; omega)⟩
    by_cases c2 : OT_wr (RS_tt S t) r = true
    · rw [if_pos c2]
      refine Or.inr ⟨_, rfl, H.one (hb _ rfl) ⟨fun j hj => ?_, fun z => Bool.noConfusion (ho.symm.trans z)⟩, SOP.one rfl, ⟨rfl, rfl, rfl⟩, (by have e := congrArg OT_bk (tt_one (S := S) (t := t) (y := OT_uwn (RS_tt S t) r (adz (RS_tt S t) r y))); exact e)⟩
      have a := (H.1 t ht).2.1 j hj
      refine ⟨a.1, fun z => ?_⟩
      show elB (va_up (OT_wn (RS_tt S t)) r (adz (RS_tt S t) r y) j) = true
      rw [va_up_app]
      split
      · exact hz
      · exact a.2 z
    · rw [if_neg c2]
      refine Or.inr ⟨_, rfl, H.one (hb _ rfl) ⟨fun j hj => ?_, fun z => Bool.noConfusion (ho.symm.trans z)⟩, SOP.one rfl, ⟨rfl, rfl, rfl⟩, (by have e := congrArg OT_bk (tt_one (S := S) (t := t) (y := OT_usm (OT_uad (RS_tt S t) r true) r (adz (RS_tt S t) r y))); exact e)⟩
      have a := (H.1 t ht).2.1 j hj
      refine ⟨?_, a.2⟩
      show elB (va_up (OT_sm (RS_tt S t)) r (adz (RS_tt S t) r y) j) = true
      rw [va_up_app]
      split
      · exact hz
      · exact a.1
/-- what one closes, or opens -/
def SCL (S S' : RS) (t : Nat) (b : Bool) : Prop := ∀ u, OT_op (RS_tt S' u) = if u = t then b else OT_op (RS_tt S u)
theorem SCL.one {y : OTS} {b : Bool} (h : OT_op y = b) : SCL S (RS_utt1 S t y) t b := fun u => by
  have e : RS_tt (RS_utt1 S t y) u = if u = t then y else RS_tt S u := va_up_app
  rw [e]
  split
  · exact h
  · rfl
theorem rx_begin (ht : t < 3) (ho : OT_op (RS_tt S t) = false) (H : RI k S) : ∃ S', o_begin S (nI t) t = (nI 0, nI (RS_mo S), S') ∧ RI (k + 1) S' ∧ SCL S S' t true ∧ SAM S S' ∧ o_sentBack S' (nI t) t = (nI 0, nI 0, S') ∧ o_begin S' (nI t) t = (nI 2, nI 0, S') := by
  have e : o_begin S (nI t) t = (nI 0, nI (RS_mo S), RS_ubg (RS_utt1 S t (fgt (OT_ubk (OT_uag (OT_upt (OT_uop (RS_tt S t) true) (RS_mo S)) (RS_bg S)) 0))) (RS_bg S + 1)) := by
    unfold o_begin
    rw [if_neg (i3n ht), if_neg (by rw [ho]; decide)]
  have T : RS_tt (RS_ubg (RS_utt1 S t (fgt (OT_ubk (OT_uag (OT_upt (OT_uop (RS_tt S t) true) (RS_mo S)) (RS_bg S)) 0))) (RS_bg S + 1)) t = fgt (OT_ubk (OT_uag (OT_upt (OT_uop (RS_tt S t) true) (RS_mo S)) (RS_bg S)) 0) := tt_one
  refine ⟨_, e, H.one ⟨Nat.zero_le _, fun _ => clr_fgt⟩ SM_fgt, SCL.one rfl, ⟨rfl, rfl, rfl⟩, ?_, ?_⟩
  · rw [rx_sent ht, T]
    rfl
  · unfold o_begin
    rw [if_neg (i3n ht), if_pos (by rw [T]; rfl)]
theorem rx_end (ht : t < 3) (ho : OT_op (RS_tt S t) = true) (H : RI k S) : ∃ S', o_end S (nI t) t = (nI 0, nI (OT_bk (RS_tt S t)), S') ∧ RI (k + 1) S' ∧ SCL S S' t false ∧ SAM S S' := by
  unfold o_end
  rw [if_neg (i3n ht), if_neg (ion ho)]
  exact ⟨_, rfl, H.one ⟨Nat.le_succ_of_le (H.1 t ht).1.1, fun _ => clr_fgt⟩ SM_fgt, SCL.one rfl, ⟨rfl, rfl, rfl⟩⟩
theorem rx_addRef {p : Nat} (hp : p < 6) (hn : RS_rn S < 6) (H : RI k S) : ∃ S', o_addReference S (nI p - nI 3) (-5 - nI p) (nI (5 + p)) = (nI 0, nI (RS_rn S), S') ∧ RI (k + 1) S' ∧ RS_tt S' = RS_tt S ∧ RS_rn S' = RS_rn S + 1 ∧ RS_lg S' = RS_lg S ∧ RS_mo S' = RS_mo S := by
  have e1 : (nI p - nI 3).toInt = (p : Int) - 3 := sub_toInt (by omega) (by omega)
  have e2 : (-5 - nI p : Int32).toInt = -5 - (p : Int) := by
    rw [Int32.toInt_sub, nI_toInt (by omega), show (-5 : Int32).toInt = -5 from by decide]
    exact bm31 (by omega) (by omega)
  have e3 : (nI (5 + p)).toInt = ((5 + p : Nat) : Int) := nI_toInt (by omega)
  have ab : abB (nI p - nI 3) (-5 - nI p) (nI (5 + p)) = true := by
    unfold abB
    rw [elB_of (by omega) (by omega), elB_of (by omega) (by omega), inB_of (by omega) (by omega)]
    rfl
  have eo : o_addReference S (nI p - nI 3) (-5 - nI p) (nI (5 + p)) = (nI 0, nI (RS_rn S), RS_urr (RS_urn S (RS_rn S + 1)) (va_up (RS_rr S) (RS_rn S) (-5 - nI p, nI (5 + p), 2, nI p - nI 3, [(0, nI p - nI 3)]))) := by
    unfold o_addReference
    rw [if_neg (by rw [ab]; decide), if_neg (by omega)]
  refine ⟨_, eo, ⟨fun u hu => ⟨(H.1 u hu).1.up, (H.1 u hu).2⟩, H.2.1.to rfl (Nat.le_refl _) (Nat.le_succ _) (fun j hj => ?_), H.2.2.1, fun j hj => ?_⟩, rfl, rfl, rfl, rfl⟩
  · show OR_fst (va_up (RS_rr S) (RS_rn S) _ j) = _
    rw [va_up_ne _ _ (by omega)]
  · have er : RS_rr (RS_urr (RS_urn S (RS_rn S + 1)) (va_up (RS_rr S) (RS_rn S) (-5 - nI p, nI (5 + p), 2, nI p - nI 3, [(0, nI p - nI 3)]))) j = if j = RS_rn S then (-5 - nI p, nI (5 + p), 2, nI p - nI 3, [(0, nI p - nI 3)]) else RS_rr S j := va_up_app
    rw [er]
    by_cases q : j = RS_rn S
    · rw [if_pos q]
      refine ⟨by show -10 ≤ (-5 - nI p : Int32).toInt; omega, by show (nI (5 + p)).toInt ≤ 10; omega, fun z hz => ?_, ⟨Nat.le_refl 1, by show 1 ≤ 2; decide, by show 2 ≤ 8; decide⟩, ?_⟩
      · rw [List.mem_singleton.mp hz]
        show -10 ≤ (nI p - nI 3).toInt ∧ (nI p - nI 3).toInt ≤ 10
        omega
      · show vbF j (RS_lg S) (nI p - nI 3) = nI p - nI 3
        refine vbF_no _ _ (fun z hz => ?_)
        obtain ⟨i, hi, e⟩ := List.getElem_of_mem hz
        have a := (H.2.1.1 i hi).2.1
        rw [List.getD_eq_getElem?_getD, List.getElem?_eq_getElem hi] at a
        have a : ((RS_lg S)[i]).2.1 < RS_rn S := a
        rw [e] at a
        omega
    · rw [if_neg q]
      exact H.2.2.2 j (by have : j < RS_rn S + 1 := hj; omega)
theorem LGk.umo {m : Nat} (H : LGk S) (h : RS_mo S ≤ m) : LGk (RS_umo S m) := H.to rfl h (Nat.le_refl _) (fun _ _ => rfl)
theorem rx_commit (ht : t < 3) (h6 : RS_rn S ≤ 6) (ho : OT_op (RS_tt S t) = true) (H : RI k S) :
    (∃ S', o_commit S (nI t) t = (nI 0, nI 115, S') ∧ RI (k + 1) S' ∧ SOP S S' ∧ SAM S S') ∨
    (∃ S' w, (w = 98 ∨ w = 99) ∧ o_commit S (nI t) t = (nI 0, nI w, S') ∧ RI (k + 1) S' ∧ SCL S S' t false ∧ RS_rn S' = RS_rn S ∧ ((RS_lg S' = RS_lg S ∧ RS_mo S' = RS_mo S) ∨ (w = 99 ∧ (RS_lg S).length < (RS_lg S').length ∧ RS_mo S' = RS_mo S + 1 ∧ ((RS_lg S').getD ((RS_lg S').length - 1) (0, 0, 0, 0)).1 = RS_mo S + 1))) := by
  obtain ⟨A1, A2⟩ := cmA_P (k := k) (t := t) (RS_rn S) 0 S (by omega) (TP.of H)
  have hop := fun u => cmA_op (u := u) (t := t) (RS_rn S) 0 S
  have hT := cmA_t (t := t) (RS_rn S) 0 S
  obtain ⟨f, hf⟩ := cmA_utt t (RS_rn S) 0 S
  by_cases c : (cmA t (RS_rn S) 0 S).1 = false
  · left
    refine ⟨(cmA t (RS_rn S) 0 S).2, by unfold o_commit; rw [if_neg (i3n ht), if_neg (ion ho), if_pos c], ?_, hop, by rw [hf]; exact ⟨rfl, rfl, rfl⟩⟩
    have A3 := A2 c
    rw [hf] at A1 A3 ⊢
    refine H.utt (fun u hu => ?_)
    by_cases q : u = t
    · rw [q]
      have A3 : f t = sbk (RS_tt S t) (RS_mo S) := A3
      rw [A3]
      exact ⟨FP_sbk (H.1 t ht).1.1, SM_sbk⟩
    · exact ⟨((A1 u hu).2 q).up, (A1 u hu).1⟩
  · right
    have hT := hT (gf c)
    have HZ : RI k (cmA t (RS_rn S) 0 S).2 := by
      rw [hf] at A1 hT ⊢
      refine H.utt (fun u hu => ?_)
      by_cases q : u = t
      · rw [q]
        have hT : f t = RS_tt S t := hT
        rw [hT]
        exact H.1 t ht
      · exact ⟨(A1 u hu).2 q, (A1 u hu).1⟩
    have z1 : RS_rn (cmA t (RS_rn S) 0 S).2 = RS_rn S := by rw [hf]
    have z2 : RS_lg (cmA t (RS_rn S) 0 S).2 = RS_lg S := by rw [hf]
    have z3 : RS_mo (cmA t (RS_rn S) 0 S).2 = RS_mo S := by rw [hf]
    have eo : o_commit S (nI t) t = if (cmB (cmA t (RS_rn S) 0 S).2 t (RS_rn S) 0 false false).1 = true then (nI 0, nI 98, RS_utt1 (cmA t (RS_rn S) 0 S).2 t (fgt (OT_uop (RS_tt (cmA t (RS_rn S) 0 S).2 t) false)))
        else (nI 0, nI 99, (fun Z => RS_utt1 Z t (fgt (RS_tt Z t))) (cmG (cmC t (RS_rn S) 0 (cmE (cmA t (RS_rn S) 0 S).2 t (cmB (cmA t (RS_rn S) 0 S).2 t (RS_rn S) 0 false false).2)) t)) := by
      unfold o_commit
      rw [if_neg (i3n ht), if_neg (ion ho), if_neg c]
    clear hf A1 A2 c
    generalize (cmA t (RS_rn S) 0 S).2 = Z at *
    by_cases c4 : (cmB Z t (RS_rn S) 0 false false).1 = true
    · rw [if_pos c4] at eo
      refine ⟨_, 98, Or.inl rfl, eo, HZ.one ⟨?_, fun _ => clr_fgt⟩ SM_fgt, fun u => ?_, z1, Or.inl ⟨z2, z3⟩⟩
      · show OT_bk (RS_tt Z t) ≤ k + 1
        exact Nat.le_succ_of_le (HZ.1 t ht).1.1
      · rw [SCL.one (S := Z) (t := t) (y := fgt (OT_uop (RS_tt Z t) false)) (b := false) rfl u, hop u]
    · rw [if_neg c4] at eo
      have c5 : (cmB Z t (RS_rn S) 0 false false).1 = false := by revert c4; cases (cmB Z t (RS_rn S) 0 false false).1 <;> simp
      obtain ⟨-, hin⟩ := cmB_1 (RS_rn S) 0 false false c5
      have hs := cmB_2 (S := Z) (t := t) (RS_rn S) 0 false false
      generalize (cmB Z t (RS_rn S) 0 false false).2 = b at eo hs
      have L0 : LGk (cmE Z t b) := LGk.umo (S := RS_utt1 Z t (OT_uop (RS_tt Z t) false)) HZ.2.1 (Nat.le_add_right _ _)
      obtain ⟨d1, d2, d3, e, d4, d5, d6⟩ := cmC_P (t := t) (y := OT_uop (RS_tt Z t) false) (RS_rn S) 0 (cmE Z t b) cmE_tt (by show 0 + RS_rn S ≤ RS_rn Z; omega) L0 HZ.2.2.2 (fun j j1 j2 jc => hin j j1 j2 jc)
      have d3 : RS_mo (cmC t (RS_rn S) 0 (cmE Z t b)) = RS_mo Z + if b = true then 1 else 0 := d3
      have d4 : RS_lg (cmC t (RS_rn S) 0 (cmE Z t b)) = RS_lg Z ++ e := d4
      have d6 : ∀ q, q ∈ e → q.1 = RS_mo Z + if b = true then 1 else 0 := d6
      obtain ⟨t1, -, -, t4⟩ := cmC_tt (t := t) (m := RS_rn S) (r := 0) (S := cmE Z t b)
      generalize hY : cmC t (RS_rn S) 0 (cmE Z t b) = Y at *
      rw [cgN_op] at d5
      have t5 : RS_tt Y t = OT_uop (RS_tt Z t) false := by rw [t1]; exact cmE_tt
      have ttY : ∀ u, RS_tt Y u = if u = t then OT_uop (RS_tt Z t) false else RS_tt Z u := fun u => by
        rw [t1]
        exact va_up_app
      have last : 0 < e.length → ((RS_lg Z ++ e).getD ((RS_lg Z ++ e).length - 1) (0, 0, 0, 0)).1 = RS_mo Z + if b = true then 1 else 0 := fun h => by
        have h2 : (RS_lg Z ++ e).length - 1 < (RS_lg Z ++ e).length := by rw [List.length_append]; omega
        have h3 : (RS_lg Z ++ e).getD ((RS_lg Z ++ e).length - 1) (0, 0, 0, 0) = e.getD (e.length - 1) (0, 0, 0, 0) := by
          rw [List.length_append, List.getD_eq_getElem?_getD, List.getD_eq_getElem?_getD, List.getElem?_append_right (by omega), show (RS_lg Z).length + e.length - 1 - (RS_lg Z).length = e.length - 1 by omega]
        rw [h3]
        exact d6 _ (getD_mem (by omega) _)
      have RIY : RI (k + 1) (RS_utt1 (cmG Y t) t (fgt (RS_tt (cmG Y t) t))) := by
        refine ⟨fun u hu => ?_, d1, ?_, d2⟩
        · have e1 : RS_tt (RS_utt1 (cmG Y t) t (fgt (RS_tt (cmG Y t) t))) u = if u = t then fgt (RS_tt Y t) else RS_tt Y u := va_up_app
          rw [e1]
          by_cases q : u = t
          · rw [if_pos q]
            refine ⟨⟨?_, fun _ => clr_fgt⟩, SM_fgt⟩
            show OT_bk (RS_tt Y t) ≤ k + 1
            rw [t5]
            exact Nat.le_succ_of_le (HZ.1 t ht).1.1
          · rw [if_neg q, ttY u, if_neg q]
            exact ⟨(HZ.1 u hu).1.up, (HZ.1 u hu).2⟩
        · show ((RS_lg Y).length = 0 → RS_mo Y = 0) ∧ (0 < (RS_lg Y).length → ((RS_lg Y).getD ((RS_lg Y).length - 1) (0, 0, 0, 0)).1 = RS_mo Y)
          rw [d4, d3]
          by_cases g : 0 < e.length
          · exact ⟨fun z => by rw [List.length_append] at z; omega, fun _ => last g⟩
          · have e0 : e = [] := List.eq_nil_of_length_eq_zero (by omega)
            have b0 : ¬ b = true := fun z => by
              rcases hs.mp z with w | w
              · cases w
              · omega
            rw [e0, List.append_nil, if_neg b0]
            exact HZ.2.2.1
      have sc : SCL S (RS_utt1 (cmG Y t) t (fgt (RS_tt (cmG Y t) t))) t false := fun u => by
        have e1 : RS_tt (RS_utt1 (cmG Y t) t (fgt (RS_tt (cmG Y t) t))) u = if u = t then fgt (RS_tt Y t) else RS_tt Y u := va_up_app
        rw [e1]
        by_cases q : u = t
        · rw [if_pos q, if_pos q]
          show OT_op (RS_tt Y t) = false
          rw [t5]
        · rw [if_neg q, if_neg q, ttY u, if_neg q]
          exact hop u
      refine ⟨_, 99, Or.inr rfl, eo, RIY, sc, by show RS_rn Y = _; rw [t4]; exact z1, ?_⟩
      by_cases g : 0 < e.length
      · have b1 : b = true := hs.mpr (Or.inr (by omega))
        right
        refine ⟨rfl, ?_, ?_, ?_⟩
        · show (RS_lg S).length < (RS_lg Y).length
          rw [d4, List.length_append, z2]; omega
        · show RS_mo Y = _
          rw [d3, if_pos b1, z3]
        · show ((RS_lg Y).getD ((RS_lg Y).length - 1) (0, 0, 0, 0)).1 = _
          rw [d4, last g, if_pos b1, z3]
      · have e0 : e = [] := List.eq_nil_of_length_eq_zero (by omega)
        have b0 : ¬ b = true := fun z => by
          rcases hs.mp z with w | w
          · cases w
          · omega
        left
        refine ⟨?_, ?_⟩
        · show RS_lg Y = _
          rw [d4, e0, List.append_nil, z2]
        · show RS_mo Y = _
          rw [d3, if_neg b0, Nat.add_zero, z3]
end ROP
