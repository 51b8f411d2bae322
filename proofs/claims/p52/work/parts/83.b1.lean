/-! What every call keeps: the bounds of the references, go on. -/
theorem RB_same {n t : Nat} {S : RS} {y : OTS} (H : RB n S) (ht : t < 3) (e1 : OT_pt y = OT_pt (RS_tt S t)) (e2 : OT_ag y = OT_ag (RS_tt S t)) (e3 : OT_sq y = OT_sq (RS_tt S t)) : RB n (RS_utt1 S t y) := RB_utt H (by rw [e1, e2, e3]; exact H.2.1 t ht)
theorem nb_t {v : Int32} {m : Nat} (e : ¬ (!ixB v m) = true) : ixB v m = true := by revert e; cases ixB v m <;> simp
theorem RB_write {n : Nat} {S : RS} (H : RB n S) (hn : n < 600) {v u x : Int32} {t r : Nat} (hv : ixB v 3 = true → v = nI t ∧ t < 3) : RB (n + 1) (o_write S v t u r x).2.2 := by
  have H1 := RB_up H hn
  unfold o_write
  split
  · exact H1
  · next e =>
    have ht : t < 3 := (hv (nb_t e)).2
    repeat' split
    · exact H1
    · exact H1
    · exact H1
    · exact RB_sbk H1 ht
    · exact RB_gos ht 3 S H1
    · exact RB_same (RB_gos ht 3 S H1) ht rfl rfl rfl
theorem RB_ensure {n : Nat} {S : RS} (H : RB n S) (hn : n < 600) {v u : Int32} {t r : Nat} (hv : ixB v 3 = true → v = nI t ∧ t < 3) : RB (n + 1) (o_ensure S v t u r).2.2 := by
  have H1 := RB_up H hn
  unfold o_ensure
  split
  · exact H1
  · next e =>
    have ht : t < 3 := (hv (nb_t e)).2
    repeat' split
    · exact H1
    · exact H1
    · exact RB_sbk H1 ht
    · exact RB_gos ht 3 S H1
    · exact RB_same (RB_gos ht 3 S H1) ht rfl rfl rfl
theorem RB_add {n : Nat} {S : RS} (H : RB n S) (hn : n < 600) {v u y : Int32} {t r : Nat} (hv : ixB v 3 = true → v = nI t ∧ t < 3) : RB (n + 1) (o_add S v t u r y).2.2 := by
  have H1 := RB_up H hn
  unfold o_add
  split
  · exact H1
  · next e =>
    have ht : t < 3 := (hv (nb_t e)).2
    repeat' split
    · exact H1
    · exact H1
    · exact H1
    · exact RB_same H1 ht rfl rfl rfl
    · exact RB_same H1 ht rfl rfl rfl
theorem RB_beginAnew {n : Nat} {S : RS} (H : RB n S) (hn : n < 600) {w x : Int32} {a : Nat} (hw : ixB w (RS_an S) = true → w = nI a ∧ a < RS_an S) : RB (n + 1) (o_beginAnew S w a x).2.2 := by
  have H1 := RB_up H hn
  unfold o_beginAnew
  split
  · exact H1
  · next e =>
    have ha : a < RS_an S := (hw (nb_t e)).2
    repeat' split
    · exact H1
    · exact H1
    · exact RB_uaa H1 (H1.2.2.2 a ha)
