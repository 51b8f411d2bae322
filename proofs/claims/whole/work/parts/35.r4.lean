/-! The model: agents; the log. -/
theorem lgL_get {l : List (Nat × Nat × Int32 × Int32)} {j : Nat} (hj : j < (lgL l).length) : (lgL l)[j] = [nI (l.getD j (0, 0, 0, 0)).1, nI (l.getD j (0, 0, 0, 0)).2.1, (l.getD j (0, 0, 0, 0)).2.2.1, (l.getD j (0, 0, 0, 0)).2.2.2] := by
  have h2 : j < l.length := by rwa [lgL_len] at hj
  have : l.getD j (0, 0, 0, 0) = l[j] := by simp [List.getD, List.getElem?_eq_getElem h2]
  rw [this]
  simp only [lgL, List.getElem_map]
theorem row_cons {l : List Int32} (h : ¬ l.length = 0) : ∃ z q, l = z :: q := by
  cases l with
  | nil => exact absurd rfl h
  | cons z q => exact ⟨z, q, rfl⟩
def o_errors (S : RS) (w : Int32) (a : Nat) : Int32 × Int32 × RS :=
  if (!ixB w (RS_an S)) = true then (nI 1, nI 0, S) else (nI 0, nI (OA_er (RS_aa S a)), S)
def o_beginAnew (S : RS) (w : Int32) (a : Nat) (x : Int32) : Int32 × Int32 × RS :=
  if (!ixB w (RS_an S)) = true then (nI 1, nI 0, S) else if inB x (OA_lo (RS_aa S a)) (OA_hi (RS_aa S a)) = false then (nI 2, nI 0, S) else if OA_fl (RS_aa S a) = false then (nI 3, nI 0, S)
  else (nI 0, OA_val (RS_aa S a), RS_uaa1 S a (OA_ufl (OA_uval (RS_aa S a) x) false))
/-- what the agent does with the number z -/
def actd (x : OAS) (z : Int32) (q : List Int32) : OAS :=
  if inB (OA_val x + z) (OA_lo x) (OA_hi x) = true then OA_ufl (OA_uer (OA_uval (OA_urow x q) (OA_val x + z)) (OA_er x + 0)) false
  else OA_ufl (OA_uer (OA_uval (OA_urow x q) (OA_val x)) (OA_er x + 1)) (decide (OA_md x = nI 102))
def o_act (S : RS) (w : Int32) (a : Nat) : Int32 × Int32 × RS :=
  if (!ixB w (RS_an S)) = true then (nI 1, nI 0, S) else if (OA_row (RS_aa S a)).length = 0 then (nI 2, nI 0, S) else if OA_fl (RS_aa S a) = true then (nI 3, nI 0, S)
  else (nI 0, OA_val (actd (RS_aa S a) ((OA_row (RS_aa S a)).headD 0) (OA_row (RS_aa S a)).tail), RS_uaa1 S a (actd (RS_aa S a) ((OA_row (RS_aa S a)).headD 0) (OA_row (RS_aa S a)).tail))
def logw (l : List (Nat × Nat × Int32 × Int32)) (k j : Nat) : Int32 := if j = 0 then nI (l.getD k (0, 0, 0, 0)).1 else if j = 1 then nI (l.getD k (0, 0, 0, 0)).2.1 else if j = 2 then (l.getD k (0, 0, 0, 0)).2.2.1 else (l.getD k (0, 0, 0, 0)).2.2.2
theorem logv {h : Hp} {a k j : Nat} {l : List (Nat × Nat × Int32 × Int32)} (E : PEr h a [nI (l.getD k (0, 0, 0, 0)).1, nI (l.getD k (0, 0, 0, 0)).2.1, (l.getD k (0, 0, 0, 0)).2.2.1, (l.getD k (0, 0, 0, 0)).2.2.2]) (hj : j < 4) : h_I h a j = logw l k j := by
  rcases j with _ | _ | _ | _ | j
  · exact E.2.2.2 0 (Nat.le_of_ble_eq_true rfl)
  · exact E.2.2.2 1 (Nat.le_of_ble_eq_true rfl)
  · exact E.2.2.2 2 (Nat.le_of_ble_eq_true rfl)
  · exact E.2.2.2 3 (Nat.le_of_ble_eq_true rfl)
  · omega
def o_logAt (S : RS) (w : Int32) (k : Nat) (x : Int32) (j : Nat) : Int32 × Int32 × RS :=
  if ixB w (RS_lg S).length = false then (nI 1, nI 0, S) else if inB x (nI 0) (nI 3) = false then (nI 2, nI 0, S)
  else (nI 0, logw (RS_lg S) k j, S)
set_option maxRecDepth 100000 in
set_option maxHeartbeats 4000000 in
theorem c_X16_noAgent {G : GG} {d bc bs : Nat} {h : Hp} {Q : Pst} {S : RS} (hR : MR h S) (v : Int32) (hd : 2 ≤ d) (hq : Q (oRet (vi (bI (!ixB v (RS_an S))))) h) : WP G m_X16_noAgent d 0 (aargs 0 [vr (some (nm 1 0)), vi v]) [] h bc bs Q := by
  refine wp_sub [(0, vr (some (nm 1 0))), (1, vi v)] (fun _ hz => hz) ?_
  refine wp_iload_n (i := 1) dX16_noAgent_0 rfl rfl ?_
  refine wp_iconst (nI 0) dX16_noAgent_1 (by decide) ?_
  refine wp_aload_n (i := 0) dX16_noAgent_2 rfl rfl ?_
  refine wp_get 17 18 (vr (some (nm 1 18))) dX16_noAgent_3 hR.mk (by decide) (by decide) fl_X16_60 (congrArg (fun z => toV (vr z)) (hR.ref 18 (by decide) (by decide) (by decide) (by decide))) ?_
  refine wp_cV (y' := m_Jx4a65c_size_8abf5) 2 [] [vi (nI 0), vi v] 0 0 dX16_noAgent_6 ml_X16_168 im_Jx4a65c_size_8abf5 se_Jx4a65c_size_8abf5 (by decide) hR.al.k ok_Jx4a65c_size_8abf5 rfl (Nat.le_of_ble_eq_true rfl) rfl (Nat.le_of_ble_eq_true rfl) (d' := d - 1) (by omega) (Nat.zero_le _) (Nat.zero_le _) (c_LO_size hR.al (cont_ret ?_))
  refine wp_iconst (nI 1) dX16_noAgent_9 (by decide) ?_
  refine wp_isub dX16_noAgent_10 ?_
  refine wp_cS (y' := m_X16_in) [vi v, vi (nI 0), vi ((nI (RS_an S)) - (nI 1))] [] 0 0 dX16_noAgent_11 ml_X16_70 st_X16_in ok_X16_in rfl (Nat.le_of_ble_eq_true rfl) rfl (Nat.le_of_ble_eq_true rfl) (d' := d - 1) (by omega) (Nat.zero_le _) (Nat.zero_le _) (c_X16_in v (nI 0) ((nI (RS_an S)) - (nI 1)) (cont_ret ?_))
  refine wp_if_neB 21 dX16_noAgent_14 (by decide) (fun c_14 => ?_) (fun c_14 => ?_)
  · rw [show ixB v (RS_an S) = true from c_14] at hq
    refine wp_iconst (nI 0) dX16_noAgent_21 (by decide) ?_
    refine wp_zreturn dX16_noAgent_22 rfl (by first | rfl | assumption) ?_
    exact hq
  · rw [show ixB v (RS_an S) = false from c_14] at hq
    refine wp_iconst (nI 1) dX16_noAgent_17 (by decide) ?_
    refine wp_goto 22 dX16_noAgent_18 (by decide) ?_
    refine wp_zreturn dX16_noAgent_22 rfl (by first | rfl | assumption) ?_
    exact hq
set_option maxRecDepth 100000 in
set_option maxHeartbeats 4000000 in
theorem c_X16_errors {G : GG} {d bc bs : Nat} {h : Hp} {Q : Pst} {S : RS} (hR : MR h S) {n : Nat} (hB : RB n S) (hP : PO2 h) {w : Int32} {a : Nat} (hw : ixB w (RS_an S) = true → w = nI a ∧ a < RS_an S) (hd : 7 ≤ d) (hq : RO Q h (o_errors S w a)) : WP G m_X16_errors d 0 (aargs 0 [vr (some (nm 1 0)), vi w]) [] h bc bs Q := by
  refine wp_sub [(0, vr (some (nm 1 0))), (1, vi w)] (fun _ hz => hz) ?_
  have hG := FRR.rf (h := h)
  have hB16 := hB.h16
  have hbb := hB.1
  refine wp_aload_n (i := 0) dX16_errors_0 rfl rfl ?_
  refine wp_iconst (nI 0) dX16_errors_1 (by decide) ?_
  refine wp_putI 17 0 dX16_errors_2 hR.mk (by decide) (by decide) (by decide) fl_X16_63 rfl (fun _ _ => rfl) rfl rfl ?_
  have hR1 := hR.w0 (x := (nI 0))
  have hG2 := hG.tr (FRR.w0 (x := (nI 0)))
  have hP3 := PO2.m (a := nm 1 0) (k := 0) (x := (nI 0)) hP
  refine wp_aload_n (i := 0) dX16_errors_5 rfl rfl ?_
  refine wp_aload_n (i := 0) dX16_errors_6 rfl rfl ?_
  refine wp_iload_n (i := 1) dX16_errors_7 rfl rfl ?_
  refine wp_cV (y' := m_X16_noAgent) 17 [vi w] [vr (some (nm 1 0))] 0 0 dX16_errors_8 ml_X16_357 im_X16_noAgent se_X16_noAgent (by decide) hR1.mk ok_X16_noAgent rfl (Nat.le_of_ble_eq_true rfl) rfl (Nat.le_of_ble_eq_true rfl) (d' := d - 1) (by omega) (Nat.zero_le _) (Nat.zero_le _) (c_X16_noAgent hR1 w (by omega) (cont_ret ?_))
  refine wp_iconst (nI 1) dX16_errors_11 (by decide) ?_
  refine wp_cV (y' := m_X16_fails) 17 [vi (bI (!ixB w (RS_an S))), vi (nI 1)] [] 0 0 dX16_errors_12 ml_X16_102 im_X16_fails se_X16_fails (by decide) hR1.mk ok_X16_fails rfl (Nat.le_of_ble_eq_true rfl) rfl (Nat.le_of_ble_eq_true rfl) (d' := d - 1) (by omega) (Nat.zero_le _) (Nat.zero_le _) (c_flB hR1.mk wI_ss (!ixB w (RS_an S)) (nI 1) (by decide) (fun c_12 => cont_ret ?_) (fun c_12 => cont_ret ?_))
  · have g_1 : (!ixB w (RS_an S)) = true := by first | exact c_12 | exact of_decide_eq_true c_12 | omega | (simp at c_12 ⊢; grind)
    have hR4 := hR1.w0 (x := nI 1)
    have hG5 := hG2.tr (FRR.w0 (x := nI 1))
    have hP6 := PO2.m (a := nm 1 0) (k := 0) (x := nI 1) hP3
    refine wp_if_eqN 22 dX16_errors_15 (by decide) (by decide) (fun c_15 => absurd c_15 (by decide)) (fun c_15 => ?_)
    refine wp_iconst (nI 0) dX16_errors_18 (by decide) ?_
    refine wp_goto 36 dX16_errors_19 (by decide) ?_
    refine wp_ireturn dX16_errors_36 rfl ?_
    rw [show o_errors S w a = (nI 1, nI 0, S) from by unfold o_errors; rw [if_pos g_1]] at hq
    exact hq _ hG5 wI_ss hR4 hP6
  · have g_1 : ¬ ((!ixB w (RS_an S)) = true) := by first | exact fun z => Bool.false_ne_true (c_12.symm.trans z) | exact of_decide_eq_false c_12 | omega | (simp at c_12 ⊢; grind)
    obtain ⟨ew, ha⟩ := hw (nt_g g_1)
    subst ew
    have ha16 : a < 16 := by have := hB.1.2.2.1; omega
    have hb1 := hB.2.2.2 a ha
    refine wp_if_eqN 22 dX16_errors_15 (by decide) (by decide) (fun c_15 => ?_) (fun c_15 => absurd c_15 (by decide))
    refine wp_aload_n (i := 0) dX16_errors_22 rfl rfl ?_
    refine wp_get 17 18 (vr (some (nm 1 18))) dX16_errors_23 hR1.mk (by decide) (by decide) fl_X16_60 (congrArg (fun z => toV (vr z)) (hR1.ref 18 (by decide) (by decide) (by decide) (by decide))) ?_
    refine wp_iload_n (i := 1) dX16_errors_26 rfl rfl ?_
    refine wp_cV (y' := m_Jx4a65c_get_915e3) 2 [vi (nI a)] [] 0 0 dX16_errors_27 ml_X16_201 im_Jx4a65c_get_915e3 se_Jx4a65c_get_915e3 (by decide) hR1.al.k ok_Jx4a65c_get_915e3 rfl (Nat.le_of_ble_eq_true rfl) rfl (Nat.le_of_ble_eq_true rfl) (d' := d - 1) (by omega) (Nat.zero_le _) (Nat.zero_le _) (c_LO_get hR1.al (by omega) (by omega) (cont_ret ?_))
    refine wp_castC 13 dX16_errors_30 (by decide) kl_X16_346 (fun a ha => by cases ha; exact (hR1.a (by omega)).k0) ?_
    refine wp_get 13 5 (vi (nI (OA_er (RS_aa S a)))) dX16_errors_33 (hR1.a (by omega)).k0 (by decide) (by decide) fl_X16_379 (congrArg (fun z => toV (vi z)) ((hR1.a (by omega)).f_er)) ?_
    refine wp_ireturn dX16_errors_36 rfl ?_
    rw [show o_errors S (nI a) a = (nI 0, (nI (OA_er (RS_aa S a))), S) from by unfold o_errors; rw [if_neg g_1] <;> rfl] at hq
    exact hq _ hG2 wI_ss hR1 hP3
set_option maxRecDepth 100000 in
set_option maxHeartbeats 4000000 in
theorem c_X16_beginAnew {G : GG} {d bc bs : Nat} {h : Hp} {Q : Pst} {S : RS} (hR : MR h S) {n : Nat} (hB : RB n S) (hP : PO2 h) {w : Int32} {a : Nat} (hw : ixB w (RS_an S) = true → w = nI a ∧ a < RS_an S) {x : Int32} (hd : 7 ≤ d) (hq : RO Q h (o_beginAnew S w a x)) : WP G m_X16_beginAnew d 0 (aargs 0 [vr (some (nm 1 0)), vi w, vi x]) [] h bc bs Q := by
  refine wp_sub [(0, vr (some (nm 1 0))), (1, vi w), (2, vi x)] (fun _ hz => hz) ?_
  have hG := FRR.rf (h := h)
  have hB16 := hB.h16
  have hbb := hB.1
  refine wp_aload_n (i := 0) dX16_beginAnew_0 rfl rfl ?_
  refine wp_iconst (nI 0) dX16_beginAnew_1 (by decide) ?_
  refine wp_putI 17 0 dX16_beginAnew_2 hR.mk (by decide) (by decide) (by decide) fl_X16_63 rfl (fun _ _ => rfl) rfl rfl ?_
  have hR1 := hR.w0 (x := (nI 0))
  have hG2 := hG.tr (FRR.w0 (x := (nI 0)))
  have hP3 := PO2.m (a := nm 1 0) (k := 0) (x := (nI 0)) hP
  refine wp_aload_n (i := 0) dX16_beginAnew_5 rfl rfl ?_
  refine wp_aload_n (i := 0) dX16_beginAnew_6 rfl rfl ?_
  refine wp_iload_n (i := 1) dX16_beginAnew_7 rfl rfl ?_
  refine wp_cV (y' := m_X16_noAgent) 17 [vi w] [vr (some (nm 1 0))] 0 0 dX16_beginAnew_8 ml_X16_357 im_X16_noAgent se_X16_noAgent (by decide) hR1.mk ok_X16_noAgent rfl (Nat.le_of_ble_eq_true rfl) rfl (Nat.le_of_ble_eq_true rfl) (d' := d - 1) (by omega) (Nat.zero_le _) (Nat.zero_le _) (c_X16_noAgent hR1 w (by omega) (cont_ret ?_))
  refine wp_iconst (nI 1) dX16_beginAnew_11 (by decide) ?_
  refine wp_cV (y' := m_X16_fails) 17 [vi (bI (!ixB w (RS_an S))), vi (nI 1)] [] 0 0 dX16_beginAnew_12 ml_X16_102 im_X16_fails se_X16_fails (by decide) hR1.mk ok_X16_fails rfl (Nat.le_of_ble_eq_true rfl) rfl (Nat.le_of_ble_eq_true rfl) (d' := d - 1) (by omega) (Nat.zero_le _) (Nat.zero_le _) (c_flB hR1.mk wI_ss (!ixB w (RS_an S)) (nI 1) (by decide) (fun c_12 => cont_ret ?_) (fun c_12 => cont_ret ?_))
  · have g_1 : (!ixB w (RS_an S)) = true := by first | exact c_12 | exact of_decide_eq_true c_12 | omega | (simp at c_12 ⊢; grind)
    have hR4 := hR1.w0 (x := nI 1)
    have hG5 := hG2.tr (FRR.w0 (x := nI 1))
    have hP6 := PO2.m (a := nm 1 0) (k := 0) (x := nI 1) hP3
    refine wp_if_neN 96 dX16_beginAnew_15 (by decide) (by decide) (fun c_15 => ?_) (fun c_15 => absurd c_15 (by decide))
    refine wp_iconst (nI 0) dX16_beginAnew_96 (by decide) ?_
    refine wp_ireturn dX16_beginAnew_97 rfl ?_
    rw [show o_beginAnew S w a x = (nI 1, nI 0, S) from by unfold o_beginAnew; rw [if_pos g_1]] at hq
    exact hq _ hG5 wI_ss hR4 hP6
  · have g_1 : ¬ ((!ixB w (RS_an S)) = true) := by first | exact fun z => Bool.false_ne_true (c_12.symm.trans z) | exact of_decide_eq_false c_12 | omega | (simp at c_12 ⊢; grind)
    obtain ⟨ew, ha⟩ := hw (nt_g g_1)
    subst ew
    have ha16 : a < 16 := by have := hB.1.2.2.1; omega
    have hb1 := hB.2.2.2 a ha
    refine wp_if_neN 96 dX16_beginAnew_15 (by decide) (by decide) (fun c_15 => absurd c_15 (by decide)) (fun c_15 => ?_)
    refine wp_aload_n (i := 0) dX16_beginAnew_18 rfl rfl ?_
    refine wp_iload_n (i := 2) dX16_beginAnew_19 rfl rfl ?_
    refine wp_aload_n (i := 0) dX16_beginAnew_20 rfl rfl ?_
    refine wp_get 17 18 (vr (some (nm 1 18))) dX16_beginAnew_21 hR1.mk (by decide) (by decide) fl_X16_60 (congrArg (fun z => toV (vr z)) (hR1.ref 18 (by decide) (by decide) (by decide) (by decide))) ?_
    refine wp_iload_n (i := 1) dX16_beginAnew_24 rfl rfl ?_
    refine wp_cV (y' := m_Jx4a65c_get_915e3) 2 [vi (nI a)] [vi x, vr (some (nm 1 0))] 0 0 dX16_beginAnew_25 ml_X16_201 im_Jx4a65c_get_915e3 se_Jx4a65c_get_915e3 (by decide) hR1.al.k ok_Jx4a65c_get_915e3 rfl (Nat.le_of_ble_eq_true rfl) rfl (Nat.le_of_ble_eq_true rfl) (d' := d - 1) (by omega) (Nat.zero_le _) (Nat.zero_le _) (c_LO_get hR1.al (by omega) (by omega) (cont_ret ?_))
    refine wp_castC 13 dX16_beginAnew_28 (by decide) kl_X16_346 (fun a ha => by cases ha; exact (hR1.a (by omega)).k0) ?_
    refine wp_get 13 1 (vi (OA_lo (RS_aa S a))) dX16_beginAnew_31 (hR1.a (by omega)).k0 (by decide) (by decide) fl_X16_377 (congrArg (fun z => toV (vi z)) ((hR1.a (by omega)).f_lo)) ?_
    refine wp_aload_n (i := 0) dX16_beginAnew_34 rfl rfl ?_
    refine wp_get 17 18 (vr (some (nm 1 18))) dX16_beginAnew_35 hR1.mk (by decide) (by decide) fl_X16_60 (congrArg (fun z => toV (vr z)) (hR1.ref 18 (by decide) (by decide) (by decide) (by decide))) ?_
    refine wp_iload_n (i := 1) dX16_beginAnew_38 rfl rfl ?_
    refine wp_cV (y' := m_Jx4a65c_get_915e3) 2 [vi (nI a)] [vi (OA_lo (RS_aa S a)), vi x, vr (some (nm 1 0))] 0 0 dX16_beginAnew_39 ml_X16_201 im_Jx4a65c_get_915e3 se_Jx4a65c_get_915e3 (by decide) hR1.al.k ok_Jx4a65c_get_915e3 rfl (Nat.le_of_ble_eq_true rfl) rfl (Nat.le_of_ble_eq_true rfl) (d' := d - 1) (by omega) (Nat.zero_le _) (Nat.zero_le _) (c_LO_get hR1.al (by omega) (by omega) (cont_ret ?_))
    refine wp_castC 13 dX16_beginAnew_42 (by decide) kl_X16_346 (fun a ha => by cases ha; exact (hR1.a (by omega)).k0) ?_
    refine wp_get 13 2 (vi (OA_hi (RS_aa S a))) dX16_beginAnew_45 (hR1.a (by omega)).k0 (by decide) (by decide) fl_X16_378 (congrArg (fun z => toV (vi z)) ((hR1.a (by omega)).f_hi)) ?_
    refine wp_cS (y' := m_X16_in) [vi x, vi (OA_lo (RS_aa S a)), vi (OA_hi (RS_aa S a))] [vr (some (nm 1 0))] 0 0 dX16_beginAnew_48 ml_X16_70 st_X16_in ok_X16_in rfl (Nat.le_of_ble_eq_true rfl) rfl (Nat.le_of_ble_eq_true rfl) (d' := d - 1) (by omega) (Nat.zero_le _) (Nat.zero_le _) (c_X16_in x (OA_lo (RS_aa S a)) (OA_hi (RS_aa S a)) (cont_ret ?_))
    refine wp_if_neB 58 dX16_beginAnew_51 (by decide) (fun c_51 => ?_) (fun c_51 => ?_)
    · skip
      refine wp_iconst (nI 0) dX16_beginAnew_58 (by decide) ?_
      refine wp_iconst (nI 2) dX16_beginAnew_59 (by decide) ?_
      refine wp_cV (y' := m_X16_fails) 17 [vi (nI 0), vi (nI 2)] [] 0 0 dX16_beginAnew_60 ml_X16_102 im_X16_fails se_X16_fails (by decide) hR1.mk ok_X16_fails rfl (Nat.le_of_ble_eq_true rfl) rfl (Nat.le_of_ble_eq_true rfl) (d' := d - 1) (by omega) (Nat.zero_le _) (Nat.zero_le _) (c_flF hR1.mk wI_ss (nI 2) (by decide) (cont_ret ?_))
      have g_2 : ¬ (inB x (OA_lo (RS_aa S a)) (OA_hi (RS_aa S a)) = false) := by exact fun z => Bool.false_ne_true (z.symm.trans c_51)
      refine wp_if_neN 96 dX16_beginAnew_63 (by decide) (by decide) (fun c_63 => absurd c_63 (by decide)) (fun c_63 => ?_)
      refine wp_aload_n (i := 0) dX16_beginAnew_66 rfl rfl ?_
      refine wp_aload_n (i := 0) dX16_beginAnew_67 rfl rfl ?_
      refine wp_get 17 18 (vr (some (nm 1 18))) dX16_beginAnew_68 hR1.mk (by decide) (by decide) fl_X16_60 (congrArg (fun z => toV (vr z)) (hR1.ref 18 (by decide) (by decide) (by decide) (by decide))) ?_
      refine wp_iload_n (i := 1) dX16_beginAnew_71 rfl rfl ?_
      refine wp_cV (y' := m_Jx4a65c_get_915e3) 2 [vi (nI a)] [vr (some (nm 1 0))] 0 0 dX16_beginAnew_72 ml_X16_201 im_Jx4a65c_get_915e3 se_Jx4a65c_get_915e3 (by decide) hR1.al.k ok_Jx4a65c_get_915e3 rfl (Nat.le_of_ble_eq_true rfl) rfl (Nat.le_of_ble_eq_true rfl) (d' := d - 1) (by omega) (Nat.zero_le _) (Nat.zero_le _) (c_LO_get hR1.al (by omega) (by omega) (cont_ret ?_))
      refine wp_castC 13 dX16_beginAnew_75 (by decide) kl_X16_346 (fun a ha => by cases ha; exact (hR1.a (by omega)).k0) ?_
      refine wp_get 13 4 (vi (bI (OA_fl (RS_aa S a)))) dX16_beginAnew_78 (hR1.a (by omega)).k0 (by decide) (by decide) fl_X16_366 (congrArg (fun z => toV (vi z)) ((hR1.a (by omega)).f_fl)) ?_
      refine wp_if_neB 88 dX16_beginAnew_81 (by decide) (fun c_81 => ?_) (fun c_81 => ?_)
      · skip
        refine wp_iconst (nI 0) dX16_beginAnew_88 (by decide) ?_
        refine wp_iconst (nI 3) dX16_beginAnew_89 (by decide) ?_
        refine wp_cV (y' := m_X16_fails) 17 [vi (nI 0), vi (nI 3)] [] 0 0 dX16_beginAnew_90 ml_X16_102 im_X16_fails se_X16_fails (by decide) hR1.mk ok_X16_fails rfl (Nat.le_of_ble_eq_true rfl) rfl (Nat.le_of_ble_eq_true rfl) (d' := d - 1) (by omega) (Nat.zero_le _) (Nat.zero_le _) (c_flF hR1.mk wI_ss (nI 3) (by decide) (cont_ret ?_))
        have g_3 : ¬ (OA_fl (RS_aa S a) = false) := by exact fun z => Bool.false_ne_true (z.symm.trans c_81)
        refine wp_if_eqN 98 dX16_beginAnew_93 (by decide) (by decide) (fun c_93 => ?_) (fun c_93 => absurd c_93 (by decide))
        refine wp_aload_n (i := 0) dX16_beginAnew_98 rfl rfl ?_
        refine wp_get 17 18 (vr (some (nm 1 18))) dX16_beginAnew_99 hR1.mk (by decide) (by decide) fl_X16_60 (congrArg (fun z => toV (vr z)) (hR1.ref 18 (by decide) (by decide) (by decide) (by decide))) ?_
        refine wp_iload_n (i := 1) dX16_beginAnew_102 rfl rfl ?_
        refine wp_cV (y' := m_Jx4a65c_get_915e3) 2 [vi (nI a)] [] 0 0 dX16_beginAnew_103 ml_X16_201 im_Jx4a65c_get_915e3 se_Jx4a65c_get_915e3 (by decide) hR1.al.k ok_Jx4a65c_get_915e3 rfl (Nat.le_of_ble_eq_true rfl) rfl (Nat.le_of_ble_eq_true rfl) (d' := d - 1) (by omega) (Nat.zero_le _) (Nat.zero_le _) (c_LO_get hR1.al (by omega) (by omega) (cont_ret ?_))
        refine wp_castC 13 dX16_beginAnew_106 (by decide) kl_X16_346 (fun a ha => by cases ha; exact (hR1.a (by omega)).k0) ?_
        refine wp_astore_n (i := 3) (lv' := [(3, vr (some (nm 13 a))), (0, vr (some (nm 1 0))), (1, vi (nI a)), (2, vi x)]) dX16_beginAnew_109 rfl (by decide) rfl ?_
        refine wp_aload_n (i := 3) dX16_beginAnew_110 rfl rfl ?_
        refine wp_get 13 0 (vi (OA_val (RS_aa S a))) dX16_beginAnew_111 (hR1.a (by omega)).k0 (by decide) (by decide) fl_X16_369 (congrArg (fun z => toV (vi z)) ((hR1.a (by omega)).f_val)) ?_
        refine wp_topi (fun x_114 e_114 => ?_)
        refine wp_istore (i := 4) (lv' := [(4, vi x_114), (3, vr (some (nm 13 a))), (0, vr (some (nm 1 0))), (1, vi (nI a)), (2, vi x)]) dX16_beginAnew_114 (by decide) rfl ?_
        refine wp_aload_n (i := 3) dX16_beginAnew_116 rfl rfl ?_
        refine wp_iload_n (i := 2) dX16_beginAnew_117 rfl rfl ?_
        refine wp_putI 13 0 dX16_beginAnew_118 (hR1.a (by omega)).k0 (by decide) (by decide) (by decide) fl_X16_369 rfl (fun _ _ => rfl) rfl rfl ?_
        have hO13 := (hR1.a (by omega))
        have hF14 := hO13.rfA
        have hO15 := hO13.wval (v := x)
        have hF16 := hF14.wI (b := nm 13 a) (k := 0) (x := x) (by unfold WAg nm; omega)
        refine wp_aload_n (i := 3) dX16_beginAnew_121 rfl rfl ?_
        refine wp_iconst (nI 0) dX16_beginAnew_122 (by decide) ?_
        refine wp_putI 13 4 dX16_beginAnew_123 hO15.k0 (by decide) (by decide) (by decide) fl_X16_366 rfl (fun _ _ => rfl) rfl rfl ?_
        have hO17 := hO15.wfl (v := false)
        have hF18 := hF16.wI (b := nm 13 a) (k := 4) (x := bI (false)) (by unfold WAg nm; omega)
        refine wp_iload (i := 4) dX16_beginAnew_126 rfl ?_
        refine wp_ireturn dX16_beginAnew_128 rfl ?_
        have hP19 := (hP3).oA hF18
        have hR20 := hR1.upA (by omega) hF18 hO17 hB16
        have hG21 := hG2.tr (FRR.oA hF18)
        subst e_114
        rw [show o_beginAnew S (nI a) a x = (nI 0, (OA_val (RS_aa S a)), RS_uaa1 S a (OA_ufl (OA_uval (RS_aa S a) x) false)) from by unfold o_beginAnew; rw [if_neg g_1, if_neg g_2, if_neg g_3] <;> rfl] at hq
        exact hq _ hG21 ((th_oA hF18).trans wI_ss) hR20 hP19
      · skip
        refine wp_iconst (nI 1) dX16_beginAnew_84 (by decide) ?_
        refine wp_goto 89 dX16_beginAnew_85 (by decide) ?_
        refine wp_iconst (nI 3) dX16_beginAnew_89 (by decide) ?_
        refine wp_cV (y' := m_X16_fails) 17 [vi (nI 1), vi (nI 3)] [] 0 0 dX16_beginAnew_90 ml_X16_102 im_X16_fails se_X16_fails (by decide) hR1.mk ok_X16_fails rfl (Nat.le_of_ble_eq_true rfl) rfl (Nat.le_of_ble_eq_true rfl) (d' := d - 1) (by omega) (Nat.zero_le _) (Nat.zero_le _) (c_flT hR1.mk wI_ss (nI 3) (by decide) (cont_ret ?_))
        have g_3 : OA_fl (RS_aa S a) = false := by exact c_81
        have hR22 := hR1.w0 (x := nI 3)
        have hG23 := hG2.tr (FRR.w0 (x := nI 3))
        have hP24 := PO2.m (a := nm 1 0) (k := 0) (x := nI 3) hP3
        refine wp_if_eqN 98 dX16_beginAnew_93 (by decide) (by decide) (fun c_93 => absurd c_93 (by decide)) (fun c_93 => ?_)
        refine wp_iconst (nI 0) dX16_beginAnew_96 (by decide) ?_
        refine wp_ireturn dX16_beginAnew_97 rfl ?_
        rw [show o_beginAnew S (nI a) a x = (nI 3, nI 0, S) from by unfold o_beginAnew; rw [if_neg g_1, if_neg g_2, if_pos g_3]] at hq
        exact hq _ hG23 wI_ss hR22 hP24
    · skip
      refine wp_iconst (nI 1) dX16_beginAnew_54 (by decide) ?_
      refine wp_goto 59 dX16_beginAnew_55 (by decide) ?_
      refine wp_iconst (nI 2) dX16_beginAnew_59 (by decide) ?_
      refine wp_cV (y' := m_X16_fails) 17 [vi (nI 1), vi (nI 2)] [] 0 0 dX16_beginAnew_60 ml_X16_102 im_X16_fails se_X16_fails (by decide) hR1.mk ok_X16_fails rfl (Nat.le_of_ble_eq_true rfl) rfl (Nat.le_of_ble_eq_true rfl) (d' := d - 1) (by omega) (Nat.zero_le _) (Nat.zero_le _) (c_flT hR1.mk wI_ss (nI 2) (by decide) (cont_ret ?_))
      have g_2 : inB x (OA_lo (RS_aa S a)) (OA_hi (RS_aa S a)) = false := by exact c_51
      have hR25 := hR1.w0 (x := nI 2)
      have hG26 := hG2.tr (FRR.w0 (x := nI 2))
      have hP27 := PO2.m (a := nm 1 0) (k := 0) (x := nI 2) hP3
      refine wp_if_neN 96 dX16_beginAnew_63 (by decide) (by decide) (fun c_63 => ?_) (fun c_63 => absurd c_63 (by decide))
      refine wp_iconst (nI 0) dX16_beginAnew_96 (by decide) ?_
      refine wp_ireturn dX16_beginAnew_97 rfl ?_
      rw [show o_beginAnew S (nI a) a x = (nI 2, nI 0, S) from by unfold o_beginAnew; rw [if_neg g_1, if_pos g_2]] at hq
      exact hq _ hG26 wI_ss hR25 hP27
set_option maxRecDepth 100000 in
set_option maxHeartbeats 4000000 in
theorem c_X16_act {G : GG} {d bc bs : Nat} {h : Hp} {Q : Pst} {S : RS} (hR : MR h S) {n : Nat} (hB : RB n S) (hP : PO2 h) {w : Int32} {a : Nat} (hw : ixB w (RS_an S) = true → w = nI a ∧ a < RS_an S) (J : JC h) (hd : 7 ≤ d) (hq : RO Q h (o_act S w a)) : WP G m_X16_act d 0 (aargs 0 [vr (some (nm 1 0)), vi w]) [] h bc bs Q := by
  refine wp_sub [(0, vr (some (nm 1 0))), (1, vi w)] (fun _ hz => hz) ?_
  have hG := FRR.rf (h := h)
  have hB16 := hB.h16
  have hbb := hB.1
  refine wp_aload_n (i := 0) dX16_act_0 rfl rfl ?_
  refine wp_iconst (nI 0) dX16_act_1 (by decide) ?_
  refine wp_putI 17 0 dX16_act_2 hR.mk (by decide) (by decide) (by decide) fl_X16_63 rfl (fun _ _ => rfl) rfl rfl ?_
  have hR1 := hR.w0 (x := (nI 0))
  have hG2 := hG.tr (FRR.w0 (x := (nI 0)))
  have hP3 := PO2.m (a := nm 1 0) (k := 0) (x := (nI 0)) hP
  refine wp_aload_n (i := 0) dX16_act_5 rfl rfl ?_
  refine wp_aload_n (i := 0) dX16_act_6 rfl rfl ?_
  refine wp_iload_n (i := 1) dX16_act_7 rfl rfl ?_
  refine wp_cV (y' := m_X16_noAgent) 17 [vi w] [vr (some (nm 1 0))] 0 0 dX16_act_8 ml_X16_357 im_X16_noAgent se_X16_noAgent (by decide) hR1.mk ok_X16_noAgent rfl (Nat.le_of_ble_eq_true rfl) rfl (Nat.le_of_ble_eq_true rfl) (d' := d - 1) (by omega) (Nat.zero_le _) (Nat.zero_le _) (c_X16_noAgent hR1 w (by omega) (cont_ret ?_))
  refine wp_iconst (nI 1) dX16_act_11 (by decide) ?_
  refine wp_cV (y' := m_X16_fails) 17 [vi (bI (!ixB w (RS_an S))), vi (nI 1)] [] 0 0 dX16_act_12 ml_X16_102 im_X16_fails se_X16_fails (by decide) hR1.mk ok_X16_fails rfl (Nat.le_of_ble_eq_true rfl) rfl (Nat.le_of_ble_eq_true rfl) (d' := d - 1) (by omega) (Nat.zero_le _) (Nat.zero_le _) (c_flB hR1.mk wI_ss (!ixB w (RS_an S)) (nI 1) (by decide) (fun c_12 => cont_ret ?_) (fun c_12 => cont_ret ?_))
  · have g_1 : (!ixB w (RS_an S)) = true := by first | exact c_12 | exact of_decide_eq_true c_12 | omega | (simp at c_12 ⊢; grind)
    have hR4 := hR1.w0 (x := nI 1)
    have hG5 := hG2.tr (FRR.w0 (x := nI 1))
    have hP6 := PO2.m (a := nm 1 0) (k := 0) (x := nI 1) hP3
    refine wp_if_neN 65 dX16_act_15 (by decide) (by decide) (fun c_15 => ?_) (fun c_15 => absurd c_15 (by decide))
    refine wp_iconst (nI 0) dX16_act_65 (by decide) ?_
    refine wp_ireturn dX16_act_66 rfl ?_
    rw [show o_act S w a = (nI 1, nI 0, S) from by unfold o_act; rw [if_pos g_1]] at hq
    exact hq _ hG5 wI_ss hR4 hP6
  · have g_1 : ¬ ((!ixB w (RS_an S)) = true) := by first | exact fun z => Bool.false_ne_true (c_12.symm.trans z) | exact of_decide_eq_false c_12 | omega | (simp at c_12 ⊢; grind)
    obtain ⟨ew, ha⟩ := hw (nt_g g_1)
    subst ew
    have ha16 : a < 16 := by have := hB.1.2.2.1; omega
    have hb1 := hB.2.2.2 a ha
    refine wp_if_neN 65 dX16_act_15 (by decide) (by decide) (fun c_15 => absurd c_15 (by decide)) (fun c_15 => ?_)
    refine wp_aload_n (i := 0) dX16_act_18 rfl rfl ?_
    refine wp_aload_n (i := 0) dX16_act_19 rfl rfl ?_
    refine wp_get 17 18 (vr (some (nm 1 18))) dX16_act_20 hR1.mk (by decide) (by decide) fl_X16_60 (congrArg (fun z => toV (vr z)) (hR1.ref 18 (by decide) (by decide) (by decide) (by decide))) ?_
    refine wp_iload_n (i := 1) dX16_act_23 rfl rfl ?_
    refine wp_cV (y' := m_Jx4a65c_get_915e3) 2 [vi (nI a)] [vr (some (nm 1 0))] 0 0 dX16_act_24 ml_X16_201 im_Jx4a65c_get_915e3 se_Jx4a65c_get_915e3 (by decide) hR1.al.k ok_Jx4a65c_get_915e3 rfl (Nat.le_of_ble_eq_true rfl) rfl (Nat.le_of_ble_eq_true rfl) (d' := d - 1) (by omega) (Nat.zero_le _) (Nat.zero_le _) (c_LO_get hR1.al (by omega) (by omega) (cont_ret ?_))
    refine wp_castC 13 dX16_act_27 (by decide) kl_X16_346 (fun a ha => by cases ha; exact (hR1.a (by omega)).k0) ?_
    refine wp_get 13 6 (vr (some (nm 14 a))) dX16_act_30 (hR1.a (by omega)).k0 (by decide) (by decide) fl_X16_360 (congrArg (fun z => toV (vr z)) ((hR1.a (by omega)).r7_6)) ?_
    refine wp_cV (y' := m_Jx4a65c_isEmpty_aae02) 2 [] [vr (some (nm 1 0))] 0 0 dX16_act_33 ml_X16_363 im_Jx4a65c_isEmpty_aae02 se_Jx4a65c_isEmpty_aae02 (by decide) (LNm.k (hR1.a (by omega)).N8) ok_Jx4a65c_isEmpty_aae02 rfl (Nat.le_of_ble_eq_true rfl) rfl (Nat.le_of_ble_eq_true rfl) (d' := d - 1) (by omega) (Nat.zero_le _) (Nat.zero_le _) (c_LN_isEmpty (hR1.a (by omega)).N8 (cont_ret ?_))
    refine wp_iconst (nI 2) dX16_act_36 (by decide) ?_
    refine wp_cV (y' := m_X16_fails) 17 [vi (bI (decide ((OA_row (RS_aa S a)).length = 0))), vi (nI 2)] [] 0 0 dX16_act_37 ml_X16_102 im_X16_fails se_X16_fails (by decide) hR1.mk ok_X16_fails rfl (Nat.le_of_ble_eq_true rfl) rfl (Nat.le_of_ble_eq_true rfl) (d' := d - 1) (by omega) (Nat.zero_le _) (Nat.zero_le _) (c_flB hR1.mk wI_ss (decide ((OA_row (RS_aa S a)).length = 0)) (nI 2) (by decide) (fun c_37 => cont_ret ?_) (fun c_37 => cont_ret ?_))
    · have g_2 : (OA_row (RS_aa S a)).length = 0 := by first | exact c_37 | exact of_decide_eq_true c_37 | omega | (simp at c_37 ⊢; grind)
      have hR7 := hR1.w0 (x := nI 2)
      have hG8 := hG2.tr (FRR.w0 (x := nI 2))
      have hP9 := PO2.m (a := nm 1 0) (k := 0) (x := nI 2) hP3
      refine wp_if_neN 65 dX16_act_40 (by decide) (by decide) (fun c_40 => ?_) (fun c_40 => absurd c_40 (by decide))
      refine wp_iconst (nI 0) dX16_act_65 (by decide) ?_
      refine wp_ireturn dX16_act_66 rfl ?_
      rw [show o_act S (nI a) a = (nI 2, nI 0, S) from by unfold o_act; rw [if_neg g_1, if_pos g_2]] at hq
      exact hq _ hG8 wI_ss hR7 hP9
    · have g_2 : ¬ ((OA_row (RS_aa S a)).length = 0) := by first | exact fun z => Bool.false_ne_true (c_37.symm.trans z) | exact of_decide_eq_false c_37 | omega | (simp at c_37 ⊢; grind)
      refine wp_if_neN 65 dX16_act_40 (by decide) (by decide) (fun c_40 => absurd c_40 (by decide)) (fun c_40 => ?_)
      refine wp_aload_n (i := 0) dX16_act_43 rfl rfl ?_
      refine wp_aload_n (i := 0) dX16_act_44 rfl rfl ?_
      refine wp_get 17 18 (vr (some (nm 1 18))) dX16_act_45 hR1.mk (by decide) (by decide) fl_X16_60 (congrArg (fun z => toV (vr z)) (hR1.ref 18 (by decide) (by decide) (by decide) (by decide))) ?_
      refine wp_iload_n (i := 1) dX16_act_48 rfl rfl ?_
      refine wp_cV (y' := m_Jx4a65c_get_915e3) 2 [vi (nI a)] [vr (some (nm 1 0))] 0 0 dX16_act_49 ml_X16_201 im_Jx4a65c_get_915e3 se_Jx4a65c_get_915e3 (by decide) hR1.al.k ok_Jx4a65c_get_915e3 rfl (Nat.le_of_ble_eq_true rfl) rfl (Nat.le_of_ble_eq_true rfl) (d' := d - 1) (by omega) (Nat.zero_le _) (Nat.zero_le _) (c_LO_get hR1.al (by omega) (by omega) (cont_ret ?_))
      refine wp_castC 13 dX16_act_52 (by decide) kl_X16_346 (fun a ha => by cases ha; exact (hR1.a (by omega)).k0) ?_
      refine wp_get 13 4 (vi (bI (OA_fl (RS_aa S a)))) dX16_act_55 (hR1.a (by omega)).k0 (by decide) (by decide) fl_X16_366 (congrArg (fun z => toV (vi z)) ((hR1.a (by omega)).f_fl)) ?_
      refine wp_iconst (nI 3) dX16_act_58 (by decide) ?_
      refine wp_cV (y' := m_X16_fails) 17 [vi (bI (OA_fl (RS_aa S a))), vi (nI 3)] [] 0 0 dX16_act_59 ml_X16_102 im_X16_fails se_X16_fails (by decide) hR1.mk ok_X16_fails rfl (Nat.le_of_ble_eq_true rfl) rfl (Nat.le_of_ble_eq_true rfl) (d' := d - 1) (by omega) (Nat.zero_le _) (Nat.zero_le _) (c_flB hR1.mk wI_ss (OA_fl (RS_aa S a)) (nI 3) (by decide) (fun c_59 => cont_ret ?_) (fun c_59 => cont_ret ?_))
      · have g_3 : OA_fl (RS_aa S a) = true := by first | exact c_59 | exact of_decide_eq_true c_59 | omega | (simp at c_59 ⊢; grind)
        have hR10 := hR1.w0 (x := nI 3)
        have hG11 := hG2.tr (FRR.w0 (x := nI 3))
        have hP12 := PO2.m (a := nm 1 0) (k := 0) (x := nI 3) hP3
        refine wp_if_eqN 67 dX16_act_62 (by decide) (by decide) (fun c_62 => absurd c_62 (by decide)) (fun c_62 => ?_)
        refine wp_iconst (nI 0) dX16_act_65 (by decide) ?_
        refine wp_ireturn dX16_act_66 rfl ?_
        rw [show o_act S (nI a) a = (nI 3, nI 0, S) from by unfold o_act; rw [if_neg g_1, if_neg g_2, if_pos g_3]] at hq
        exact hq _ hG11 wI_ss hR10 hP12
      · have g_3 : ¬ (OA_fl (RS_aa S a) = true) := by first | exact fun z => Bool.false_ne_true (c_59.symm.trans z) | exact of_decide_eq_false c_59 | omega | (simp at c_59 ⊢; grind)
        refine wp_if_eqN 67 dX16_act_62 (by decide) (by decide) (fun c_62 => ?_) (fun c_62 => absurd c_62 (by decide))
        obtain ⟨z, q, erow⟩ := row_cons g_2
        have hz := (hR1.a ha).N8.2 z (by rw [erow]; exact List.mem_cons_self)
        have hJ := J.2.2 (iq z) (iq_lt hz.1 hz.2)
        have e0 : actd (RS_aa S a) ((OA_row (RS_aa S a)).headD 0) (OA_row (RS_aa S a)).tail = actd (RS_aa S a) z q := by rw [erow]; rfl
        refine wp_aload_n (i := 0) dX16_act_67 rfl rfl ?_
        refine wp_get 17 18 (vr (some (nm 1 18))) dX16_act_68 hR1.mk (by decide) (by decide) fl_X16_60 (congrArg (fun z => toV (vr z)) (hR1.ref 18 (by decide) (by decide) (by decide) (by decide))) ?_
        refine wp_iload_n (i := 1) dX16_act_71 rfl rfl ?_
        refine wp_cV (y' := m_Jx4a65c_get_915e3) 2 [vi (nI a)] [] 0 0 dX16_act_72 ml_X16_201 im_Jx4a65c_get_915e3 se_Jx4a65c_get_915e3 (by decide) hR1.al.k ok_Jx4a65c_get_915e3 rfl (Nat.le_of_ble_eq_true rfl) rfl (Nat.le_of_ble_eq_true rfl) (d' := d - 1) (by omega) (Nat.zero_le _) (Nat.zero_le _) (c_LO_get hR1.al (by omega) (by omega) (cont_ret ?_))
        refine wp_castC 13 dX16_act_75 (by decide) kl_X16_346 (fun a ha => by cases ha; exact (hR1.a (by omega)).k0) ?_
        refine wp_astore_n (i := 2) (lv' := [(2, vr (some (nm 13 a))), (0, vr (some (nm 1 0))), (1, vi (nI a))]) dX16_act_78 rfl (by decide) rfl ?_
        refine wp_aload_n (i := 2) dX16_act_79 rfl rfl ?_
        refine wp_get 13 0 (vi (OA_val (RS_aa S a))) dX16_act_80 (hR1.a (by omega)).k0 (by decide) (by decide) fl_X16_369 (congrArg (fun z => toV (vi z)) ((hR1.a (by omega)).f_val)) ?_
        refine wp_aload_n (i := 2) dX16_act_83 rfl rfl ?_
        refine wp_get 13 6 (vr (some (nm 14 a))) dX16_act_84 (hR1.a (by omega)).k0 (by decide) (by decide) fl_X16_360 (congrArg (fun z => toV (vr z)) ((hR1.a (by omega)).r7_6)) ?_
        refine wp_iconst (nI 0) dX16_act_87 (by decide) ?_
        refine wp_cV (y' := m_Jx4a65c_remove_915e3) 2 [vi (nI 0)] [vi (OA_val (RS_aa S a))] 0 0 dX16_act_88 ml_X16_222 im_Jx4a65c_remove_915e3 se_Jx4a65c_remove_915e3 (by decide) (LNm.k (hR1.a (by omega)).N8) ok_Jx4a65c_remove_915e3 rfl (Nat.le_of_ble_eq_true rfl) rfl (Nat.le_of_ble_eq_true rfl) (d' := d - 1) (by omega) (Nat.zero_le _) (Nat.zero_le _) (c_LN_remove ((show LNm _ (nm 14 a) 25 a (z :: q) from (erow ▸ (hR1.a (by omega)).N8))) (by decide) (by decide) (by omega) (fun h13 hL14 hC15 => cont_ret ?_))
        have hOr := (hR1.a (by omega)).urow (v := q) hL14 (hC15 _ (by unfold nm; omega) (fun z => by unfold nm; omega))
        have hFr : Fr _ _ (WAg a) := Fr.of hC15 (by unfold WAg nm; omega) (fun z => by unfold WAg nm; omega)
        have hkz : h_k h13 (nm 0 (iq z + 1)) = 1 := (ce_k (hC15 _ (by unfold nm; omega) (fun z => by unfold nm; omega))).trans hJ.1
        have hvz : h_I h13 (nm 0 (iq z + 1)) 0 = z := (congrFun (ce_I (hC15 _ (by unfold nm; omega) (fun z => by unfold nm; omega))) 0).trans ((congrFun (ce_I (ce_wI (by unfold nm; omega))) 0).trans (hJ.2.trans (iq_v hz.1 hz.2)))
        refine wp_castC 0 dX16_act_91 (by decide) kl_X16_372 (fun a ha => by cases ha; exact hkz) ?_
        refine wp_cV (y' := m_J6_intValue_8abf5) 0 [] [vi (OA_val (RS_aa S a))] 0 0 dX16_act_94 ml_X16_374 im_J6_intValue_8abf5 se_J6_intValue_8abf5 (by decide) hkz ok_J6_intValue_8abf5 rfl (Nat.le_of_ble_eq_true rfl) rfl (Nat.le_of_ble_eq_true rfl) (d' := d - 1) (by omega) (Nat.zero_le _) (Nat.zero_le _) (c_J6_intValue hkz hvz (cont_ret ?_))
        refine wp_iadd dX16_act_97 ?_
        refine wp_topi (fun x_98 e_98 => ?_)
        refine wp_istore_n (i := 3) (lv' := [(3, vi x_98), (2, vr (some (nm 13 a))), (0, vr (some (nm 1 0))), (1, vi (nI a))]) dX16_act_98 rfl (by decide) rfl ?_
        refine wp_iload_n (i := 3) dX16_act_99 rfl rfl ?_
        refine wp_aload_n (i := 2) dX16_act_100 rfl rfl ?_
        refine wp_get 13 1 (vi (OA_lo (OA_urow (RS_aa S a) q))) dX16_act_101 hOr.k0 (by decide) (by decide) fl_X16_377 (congrArg (fun z => toV (vi z)) (hOr.f_lo)) ?_
        refine wp_aload_n (i := 2) dX16_act_104 rfl rfl ?_
        refine wp_get 13 2 (vi (OA_hi (OA_urow (RS_aa S a) q))) dX16_act_105 hOr.k0 (by decide) (by decide) fl_X16_378 (congrArg (fun z => toV (vi z)) (hOr.f_hi)) ?_
        refine wp_cS (y' := m_X16_in) [vi x_98, vi (OA_lo (OA_urow (RS_aa S a) q)), vi (OA_hi (OA_urow (RS_aa S a) q))] [] 0 0 dX16_act_108 ml_X16_70 st_X16_in ok_X16_in rfl (Nat.le_of_ble_eq_true rfl) rfl (Nat.le_of_ble_eq_true rfl) (d' := d - 1) (by omega) (Nat.zero_le _) (Nat.zero_le _) (c_X16_in x_98 (OA_lo (OA_urow (RS_aa S a) q)) (OA_hi (OA_urow (RS_aa S a) q)) (cont_ret ?_))
        refine wp_istore (i := 4) (lv' := [(4, vi (bI (inB x_98 (OA_lo (OA_urow (RS_aa S a) q)) (OA_hi (OA_urow (RS_aa S a) q))))), (3, vi x_98), (2, vr (some (nm 13 a))), (0, vr (some (nm 1 0))), (1, vi (nI a))]) dX16_act_111 (by decide) rfl ?_
        refine wp_aload_n (i := 2) dX16_act_113 rfl rfl ?_
        refine wp_iload (i := 4) dX16_act_114 rfl ?_
        refine wp_if_eqB 123 dX16_act_116 (by decide) (fun c_116 => ?_) (fun c_116 => ?_)
        · skip
          refine wp_aload_n (i := 2) dX16_act_123 rfl rfl ?_
          refine wp_get 13 0 (vi (OA_val (OA_urow (RS_aa S a) q))) dX16_act_124 hOr.k0 (by decide) (by decide) fl_X16_369 (congrArg (fun z => toV (vi z)) (hOr.f_val)) ?_
          refine wp_putI 13 0 dX16_act_127 hOr.k0 (by decide) (by decide) (by decide) fl_X16_369 rfl (fun _ _ => rfl) rfl rfl ?_
          have hO16 := hOr.wval (v := OA_val (OA_urow (RS_aa S a) q))
          have hF17 := hFr.wI (b := nm 13 a) (k := 0) (x := OA_val (OA_urow (RS_aa S a) q)) (by unfold WAg nm; omega)
          refine wp_aload_n (i := 2) dX16_act_130 rfl rfl ?_
          refine wp_dup dX16_act_131 ?_
          refine wp_get 13 5 (vi (nI (OA_er (OA_uval (OA_urow (RS_aa S a) q) (OA_val (OA_urow (RS_aa S a) q)))))) dX16_act_132 hO16.k0 (by decide) (by decide) fl_X16_379 (congrArg (fun z => toV (vi z)) (hO16.f_er)) ?_
          refine wp_iload (i := 4) dX16_act_135 rfl ?_
          refine wp_if_eqB 144 dX16_act_137 (by decide) (fun c_137 => ?_) (fun c_137 => absurd c_137 (fun z => Bool.false_ne_true (c_116.symm.trans z)))
          refine wp_iconst (nI 1) dX16_act_144 (by decide) ?_
          refine wp_iaddN dX16_act_145 ?_
          refine wp_putI 13 5 dX16_act_146 hO16.k0 (by decide) (by decide) (by decide) fl_X16_379 rfl (fun _ _ => rfl) rfl rfl ?_
          have hO18 := hO16.wer (v := ((OA_er (OA_uval (OA_urow (RS_aa S a) q) (OA_val (OA_urow (RS_aa S a) q)))) + 1))
          have hF19 := hF17.wI (b := nm 13 a) (k := 5) (x := nI (((OA_er (OA_uval (OA_urow (RS_aa S a) q) (OA_val (OA_urow (RS_aa S a) q)))) + 1))) (by unfold WAg nm; omega)
          refine wp_aload_n (i := 2) dX16_act_149 rfl rfl ?_
          refine wp_iload (i := 4) dX16_act_150 rfl ?_
          refine wp_if_neB 168 dX16_act_152 (by decide) (fun c_152 => absurd c_152 (fun z => Bool.false_ne_true (c_116.symm.trans z))) (fun c_152 => ?_)
          refine wp_aload_n (i := 2) dX16_act_155 rfl rfl ?_
          refine wp_get 13 3 (vi (OA_md (OA_uer (OA_uval (OA_urow (RS_aa S a) q) (OA_val (OA_urow (RS_aa S a) q))) ((OA_er (OA_uval (OA_urow (RS_aa S a) q) (OA_val (OA_urow (RS_aa S a) q)))) + 1)))) dX16_act_156 hO18.k0 (by decide) (by decide) fl_X16_382 (congrArg (fun z => toV (vi z)) (hO18.f_md)) ?_
          refine wp_bipush (nI 102) dX16_act_159 (by decide) ?_
          refine wp_icmp_ne 168 dX16_act_161 (by decide) (fun c_161 => ?_) (fun c_161 => ?_)
          · skip
            refine wp_iconst (nI 0) dX16_act_168 (by decide) ?_
            refine wp_putI 13 4 dX16_act_169 hO18.k0 (by decide) (by decide) (by decide) fl_X16_366 rfl (fun _ _ => rfl) rfl rfl ?_
            have hO20 := hO18.wfl (v := false)
            have hF21 := hF19.wI (b := nm 13 a) (k := 4) (x := bI (false)) (by unfold WAg nm; omega)
            refine wp_aload_n (i := 2) dX16_act_172 rfl rfl ?_
            refine wp_get 13 0 (vi (OA_val (OA_ufl (OA_uer (OA_uval (OA_urow (RS_aa S a) q) (OA_val (OA_urow (RS_aa S a) q))) ((OA_er (OA_uval (OA_urow (RS_aa S a) q) (OA_val (OA_urow (RS_aa S a) q)))) + 1)) false))) dX16_act_173 hO20.k0 (by decide) (by decide) fl_X16_369 (congrArg (fun z => toV (vi z)) (hO20.f_val)) ?_
            refine wp_ireturn dX16_act_176 rfl ?_
            have hP22 := (hP3).oA hF21
            have hR23 := hR1.upA (by omega) hF21 hO20 hB16
            have hG24 := hG2.tr (FRR.oA hF21)
            subst e_98
            rw [show o_act S (nI a) a = (nI 0, (OA_val (OA_ufl (OA_uer (OA_uval (OA_urow (RS_aa S a) q) (OA_val (OA_urow (RS_aa S a) q))) ((OA_er (OA_uval (OA_urow (RS_aa S a) q) (OA_val (OA_urow (RS_aa S a) q)))) + 1)) false)), RS_uaa1 S a (OA_ufl (OA_uer (OA_uval (OA_urow (RS_aa S a) q) (OA_val (OA_urow (RS_aa S a) q))) ((OA_er (OA_uval (OA_urow (RS_aa S a) q) (OA_val (OA_urow (RS_aa S a) q)))) + 1)) false)) from by unfold o_act; rw [if_neg g_1, if_neg g_2, if_neg g_3, e0, actd, if_neg (fun z => Bool.false_ne_true (c_116.symm.trans z)), decide_eq_false c_161] <;> rfl] at hq
            exact hq _ hG24 ((th_oA hF21).trans wI_ss) hR23 hP22
          · skip
            refine wp_iconst (nI 1) dX16_act_164 (by decide) ?_
            refine wp_goto 169 dX16_act_165 (by decide) ?_
            refine wp_putI 13 4 dX16_act_169 hO18.k0 (by decide) (by decide) (by decide) fl_X16_366 rfl (fun _ _ => rfl) rfl rfl ?_
            have hO25 := hO18.wfl (v := true)
            have hF26 := hF19.wI (b := nm 13 a) (k := 4) (x := bI (true)) (by unfold WAg nm; omega)
            refine wp_aload_n (i := 2) dX16_act_172 rfl rfl ?_
            refine wp_get 13 0 (vi (OA_val (OA_ufl (OA_uer (OA_uval (OA_urow (RS_aa S a) q) (OA_val (OA_urow (RS_aa S a) q))) ((OA_er (OA_uval (OA_urow (RS_aa S a) q) (OA_val (OA_urow (RS_aa S a) q)))) + 1)) true))) dX16_act_173 hO25.k0 (by decide) (by decide) fl_X16_369 (congrArg (fun z => toV (vi z)) (hO25.f_val)) ?_
            refine wp_ireturn dX16_act_176 rfl ?_
            have hP27 := (hP3).oA hF26
            have hR28 := hR1.upA (by omega) hF26 hO25 hB16
            have hG29 := hG2.tr (FRR.oA hF26)
            subst e_98
            rw [show o_act S (nI a) a = (nI 0, (OA_val (OA_ufl (OA_uer (OA_uval (OA_urow (RS_aa S a) q) (OA_val (OA_urow (RS_aa S a) q))) ((OA_er (OA_uval (OA_urow (RS_aa S a) q) (OA_val (OA_urow (RS_aa S a) q)))) + 1)) true)), RS_uaa1 S a (OA_ufl (OA_uer (OA_uval (OA_urow (RS_aa S a) q) (OA_val (OA_urow (RS_aa S a) q))) ((OA_er (OA_uval (OA_urow (RS_aa S a) q) (OA_val (OA_urow (RS_aa S a) q)))) + 1)) true)) from by unfold o_act; rw [if_neg g_1, if_neg g_2, if_neg g_3, e0, actd, if_neg (fun z => Bool.false_ne_true (c_116.symm.trans z)), decide_eq_true c_161] <;> rfl] at hq
            exact hq _ hG29 ((th_oA hF26).trans wI_ss) hR28 hP27
        · skip
          refine wp_iload_n (i := 3) dX16_act_119 rfl rfl ?_
          refine wp_goto 127 dX16_act_120 (by decide) ?_
          refine wp_putI 13 0 dX16_act_127 hOr.k0 (by decide) (by decide) (by decide) fl_X16_369 rfl (fun _ _ => rfl) rfl rfl ?_
          have hO30 := hOr.wval (v := x_98)
          have hF31 := hFr.wI (b := nm 13 a) (k := 0) (x := x_98) (by unfold WAg nm; omega)
          refine wp_aload_n (i := 2) dX16_act_130 rfl rfl ?_
          refine wp_dup dX16_act_131 ?_
          refine wp_get 13 5 (vi (nI (OA_er (OA_uval (OA_urow (RS_aa S a) q) x_98)))) dX16_act_132 hO30.k0 (by decide) (by decide) fl_X16_379 (congrArg (fun z => toV (vi z)) (hO30.f_er)) ?_
          refine wp_iload (i := 4) dX16_act_135 rfl ?_
          refine wp_if_eqB 144 dX16_act_137 (by decide) (fun c_137 => absurd c_137 (fun z => Bool.false_ne_true (z.symm.trans c_116))) (fun c_137 => ?_)
          refine wp_iconst (nI 0) dX16_act_140 (by decide) ?_
          refine wp_goto 145 dX16_act_141 (by decide) ?_
          refine wp_iaddN dX16_act_145 ?_
          refine wp_putI 13 5 dX16_act_146 hO30.k0 (by decide) (by decide) (by decide) fl_X16_379 rfl (fun _ _ => rfl) rfl rfl ?_
          have hO32 := hO30.wer (v := ((OA_er (OA_uval (OA_urow (RS_aa S a) q) x_98)) + 0))
          have hF33 := hF31.wI (b := nm 13 a) (k := 5) (x := nI (((OA_er (OA_uval (OA_urow (RS_aa S a) q) x_98)) + 0))) (by unfold WAg nm; omega)
          refine wp_aload_n (i := 2) dX16_act_149 rfl rfl ?_
          refine wp_iload (i := 4) dX16_act_150 rfl ?_
          refine wp_if_neB 168 dX16_act_152 (by decide) (fun c_152 => ?_) (fun c_152 => absurd c_152 (fun z => Bool.false_ne_true (z.symm.trans c_116)))
          refine wp_iconst (nI 0) dX16_act_168 (by decide) ?_
          refine wp_putI 13 4 dX16_act_169 hO32.k0 (by decide) (by decide) (by decide) fl_X16_366 rfl (fun _ _ => rfl) rfl rfl ?_
          have hO34 := hO32.wfl (v := false)
          have hF35 := hF33.wI (b := nm 13 a) (k := 4) (x := bI (false)) (by unfold WAg nm; omega)
          refine wp_aload_n (i := 2) dX16_act_172 rfl rfl ?_
          refine wp_get 13 0 (vi (OA_val (OA_ufl (OA_uer (OA_uval (OA_urow (RS_aa S a) q) x_98) ((OA_er (OA_uval (OA_urow (RS_aa S a) q) x_98)) + 0)) false))) dX16_act_173 hO34.k0 (by decide) (by decide) fl_X16_369 (congrArg (fun z => toV (vi z)) (hO34.f_val)) ?_
          refine wp_ireturn dX16_act_176 rfl ?_
          have hP36 := (hP3).oA hF35
          have hR37 := hR1.upA (by omega) hF35 hO34 hB16
          have hG38 := hG2.tr (FRR.oA hF35)
          subst e_98
          rw [show o_act S (nI a) a = (nI 0, (OA_val (OA_ufl (OA_uer (OA_uval (OA_urow (RS_aa S a) q) ((OA_val (RS_aa S a)) + z)) ((OA_er (OA_uval (OA_urow (RS_aa S a) q) ((OA_val (RS_aa S a)) + z))) + 0)) false)), RS_uaa1 S a (OA_ufl (OA_uer (OA_uval (OA_urow (RS_aa S a) q) ((OA_val (RS_aa S a)) + z)) ((OA_er (OA_uval (OA_urow (RS_aa S a) q) ((OA_val (RS_aa S a)) + z))) + 0)) false)) from by unfold o_act; rw [if_neg g_1, if_neg g_2, if_neg g_3, e0, actd, if_pos c_116] <;> rfl] at hq
          exact hq _ hG38 ((th_oA hF35).trans wI_ss) hR37 hP36
set_option maxRecDepth 100000 in
set_option maxHeartbeats 4000000 in
theorem c_X16_logAt {G : GG} {d bc bs : Nat} {h : Hp} {Q : Pst} {S : RS} (hR : MR h S) {n : Nat} (hB : RB n S) (hP : PO2 h) {w : Int32} {k : Nat} (hw : ixB w (RS_lg S).length = true → w = nI k ∧ k < (RS_lg S).length) {x : Int32} {j : Nat} (hx : inB x (nI 0) (nI 3) = true → x = nI j ∧ j < 4) (hd : 7 ≤ d) (hq : RO Q h (o_logAt S w k x j)) : WP G m_X16_logAt d 0 (aargs 0 [vr (some (nm 1 0)), vi w, vi x]) [] h bc bs Q := by
  refine wp_sub [(0, vr (some (nm 1 0))), (1, vi w), (2, vi x)] (fun _ hz => hz) ?_
  have hG := FRR.rf (h := h)
  have hB16 := hB.h16
  have hbb := hB.1
  refine wp_aload_n (i := 0) dX16_logAt_0 rfl rfl ?_
  refine wp_iconst (nI 0) dX16_logAt_1 (by decide) ?_
  refine wp_putI 17 0 dX16_logAt_2 hR.mk (by decide) (by decide) (by decide) fl_X16_63 rfl (fun _ _ => rfl) rfl rfl ?_
  have hR1 := hR.w0 (x := (nI 0))
  have hG2 := hG.tr (FRR.w0 (x := (nI 0)))
  have hP3 := PO2.m (a := nm 1 0) (k := 0) (x := (nI 0)) hP
  refine wp_aload_n (i := 0) dX16_logAt_5 rfl rfl ?_
  refine wp_iload_n (i := 1) dX16_logAt_6 rfl rfl ?_
  refine wp_iconst (nI 0) dX16_logAt_7 (by decide) ?_
  refine wp_aload_n (i := 0) dX16_logAt_8 rfl rfl ?_
  refine wp_get 17 14 (vr (some (nm 1 14))) dX16_logAt_9 hR1.mk (by decide) (by decide) fl_X16_50 (congrArg (fun z => toV (vr z)) (hR1.ref 14 (by decide) (by decide) (by decide) (by decide))) ?_
  refine wp_cV (y' := m_Jx4a65c_size_8abf5) 2 [] [vi (nI 0), vi w, vr (some (nm 1 0))] 0 0 dX16_logAt_12 ml_X16_168 im_Jx4a65c_size_8abf5 se_Jx4a65c_size_8abf5 (by decide) hR1.lg.k ok_Jx4a65c_size_8abf5 rfl (Nat.le_of_ble_eq_true rfl) rfl (Nat.le_of_ble_eq_true rfl) (d' := d - 1) (by omega) (Nat.zero_le _) (Nat.zero_le _) (c_LP_size hR1.lg (cont_ret ?_))
  rw [lgL_len]
  refine wp_iconst (nI 1) dX16_logAt_15 (by decide) ?_
  refine wp_isub dX16_logAt_16 ?_
  refine wp_cS (y' := m_X16_in) [vi w, vi (nI 0), vi ((nI ((RS_lg S)).length) - (nI 1))] [vr (some (nm 1 0))] 0 0 dX16_logAt_17 ml_X16_70 st_X16_in ok_X16_in rfl (Nat.le_of_ble_eq_true rfl) rfl (Nat.le_of_ble_eq_true rfl) (d' := d - 1) (by omega) (Nat.zero_le _) (Nat.zero_le _) (c_X16_in w (nI 0) ((nI ((RS_lg S)).length) - (nI 1)) (cont_ret ?_))
  refine wp_if_neB 27 dX16_logAt_20 (by decide) (fun c_20 => ?_) (fun c_20 => ?_)
  · skip
    refine wp_iconst (nI 0) dX16_logAt_27 (by decide) ?_
    refine wp_iconst (nI 1) dX16_logAt_28 (by decide) ?_
    refine wp_cV (y' := m_X16_fails) 17 [vi (nI 0), vi (nI 1)] [] 0 0 dX16_logAt_29 ml_X16_102 im_X16_fails se_X16_fails (by decide) hR1.mk ok_X16_fails rfl (Nat.le_of_ble_eq_true rfl) rfl (Nat.le_of_ble_eq_true rfl) (d' := d - 1) (by omega) (Nat.zero_le _) (Nat.zero_le _) (c_flF hR1.mk wI_ss (nI 1) (by decide) (cont_ret ?_))
    have g_1 : ¬ (ixB w (RS_lg S).length = false) := by exact fun z => Bool.false_ne_true (z.symm.trans c_20)
    obtain ⟨ew, hk⟩ := hw (by revert g_1; cases ixB w (RS_lg S).length <;> simp)
    subst ew
    refine wp_if_neN 57 dX16_logAt_32 (by decide) (by decide) (fun c_32 => absurd c_32 (by decide)) (fun c_32 => ?_)
    refine wp_aload_n (i := 0) dX16_logAt_35 rfl rfl ?_
    refine wp_iload_n (i := 2) dX16_logAt_36 rfl rfl ?_
    refine wp_iconst (nI 0) dX16_logAt_37 (by decide) ?_
    refine wp_iconst (nI 3) dX16_logAt_38 (by decide) ?_
    refine wp_cS (y' := m_X16_in) [vi x, vi (nI 0), vi (nI 3)] [vr (some (nm 1 0))] 0 0 dX16_logAt_39 ml_X16_70 st_X16_in ok_X16_in rfl (Nat.le_of_ble_eq_true rfl) rfl (Nat.le_of_ble_eq_true rfl) (d' := d - 1) (by omega) (Nat.zero_le _) (Nat.zero_le _) (c_X16_in x (nI 0) (nI 3) (cont_ret ?_))
    refine wp_if_neB 49 dX16_logAt_42 (by decide) (fun c_42 => ?_) (fun c_42 => ?_)
    · skip
      refine wp_iconst (nI 0) dX16_logAt_49 (by decide) ?_
      refine wp_iconst (nI 2) dX16_logAt_50 (by decide) ?_
      refine wp_cV (y' := m_X16_fails) 17 [vi (nI 0), vi (nI 2)] [] 0 0 dX16_logAt_51 ml_X16_102 im_X16_fails se_X16_fails (by decide) hR1.mk ok_X16_fails rfl (Nat.le_of_ble_eq_true rfl) rfl (Nat.le_of_ble_eq_true rfl) (d' := d - 1) (by omega) (Nat.zero_le _) (Nat.zero_le _) (c_flF hR1.mk wI_ss (nI 2) (by decide) (cont_ret ?_))
      have g_2 : ¬ (inB x (nI 0) (nI 3) = false) := by exact fun z => Bool.false_ne_true (z.symm.trans c_42)
      obtain ⟨ex, hj⟩ := hx (by revert g_2; cases inB x (nI 0) (nI 3) <;> simp)
      subst ex
      refine wp_if_eqN 61 dX16_logAt_54 (by decide) (by decide) (fun c_54 => ?_) (fun c_54 => absurd c_54 (by decide))
      refine wp_aload_n (i := 0) dX16_logAt_61 rfl rfl ?_
      refine wp_get 17 14 (vr (some (nm 1 14))) dX16_logAt_62 hR1.mk (by decide) (by decide) fl_X16_50 (congrArg (fun z => toV (vr z)) (hR1.ref 14 (by decide) (by decide) (by decide) (by decide))) ?_
      refine wp_iload_n (i := 1) dX16_logAt_65 rfl rfl ?_
      refine wp_cV (y' := m_Jx4a65c_get_915e3) 2 [vi (nI k)] [] 0 0 dX16_logAt_66 ml_X16_201 im_Jx4a65c_get_915e3 se_Jx4a65c_get_915e3 (by decide) hR1.lg.k ok_Jx4a65c_get_915e3 rfl (Nat.le_of_ble_eq_true rfl) rfl (Nat.le_of_ble_eq_true rfl) (d' := d - 1) (by omega) (Nat.zero_le _) (Nat.zero_le _) (c_LP_get hR1.lg (by rw [lgL_len]; exact hk) (by omega) (fun ra10 E11 => cont_ret ?_))
      rw [lgL_get] at E11
      refine wp_castA .int dX16_logAt_69 (by decide) kl_X16_221 (fun a ha => by cases ha; exact arTy_101 E11.2.1) ?_
      refine wp_iload_n (i := 2) dX16_logAt_72 rfl rfl ?_
      refine wp_ialoadN 4 (logw (RS_lg S) k j) dX16_logAt_73 E11.2.1 E11.2.2.1 (by omega) (by decide) (logv E11 hj) ?_
      refine wp_ireturn dX16_logAt_74 rfl ?_
      rw [show o_logAt S (nI k) k (nI j) j = (nI 0, (logw (RS_lg S) k j), S) from by unfold o_logAt; rw [if_neg g_1, if_neg g_2] <;> rfl] at hq
      exact hq _ hG2 wI_ss hR1 hP3
    · skip
      refine wp_iconst (nI 1) dX16_logAt_45 (by decide) ?_
      refine wp_goto 50 dX16_logAt_46 (by decide) ?_
      refine wp_iconst (nI 2) dX16_logAt_50 (by decide) ?_
      refine wp_cV (y' := m_X16_fails) 17 [vi (nI 1), vi (nI 2)] [] 0 0 dX16_logAt_51 ml_X16_102 im_X16_fails se_X16_fails (by decide) hR1.mk ok_X16_fails rfl (Nat.le_of_ble_eq_true rfl) rfl (Nat.le_of_ble_eq_true rfl) (d' := d - 1) (by omega) (Nat.zero_le _) (Nat.zero_le _) (c_flT hR1.mk wI_ss (nI 2) (by decide) (cont_ret ?_))
      have g_2 : inB x (nI 0) (nI 3) = false := by exact c_42
      have hR12 := hR1.w0 (x := nI 2)
      have hG13 := hG2.tr (FRR.w0 (x := nI 2))
      have hP14 := PO2.m (a := nm 1 0) (k := 0) (x := nI 2) hP3
      refine wp_if_eqN 61 dX16_logAt_54 (by decide) (by decide) (fun c_54 => absurd c_54 (by decide)) (fun c_54 => ?_)
      refine wp_iconst (nI 0) dX16_logAt_57 (by decide) ?_
      refine wp_goto 74 dX16_logAt_58 (by decide) ?_
      refine wp_ireturn dX16_logAt_74 rfl ?_
      rw [show o_logAt S (nI k) k x j = (nI 2, nI 0, S) from by unfold o_logAt; rw [if_neg g_1, if_pos g_2]] at hq
      exact hq _ hG13 wI_ss hR12 hP14
  · skip
    refine wp_iconst (nI 1) dX16_logAt_23 (by decide) ?_
    refine wp_goto 28 dX16_logAt_24 (by decide) ?_
    refine wp_iconst (nI 1) dX16_logAt_28 (by decide) ?_
    refine wp_cV (y' := m_X16_fails) 17 [vi (nI 1), vi (nI 1)] [] 0 0 dX16_logAt_29 ml_X16_102 im_X16_fails se_X16_fails (by decide) hR1.mk ok_X16_fails rfl (Nat.le_of_ble_eq_true rfl) rfl (Nat.le_of_ble_eq_true rfl) (d' := d - 1) (by omega) (Nat.zero_le _) (Nat.zero_le _) (c_flT hR1.mk wI_ss (nI 1) (by decide) (cont_ret ?_))
    have g_1 : ixB w (RS_lg S).length = false := by exact c_20
    have hR15 := hR1.w0 (x := nI 1)
    have hG16 := hG2.tr (FRR.w0 (x := nI 1))
    have hP17 := PO2.m (a := nm 1 0) (k := 0) (x := nI 1) hP3
    refine wp_if_neN 57 dX16_logAt_32 (by decide) (by decide) (fun c_32 => ?_) (fun c_32 => absurd c_32 (by decide))
    refine wp_iconst (nI 0) dX16_logAt_57 (by decide) ?_
    refine wp_goto 74 dX16_logAt_58 (by decide) ?_
    refine wp_ireturn dX16_logAt_74 rfl ?_
    rw [show o_logAt S w k x j = (nI 1, nI 0, S) from by unfold o_logAt; rw [if_pos g_1]] at hq
    exact hq _ hG16 wI_ss hR15 hP17
