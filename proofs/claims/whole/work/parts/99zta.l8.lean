/-! Commit, where it throws. -/
set_option maxRecDepth 100000 in
set_option maxHeartbeats 4000000 in
theorem c_X16_commitE {G : GG} {d bc bs : Nat} {h : Hp} {Q : Pst} {S : RS} (hR : MR h S) {n : Nat} (hB : RB n S) (hP : PO2 h) {v : Int32} {t : Nat} (hv : ixB v 3 = true → v = nI t ∧ t < 3) (J : JC h) (he : ¬ (o_commit S v t).1 = nI 0) (hd : 16 ≤ d) (hq : RO Q h (o_commit S v t)) : WP G m_X16_commit d 0 (aargs 0 [vr (some (nm 1 0)), vi v]) [] h bc bs Q := by
  refine wp_sub [(0, vr (some (nm 1 0))), (1, vi v)] (fun _ hz => hz) ?_
  have hG := FRR.rf (h := h)
  have hB16 := hB.h16
  have hbb := hB.1
  refine wp_aload_n (i := 0) dX16_commit_0 rfl rfl ?_
  refine wp_iconst (nI 0) dX16_commit_1 (by decide) ?_
  refine wp_putI 17 0 dX16_commit_2 hR.mk (by decide) (by decide) (by decide) fl_X16_63 rfl (fun _ _ => rfl) rfl rfl ?_
  have hR1 := hR.w0 (x := (nI 0))
  have hG2 := hG.tr (FRR.w0 (x := (nI 0)))
  have hP3 := PO2.m (a := nm 1 0) (k := 0) (x := (nI 0)) hP
  refine wp_aload_n (i := 0) dX16_commit_5 rfl rfl ?_
  refine wp_iload_n (i := 1) dX16_commit_6 rfl rfl ?_
  refine wp_cS (y' := m_X16_noTransaction) [vi v] [vr (some (nm 1 0))] 0 0 dX16_commit_7 ml_X16_250 st_X16_noTransaction ok_X16_noTransaction rfl (Nat.le_of_ble_eq_true rfl) rfl (Nat.le_of_ble_eq_true rfl) (d' := d - 1) (by omega) (Nat.zero_le _) (Nat.zero_le _) (c_X16_noTransaction v (by omega) (cont_ret ?_))
  refine wp_iconst (nI 1) dX16_commit_10 (by decide) ?_
  refine wp_cV (y' := m_X16_fails) 17 [vi (bI (!ixB v 3)), vi (nI 1)] [] 0 0 dX16_commit_11 ml_X16_102 im_X16_fails se_X16_fails (by decide) hR1.mk ok_X16_fails rfl (Nat.le_of_ble_eq_true rfl) rfl (Nat.le_of_ble_eq_true rfl) (d' := d - 1) (by omega) (Nat.zero_le _) (Nat.zero_le _) (c_flB hR1.mk wI_ss (!ixB v 3) (nI 1) (by decide) (fun c_11 => cont_ret ?_) (fun c_11 => cont_ret ?_))
  · have g_1 : (!ixB v 3) = true := by first | exact c_11 | exact of_decide_eq_true c_11 | omega | (simp at c_11 ⊢; grind)
    have hR4 := hR1.w0 (x := nI 1)
    have hG5 := hG2.tr (FRR.w0 (x := nI 1))
    have hP6 := PO2.m (a := nm 1 0) (k := 0) (x := nI 1) hP3
    refine wp_if_neN 30 dX16_commit_14 (by decide) (by decide) (fun c_14 => ?_) (fun c_14 => absurd c_14 (by decide))
    refine wp_iconst (nI 0) dX16_commit_30 (by decide) ?_
    refine wp_zreturn dX16_commit_31 rfl (by first | rfl | assumption | decide) ?_
    rw [show o_commit S v t = (nI 1, nI 0, S) from by unfold o_commit; rw [if_pos g_1]] at hq
    exact hq _ hG5 wI_ss hR4 hP6
  · have g_1 : ¬ ((!ixB v 3) = true) := by first | exact fun z => Bool.false_ne_true (c_11.symm.trans z) | exact of_decide_eq_false c_11 | omega | (simp at c_11 ⊢; grind)
    obtain ⟨ev, ht⟩ := hv (nt_g g_1)
    subst ev
    refine wp_if_neN 30 dX16_commit_14 (by decide) (by decide) (fun c_14 => absurd c_14 (by decide)) (fun c_14 => ?_)
    refine wp_aload_n (i := 0) dX16_commit_17 rfl rfl ?_
    refine wp_aload_n (i := 0) dX16_commit_18 rfl rfl ?_
    refine wp_iload_n (i := 1) dX16_commit_19 rfl rfl ?_
    refine wp_cV (y' := m_X16_isClosed) 17 [vi (nI t)] [vr (some (nm 1 0))] 0 0 dX16_commit_20 ml_X16_274 im_X16_isClosed se_X16_isClosed (by decide) hR1.mk ok_X16_isClosed rfl (Nat.le_of_ble_eq_true rfl) rfl (Nat.le_of_ble_eq_true rfl) (d' := d - 1) (by omega) (Nat.zero_le _) (Nat.zero_le _) (c_X16_isClosed hR1 ht (cont_ret ?_))
    refine wp_iconst (nI 2) dX16_commit_23 (by decide) ?_
    refine wp_cV (y' := m_X16_fails) 17 [vi (bI (!OT_op (RS_tt S t))), vi (nI 2)] [] 0 0 dX16_commit_24 ml_X16_102 im_X16_fails se_X16_fails (by decide) hR1.mk ok_X16_fails rfl (Nat.le_of_ble_eq_true rfl) rfl (Nat.le_of_ble_eq_true rfl) (d' := d - 1) (by omega) (Nat.zero_le _) (Nat.zero_le _) (c_flB hR1.mk wI_ss (!OT_op (RS_tt S t)) (nI 2) (by decide) (fun c_24 => cont_ret ?_) (fun c_24 => cont_ret ?_))
    · have g_2 : (!OT_op (RS_tt S t)) = true := by first | exact c_24 | exact of_decide_eq_true c_24 | omega | (simp at c_24 ⊢; grind)
      have hR7 := hR1.w0 (x := nI 2)
      have hG8 := hG2.tr (FRR.w0 (x := nI 2))
      have hP9 := PO2.m (a := nm 1 0) (k := 0) (x := nI 2) hP3
      refine wp_if_eqN 32 dX16_commit_27 (by decide) (by decide) (fun c_27 => absurd c_27 (by decide)) (fun c_27 => ?_)
      refine wp_iconst (nI 0) dX16_commit_30 (by decide) ?_
      refine wp_zreturn dX16_commit_31 rfl (by first | rfl | assumption | decide) ?_
      rw [show o_commit S (nI t) t = (nI 2, nI 0, S) from by unfold o_commit; rw [if_neg g_1, if_pos g_2]] at hq
      exact hq _ hG8 wI_ss hR7 hP9
    · have g_2 : ¬ ((!OT_op (RS_tt S t)) = true) := by first | exact fun z => Bool.false_ne_true (c_24.symm.trans z) | exact of_decide_eq_false c_24 | omega | (simp at c_24 ⊢; grind)
      exact absurd (by unfold o_commit; rw [if_neg g_1, if_neg g_2]; (repeat' split) <;> rfl) he
set_option maxRecDepth 100000 in
set_option maxHeartbeats 4000000 in
theorem c_X11_commitE {G : GG} {d bc bs : Nat} {h : Hp} {Q : Pst} {X : CS} {S : RS} (hR : CR h X) (hs : SIM X S) {n : Nat} (hB : RB n S) {v : Int32} {t : Nat} (hv : ixB v 3 = true → v = nI t ∧ t < 3) (he : ¬ (o_commit S v t).1 = nI 0) (hd : 16 ≤ d) (hbc : 6 ≤ bc) (hbs : 40 ≤ bs) (hq : KO Q h ["java/lang/IllegalArgumentException", "java/lang/IllegalStateException"] (o_commit S v t)) : WP G m_X11_commit d 0 (aargs 0 [vr (some (nm 40 0)), vi v]) [] h bc bs Q := by
  have hG := FRK.rf (h := h)
  have hrn : CS_rn X = RS_rn S := hs.1.1
  have han : CS_an X = RS_an S := hs.1.2.1
  have hbi : CS_bi X = RS_bg S := hs.1.2.2.1
  have hpr : CS_pr X = RS_mo S := hs.1.2.2.2.1
  have hlg : CS_lg X = RS_lg S := hs.1.2.2.2.2
  have hb0 := hB.1
  refine wp_sub [(0, vr (some (nm 40 0))), (1, vi v)] (fun _ hz => hz) ?_
  refine wp_aload_n (i := 0) dX11_commit_0 rfl rfl ?_
  refine wp_iload_n (i := 1) dX11_commit_1 rfl rfl ?_
  refine wp_cV (y' := m_X11_transactionNumbered) 12 [vi v] [] 1 6 dX11_commit_2 ml_X11_327 im_X11_transactionNumbered se_X11_transactionNumbered (by decide) hR.mk ok_X11_transactionNumbered rfl (Nat.le_of_ble_eq_true rfl) rfl (Nat.le_of_ble_eq_true rfl) (d' := d - 1) (by omega) (by omega) (by omega) (c_X11_transactionNumbered hR hv (by omega) (by omega) (by omega) (fun g_t => cont_thr rfl ?_) (fun b_t ev ht => cont_ret ?_))
  · exact hq.1 0 _ (congrArg (fun z => z.1) (show o_commit S v t = (nI 1, nI 0, S) from by unfold o_commit; rw [if_pos (by rw [g_t]; rfl)])) rfl
  · subst ev
    have hst := hs.2.2.2.1 t ht
    have hb2 := hB.2.1 t ht
    refine wp_astore_n (i := 2) (lv' := [(2, vr (some (nm 56 t))), (0, vr (some (nm 40 0))), (1, vi (nI t))]) dX11_commit_5 rfl (by decide) rfl ?_
    refine wp_aload_n (i := 2) dX11_commit_6 rfl rfl ?_
    refine wp_cS (y' := m_X11_refuseEnded) [vr (some (nm 56 t))] [] 1 6 dX11_commit_7 ml_X11_344 st_X11_refuseEnded ok_X11_refuseEnded rfl (Nat.le_of_ble_eq_true rfl) rfl (Nat.le_of_ble_eq_true rfl) (d' := d - 1) (by omega) (by omega) (by omega) (c_X11_refuseEnded (hR.t ht) (by omega) (by omega) (by omega) (fun g_e => cont_thr rfl ?_) (fun e_e => cont_void ?_))
    · exact hq.1 1 _ (congrArg (fun z => z.1) (show o_commit S (nI t) t = (nI 2, nI 0, S) from by unfold o_commit; rw [if_neg (by rw [b_t]; decide), if_pos (by rw [← hst.1, g_e]; rfl)])) rfl
    · exact absurd (by unfold o_commit; rw [if_neg (by rw [b_t]; decide), if_neg (by rw [← hst.1, e_e]; decide)]; (repeat' split) <;> rfl) he
