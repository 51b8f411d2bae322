/-! The class: what a commit asks. -/
theorem kch_eq {x : KTS} {y : OTS} (H : ST x y) {r : Nat} (hr : r < 6) : kch x r = chg y r := by
  obtain ⟨c1, -, -, c4, -⟩ := H.2.2.2.2.1 r hr
  unfold kch chg
  rw [c1, c4]
theorem cmB_t {S : RS} {t : Nat} : ∀ m r s, (cmB S t m r true s).1 = true := by
  intro m
  induction m with
  | zero => intro r s; rfl
  | succ m ih => intro r s; rw [cmB, Bool.true_or]; exact ih _ _
theorem cmB_s {S : RS} {t : Nat} : ∀ m r o, (cmB S t m r o true).2 = true := by
  intro m
  induction m with
  | zero => intro r s; rfl
  | succ m ih => intro r s; rw [cmB, Bool.true_or]; exact ih _ _
set_option maxRecDepth 100000 in
set_option maxHeartbeats 4000000 in
theorem c_X11_valueToCommit {G : GG} {d bc bs : Nat} {h : Hp} {Q : Pst} {X : CS} {S : RS} (hR : CR h X) (hs : SIM X S) {n : Nat} (hB : RB n S) {t r : Nat} (ht : t < 3) (hr : r < CS_rn X) (hd : 9 ≤ d) (hbc : 1 ≤ bc) (hbs : 6 ≤ bs) (hq : Q (oRet (vi (vth (RS_tt S t) (RS_rr S r) r))) h) : WP G m_X11_valueToCommit d 0 (aargs 0 [vr (some (nm 40 0)), vr (some (nm 56 t)), vi (nI r)]) [] h bc bs Q := by
  have hG := FRK.rf (h := h)
  have hrn : CS_rn X = RS_rn S := hs.1.1
  have han : CS_an X = RS_an S := hs.1.2.1
  have hbi : CS_bi X = RS_bg S := hs.1.2.2.1
  have hpr : CS_pr X = RS_mo S := hs.1.2.2.2.1
  have hlg : CS_lg X = RS_lg S := hs.1.2.2.2.2
  have hb0 := hB.1
  have hst := hs.2.2.2.1 t ht
  have hr0 : r < RS_rn S := by omega
  have hr6 : r < 6 := by omega
  have hsr := hs.2.1 r hr0
  have hb1 := hB.2.2.1 r hr0
  have hsq := hst.2.2.2.2.1 r hr6
  refine wp_sub [(0, vr (some (nm 40 0))), (1, vr (some (nm 56 t))), (2, vi (nI r))] (fun _ hz => hz) ?_
  refine wp_aload_n (i := 1) dX11_valueToCommit_0 rfl rfl ?_
  refine wp_get 9 4 (vr (some (nm 57 t))) dX11_valueToCommit_1 (hR.t (r := t) ht).k0 (by decide) (by decide) fl_X11_348 (congrArg (fun z => toV (vr z)) ((hR.t (r := t) ht).r5_4)) ?_
  refine wp_iload_n (i := 2) dX11_valueToCommit_4 rfl rfl ?_
  refine wp_zaloadN 6 (bI (KT_wr (CS_tt X t) r)) dX11_valueToCommit_5 (hR.t (r := t) ht).k11 (hR.t (r := t) ht).n11 (by omega) (by decide) ((hR.t (r := t) ht).a_wr r) ?_
  refine wp_if_eqB 18 dX11_valueToCommit_6 (by decide) (fun c_6 => ?_) (fun c_6 => ?_)
  · skip
    refine wp_aload_n (i := 0) dX11_valueToCommit_18 rfl rfl ?_
    refine wp_iload_n (i := 2) dX11_valueToCommit_19 rfl rfl ?_
    refine wp_cV (y' := m_X11_referenceNumbered) 12 [vi (nI r)] [] 1 6 dX11_valueToCommit_20 ml_X11_340 im_X11_referenceNumbered se_X11_referenceNumbered (by decide) hR.mk ok_X11_referenceNumbered rfl (Nat.le_of_ble_eq_true rfl) rfl (Nat.le_of_ble_eq_true rfl) (d' := d - 1) (by omega) (by omega) (by omega) (c_X11_referenceNumbered hR (by omega) (v := nI r) (t := r) (fun _ => ⟨rfl, hr⟩) (by omega) (by omega) (by omega) (fun g => absurd (ixB_of hr (by omega)) (by rw [g]; decide)) (fun _ _ _ => cont_ret ?_))
    refine wp_cV (y' := m_X5_latestValue) 7 [] [] 0 0 dX11_valueToCommit_23 ml_X11_410 im_X5_latestValue se_X5_latestValue (by decide) (hR.r (r := r) hr).k0 ok_X5_latestValue rfl (Nat.le_of_ble_eq_true rfl) rfl (Nat.le_of_ble_eq_true rfl) (d' := d - 1) (by omega) (Nat.zero_le _) (Nat.zero_le _) (c_X5_latestValue (hR.r (r := r) hr) (by rw [hsr.2.2.2.1]; omega) (by rw [hsr.2.2.2.1]; omega) (by omega) (cont_ret ?_))
    rw [SR.lv hsr (by omega)]
    refine wp_aload_n (i := 1) dX11_valueToCommit_26 rfl rfl ?_
    refine wp_get 9 8 (vr (some (nm 61 t))) dX11_valueToCommit_27 (hR.t (r := t) ht).k0 (by decide) (by decide) fl_X11_370 (congrArg (fun z => toV (vr z)) ((hR.t (r := t) ht).r9_8)) ?_
    refine wp_iload_n (i := 2) dX11_valueToCommit_30 rfl rfl ?_
    refine wp_ialoadN 6 (OT_sm (RS_tt S t) r) dX11_valueToCommit_31 (hR.t (r := t) ht).k19 (hR.t (r := t) ht).n19 (by omega) (by decide) (((hR.t (r := t) ht).a_sm r).trans hsq.2.2.2.2) ?_
    refine wp_iadd dX11_valueToCommit_32 ?_
    refine wp_ireturn dX11_valueToCommit_33 rfl ?_
    have e : vth (RS_tt S t) (RS_rr S r) r = (((lastq (RS_rr S r)).2) + (OT_sm (RS_tt S t) r)) := by unfold vth; rw [if_neg (by rw [← hsq.1, c_6]; decide)]
    rw [e] at hq
    exact hq
  · skip
    refine wp_aload_n (i := 1) dX11_valueToCommit_9 rfl rfl ?_
    refine wp_get 9 5 (vr (some (nm 58 t))) dX11_valueToCommit_10 (hR.t (r := t) ht).k0 (by decide) (by decide) fl_X11_352 (congrArg (fun z => toV (vr z)) ((hR.t (r := t) ht).r6_5)) ?_
    refine wp_iload_n (i := 2) dX11_valueToCommit_13 rfl rfl ?_
    refine wp_ialoadN 6 (OT_wn (RS_tt S t) r) dX11_valueToCommit_14 (hR.t (r := t) ht).k13 (hR.t (r := t) ht).n13 (by omega) (by decide) (((hR.t (r := t) ht).a_own r).trans (hsq.2.1 (hsq.1.symm.trans c_6))) ?_
    refine wp_goto 33 dX11_valueToCommit_15 (by decide) ?_
    refine wp_ireturn dX11_valueToCommit_33 rfl ?_
    have e : vth (RS_tt S t) (RS_rr S r) r = (OT_wn (RS_tt S t) r) := by unfold vth; rw [if_pos (hsq.1.symm.trans c_6)]
    rw [e] at hq
    exact hq
set_option maxRecDepth 100000 in
set_option maxHeartbeats 4000000 in
theorem l_X11_changesAny {G : GG} {d bc bs : Nat} {h : Hp} {Q : Pst} {X : CS} {S : RS} (hR : CR h X) (hs : SIM X S) {n : Nat} (hB : RB n S) {t : Nat} (ht : t < 3) (hd : 5 ≤ d) : ∀ m r o, r + m = CS_rn X → Q (oRet (vi (bI (cmB S t m r o false).2))) h → WP G m_X11_changesAny d 2 [(2, vi (nI r)), (0, vr (some (nm 40 0))), (1, vr (some (nm 56 t)))] [] h bc bs Q := by
  have hG := FRK.rf (h := h)
  have hrn : CS_rn X = RS_rn S := hs.1.1
  have han : CS_an X = RS_an S := hs.1.2.1
  have hbi : CS_bi X = RS_bg S := hs.1.2.2.1
  have hpr : CS_pr X = RS_mo S := hs.1.2.2.2.1
  have hlg : CS_lg X = RS_lg S := hs.1.2.2.2.2
  have hb0 := hB.1
  have hst := hs.2.2.2.1 t ht
  intro m
  induction m with
  | zero =>
    intro r o hk hq
    have hk : r = CS_rn X := by omega
    subst hk
    refine wp_iload_n (i := 2) dX11_changesAny_2 rfl rfl ?_
    refine wp_aload_n (i := 0) dX11_changesAny_3 rfl rfl ?_
    refine wp_get 12 7 (vi (nI (CS_rn X))) dX11_changesAny_4 hR.mk (by decide) (by decide) fl_X11_44 (congrArg (fun z => toV (vi z)) (hR.i7)) ?_
    refine wp_icmp_geN 26 dX11_changesAny_7 (by decide) (by omega) (by omega) (fun c_7 => ?_) (fun c_7 => absurd c_7 (by omega))
    refine wp_iconst (nI 0) dX11_changesAny_26 (by decide) ?_
    refine wp_zreturn dX11_changesAny_27 rfl (by first | rfl | assumption) ?_
    exact hq
  | succ m ih =>
    intro r o hk hq
    have hr : r < CS_rn X := by omega
    have hr6 : r < 6 := by omega
    rw [cmB, Bool.false_or] at hq
    refine wp_iload_n (i := 2) dX11_changesAny_2 rfl rfl ?_
    refine wp_aload_n (i := 0) dX11_changesAny_3 rfl rfl ?_
    refine wp_get 12 7 (vi (nI (CS_rn X))) dX11_changesAny_4 hR.mk (by decide) (by decide) fl_X11_44 (congrArg (fun z => toV (vi z)) (hR.i7)) ?_
    refine wp_icmp_geN 26 dX11_changesAny_7 (by decide) (by omega) (by omega) (fun c_7 => absurd c_7 (by omega)) (fun c_7 => ?_)
    refine wp_aload_n (i := 1) dX11_changesAny_10 rfl rfl ?_
    refine wp_iload_n (i := 2) dX11_changesAny_11 rfl rfl ?_
    refine wp_cV (y' := m_X7_changes) 9 [vi (nI r)] [] 0 0 dX11_changesAny_12 ml_X11_568 im_X7_changes se_X7_changes (by decide) (hR.t (r := t) ht).k0 ok_X7_changes rfl (Nat.le_of_ble_eq_true rfl) rfl (Nat.le_of_ble_eq_true rfl) (d' := d - 1) (by omega) (Nat.zero_le _) (Nat.zero_le _) (c_X7_changes (hR.t (r := t) ht) hr6 (cont_ret ?_))
    rw [kch_eq hst hr6]
    refine wp_if_eqB 20 dX11_changesAny_15 (by decide) (fun c_15 => ?_) (fun c_15 => ?_)
    · skip
      refine wp_iincN (a := r) (lv' := [(2, vi (nI (r + 1))), (0, vr (some (nm 40 0))), (1, vr (some (nm 56 t)))]) 1 dX11_changesAny_20 rfl (by decide) (by decide) rfl ?_
      refine wp_goto 2 dX11_changesAny_23 (by decide) ?_
      refine wp_sub [(2, vi (nI (r + 1))), (0, vr (some (nm 40 0))), (1, vr (some (nm 56 t)))] (sb_cons (.head _) (sb_cons (.tail _ (.head _)) (sb_cons (.tail _ (.tail _ (.head _))) sb_nil))) ?_
      rw [c_15] at hq
      exact ih (r + 1) _ (by omega) hq
    · skip
      refine wp_iconst (nI 1) dX11_changesAny_18 (by decide) ?_
      refine wp_zreturn dX11_changesAny_19 rfl (by first | rfl | assumption) ?_
      rw [c_15, cmB_s] at hq
      exact hq
set_option maxRecDepth 100000 in
set_option maxHeartbeats 4000000 in
theorem c_X11_changesAny {G : GG} {d bc bs : Nat} {h : Hp} {Q : Pst} {X : CS} {S : RS} (hR : CR h X) (hs : SIM X S) {n : Nat} (hB : RB n S) {t : Nat} (ht : t < 3) (o : Bool) (hd : 5 ≤ d) (hq : Q (oRet (vi (bI (cmB S t (RS_rn S) 0 o false).2))) h) : WP G m_X11_changesAny d 0 (aargs 0 [vr (some (nm 40 0)), vr (some (nm 56 t))]) [] h bc bs Q := by
  have hG := FRK.rf (h := h)
  have hrn : CS_rn X = RS_rn S := hs.1.1
  have han : CS_an X = RS_an S := hs.1.2.1
  have hbi : CS_bi X = RS_bg S := hs.1.2.2.1
  have hpr : CS_pr X = RS_mo S := hs.1.2.2.2.1
  have hlg : CS_lg X = RS_lg S := hs.1.2.2.2.2
  have hb0 := hB.1
  have hst := hs.2.2.2.1 t ht
  refine wp_sub [(0, vr (some (nm 40 0))), (1, vr (some (nm 56 t)))] (fun _ hz => hz) ?_
  refine wp_iconst (nI 0) dX11_changesAny_0 (by decide) ?_
  refine wp_istore_n (i := 2) (lv' := [(2, vi (nI 0)), (0, vr (some (nm 40 0))), (1, vr (some (nm 56 t)))]) dX11_changesAny_1 rfl (by decide) rfl ?_
  refine wp_sub [(2, vi (nI 0)), (0, vr (some (nm 40 0))), (1, vr (some (nm 56 t)))] (sb_cons (.head _) (sb_cons (.tail _ (.head _)) (sb_cons (.tail _ (.tail _ (.head _))) sb_nil))) ?_
  exact l_X11_changesAny hR hs hB ht (by omega) (CS_rn X) 0 o (by omega) (by rw [hrn]; exact hq)
set_option maxRecDepth 100000 in
set_option maxHeartbeats 4000000 in
theorem l_X11_stays {G : GG} {d bc bs : Nat} {h : Hp} {Q : Pst} {X : CS} {S : RS} (hR : CR h X) (hs : SIM X S) {n : Nat} (hB : RB n S) {t : Nat} (ht : t < 3) (hd : 11 ≤ d) : ∀ m r s, r + m = CS_rn X → Q (oRet (vi (bI (!(cmB S t m r false s).1)))) h → WP G m_X11_staysWithinBounds d 2 [(2, vi (nI r)), (0, vr (some (nm 40 0))), (1, vr (some (nm 56 t)))] [] h (bc + 2 * m) (bs + 12 * m) Q := by
  have hG := FRK.rf (h := h)
  have hrn : CS_rn X = RS_rn S := hs.1.1
  have han : CS_an X = RS_an S := hs.1.2.1
  have hbi : CS_bi X = RS_bg S := hs.1.2.2.1
  have hpr : CS_pr X = RS_mo S := hs.1.2.2.2.1
  have hlg : CS_lg X = RS_lg S := hs.1.2.2.2.2
  have hb0 := hB.1
  have hst := hs.2.2.2.1 t ht
  intro m
  induction m with
  | zero =>
    intro r s hk hq
    have hk : r = CS_rn X := by omega
    subst hk
    refine wp_iload_n (i := 2) dX11_staysWithinBounds_2 rfl rfl ?_
    refine wp_aload_n (i := 0) dX11_staysWithinBounds_3 rfl rfl ?_
    refine wp_get 12 7 (vi (nI (CS_rn X))) dX11_staysWithinBounds_4 hR.mk (by decide) (by decide) fl_X11_44 (congrArg (fun z => toV (vi z)) (hR.i7)) ?_
    refine wp_icmp_geN 52 dX11_staysWithinBounds_7 (by decide) (by omega) (by omega) (fun c_7 => ?_) (fun c_7 => absurd c_7 (by omega))
    refine wp_iconst (nI 1) dX11_staysWithinBounds_52 (by decide) ?_
    refine wp_zreturn dX11_staysWithinBounds_53 rfl (by first | rfl | assumption) ?_
    exact hq
  | succ m ih =>
    intro r s hk hq
    have hr : r < CS_rn X := by omega
    have hr0 : r < RS_rn S := by omega
    have hr6 : r < 6 := by omega
    have hsr := hs.2.1 r hr0
    have hb1 := hB.2.2.1 r hr0
    have hsq := hst.2.2.2.2.1 r hr6
    rw [cmB, Bool.false_or] at hq
    refine wp_iload_n (i := 2) dX11_staysWithinBounds_2 rfl rfl ?_
    refine wp_aload_n (i := 0) dX11_staysWithinBounds_3 rfl rfl ?_
    refine wp_get 12 7 (vi (nI (CS_rn X))) dX11_staysWithinBounds_4 hR.mk (by decide) (by decide) fl_X11_44 (congrArg (fun z => toV (vi z)) (hR.i7)) ?_
    refine wp_icmp_geN 52 dX11_staysWithinBounds_7 (by decide) (by omega) (by omega) (fun c_7 => absurd c_7 (by omega)) (fun c_7 => ?_)
    refine wp_aload_n (i := 0) dX11_staysWithinBounds_10 rfl rfl ?_
    refine wp_iload_n (i := 2) dX11_staysWithinBounds_11 rfl rfl ?_
    refine wp_cV (y' := m_X11_referenceNumbered) 12 [vi (nI r)] [] 1 6 dX11_staysWithinBounds_12 ml_X11_340 im_X11_referenceNumbered se_X11_referenceNumbered (by decide) hR.mk ok_X11_referenceNumbered rfl (Nat.le_of_ble_eq_true rfl) rfl (Nat.le_of_ble_eq_true rfl) (d' := d - 1) (by omega) (by omega) (by omega) (c_X11_referenceNumbered hR (by omega) (v := nI r) (t := r) (fun _ => ⟨rfl, hr⟩) (by omega) (by omega) (by omega) (fun g => absurd (ixB_of hr (by omega)) (by rw [g]; decide)) (fun _ _ _ => cont_ret ?_))
    refine wp_astore_n (i := 3) (lv' := [(3, vr (some (nm 53 r))), (2, vi (nI r)), (0, vr (some (nm 40 0))), (1, vr (some (nm 56 t)))]) dX11_staysWithinBounds_15 rfl (by decide) rfl ?_
    refine wp_aload_n (i := 1) dX11_staysWithinBounds_16 rfl rfl ?_
    refine wp_iload_n (i := 2) dX11_staysWithinBounds_17 rfl rfl ?_
    refine wp_cV (y' := m_X7_changes) 9 [vi (nI r)] [] 0 0 dX11_staysWithinBounds_18 ml_X11_568 im_X7_changes se_X7_changes (by decide) (hR.t (r := t) ht).k0 ok_X7_changes rfl (Nat.le_of_ble_eq_true rfl) rfl (Nat.le_of_ble_eq_true rfl) (d' := d - 1) (by omega) (Nat.zero_le _) (Nat.zero_le _) (c_X7_changes (hR.t (r := t) ht) hr6 (cont_ret ?_))
    rw [kch_eq hst hr6]
    refine wp_if_eqB 46 dX11_staysWithinBounds_21 (by decide) (fun c_21 => ?_) (fun c_21 => ?_)
    · skip
      refine wp_iincN (a := r) (lv' := [(2, vi (nI (r + 1))), (3, vr (some (nm 53 r))), (0, vr (some (nm 40 0))), (1, vr (some (nm 56 t)))]) 1 dX11_staysWithinBounds_46 rfl (by decide) (by decide) rfl ?_
      refine wp_goto 2 dX11_staysWithinBounds_49 (by decide) ?_
      refine wp_sub [(2, vi (nI (r + 1))), (0, vr (some (nm 40 0))), (1, vr (some (nm 56 t)))] (sb_cons (.head _) (sb_cons (.tail _ (.tail _ (.head _))) (sb_cons (.tail _ (.tail _ (.tail _ (.head _)))) sb_nil))) ?_
      refine wp_pay (bc' := bc + 2 * m) (bs' := bs + 12 * m) (by omega) (by omega) ?_
      rw [c_21, Bool.false_and] at hq
      exact ih (r + 1) _ (by omega) hq
    · skip
      refine wp_aload_n (i := 0) dX11_staysWithinBounds_24 rfl rfl ?_
      refine wp_aload_n (i := 1) dX11_staysWithinBounds_25 rfl rfl ?_
      refine wp_iload_n (i := 2) dX11_staysWithinBounds_26 rfl rfl ?_
      refine wp_cV (y' := m_X11_valueToCommit) 12 [vr (some (nm 56 t)), vi (nI r)] [] 1 6 dX11_staysWithinBounds_27 ml_X11_572 im_X11_valueToCommit se_X11_valueToCommit (by decide) hR.mk ok_X11_valueToCommit rfl (Nat.le_of_ble_eq_true rfl) rfl (Nat.le_of_ble_eq_true rfl) (d' := d - 1) (by omega) (by omega) (by omega) (c_X11_valueToCommit hR hs hB ht hr (by omega) (by omega) (by omega) (cont_ret ?_))
      refine wp_aload_n (i := 3) dX11_staysWithinBounds_30 rfl rfl ?_
      refine wp_get 7 1 (vi (OR_lo (RS_rr S r))) dX11_staysWithinBounds_31 (hR.r (r := r) hr).k0 (by decide) (by decide) fl_X11_576 (congrArg (fun z => toV (vi z)) ((hR.r (r := r) hr).f_lo.trans hsr.2.1)) ?_
      refine wp_aload_n (i := 3) dX11_staysWithinBounds_34 rfl rfl ?_
      refine wp_get 7 2 (vi (OR_hi (RS_rr S r))) dX11_staysWithinBounds_35 (hR.r (r := r) hr).k0 (by decide) (by decide) fl_X11_577 (congrArg (fun z => toV (vi z)) ((hR.r (r := r) hr).f_hi.trans hsr.2.2.1)) ?_
      refine wp_cS (y' := m_X11_isWithin) [vi (vth (RS_tt S t) (RS_rr S r) r), vi (OR_lo (RS_rr S r)), vi (OR_hi (RS_rr S r))] [] 0 0 dX11_staysWithinBounds_38 ml_X11_256 st_X11_isWithin ok_X11_isWithin rfl (Nat.le_of_ble_eq_true rfl) rfl (Nat.le_of_ble_eq_true rfl) (d' := d - 1) (by omega) (Nat.zero_le _) (Nat.zero_le _) (c_X11_isWithin (vth (RS_tt S t) (RS_rr S r) r) (OR_lo (RS_rr S r)) (OR_hi (RS_rr S r)) (cont_ret ?_))
      refine wp_if_neB 46 dX11_staysWithinBounds_41 (by decide) (fun c_41 => ?_) (fun c_41 => ?_)
      · skip
        refine wp_iincN (a := r) (lv' := [(2, vi (nI (r + 1))), (3, vr (some (nm 53 r))), (0, vr (some (nm 40 0))), (1, vr (some (nm 56 t)))]) 1 dX11_staysWithinBounds_46 rfl (by decide) (by decide) rfl ?_
        refine wp_goto 2 dX11_staysWithinBounds_49 (by decide) ?_
        refine wp_sub [(2, vi (nI (r + 1))), (0, vr (some (nm 40 0))), (1, vr (some (nm 56 t)))] (sb_cons (.head _) (sb_cons (.tail _ (.tail _ (.head _))) (sb_cons (.tail _ (.tail _ (.tail _ (.head _)))) sb_nil))) ?_
        refine wp_pay (bc' := bc + 2 * m) (bs' := bs + 12 * m) (by omega) (by omega) ?_
        rw [c_21, Bool.true_and, c_41] at hq
        exact ih (r + 1) _ (by omega) hq
      · skip
        refine wp_iconst (nI 0) dX11_staysWithinBounds_44 (by decide) ?_
        refine wp_zreturn dX11_staysWithinBounds_45 rfl (by first | rfl | assumption) ?_
        rw [c_21, Bool.true_and, c_41, Bool.not_false, cmB_t] at hq
        exact hq
set_option maxRecDepth 100000 in
set_option maxHeartbeats 4000000 in
theorem c_X11_staysWithinBounds {G : GG} {d bc bs : Nat} {h : Hp} {Q : Pst} {X : CS} {S : RS} (hR : CR h X) (hs : SIM X S) {n : Nat} (hB : RB n S) {t : Nat} (ht : t < 3) (s : Bool) (hd : 11 ≤ d) (hbc : 12 ≤ bc) (hbs : 72 ≤ bs) (hq : Q (oRet (vi (bI (!(cmB S t (RS_rn S) 0 false s).1)))) h) : WP G m_X11_staysWithinBounds d 0 (aargs 0 [vr (some (nm 40 0)), vr (some (nm 56 t))]) [] h bc bs Q := by
  have hG := FRK.rf (h := h)
  have hrn : CS_rn X = RS_rn S := hs.1.1
  have han : CS_an X = RS_an S := hs.1.2.1
  have hbi : CS_bi X = RS_bg S := hs.1.2.2.1
  have hpr : CS_pr X = RS_mo S := hs.1.2.2.2.1
  have hlg : CS_lg X = RS_lg S := hs.1.2.2.2.2
  have hb0 := hB.1
  have hst := hs.2.2.2.1 t ht
  refine wp_sub [(0, vr (some (nm 40 0))), (1, vr (some (nm 56 t)))] (fun _ hz => hz) ?_
  refine wp_iconst (nI 0) dX11_staysWithinBounds_0 (by decide) ?_
  refine wp_istore_n (i := 2) (lv' := [(2, vi (nI 0)), (0, vr (some (nm 40 0))), (1, vr (some (nm 56 t)))]) dX11_staysWithinBounds_1 rfl (by decide) rfl ?_
  refine wp_sub [(2, vi (nI 0)), (0, vr (some (nm 40 0))), (1, vr (some (nm 56 t)))] (sb_cons (.head _) (sb_cons (.tail _ (.head _)) (sb_cons (.tail _ (.tail _ (.head _))) sb_nil))) ?_
  refine wp_pay (bc' := (bc - 12) + 2 * CS_rn X) (bs' := (bs - 72) + 12 * CS_rn X) (by omega) (by omega) ?_
  exact l_X11_stays hR hs hB ht (by omega) (CS_rn X) 0 s (by omega) (by rw [hrn]; exact hq)
