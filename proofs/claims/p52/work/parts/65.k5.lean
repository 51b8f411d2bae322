/-! The class: begin, end, sentBack, valueOf, history, moment, logged, errors, beginAnew. -/
theorem SR.lv {x : KRS} {y : ORS} (H : SR x y) (h1 : 1 ≤ (OR_hs y).length) : KR_pv x (KR_kpt x - 1) = (lastq y).2 := by
  rw [H.2.2.2.1]; exact (H.2.2.2.2.2 _ (by omega)).1
theorem SR.lm {x : KRS} {y : ORS} (H : SR x y) (h1 : 1 ≤ (OR_hs y).length) : KR_pm x (KR_kpt x - 1) = nI (lastq y).1 := by
  rw [H.2.2.2.1]; exact (H.2.2.2.2.2 _ (by omega)).2
theorem SIM.hbk {X : CS} {S : RS} (H : SIM X S) {t : Nat} (ht : t < 3) : KT_bk (CS_tt (kstop X t) t) = OT_bk (RS_tt S t) := by
  have h := ((H.halt ht).2.2.2.1 t ht).2.2.2.1
  rw [RS_tt_s] at h
  exact h
theorem SIM.begin {X : CS} {S : RS} (H : SIM X S) {t : Nat} (ht : t < 3) (ho : OT_op (RS_tt S t) = false) {x : KTS} {b m : Nat} (hb : b = RS_bg S + 1) (hm : m = RS_mo S) (hx : x = KT_ubk (KT_upt (KT_ubir (KT_urun (CS_tt X t) true) b) m) 0) :
    SIM (CS_utt1 (CS_ubi X b) t x) (RS_ubg (RS_utt1 S t (fgt (OT_ubk (OT_uag (OT_upt (OT_uop (RS_tt S t) true) (RS_mo S)) (RS_bg S)) 0))) (RS_bg S + 1)) := by
  subst hb hm hx
  have h0 := (H.2.2.2.1 t ht)
  obtain ⟨a1, a2, a3, a4, a5, a6⟩ := h0
  obtain ⟨s0, s1⟩ := a6 ho
  have h2 := H.upT ht (x := KT_ubk (KT_upt (KT_ubir (KT_urun (CS_tt X t) true) (RS_bg S + 1)) (RS_mo S)) 0) (y := fgt (OT_ubk (OT_uag (OT_upt (OT_uop (RS_tt S t) true) (RS_mo S)) (RS_bg S)) 0)) ?_ ?_
  · obtain ⟨⟨b1, b2, b3, b4, b5⟩, b6⟩ := h2
    exact ⟨⟨b1, b2, rfl, b4, b5⟩, b6⟩
  · refine ⟨rfl, fun _ => rfl, rfl, rfl, fun r hr => ?_, fun z => absurd (show true = false from z) (by decide)⟩
    obtain ⟨c1, c2, c3, c4, c5⟩ := a5 r hr
    obtain ⟨d1, d2, d3, d4⟩ := s1 r hr
    exact ⟨(c1.trans d1).trans (show false = fgB 6 _ r from (if_pos hr).symm), fun z => absurd ((show fgB 6 _ r = false from if_pos hr).symm.trans z) (by decide), (c3.trans d2).trans (show false = fgB 6 _ r from (if_pos hr).symm), (c4.trans d3).trans (show false = fgB 6 _ r from (if_pos hr).symm), (c5.trans d4).trans (show nI 0 = fgI 6 _ r from (if_pos hr).symm)⟩
  · exact s0.symm
set_option maxRecDepth 100000 in
set_option maxHeartbeats 4000000 in
theorem c_X11_begin {G : GG} {d bc bs : Nat} {h : Hp} {Q : Pst} {X : CS} {S : RS} (hR : CR h X) (hs : SIM X S) {n : Nat} (hB : RB n S) {v : Int32} {t : Nat} (hv : ixB v 3 = true → v = nI t ∧ t < 3) (hd : 9 ≤ d) (hbc : 6 ≤ bc) (hbs : 40 ≤ bs) (hq : KO Q h ["java/lang/IllegalArgumentException", "java/lang/IllegalStateException"] (o_begin S v t)) : WP G m_X11_begin d 0 (aargs 0 [vr (some (nm 40 0)), vi v]) [] h bc bs Q := by
  have hG := FRK.rf (h := h)
  have hrn : CS_rn X = RS_rn S := hs.1.1
  have han : CS_an X = RS_an S := hs.1.2.1
  have hbi : CS_bi X = RS_bg S := hs.1.2.2.1
  have hpr : CS_pr X = RS_mo S := hs.1.2.2.2.1
  have hlg : CS_lg X = RS_lg S := hs.1.2.2.2.2
  have hb0 := hB.1
  refine wp_sub [(0, vr (some (nm 40 0))), (1, vi v)] (fun _ hz => hz) ?_
  refine wp_aload_n (i := 0) dX11_begin_0 rfl rfl ?_
  refine wp_iload_n (i := 1) dX11_begin_1 rfl rfl ?_
  refine wp_cV (y' := m_X11_transactionNumbered) 12 [vi v] [] 1 6 dX11_begin_2 ml_X11_327 im_X11_transactionNumbered se_X11_transactionNumbered (by decide) hR.mk ok_X11_transactionNumbered rfl (Nat.le_of_ble_eq_true rfl) rfl (Nat.le_of_ble_eq_true rfl) (d' := d - 1) (by omega) (by omega) (by omega) (c_X11_transactionNumbered hR hv (by omega) (by omega) (by omega) (fun g_t => cont_thr rfl ?_) (fun b_t ev ht => cont_ret ?_))
  · exact hq.1 0 _ (congrArg (fun z => z.1) (show o_begin S v t = (nI 1, nI 0, S) from by unfold o_begin; rw [if_pos (by rw [g_t]; rfl)])) rfl
  · subst ev
    have hst := hs.2.2.2.1 t ht
    have hb2 := hB.2.1 t ht
    refine wp_astore_n (i := 2) (lv' := [(2, vr (some (nm 56 t))), (0, vr (some (nm 40 0))), (1, vi (nI t))]) dX11_begin_5 rfl (by decide) rfl ?_
    refine wp_aload_n (i := 2) dX11_begin_6 rfl rfl ?_
    refine wp_get 9 0 (vi (bI (KT_run (CS_tt X t)))) dX11_begin_7 (hR.t (r := t) ht).k0 (by decide) (by decide) fl_X11_331 (congrArg (fun z => toV (vi z)) ((hR.t (r := t) ht).f_run)) ?_
    refine wp_if_eqB 24 dX11_begin_10 (by decide) (fun c_10 => ?_) (fun c_10 => ?_)
    · skip
      refine wp_aload_n (i := 0) dX11_begin_24 rfl rfl ?_
      refine wp_dup dX11_begin_25 ?_
      refine wp_get 12 9 (vi (nI (CS_bi X))) dX11_begin_26 hR.mk (by decide) (by decide) fl_X11_53 (congrArg (fun z => toV (vi z)) (hR.i9)) ?_
      refine wp_iconst (nI 1) dX11_begin_29 (by decide) ?_
      refine wp_iaddN dX11_begin_30 ?_
      refine wp_putI 12 9 dX11_begin_31 hR.mk (by decide) (by decide) (by decide) fl_X11_53 rfl (fun _ _ => rfl) rfl rfl ?_
      have hR1 := hR.wbi (x := ((CS_bi X) + 1))
      have hG2 := hG.tr (FRK.w (k := 9) (x := nI ((CS_bi X) + 1)) (by decide))
      refine wp_aload_n (i := 2) dX11_begin_34 rfl rfl ?_
      refine wp_aload_n (i := 0) dX11_begin_35 rfl rfl ?_
      refine wp_get 12 9 (vi (nI (CS_bi (CS_ubi X ((CS_bi X) + 1))))) dX11_begin_36 hR1.mk (by decide) (by decide) fl_X11_53 (congrArg (fun z => toV (vi z)) (hR1.i9)) ?_
      refine wp_aload_n (i := 0) dX11_begin_39 rfl rfl ?_
      refine wp_get 12 10 (vi (nI (CS_pr (CS_ubi X ((CS_bi X) + 1))))) dX11_begin_40 hR1.mk (by decide) (by decide) fl_X11_56 (congrArg (fun z => toV (vi z)) (hR1.i10)) ?_
      refine wp_cV (y' := m_X7_start) 9 [vi (nI (CS_bi (CS_ubi X ((CS_bi X) + 1)))), vi (nI (CS_pr (CS_ubi X ((CS_bi X) + 1))))] [] 0 0 dX11_begin_43 ml_X11_337 im_X7_start se_X7_start (by decide) (hR1.t (r := t) ht).k0 ok_X7_start rfl (Nat.le_of_ble_eq_true rfl) rfl (Nat.le_of_ble_eq_true rfl) (d' := d - 1) (by omega) (Nat.zero_le _) (Nat.zero_le _) (c_X7_start (hR1.t (r := t) ht) (fun h_hR3 O_hR3 F_hR3 => cont_void ?_))
      have hR3 := hR1.upT ht F_hR3 O_hR3
      have hG4 := hG2.tr (FRK.oT F_hR3)
      refine wp_aload_n (i := 0) dX11_begin_46 rfl rfl ?_
      refine wp_get 12 10 (vi (nI (RS_mo S))) dX11_begin_47 hR3.mk (by decide) (by decide) fl_X11_56 (congrArg (fun z => toV (vi z)) (hR3.i10.trans (congrArg nI hpr))) ?_
      refine wp_ireturn dX11_begin_50 rfl ?_
      skip
      rw [show o_begin S (nI t) t = (nI 0, nI (RS_mo S), RS_ubg (RS_utt1 S t (fgt (OT_ubk (OT_uag (OT_upt (OT_uop (RS_tt S t) true) (RS_mo S)) (RS_bg S)) 0))) (RS_bg S + 1)) from by unfold o_begin; rw [if_neg (by rw [b_t]; decide), if_neg (by rw [← hst.1, c_10]; decide)]] at hq
      exact hq.2 rfl _ _ hR3 (hs.begin ht (by rw [← hst.1, c_10]) (by omega) (by omega) rfl) hG4
    · skip
      refine wp_throw dX11_begin_13 dX11_begin_16 dX11_begin_17 dX11_begin_20 dX11_begin_23 th_320 sr_X11_335 rfl (by omega) (by omega) (by omega) ?_
      exact hq.1 1 _ (congrArg (fun z => z.1) (show o_begin S (nI t) t = (nI 2, nI 0, S) from by unfold o_begin; rw [if_neg (by rw [b_t]; decide), if_pos (by rw [← hst.1, c_10])])) rfl
set_option maxRecDepth 100000 in
set_option maxHeartbeats 4000000 in
theorem c_X11_end {G : GG} {d bc bs : Nat} {h : Hp} {Q : Pst} {X : CS} {S : RS} (hR : CR h X) (hs : SIM X S) {n : Nat} (hB : RB n S) {v : Int32} {t : Nat} (hv : ixB v 3 = true → v = nI t ∧ t < 3) (hd : 9 ≤ d) (hbc : 6 ≤ bc) (hbs : 40 ≤ bs) (hq : KO Q h ["java/lang/IllegalArgumentException", "java/lang/IllegalStateException"] (o_end S v t)) : WP G m_X11_end d 0 (aargs 0 [vr (some (nm 40 0)), vi v]) [] h bc bs Q := by
  have hG := FRK.rf (h := h)
  have hrn : CS_rn X = RS_rn S := hs.1.1
  have han : CS_an X = RS_an S := hs.1.2.1
  have hbi : CS_bi X = RS_bg S := hs.1.2.2.1
  have hpr : CS_pr X = RS_mo S := hs.1.2.2.2.1
  have hlg : CS_lg X = RS_lg S := hs.1.2.2.2.2
  have hb0 := hB.1
  refine wp_sub [(0, vr (some (nm 40 0))), (1, vi v)] (fun _ hz => hz) ?_
  refine wp_aload_n (i := 0) dX11_end_0 rfl rfl ?_
  refine wp_iload_n (i := 1) dX11_end_1 rfl rfl ?_
  refine wp_cV (y' := m_X11_transactionNumbered) 12 [vi v] [] 1 6 dX11_end_2 ml_X11_327 im_X11_transactionNumbered se_X11_transactionNumbered (by decide) hR.mk ok_X11_transactionNumbered rfl (Nat.le_of_ble_eq_true rfl) rfl (Nat.le_of_ble_eq_true rfl) (d' := d - 1) (by omega) (by omega) (by omega) (c_X11_transactionNumbered hR hv (by omega) (by omega) (by omega) (fun g_t => cont_thr rfl ?_) (fun b_t ev ht => cont_ret ?_))
  · exact hq.1 0 _ (congrArg (fun z => z.1) (show o_end S v t = (nI 1, nI 0, S) from by unfold o_end; rw [if_pos (by rw [g_t]; rfl)])) rfl
  · subst ev
    have hst := hs.2.2.2.1 t ht
    have hb2 := hB.2.1 t ht
    refine wp_astore_n (i := 2) (lv' := [(2, vr (some (nm 56 t))), (0, vr (some (nm 40 0))), (1, vi (nI t))]) dX11_end_5 rfl (by decide) rfl ?_
    refine wp_aload_n (i := 2) dX11_end_6 rfl rfl ?_
    refine wp_cS (y' := m_X11_refuseEnded) [vr (some (nm 56 t))] [] 1 6 dX11_end_7 ml_X11_344 st_X11_refuseEnded ok_X11_refuseEnded rfl (Nat.le_of_ble_eq_true rfl) rfl (Nat.le_of_ble_eq_true rfl) (d' := d - 1) (by omega) (by omega) (by omega) (c_X11_refuseEnded (hR.t ht) (by omega) (by omega) (by omega) (fun g_e => cont_thr rfl ?_) (fun e_e => cont_void ?_))
    · exact hq.1 1 _ (congrArg (fun z => z.1) (show o_end S (nI t) t = (nI 2, nI 0, S) from by unfold o_end; rw [if_neg (by rw [b_t]; decide), if_pos (by rw [← hst.1, g_e]; rfl)])) rfl
    · skip
      refine wp_aload_n (i := 2) dX11_end_10 rfl rfl ?_
      refine wp_cV (y' := m_X7_stop) 9 [] [] 0 0 dX11_end_11 ml_X11_395 im_X7_stop se_X7_stop (by decide) (hR.t (r := t) ht).k0 ok_X7_stop rfl (Nat.le_of_ble_eq_true rfl) rfl (Nat.le_of_ble_eq_true rfl) (d' := d - 1) (by omega) (Nat.zero_le _) (Nat.zero_le _) (c_X7_stop hR ht (by omega) (fun h_hR1 hR1 F_hR1 => cont_void ?_))
      have hG2 := hG.tr F_hR1
      refine wp_aload_n (i := 2) dX11_end_14 rfl rfl ?_
      refine wp_get 9 3 (vi (nI (OT_bk (RS_tt S t)))) dX11_end_15 (hR1.t (r := t) ht).k0 (by decide) (by decide) fl_X11_407 (congrArg (fun z => toV (vi z)) ((hR1.t ht).f_bk.trans (congrArg nI (hs.hbk ht)))) ?_
      refine wp_ireturn dX11_end_18 rfl ?_
      rw [show o_end S (nI t) t = (nI 0, nI (OT_bk (RS_tt S t)), RS_utt1 S t (fgt (OT_uop (RS_tt S t) false))) from by unfold o_end; rw [if_neg (by rw [b_t]; decide), if_neg (by rw [← hst.1, e_e]; decide)]] at hq
      exact hq.2 rfl _ _ hR1 (hs.halt ht) hG2
set_option maxRecDepth 100000 in
set_option maxHeartbeats 4000000 in
theorem c_X11_sentBack {G : GG} {d bc bs : Nat} {h : Hp} {Q : Pst} {X : CS} {S : RS} (hR : CR h X) (hs : SIM X S) {n : Nat} (hB : RB n S) {v : Int32} {t : Nat} (hv : ixB v 3 = true → v = nI t ∧ t < 3) (hd : 9 ≤ d) (hbc : 6 ≤ bc) (hbs : 40 ≤ bs) (hq : KO Q h ["java/lang/IllegalArgumentException"] (o_sentBack S v t)) : WP G m_X11_sentBack d 0 (aargs 0 [vr (some (nm 40 0)), vi v]) [] h bc bs Q := by
  have hG := FRK.rf (h := h)
  have hrn : CS_rn X = RS_rn S := hs.1.1
  have han : CS_an X = RS_an S := hs.1.2.1
  have hbi : CS_bi X = RS_bg S := hs.1.2.2.1
  have hpr : CS_pr X = RS_mo S := hs.1.2.2.2.1
  have hlg : CS_lg X = RS_lg S := hs.1.2.2.2.2
  have hb0 := hB.1
  refine wp_sub [(0, vr (some (nm 40 0))), (1, vi v)] (fun _ hz => hz) ?_
  refine wp_aload_n (i := 0) dX11_sentBack_0 rfl rfl ?_
  refine wp_iload_n (i := 1) dX11_sentBack_1 rfl rfl ?_
  refine wp_cV (y' := m_X11_transactionNumbered) 12 [vi v] [] 1 6 dX11_sentBack_2 ml_X11_327 im_X11_transactionNumbered se_X11_transactionNumbered (by decide) hR.mk ok_X11_transactionNumbered rfl (Nat.le_of_ble_eq_true rfl) rfl (Nat.le_of_ble_eq_true rfl) (d' := d - 1) (by omega) (by omega) (by omega) (c_X11_transactionNumbered hR hv (by omega) (by omega) (by omega) (fun g_t => cont_thr rfl ?_) (fun b_t ev ht => cont_ret ?_))
  · exact hq.1 0 _ (congrArg (fun z => z.1) (show o_sentBack S v t = (nI 1, nI 0, S) from by unfold o_sentBack; rw [if_pos (by rw [g_t]; rfl)])) rfl
  · subst ev
    have hst := hs.2.2.2.1 t ht
    have hb2 := hB.2.1 t ht
    refine wp_get 9 3 (vi (nI (OT_bk (RS_tt S t)))) dX11_sentBack_5 (hR.t (r := t) ht).k0 (by decide) (by decide) fl_X11_407 (congrArg (fun z => toV (vi z)) ((hR.t ht).f_bk.trans (congrArg nI hst.2.2.2.1))) ?_
    refine wp_ireturn dX11_sentBack_8 rfl ?_
    rw [show o_sentBack S (nI t) t = (nI 0, nI (OT_bk (RS_tt S t)), S) from by unfold o_sentBack; rw [if_neg (by rw [b_t]; decide)]] at hq
    exact hq.2 rfl _ _ hR hs hG
set_option maxRecDepth 100000 in
set_option maxHeartbeats 4000000 in
theorem c_X11_valueOf {G : GG} {d bc bs : Nat} {h : Hp} {Q : Pst} {X : CS} {S : RS} (hR : CR h X) (hs : SIM X S) {n : Nat} (hB : RB n S) {u : Int32} {r : Nat} (hu : ixB u (RS_rn S) = true → u = nI r ∧ r < RS_rn S) (hd : 9 ≤ d) (hbc : 6 ≤ bc) (hbs : 40 ≤ bs) (hq : KO Q h ["java/lang/IndexOutOfBoundsException"] (o_valueOf S u r)) : WP G m_X11_valueOf d 0 (aargs 0 [vr (some (nm 40 0)), vi u]) [] h bc bs Q := by
  have hG := FRK.rf (h := h)
  have hrn : CS_rn X = RS_rn S := hs.1.1
  have han : CS_an X = RS_an S := hs.1.2.1
  have hbi : CS_bi X = RS_bg S := hs.1.2.2.1
  have hpr : CS_pr X = RS_mo S := hs.1.2.2.2.1
  have hlg : CS_lg X = RS_lg S := hs.1.2.2.2.2
  have hb0 := hB.1
  refine wp_sub [(0, vr (some (nm 40 0))), (1, vi u)] (fun _ hz => hz) ?_
  refine wp_aload_n (i := 0) dX11_valueOf_0 rfl rfl ?_
  refine wp_iload_n (i := 1) dX11_valueOf_1 rfl rfl ?_
  refine wp_cV (y' := m_X11_referenceNumbered) 12 [vi u] [] 1 6 dX11_valueOf_2 ml_X11_340 im_X11_referenceNumbered se_X11_referenceNumbered (by decide) hR.mk ok_X11_referenceNumbered rfl (Nat.le_of_ble_eq_true rfl) rfl (Nat.le_of_ble_eq_true rfl) (d' := d - 1) (by omega) (by omega) (by omega) (c_X11_referenceNumbered hR (by omega) (v := u) (t := r) (fun z => by rw [hrn] at z ⊢; exact hu z) (by omega) (by omega) (by omega) (fun g_r => cont_thr rfl ?_) (fun b_r eu hr => cont_ret ?_))
  · rw [hrn] at g_r
    exact hq.1 0 _ (congrArg (fun z => z.1) (show o_valueOf S u r = (nI 1, nI 0, S) from by unfold o_valueOf; rw [if_pos (by rw [g_r]; rfl)])) rfl
  · subst eu
    rw [hrn] at b_r
    have hr0 : r < RS_rn S := by omega
    have hsr := hs.2.1 r hr0
    have hb1 := hB.2.2.1 r hr0
    refine wp_cV (y' := m_X5_latestValue) 7 [] [] 0 0 dX11_valueOf_5 ml_X11_410 im_X5_latestValue se_X5_latestValue (by decide) (hR.r (r := r) hr).k0 ok_X5_latestValue rfl (Nat.le_of_ble_eq_true rfl) rfl (Nat.le_of_ble_eq_true rfl) (d' := d - 1) (by omega) (Nat.zero_le _) (Nat.zero_le _) (c_X5_latestValue (hR.r (r := r) hr) (by rw [hsr.2.2.2.1]; omega) (by rw [hsr.2.2.2.1]; omega) (by omega) (cont_ret ?_))
    rw [SR.lv hsr (by omega)]
    refine wp_ireturn dX11_valueOf_8 rfl ?_
    rw [show o_valueOf S (nI r) r = (nI 0, (lastq (RS_rr S r)).2, S) from by unfold o_valueOf; rw [if_neg (by rw [b_r]; decide)]] at hq
    exact hq.2 rfl _ _ hR hs hG
set_option maxRecDepth 100000 in
set_option maxHeartbeats 4000000 in
theorem c_X11_history {G : GG} {d bc bs : Nat} {h : Hp} {Q : Pst} {X : CS} {S : RS} (hR : CR h X) (hs : SIM X S) {n : Nat} (hB : RB n S) {u : Int32} {r : Nat} (hu : ixB u (RS_rn S) = true → u = nI r ∧ r < RS_rn S) (hd : 9 ≤ d) (hbc : 6 ≤ bc) (hbs : 40 ≤ bs) (hq : KO Q h ["java/lang/IndexOutOfBoundsException"] (o_history S u r)) : WP G m_X11_history d 0 (aargs 0 [vr (some (nm 40 0)), vi u]) [] h bc bs Q := by
  have hG := FRK.rf (h := h)
  have hrn : CS_rn X = RS_rn S := hs.1.1
  have han : CS_an X = RS_an S := hs.1.2.1
  have hbi : CS_bi X = RS_bg S := hs.1.2.2.1
  have hpr : CS_pr X = RS_mo S := hs.1.2.2.2.1
  have hlg : CS_lg X = RS_lg S := hs.1.2.2.2.2
  have hb0 := hB.1
  refine wp_sub [(0, vr (some (nm 40 0))), (1, vi u)] (fun _ hz => hz) ?_
  refine wp_aload_n (i := 0) dX11_history_0 rfl rfl ?_
  refine wp_iload_n (i := 1) dX11_history_1 rfl rfl ?_
  refine wp_cV (y' := m_X11_referenceNumbered) 12 [vi u] [] 1 6 dX11_history_2 ml_X11_340 im_X11_referenceNumbered se_X11_referenceNumbered (by decide) hR.mk ok_X11_referenceNumbered rfl (Nat.le_of_ble_eq_true rfl) rfl (Nat.le_of_ble_eq_true rfl) (d' := d - 1) (by omega) (by omega) (by omega) (c_X11_referenceNumbered hR (by omega) (v := u) (t := r) (fun z => by rw [hrn] at z ⊢; exact hu z) (by omega) (by omega) (by omega) (fun g_r => cont_thr rfl ?_) (fun b_r eu hr => cont_ret ?_))
  · rw [hrn] at g_r
    exact hq.1 0 _ (congrArg (fun z => z.1) (show o_history S u r = (nI 1, nI 0, S) from by unfold o_history; rw [if_pos (by rw [g_r]; rfl)])) rfl
  · subst eu
    rw [hrn] at b_r
    have hr0 : r < RS_rn S := by omega
    have hsr := hs.2.1 r hr0
    have hb1 := hB.2.2.1 r hr0
    refine wp_get 7 5 (vi (nI (OR_hs (RS_rr S r)).length)) dX11_history_5 (hR.r (r := r) hr).k0 (by decide) (by decide) fl_X11_431 (congrArg (fun z => toV (vi z)) ((hR.r (r := r) hr).f_kpt.trans (congrArg nI hsr.2.2.2.1))) ?_
    refine wp_ireturn dX11_history_8 rfl ?_
    rw [show o_history S (nI r) r = (nI 0, nI (OR_hs (RS_rr S r)).length, S) from by unfold o_history; rw [if_neg (by rw [b_r]; decide)]] at hq
    exact hq.2 rfl _ _ hR hs hG
set_option maxRecDepth 100000 in
set_option maxHeartbeats 4000000 in
theorem c_X11_moment {G : GG} {d bc bs : Nat} {h : Hp} {Q : Pst} {X : CS} {S : RS} (hR : CR h X) (hs : SIM X S) {n : Nat} (hB : RB n S) (hd : 9 ≤ d) (hbc : 6 ≤ bc) (hbs : 40 ≤ bs) (hq : KO Q h [] (o_moment S)) : WP G m_X11_moment d 0 (aargs 0 [vr (some (nm 40 0))]) [] h bc bs Q := by
  have hG := FRK.rf (h := h)
  have hrn : CS_rn X = RS_rn S := hs.1.1
  have han : CS_an X = RS_an S := hs.1.2.1
  have hbi : CS_bi X = RS_bg S := hs.1.2.2.1
  have hpr : CS_pr X = RS_mo S := hs.1.2.2.2.1
  have hlg : CS_lg X = RS_lg S := hs.1.2.2.2.2
  have hb0 := hB.1
  refine wp_sub [(0, vr (some (nm 40 0)))] (fun _ hz => hz) ?_
  refine wp_aload_n (i := 0) dX11_moment_0 rfl rfl ?_
  refine wp_get 12 10 (vi (nI (RS_mo S))) dX11_moment_1 hR.mk (by decide) (by decide) fl_X11_56 (congrArg (fun z => toV (vi z)) (hR.i10.trans (congrArg nI hpr))) ?_
  refine wp_ireturn dX11_moment_4 rfl ?_
  rw [show o_moment S = (nI 0, nI (RS_mo S), S) from by unfold o_moment; rfl] at hq
  exact hq.2 rfl _ _ hR hs hG
set_option maxRecDepth 100000 in
set_option maxHeartbeats 4000000 in
theorem c_X11_errors {G : GG} {d bc bs : Nat} {h : Hp} {Q : Pst} {X : CS} {S : RS} (hR : CR h X) (hs : SIM X S) {n : Nat} (hB : RB n S) {w : Int32} {a : Nat} (hw : ixB w (RS_an S) = true → w = nI a ∧ a < RS_an S) (hd : 9 ≤ d) (hbc : 6 ≤ bc) (hbs : 40 ≤ bs) (hq : KO Q h ["java/lang/IndexOutOfBoundsException"] (o_errors S w a)) : WP G m_X11_errors d 0 (aargs 0 [vr (some (nm 40 0)), vi w]) [] h bc bs Q := by
  have hG := FRK.rf (h := h)
  have hrn : CS_rn X = RS_rn S := hs.1.1
  have han : CS_an X = RS_an S := hs.1.2.1
  have hbi : CS_bi X = RS_bg S := hs.1.2.2.1
  have hpr : CS_pr X = RS_mo S := hs.1.2.2.2.1
  have hlg : CS_lg X = RS_lg S := hs.1.2.2.2.2
  have hb0 := hB.1
  refine wp_sub [(0, vr (some (nm 40 0))), (1, vi w)] (fun _ hz => hz) ?_
  refine wp_aload_n (i := 0) dX11_errors_0 rfl rfl ?_
  refine wp_iload_n (i := 1) dX11_errors_1 rfl rfl ?_
  refine wp_cV (y' := m_X11_agentNumbered) 12 [vi w] [] 1 6 dX11_errors_2 ml_X11_454 im_X11_agentNumbered se_X11_agentNumbered (by decide) hR.mk ok_X11_agentNumbered rfl (Nat.le_of_ble_eq_true rfl) rfl (Nat.le_of_ble_eq_true rfl) (d' := d - 1) (by omega) (by omega) (by omega) (c_X11_agentNumbered hR (by omega) (v := w) (t := a) (fun z => by rw [han] at z ⊢; exact hw z) (by omega) (by omega) (by omega) (fun g_a => cont_thr rfl ?_) (fun b_a ew ha => cont_ret ?_))
  · rw [han] at g_a
    exact hq.1 0 _ (congrArg (fun z => z.1) (show o_errors S w a = (nI 1, nI 0, S) from by unfold o_errors; rw [if_pos (by rw [g_a]; rfl)])) rfl
  · subst ew
    rw [han] at b_a
    have ha0 : a < RS_an S := by omega
    have hsa := hs.2.2.1 a ha0
    have hb3 := hB.2.2.2 a ha0
    refine wp_get 3 5 (vi (nI (OA_er (RS_aa S a)))) dX11_errors_5 (hR.a (r := a) ha).k0 (by decide) (by decide) fl_X11_495 (congrArg (fun z => toV (vi z)) ((hR.a (r := a) ha).f_er.trans (congrArg nI hsa.2.2.2.2.1))) ?_
    refine wp_ireturn dX11_errors_8 rfl ?_
    rw [show o_errors S (nI a) a = (nI 0, nI (OA_er (RS_aa S a)), S) from by unfold o_errors; rw [if_neg (by rw [b_a]; decide)]] at hq
    exact hq.2 rfl _ _ hR hs hG
