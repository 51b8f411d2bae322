/-! The class: ensure, write. -/
theorem gos_op {t r : Nat} {e : Bool} {u : Nat} : ∀ m S, OT_op (RS_tt (gos t r e m S).2 u) = OT_op (RS_tt S u) := by
  have hb : ∀ (S : RS) i, OT_op (RS_tt (RS_utt1 S i (sbk (RS_tt S i) (RS_mo S))) u) = OT_op (RS_tt S u) := fun S i => by
    show OT_op (va_up (RS_tt S) i _ u) = _
    rw [va_up_app]
    by_cases z : u = i
    · rw [if_pos z, z]; rfl
    · rw [if_neg z]
  intro m
  induction m with
  | zero => intro S; rfl
  | succ m ih =>
    intro S
    rw [gos]
    split
    · split
      · exact hb S t
      · rw [ih]; exact hb S _
    · exact ih S
theorem ST.uen {x : KTS} {y : OTS} (H : ST x y) {r : Nat} (ho : OT_op y = true) : ST (KT_uen x r true) (OT_uen y r true) := by
  obtain ⟨a1, a2, a3, a4, a5, a6⟩ := H
  refine ⟨a1, a2, a3, a4, fun j hj => ?_, fun z => absurd (ho.symm.trans z) (by decide)⟩
  obtain ⟨c1, c2, c3, c4, c5⟩ := a5 j hj
  refine ⟨c1, c2, ?_, c4, c5⟩
  show va_up (KT_en x) r true j = va_up (OT_en y) r true j
  rw [va_up_app, va_up_app, c3]
theorem ST.uwr {x : KTS} {y : OTS} (H : ST x y) {r : Nat} {v : Int32} (ho : OT_op y = true) : ST (KT_uown (KT_uwr x r true) r v) (OT_uwn (OT_uwr y r true) r v) := by
  obtain ⟨a1, a2, a3, a4, a5, a6⟩ := H
  refine ⟨a1, a2, a3, a4, fun j hj => ?_, fun z => absurd (ho.symm.trans z) (by decide)⟩
  obtain ⟨c1, c2, c3, c4, c5⟩ := a5 j hj
  refine ⟨?_, ?_, c3, c4, c5⟩
  · show va_up (KT_wr x) r true j = va_up (OT_wr y) r true j
    rw [va_up_app, va_up_app, c1]
  · show va_up (OT_wr y) r true j = true → va_up (KT_own x) r v j = va_up (OT_wn y) r v j
    rw [va_up_app, va_up_app, va_up_app]
    by_cases e : j = r
    · intro _; rw [if_pos e, if_pos e]
    · rw [if_neg e, if_neg e, if_neg e]; exact c2
theorem ST.uown {x : KTS} {y : OTS} (H : ST x y) {r : Nat} {v : Int32} (ho : OT_op y = true) : ST (KT_uown x r v) (OT_uwn y r v) := by
  obtain ⟨a1, a2, a3, a4, a5, a6⟩ := H
  refine ⟨a1, a2, a3, a4, fun j hj => ?_, fun z => absurd (ho.symm.trans z) (by decide)⟩
  obtain ⟨c1, c2, c3, c4, c5⟩ := a5 j hj
  refine ⟨c1, ?_, c3, c4, c5⟩
  show OT_wr y j = true → va_up (KT_own x) r v j = va_up (OT_wn y) r v j
  rw [va_up_app, va_up_app]
  by_cases e : j = r
  · intro _; rw [if_pos e, if_pos e]
  · rw [if_neg e, if_neg e]; exact c2
theorem ST.usm {x : KTS} {y : OTS} (H : ST x y) {r : Nat} {v : Int32} (ho : OT_op y = true) : ST (KT_usm (KT_uad x r true) r v) (OT_usm (OT_uad y r true) r v) := by
  obtain ⟨a1, a2, a3, a4, a5, a6⟩ := H
  refine ⟨a1, a2, a3, a4, fun j hj => ?_, fun z => absurd (ho.symm.trans z) (by decide)⟩
  obtain ⟨c1, c2, c3, c4, c5⟩ := a5 j hj
  refine ⟨c1, c2, c3, ?_, ?_⟩
  · show va_up (KT_ad x) r true j = va_up (OT_ad y) r true j
    rw [va_up_app, va_up_app, c4]
  · show va_up (KT_sm x) r v j = va_up (OT_sm y) r v j
    rw [va_up_app, va_up_app, c5]
set_option maxRecDepth 100000 in
set_option maxHeartbeats 4000000 in
theorem c_X11_ensure {G : GG} {d bc bs : Nat} {h : Hp} {Q : Pst} {X : CS} {S : RS} (hR : CR h X) (hs : SIM X S) {n : Nat} (hB : RB n S) {v : Int32} {t : Nat} (hv : ixB v 3 = true → v = nI t ∧ t < 3) {u : Int32} {r : Nat} (hu : ixB u (RS_rn S) = true → u = nI r ∧ r < RS_rn S) (hd : 12 ≤ d) (hbc : 6 ≤ bc) (hbs : 40 ≤ bs) (hq : KO Q h ["java/lang/IllegalArgumentException", "java/lang/IndexOutOfBoundsException", "java/lang/IllegalStateException"] (o_ensure S v t u r)) : WP G m_X11_ensure d 0 (aargs 0 [vr (some (nm 40 0)), vi v, vi u]) [] h bc bs Q := by
  have hG := FRK.rf (h := h)
  have hrn : CS_rn X = RS_rn S := hs.1.1
  have han : CS_an X = RS_an S := hs.1.2.1
  have hbi : CS_bi X = RS_bg S := hs.1.2.2.1
  have hpr : CS_pr X = RS_mo S := hs.1.2.2.2.1
  have hlg : CS_lg X = RS_lg S := hs.1.2.2.2.2
  have hb0 := hB.1
  refine wp_sub [(0, vr (some (nm 40 0))), (1, vi v), (2, vi u)] (fun _ hz => hz) ?_
  refine wp_aload_n (i := 0) dX11_ensure_0 rfl rfl ?_
  refine wp_iload_n (i := 1) dX11_ensure_1 rfl rfl ?_
  refine wp_cV (y' := m_X11_transactionNumbered) 12 [vi v] [] 1 6 dX11_ensure_2 ml_X11_327 im_X11_transactionNumbered se_X11_transactionNumbered (by decide) hR.mk ok_X11_transactionNumbered rfl (Nat.le_of_ble_eq_true rfl) rfl (Nat.le_of_ble_eq_true rfl) (d' := d - 1) (by omega) (by omega) (by omega) (c_X11_transactionNumbered hR hv (by omega) (by omega) (by omega) (fun g_t => cont_thr rfl ?_) (fun b_t ev ht => cont_ret ?_))
  · exact hq.1 0 _ (congrArg (fun z => z.1) (show o_ensure S v t u r = (nI 1, nI 0, S) from by unfold o_ensure; rw [if_pos (by rw [g_t]; rfl)])) rfl
  · subst ev
    have hst := hs.2.2.2.1 t ht
    have hb2 := hB.2.1 t ht
    refine wp_astore_n (i := 3) (lv' := [(3, vr (some (nm 56 t))), (0, vr (some (nm 40 0))), (1, vi (nI t)), (2, vi u)]) dX11_ensure_5 rfl (by decide) rfl ?_
    refine wp_aload_n (i := 0) dX11_ensure_6 rfl rfl ?_
    refine wp_iload_n (i := 2) dX11_ensure_7 rfl rfl ?_
    refine wp_cV (y' := m_X11_referenceNumbered) 12 [vi u] [] 1 6 dX11_ensure_8 ml_X11_340 im_X11_referenceNumbered se_X11_referenceNumbered (by decide) hR.mk ok_X11_referenceNumbered rfl (Nat.le_of_ble_eq_true rfl) rfl (Nat.le_of_ble_eq_true rfl) (d' := d - 1) (by omega) (by omega) (by omega) (c_X11_referenceNumbered hR (by omega) (v := u) (t := r) (fun z => by rw [hrn] at z ⊢; exact hu z) (by omega) (by omega) (by omega) (fun g_r => cont_thr rfl ?_) (fun b_r eu hr => cont_ret ?_))
    · rw [hrn] at g_r
      exact hq.1 1 _ (congrArg (fun z => z.1) (show o_ensure S (nI t) t u r = (nI 2, nI 0, S) from by unfold o_ensure; rw [if_neg (by rw [b_t]; decide), if_pos (by rw [g_r]; rfl)])) rfl
    · subst eu
      rw [hrn] at b_r
      have hr0 : r < RS_rn S := by omega
      have hsr := hs.2.1 r hr0
      have hb1 := hB.2.2.1 r hr0
      refine wp_astore (i := 4) (lv' := [(4, vr (some (nm 53 r))), (3, vr (some (nm 56 t))), (0, vr (some (nm 40 0))), (1, vi (nI t)), (2, vi (nI r))]) dX11_ensure_11 (by decide) rfl ?_
      refine wp_aload_n (i := 3) dX11_ensure_13 rfl rfl ?_
      refine wp_cS (y' := m_X11_refuseEnded) [vr (some (nm 56 t))] [] 1 6 dX11_ensure_14 ml_X11_344 st_X11_refuseEnded ok_X11_refuseEnded rfl (Nat.le_of_ble_eq_true rfl) rfl (Nat.le_of_ble_eq_true rfl) (d' := d - 1) (by omega) (by omega) (by omega) (c_X11_refuseEnded (hR.t ht) (by omega) (by omega) (by omega) (fun g_e => cont_thr rfl ?_) (fun e_e => cont_void ?_))
      · exact hq.1 2 _ (congrArg (fun z => z.1) (show o_ensure S (nI t) t (nI r) r = (nI 3, nI 0, S) from by unfold o_ensure; rw [if_neg (by rw [b_t]; decide), if_neg (by rw [b_r]; decide), if_pos (by rw [← hst.1, g_e]; rfl)])) rfl
      · have hop : OT_op (RS_tt S t) = true := by rw [← hst.1, e_e]
        have hr6 : r < 6 := by omega
        have hsq := hst.2.2.2.2.1 r hr6
        refine wp_aload_n (i := 0) dX11_ensure_17 rfl rfl ?_
        refine wp_aload_n (i := 3) dX11_ensure_18 rfl rfl ?_
        refine wp_aload (i := 4) dX11_ensure_19 rfl ?_
        refine wp_cV (y' := m_X11_holdsPoint) 12 [vr (some (nm 56 t)), vr (some (nm 53 r))] [] 0 0 dX11_ensure_21 ml_X11_378 im_X11_holdsPoint se_X11_holdsPoint (by decide) hR.mk ok_X11_holdsPoint rfl (Nat.le_of_ble_eq_true rfl) rfl (Nat.le_of_ble_eq_true rfl) (d' := d - 1) (by omega) (Nat.zero_le _) (Nat.zero_le _) (c_X11_holdsPoint hR hs hB ht hr (by omega) (fun l_1 => cont_ret ?_) (fun l_0 h1 X1 R1 s1 F1 => cont_ret ?_))
        · skip
          refine wp_if_eqN 37 dX11_ensure_24 (by decide) (by decide) (fun c_24 => absurd c_24 (by decide)) (fun c_24 => ?_)
          refine wp_aload_n (i := 0) dX11_ensure_27 rfl rfl ?_
          refine wp_aload_n (i := 3) dX11_ensure_28 rfl rfl ?_
          refine wp_iload_n (i := 2) dX11_ensure_29 rfl rfl ?_
          refine wp_iconst (nI 0) dX11_ensure_30 (by decide) ?_
          refine wp_cV (y' := m_X11_winsAgainstOthers) 12 [vr (some (nm 56 t)), vi (nI r), vi (nI 0)] [] 0 0 dX11_ensure_31 ml_X11_382 im_X11_winsAgainstOthers se_X11_winsAgainstOthers (by decide) hR.mk ok_X11_winsAgainstOthers rfl (Nat.le_of_ble_eq_true rfl) rfl (Nat.le_of_ble_eq_true rfl) (d' := d - 1) (by omega) (Nat.zero_le _) (Nat.zero_le _) (c_X11_winsAgainstOthers hR hs hB ht hr6 hop (e := false) (by omega) (fun h2 X2 R2 s2 F2 => cont_ret ?_))
          have hG2 := hG.tr F2
          refine wp_if_neB 39 dX11_ensure_34 (by decide) (fun c_34 => ?_) (fun c_34 => ?_)
          · skip
            refine wp_aload_n (i := 3) dX11_ensure_39 rfl rfl ?_
            refine wp_get 9 6 (vr (some (nm 59 t))) dX11_ensure_40 (R2.t (r := t) ht).k0 (by decide) (by decide) fl_X11_386 (congrArg (fun z => toV (vr z)) ((R2.t (r := t) ht).r7_6)) ?_
            refine wp_iload_n (i := 2) dX11_ensure_43 rfl rfl ?_
            refine wp_iconst (nI 1) dX11_ensure_44 (by decide) ?_
            refine wp_zastoreN 6 dX11_ensure_45 (R2.t (r := t) ht).k15 (R2.t (r := t) ht).n15 (by omega) (by decide) (by decide) ?_
            have hO1 := (R2.t (r := t) ht)
            have hF2 := hO1.rfT
            have hO3 := hO1.wen (j := r) (v := true)
            have hF4 := hF2.wI (b := nm 59 t) (k := r) (x := bI (true)) (by unfold CT nm; omega)
            refine wp_iconst (nI 1) dX11_ensure_46 (by decide) ?_
            refine wp_zreturn dX11_ensure_47 rfl (by first | rfl | assumption) ?_
            have hR5 := R2.upT ht hF4 hO3
            have hG6 := hG2.tr (FRK.oT hF4)
            rw [show o_ensure S (nI t) t (nI r) r = (nI 0, nI 1, RS_utt1 (gos t r false 3 S).2 t (OT_uen (RS_tt (gos t r false 3 S).2 t) r true)) from by unfold o_ensure; rw [if_neg (by rw [b_t]; decide), if_neg (by rw [b_r]; decide), if_neg (by rw [← hst.1, e_e]; decide), if_neg l_1, if_neg (by rw [c_34]; decide)]] at hq
            exact hq.2 rfl _ _ hR5 (s2.upT ht (ST.uen (s2.2.2.2.1 t ht) (by rw [gos_op]; exact hop)) rfl) hG6
          · skip
            refine wp_iconst (nI 0) dX11_ensure_37 (by decide) ?_
            refine wp_zreturn dX11_ensure_38 rfl (by first | rfl | assumption) ?_
            rw [show o_ensure S (nI t) t (nI r) r = (nI 0, nI 0, (gos t r false 3 S).2) from by unfold o_ensure; rw [if_neg (by rw [b_t]; decide), if_neg (by rw [b_r]; decide), if_neg (by rw [← hst.1, e_e]; decide), if_neg l_1, if_pos c_34]] at hq
            exact hq.2 rfl _ _ R2 s2 hG2
        · have hG1 := hG.tr F1
          refine wp_if_eqN 37 dX11_ensure_24 (by decide) (by decide) (fun c_24 => ?_) (fun c_24 => absurd c_24 (by decide))
          refine wp_iconst (nI 0) dX11_ensure_37 (by decide) ?_
          refine wp_zreturn dX11_ensure_38 rfl (by first | rfl | assumption) ?_
          rw [show o_ensure S (nI t) t (nI r) r = (nI 0, nI 0, RS_utt1 S t (sbk (RS_tt S t) (RS_mo S))) from by unfold o_ensure; rw [if_neg (by rw [b_t]; decide), if_neg (by rw [b_r]; decide), if_neg (by rw [← hst.1, e_e]; decide), if_pos l_0]] at hq
          exact hq.2 rfl _ _ R1 s1 hG1
set_option maxRecDepth 100000 in
set_option maxHeartbeats 4000000 in
theorem c_X11_write {G : GG} {d bc bs : Nat} {h : Hp} {Q : Pst} {X : CS} {S : RS} (hR : CR h X) (hs : SIM X S) {n : Nat} (hB : RB n S) {v : Int32} {t : Nat} (hv : ixB v 3 = true → v = nI t ∧ t < 3) {u : Int32} {r : Nat} (hu : ixB u (RS_rn S) = true → u = nI r ∧ r < RS_rn S) {x : Int32} (hd : 12 ≤ d) (hbc : 6 ≤ bc) (hbs : 40 ≤ bs) (hq : KO Q h ["java/lang/IllegalArgumentException", "java/lang/IndexOutOfBoundsException", "java/lang/IllegalStateException", "java/lang/UnsupportedOperationException"] (o_write S v t u r x)) : WP G m_X11_write d 0 (aargs 0 [vr (some (nm 40 0)), vi v, vi u, vi x]) [] h bc bs Q := by
  have hG := FRK.rf (h := h)
  have hrn : CS_rn X = RS_rn S := hs.1.1
  have han : CS_an X = RS_an S := hs.1.2.1
  have hbi : CS_bi X = RS_bg S := hs.1.2.2.1
  have hpr : CS_pr X = RS_mo S := hs.1.2.2.2.1
  have hlg : CS_lg X = RS_lg S := hs.1.2.2.2.2
  have hb0 := hB.1
  refine wp_sub [(0, vr (some (nm 40 0))), (1, vi v), (2, vi u), (3, vi x)] (fun _ hz => hz) ?_
  refine wp_aload_n (i := 0) dX11_write_0 rfl rfl ?_
  refine wp_iload_n (i := 1) dX11_write_1 rfl rfl ?_
  refine wp_cV (y' := m_X11_transactionNumbered) 12 [vi v] [] 1 6 dX11_write_2 ml_X11_327 im_X11_transactionNumbered se_X11_transactionNumbered (by decide) hR.mk ok_X11_transactionNumbered rfl (Nat.le_of_ble_eq_true rfl) rfl (Nat.le_of_ble_eq_true rfl) (d' := d - 1) (by omega) (by omega) (by omega) (c_X11_transactionNumbered hR hv (by omega) (by omega) (by omega) (fun g_t => cont_thr rfl ?_) (fun b_t ev ht => cont_ret ?_))
  · exact hq.1 0 _ (congrArg (fun z => z.1) (show o_write S v t u r x = (nI 1, nI 0, S) from by unfold o_write; rw [if_pos (by rw [g_t]; rfl)])) rfl
  · subst ev
    have hst := hs.2.2.2.1 t ht
    have hb2 := hB.2.1 t ht
    refine wp_astore (i := 4) (lv' := [(4, vr (some (nm 56 t))), (0, vr (some (nm 40 0))), (1, vi (nI t)), (2, vi u), (3, vi x)]) dX11_write_5 (by decide) rfl ?_
    refine wp_aload_n (i := 0) dX11_write_7 rfl rfl ?_
    refine wp_iload_n (i := 2) dX11_write_8 rfl rfl ?_
    refine wp_cV (y' := m_X11_referenceNumbered) 12 [vi u] [] 1 6 dX11_write_9 ml_X11_340 im_X11_referenceNumbered se_X11_referenceNumbered (by decide) hR.mk ok_X11_referenceNumbered rfl (Nat.le_of_ble_eq_true rfl) rfl (Nat.le_of_ble_eq_true rfl) (d' := d - 1) (by omega) (by omega) (by omega) (c_X11_referenceNumbered hR (by omega) (v := u) (t := r) (fun z => by rw [hrn] at z ⊢; exact hu z) (by omega) (by omega) (by omega) (fun g_r => cont_thr rfl ?_) (fun b_r eu hr => cont_ret ?_))
    · rw [hrn] at g_r
      exact hq.1 1 _ (congrArg (fun z => z.1) (show o_write S (nI t) t u r x = (nI 2, nI 0, S) from by unfold o_write; rw [if_neg (by rw [b_t]; decide), if_pos (by rw [g_r]; rfl)])) rfl
    · subst eu
      rw [hrn] at b_r
      have hr0 : r < RS_rn S := by omega
      have hsr := hs.2.1 r hr0
      have hb1 := hB.2.2.1 r hr0
      refine wp_astore (i := 5) (lv' := [(5, vr (some (nm 53 r))), (4, vr (some (nm 56 t))), (0, vr (some (nm 40 0))), (1, vi (nI t)), (2, vi (nI r)), (3, vi x)]) dX11_write_12 (by decide) rfl ?_
      refine wp_aload (i := 4) dX11_write_14 rfl ?_
      refine wp_cS (y' := m_X11_refuseEnded) [vr (some (nm 56 t))] [] 1 6 dX11_write_16 ml_X11_344 st_X11_refuseEnded ok_X11_refuseEnded rfl (Nat.le_of_ble_eq_true rfl) rfl (Nat.le_of_ble_eq_true rfl) (d' := d - 1) (by omega) (by omega) (by omega) (c_X11_refuseEnded (hR.t ht) (by omega) (by omega) (by omega) (fun g_e => cont_thr rfl ?_) (fun e_e => cont_void ?_))
      · exact hq.1 2 _ (congrArg (fun z => z.1) (show o_write S (nI t) t (nI r) r x = (nI 3, nI 0, S) from by unfold o_write; rw [if_neg (by rw [b_t]; decide), if_neg (by rw [b_r]; decide), if_pos (by rw [← hst.1, g_e]; rfl)])) rfl
      · have hop : OT_op (RS_tt S t) = true := by rw [← hst.1, e_e]
        have hr6 : r < 6 := by omega
        have hsq := hst.2.2.2.2.1 r hr6
        refine wp_aload (i := 4) dX11_write_19 rfl ?_
        refine wp_get 9 7 (vr (some (nm 60 t))) dX11_write_21 (hR.t (r := t) ht).k0 (by decide) (by decide) fl_X11_373 (congrArg (fun z => toV (vr z)) ((hR.t (r := t) ht).r8_7)) ?_
        refine wp_iload_n (i := 2) dX11_write_24 rfl rfl ?_
        refine wp_zaloadN 6 (bI (KT_ad (CS_tt X t) r)) dX11_write_25 (hR.t (r := t) ht).k17 (hR.t (r := t) ht).n17 (by omega) (by decide) ((hR.t (r := t) ht).a_ad r) ?_
        refine wp_if_neB 42 dX11_write_26 (by decide) (fun c_26 => ?_) (fun c_26 => ?_)
        · skip
          refine wp_throw dX11_write_42 dX11_write_45 dX11_write_46 dX11_write_49 dX11_write_52 th_152 sr_X11_376 rfl (by omega) (by omega) (by omega) ?_
          exact hq.1 3 _ (congrArg (fun z => z.1) (show o_write S (nI t) t (nI r) r x = (nI 4, nI 0, S) from by unfold o_write; rw [if_neg (by rw [b_t]; decide), if_neg (by rw [b_r]; decide), if_neg (by rw [← hst.1, e_e]; decide), if_pos (by first | exact Or.inl (hsq.2.2.2.1.symm.trans c_26) | exact Or.inr (by show (!inB x (-999) (nI 999)) = true; rw [c_39]; rfl))])) rfl
        · skip
          refine wp_iload_n (i := 3) dX11_write_29 rfl rfl ?_
          refine wp_sipush (-999) dX11_write_30 (by decide) ?_
          refine wp_sipush (nI 999) dX11_write_33 (by decide) ?_
          refine wp_cS (y' := m_X11_isWithin) [vi x, vi (-999), vi (nI 999)] [] 0 0 dX11_write_36 ml_X11_256 st_X11_isWithin ok_X11_isWithin rfl (Nat.le_of_ble_eq_true rfl) rfl (Nat.le_of_ble_eq_true rfl) (d' := d - 1) (by omega) (Nat.zero_le _) (Nat.zero_le _) (c_X11_isWithin x (-999) (nI 999) (cont_ret ?_))
          refine wp_if_neB 53 dX11_write_39 (by decide) (fun c_39 => ?_) (fun c_39 => ?_)
          · skip
            refine wp_aload_n (i := 0) dX11_write_53 rfl rfl ?_
            refine wp_aload (i := 4) dX11_write_54 rfl ?_
            refine wp_aload (i := 5) dX11_write_56 rfl ?_
            refine wp_cV (y' := m_X11_holdsPoint) 12 [vr (some (nm 56 t)), vr (some (nm 53 r))] [] 0 0 dX11_write_58 ml_X11_378 im_X11_holdsPoint se_X11_holdsPoint (by decide) hR.mk ok_X11_holdsPoint rfl (Nat.le_of_ble_eq_true rfl) rfl (Nat.le_of_ble_eq_true rfl) (d' := d - 1) (by omega) (Nat.zero_le _) (Nat.zero_le _) (c_X11_holdsPoint hR hs hB ht hr (by omega) (fun l_1 => cont_ret ?_) (fun l_0 h1 X1 R1 s1 F1 => cont_ret ?_))
            · skip
              refine wp_if_eqN 75 dX11_write_61 (by decide) (by decide) (fun c_61 => absurd c_61 (by decide)) (fun c_61 => ?_)
              refine wp_aload_n (i := 0) dX11_write_64 rfl rfl ?_
              refine wp_aload (i := 4) dX11_write_65 rfl ?_
              refine wp_iload_n (i := 2) dX11_write_67 rfl rfl ?_
              refine wp_iconst (nI 1) dX11_write_68 (by decide) ?_
              refine wp_cV (y' := m_X11_winsAgainstOthers) 12 [vr (some (nm 56 t)), vi (nI r), vi (nI 1)] [] 0 0 dX11_write_69 ml_X11_382 im_X11_winsAgainstOthers se_X11_winsAgainstOthers (by decide) hR.mk ok_X11_winsAgainstOthers rfl (Nat.le_of_ble_eq_true rfl) rfl (Nat.le_of_ble_eq_true rfl) (d' := d - 1) (by omega) (Nat.zero_le _) (Nat.zero_le _) (c_X11_winsAgainstOthers hR hs hB ht hr6 hop (e := true) (by omega) (fun h2 X2 R2 s2 F2 => cont_ret ?_))
              have hG2 := hG.tr F2
              refine wp_if_neB 77 dX11_write_72 (by decide) (fun c_72 => ?_) (fun c_72 => ?_)
              · skip
                refine wp_aload (i := 4) dX11_write_77 rfl ?_
                refine wp_get 9 4 (vr (some (nm 57 t))) dX11_write_79 (R2.t (r := t) ht).k0 (by decide) (by decide) fl_X11_348 (congrArg (fun z => toV (vr z)) ((R2.t (r := t) ht).r5_4)) ?_
                refine wp_iload_n (i := 2) dX11_write_82 rfl rfl ?_
                refine wp_iconst (nI 1) dX11_write_83 (by decide) ?_
                refine wp_zastoreN 6 dX11_write_84 (R2.t (r := t) ht).k11 (R2.t (r := t) ht).n11 (by omega) (by decide) (by decide) ?_
                have hO1 := (R2.t (r := t) ht)
                have hF2 := hO1.rfT
                have hO3 := hO1.wwr (j := r) (v := true)
                have hF4 := hF2.wI (b := nm 57 t) (k := r) (x := bI (true)) (by unfold CT nm; omega)
                refine wp_aload (i := 4) dX11_write_85 rfl ?_
                refine wp_get 9 5 (vr (some (nm 58 t))) dX11_write_87 hO3.k0 (by decide) (by decide) fl_X11_352 (congrArg (fun z => toV (vr z)) (hO3.r6_5)) ?_
                refine wp_iload_n (i := 2) dX11_write_90 rfl rfl ?_
                refine wp_iload_n (i := 3) dX11_write_91 rfl rfl ?_
                refine wp_iastoreN 6 dX11_write_92 hO3.k13 hO3.n13 (by omega) (by decide) ?_
                have hO5 := hO3.wown (j := r) (v := x)
                have hF6 := hF4.wI (b := nm 58 t) (k := r) (x := x) (by unfold CT nm; omega)
                refine wp_iconst (nI 1) dX11_write_93 (by decide) ?_
                refine wp_zreturn dX11_write_94 rfl (by first | rfl | assumption) ?_
                have hR7 := R2.upT ht hF6 hO5
                have hG8 := hG2.tr (FRK.oT hF6)
                rw [show o_write S (nI t) t (nI r) r x = (nI 0, nI 1, RS_utt1 (gos t r true 3 S).2 t (OT_uwn (OT_uwr (RS_tt (gos t r true 3 S).2 t) r true) r x)) from by unfold o_write; rw [if_neg (by rw [b_t]; decide), if_neg (by rw [b_r]; decide), if_neg (by rw [← hst.1, e_e]; decide), if_neg (fun z => z.elim (fun y => absurd ((hsq.2.2.2.1.trans y).symm.trans c_26) (by decide)) (fun y => absurd y (by show ¬ (!inB x (-999) (nI 999)) = true; rw [c_39]; decide))), if_neg l_1, if_neg (by rw [c_72]; decide)]] at hq
                exact hq.2 rfl _ _ hR7 (s2.upT ht (ST.uwr (s2.2.2.2.1 t ht) (by rw [gos_op]; exact hop)) rfl) hG8
              · skip
                refine wp_iconst (nI 0) dX11_write_75 (by decide) ?_
                refine wp_zreturn dX11_write_76 rfl (by first | rfl | assumption) ?_
                rw [show o_write S (nI t) t (nI r) r x = (nI 0, nI 0, (gos t r true 3 S).2) from by unfold o_write; rw [if_neg (by rw [b_t]; decide), if_neg (by rw [b_r]; decide), if_neg (by rw [← hst.1, e_e]; decide), if_neg (fun z => z.elim (fun y => absurd ((hsq.2.2.2.1.trans y).symm.trans c_26) (by decide)) (fun y => absurd y (by show ¬ (!inB x (-999) (nI 999)) = true; rw [c_39]; decide))), if_neg l_1, if_pos c_72]] at hq
                exact hq.2 rfl _ _ R2 s2 hG2
            · have hG1 := hG.tr F1
              refine wp_if_eqN 75 dX11_write_61 (by decide) (by decide) (fun c_61 => ?_) (fun c_61 => absurd c_61 (by decide))
              refine wp_iconst (nI 0) dX11_write_75 (by decide) ?_
              refine wp_zreturn dX11_write_76 rfl (by first | rfl | assumption) ?_
              rw [show o_write S (nI t) t (nI r) r x = (nI 0, nI 0, RS_utt1 S t (sbk (RS_tt S t) (RS_mo S))) from by unfold o_write; rw [if_neg (by rw [b_t]; decide), if_neg (by rw [b_r]; decide), if_neg (by rw [← hst.1, e_e]; decide), if_neg (fun z => z.elim (fun y => absurd ((hsq.2.2.2.1.trans y).symm.trans c_26) (by decide)) (fun y => absurd y (by show ¬ (!inB x (-999) (nI 999)) = true; rw [c_39]; decide))), if_pos l_0]] at hq
              exact hq.2 rfl _ _ R1 s1 hG1
          · skip
            refine wp_throw dX11_write_42 dX11_write_45 dX11_write_46 dX11_write_49 dX11_write_52 th_152 sr_X11_376 rfl (by omega) (by omega) (by omega) ?_
            exact hq.1 3 _ (congrArg (fun z => z.1) (show o_write S (nI t) t (nI r) r x = (nI 4, nI 0, S) from by unfold o_write; rw [if_neg (by rw [b_t]; decide), if_neg (by rw [b_r]; decide), if_neg (by rw [← hst.1, e_e]; decide), if_pos (by first | exact Or.inl (hsq.2.2.2.1.symm.trans c_26) | exact Or.inr (by show (!inB x (-999) (nI 999)) = true; rw [c_39]; rfl))])) rfl
