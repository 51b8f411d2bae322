/-! The class: send, logged, valueByLog. -/
set_option maxRecDepth 100000 in
set_option maxHeartbeats 4000000 in
theorem c_X11_send {G : GG} {d bc bs : Nat} {h : Hp} {Q : Pst} {X : CS} {S : RS} (hR : CR h X) (hs : SIM X S) {n : Nat} (hB : RB n S) {v : Int32} {t : Nat} (hv : ixB v 3 = true → v = nI t ∧ t < 3) {w : Int32} {a : Nat} (hw : ixB w (RS_an S) = true → w = nI a ∧ a < RS_an S) {z : Int32} (hd : 12 ≤ d) (hbc : 6 ≤ bc) (hbs : 40 ≤ bs) (hq : KO Q h ["java/lang/IllegalArgumentException", "java/lang/IndexOutOfBoundsException", "java/lang/IllegalStateException"] (o_send S v t w a z)) : WP G m_X11_send d 0 (aargs 0 [vr (some (nm 40 0)), vi v, vi w, vi z]) [] h bc bs Q := by
  have hG := FRK.rf (h := h)
  have hrn : CS_rn X = RS_rn S := hs.1.1
  have han : CS_an X = RS_an S := hs.1.2.1
  have hbi : CS_bi X = RS_bg S := hs.1.2.2.1
  have hpr : CS_pr X = RS_mo S := hs.1.2.2.2.1
  have hlg : CS_lg X = RS_lg S := hs.1.2.2.2.2
  have hb0 := hB.1
  refine wp_sub [(0, vr (some (nm 40 0))), (1, vi v), (2, vi w), (3, vi z)] (fun _ hz => hz) ?_
  refine wp_iload_n (i := 1) dX11_send_0 rfl rfl ?_
  refine wp_iconst (-1) dX11_send_1 (by decide) ?_
  refine wp_icmp_ne 9 dX11_send_2 (by decide) (fun c_2 => ?_) (fun c_2 => ?_)
  · skip
    refine wp_aload_n (i := 0) dX11_send_9 rfl rfl ?_
    refine wp_iload_n (i := 1) dX11_send_10 rfl rfl ?_
    refine wp_cV (y' := m_X11_transactionNumbered) 12 [vi v] [] 1 6 dX11_send_11 ml_X11_327 im_X11_transactionNumbered se_X11_transactionNumbered (by decide) hR.mk ok_X11_transactionNumbered rfl (Nat.le_of_ble_eq_true rfl) rfl (Nat.le_of_ble_eq_true rfl) (d' := d - 1) (by omega) (by omega) (by omega) (c_X11_transactionNumbered hR hv (by omega) (by omega) (by omega) (fun g_t => cont_thr rfl ?_) (fun b_t ev ht => cont_ret ?_))
    · exact hq.1 0 _ (congrArg (fun z => z.1) (show o_send S v t w a z = (nI 1, nI 0, S) from by unfold o_send; rw [if_pos (Or.inl ⟨c_2, by rw [g_t]; rfl⟩)])) rfl
    · subst ev
      have hst := hs.2.2.2.1 t ht
      have hb2 := hB.2.1 t ht
      refine wp_astore (i := 4) (lv' := [(4, vr (some (nm 56 t))), (0, vr (some (nm 40 0))), (1, vi (nI t)), (2, vi w), (3, vi z)]) dX11_send_14 (by decide) rfl ?_
      refine wp_iload_n (i := 3) dX11_send_16 rfl rfl ?_
      refine wp_bipush (-99) dX11_send_17 (by decide) ?_
      refine wp_bipush (nI 99) dX11_send_19 (by decide) ?_
      refine wp_cS (y' := m_X11_isWithin) [vi z, vi (-99), vi (nI 99)] [] 0 0 dX11_send_21 ml_X11_256 st_X11_isWithin ok_X11_isWithin rfl (Nat.le_of_ble_eq_true rfl) rfl (Nat.le_of_ble_eq_true rfl) (d' := d - 1) (by omega) (Nat.zero_le _) (Nat.zero_le _) (c_X11_isWithin z (-99) (nI 99) (cont_ret ?_))
      refine wp_if_neB 38 dX11_send_24 (by decide) (fun c_24 => ?_) (fun c_24 => ?_)
      · skip
        refine wp_aload_n (i := 0) dX11_send_38 rfl rfl ?_
        refine wp_iload_n (i := 2) dX11_send_39 rfl rfl ?_
        refine wp_cV (y' := m_X11_agentNumbered) 12 [vi w] [] 1 6 dX11_send_40 ml_X11_454 im_X11_agentNumbered se_X11_agentNumbered (by decide) hR.mk ok_X11_agentNumbered rfl (Nat.le_of_ble_eq_true rfl) rfl (Nat.le_of_ble_eq_true rfl) (d' := d - 1) (by omega) (by omega) (by omega) (c_X11_agentNumbered hR (by omega) (v := w) (t := a) (fun z => by rw [han] at z ⊢; exact hw z) (by omega) (by omega) (by omega) (fun g_a => cont_thr rfl ?_) (fun b_a ew ha => cont_ret ?_))
        · rw [han] at g_a
          exact hq.1 1 _ (congrArg (fun z => z.1) (show o_send S (nI t) t w a z = (nI 2, nI 0, S) from by unfold o_send; rw [if_neg (fun y => y.elim (fun y1 => absurd y1.2 (by rw [b_t]; decide)) (fun y1 => Bool.false_ne_true (y1.symm.trans c_24))), if_pos (by rw [g_a]; rfl)])) rfl
        · subst ew
          rw [han] at b_a
          have ha0 : a < RS_an S := by omega
          have hsa := hs.2.2.1 a ha0
          have hb3 := hB.2.2.2 a ha0
          refine wp_astore (i := 5) (lv' := [(5, vr (some (nm 65 a))), (4, vr (some (nm 56 t))), (0, vr (some (nm 40 0))), (1, vi (nI t)), (2, vi (nI a)), (3, vi z)]) dX11_send_43 (by decide) rfl ?_
          refine wp_aload (i := 4) dX11_send_45 rfl ?_
          refine wp_ifnonnull 62 dX11_send_47 (by decide) (fun a_47 c_47 => ?_) (fun c_47 => absurd c_47 (fun z => nomatch z))
          refine wp_aload (i := 4) dX11_send_62 rfl ?_
          refine wp_cS (y' := m_X11_refuseEnded) [vr (some (nm 56 t))] [] 1 6 dX11_send_64 ml_X11_344 st_X11_refuseEnded ok_X11_refuseEnded rfl (Nat.le_of_ble_eq_true rfl) rfl (Nat.le_of_ble_eq_true rfl) (d' := d - 1) (by omega) (by omega) (by omega) (c_X11_refuseEnded (hR.t ht) (by omega) (by omega) (by omega) (fun g_e => cont_thr rfl ?_) (fun e_e => cont_void ?_))
          · exact hq.1 2 _ (congrArg (fun z => z.1) (show o_send S (nI t) t (nI a) a z = (nI 3, nI 0, S) from by unfold o_send; rw [if_neg (fun y => y.elim (fun y1 => absurd y1.2 (by rw [b_t]; decide)) (fun y1 => Bool.false_ne_true (y1.symm.trans c_24))), if_neg (by rw [b_a]; decide), if_pos ⟨c_2, by rw [← hst.1, g_e]; rfl⟩])) rfl
          · have hop : OT_op (RS_tt S t) = true := by rw [← hst.1, e_e]
            have hsw := hs.2.2.2.2 t a ht (by omega)
            refine wp_aload (i := 4) dX11_send_67 rfl ?_
            refine wp_get 9 9 (vr (some (nm 62 t))) dX11_send_69 (hR.t (r := t) ht).k0 (by decide) (by decide) fl_X11_467 (congrArg (fun z => toV (vr z)) ((hR.t (r := t) ht).r10_9)) ?_
            refine wp_iload_n (i := 2) dX11_send_72 rfl rfl ?_
            refine wp_aaloadN 4 (some (nm 63 (4 * t + a))) dX11_send_73 (arTy_115 (hR.t (r := t) ht).k21) (hR.t (r := t) ht).n21 (by omega) (by decide) ((hR.t (r := t) ht).q22 a (by omega)) ?_
            refine wp_iload_n (i := 3) dX11_send_74 rfl rfl ?_
            refine wp_cV (y' := m_X10_lineUp) 11 [vi z] [] 0 0 dX11_send_75 ml_X11_462 im_X10_lineUp se_X10_lineUp (by decide) (hR.w (r := (4 * t + a)) (by omega)).k0 ok_X10_lineUp rfl (Nat.le_of_ble_eq_true rfl) rfl (Nat.le_of_ble_eq_true rfl) (d' := d - 1) (by omega) (Nat.zero_le _) (Nat.zero_le _) (c_X10_lineUp (hR.w (r := 4 * t + a) (by omega)).wr (by rw [hsw.1]; omega) (fun hl W1 F1 => cont_void ?_))
            have hRl := hR.upW (t := 4 * t + a) (by omega) F1.rowW W1.kw
            have hGl := hG.tr (FRK.oW F1.rowW)
            refine wp_aload (i := 5) dX11_send_78 rfl ?_
            refine wp_get 3 4 (vr (some (nm 66 a))) dX11_send_80 (hRl.a (r := a) ha).k0 (by decide) (by decide) fl_X11_458 (congrArg (fun z => toV (vr z)) ((hRl.a (r := a) ha).r5_4)) ?_
            refine wp_get 11 1 (vi (nI (OA_row (RS_aa S a)).length)) dX11_send_83 (hRl.a (r := a) ha).k8 (by decide) (by decide) fl_X11_471 (congrArg (fun z => toV (vi z)) ((hRl.a (r := a) ha).f_cnt.trans (congrArg nI hsa.2.2.2.2.2.2.1))) ?_
            refine wp_ireturn dX11_send_86 rfl ?_
            rw [show o_send S (nI t) t (nI a) a z = (nI 0, nI (OA_row (RS_aa S a)).length, RS_utt1 S t (OT_usq (RS_tt S t) (OT_sq (RS_tt S t) ++ [(a, z)]))) from by unfold o_send; rw [if_neg (fun y => y.elim (fun y1 => absurd y1.2 (by rw [b_t]; decide)) (fun y1 => Bool.false_ne_true (y1.symm.trans c_24))), if_neg (by rw [b_a]; decide), if_neg (fun y => absurd y.2 (by rw [hop]; decide)), if_neg c_2]] at hq
            exact hq.2 rfl _ _ hRl (hs.sent ht (by omega) hop) hGl
      · skip
        refine wp_throw dX11_send_27 dX11_send_30 dX11_send_31 dX11_send_34 dX11_send_37 th_189 sr_X11_281 rfl (by omega) (by omega) (by omega) ?_
        exact hq.1 0 _ (congrArg (fun z => z.1) (show o_send S (nI t) t w a z = (nI 1, nI 0, S) from by unfold o_send; rw [if_pos (Or.inr c_24)])) rfl
  · skip
    refine wp_null dX11_send_5 ?_
    refine wp_goto 14 dX11_send_6 (by decide) ?_
    refine wp_astore (i := 4) (lv' := [(4, vr none), (0, vr (some (nm 40 0))), (1, vi v), (2, vi w), (3, vi z)]) dX11_send_14 (by decide) rfl ?_
    refine wp_iload_n (i := 3) dX11_send_16 rfl rfl ?_
    refine wp_bipush (-99) dX11_send_17 (by decide) ?_
    refine wp_bipush (nI 99) dX11_send_19 (by decide) ?_
    refine wp_cS (y' := m_X11_isWithin) [vi z, vi (-99), vi (nI 99)] [] 0 0 dX11_send_21 ml_X11_256 st_X11_isWithin ok_X11_isWithin rfl (Nat.le_of_ble_eq_true rfl) rfl (Nat.le_of_ble_eq_true rfl) (d' := d - 1) (by omega) (Nat.zero_le _) (Nat.zero_le _) (c_X11_isWithin z (-99) (nI 99) (cont_ret ?_))
    refine wp_if_neB 38 dX11_send_24 (by decide) (fun c_24 => ?_) (fun c_24 => ?_)
    · skip
      refine wp_aload_n (i := 0) dX11_send_38 rfl rfl ?_
      refine wp_iload_n (i := 2) dX11_send_39 rfl rfl ?_
      refine wp_cV (y' := m_X11_agentNumbered) 12 [vi w] [] 1 6 dX11_send_40 ml_X11_454 im_X11_agentNumbered se_X11_agentNumbered (by decide) hR.mk ok_X11_agentNumbered rfl (Nat.le_of_ble_eq_true rfl) rfl (Nat.le_of_ble_eq_true rfl) (d' := d - 1) (by omega) (by omega) (by omega) (c_X11_agentNumbered hR (by omega) (v := w) (t := a) (fun z => by rw [han] at z ⊢; exact hw z) (by omega) (by omega) (by omega) (fun g_a => cont_thr rfl ?_) (fun b_a ew ha => cont_ret ?_))
      · rw [han] at g_a
        exact hq.1 1 _ (congrArg (fun z => z.1) (show o_send S v t w a z = (nI 2, nI 0, S) from by unfold o_send; rw [if_neg (fun y => y.elim (fun y1 => y1.1 c_2) (fun y1 => Bool.false_ne_true (y1.symm.trans c_24))), if_pos (by rw [g_a]; rfl)])) rfl
      · subst ew
        rw [han] at b_a
        have ha0 : a < RS_an S := by omega
        have hsa := hs.2.2.1 a ha0
        have hb3 := hB.2.2.2 a ha0
        refine wp_astore (i := 5) (lv' := [(5, vr (some (nm 65 a))), (4, vr none), (0, vr (some (nm 40 0))), (1, vi v), (2, vi (nI a)), (3, vi z)]) dX11_send_43 (by decide) rfl ?_
        refine wp_aload (i := 4) dX11_send_45 rfl ?_
        refine wp_ifnonnull 62 dX11_send_47 (by decide) (fun a_47 c_47 => absurd c_47 (fun z => nomatch z)) (fun c_47 => ?_)
        refine wp_aload (i := 5) dX11_send_50 rfl ?_
        refine wp_get 3 4 (vr (some (nm 66 a))) dX11_send_52 (hR.a (r := a) ha).k0 (by decide) (by decide) fl_X11_458 (congrArg (fun z => toV (vr z)) ((hR.a (r := a) ha).r5_4)) ?_
        refine wp_iload_n (i := 3) dX11_send_55 rfl rfl ?_
        refine wp_cV (y' := m_X10_lineUp) 11 [vi z] [] 0 0 dX11_send_56 ml_X11_462 im_X10_lineUp se_X10_lineUp (by decide) (hR.a (r := a) ha).k8 ok_X10_lineUp rfl (Nat.le_of_ble_eq_true rfl) rfl (Nat.le_of_ble_eq_true rfl) (d' := d - 1) (by omega) (Nat.zero_le _) (Nat.zero_le _) (c_X10_lineUp (hR.a (r := a) ha).wr (by rw [hsa.2.2.2.2.2.2.1]; omega) (fun hl W1 F1 => cont_void ?_))
        have hRl := hR.upA ha F1.rowA ((hR.a (r := a) ha).row W1 F1)
        have hGl := hG.tr (FRK.oA F1.rowA)
        refine wp_goto 78 dX11_send_59 (by decide) ?_
        refine wp_aload (i := 5) dX11_send_78 rfl ?_
        refine wp_get 3 4 (vr (some (nm 66 a))) dX11_send_80 (hRl.a (r := a) ha).k0 (by decide) (by decide) fl_X11_458 (congrArg (fun z => toV (vr z)) ((hRl.a (r := a) ha).r5_4)) ?_
        refine wp_get 11 1 (vi (nI (tkL (OA_row (RS_aa S a)) z).length)) dX11_send_83 (hRl.a (r := a) ha).k8 (by decide) (by decide) fl_X11_471 (congrArg (fun z => toV (vi z)) ((hRl.a (r := a) ha).f_cnt.trans (congrArg nI ((congrArg KA_cnt CS_aa_s).trans (hsa.take (z := z)).2.2.2.2.2.2.1)))) ?_
        refine wp_ireturn dX11_send_86 rfl ?_
        rw [show o_send S v t (nI a) a z = (nI 0, nI (tkL (OA_row (RS_aa S a)) z).length, RS_uaa1 S a (OA_urow (RS_aa S a) (tkL (OA_row (RS_aa S a)) z))) from by unfold o_send; rw [if_neg (fun y => y.elim (fun y1 => y1.1 c_2) (fun y1 => Bool.false_ne_true (y1.symm.trans c_24))), if_neg (by rw [b_a]; decide), if_neg (fun y => y.1 c_2), if_pos c_2]] at hq
        exact hq.2 rfl _ _ hRl (hs.upA hsa.take) hGl
    · skip
      refine wp_throw dX11_send_27 dX11_send_30 dX11_send_31 dX11_send_34 dX11_send_37 th_189 sr_X11_281 rfl (by omega) (by omega) (by omega) ?_
      exact hq.1 0 _ (congrArg (fun z => z.1) (show o_send S v t w a z = (nI 1, nI 0, S) from by unfold o_send; rw [if_pos (Or.inr c_24)])) rfl
set_option maxRecDepth 100000 in
set_option maxHeartbeats 4000000 in
theorem c_X11_logged {G : GG} {d bc bs : Nat} {h : Hp} {Q : Pst} {X : CS} {S : RS} (hR : CR h X) (hs : SIM X S) {n : Nat} (hB : RB n S) (hd : 9 ≤ d) (hbc : 6 ≤ bc) (hbs : 40 ≤ bs) (hq : KO Q h [] (o_logged S)) : WP G m_X11_logged d 0 (aargs 0 [vr (some (nm 40 0))]) [] h bc bs Q := by
  have hG := FRK.rf (h := h)
  have hrn : CS_rn X = RS_rn S := hs.1.1
  have han : CS_an X = RS_an S := hs.1.2.1
  have hbi : CS_bi X = RS_bg S := hs.1.2.2.1
  have hpr : CS_pr X = RS_mo S := hs.1.2.2.2.1
  have hlg : CS_lg X = RS_lg S := hs.1.2.2.2.2
  have hb0 := hB.1
  refine wp_sub [(0, vr (some (nm 40 0)))] (fun _ hz => hz) ?_
  refine wp_aload_n (i := 0) dX11_logged_0 rfl rfl ?_
  refine wp_get 12 11 (vr (some (nm 40 11))) dX11_logged_1 hR.mk (by decide) (by decide) fl_X11_62 (congrArg (fun z => toV (vr z)) (hR.f11)) ?_
  refine wp_cV (y' := m_Jx4a65c_size_8abf5) 2 [] [] 0 0 dX11_logged_4 ml_X11_417 im_Jx4a65c_size_8abf5 se_Jx4a65c_size_8abf5 (by decide) hR.lg.k ok_Jx4a65c_size_8abf5 rfl (Nat.le_of_ble_eq_true rfl) rfl (Nat.le_of_ble_eq_true rfl) (d' := d - 1) (by omega) (Nat.zero_le _) (Nat.zero_le _) (c_LO_size hR.lg (cont_ret ?_))
  refine wp_ireturn dX11_logged_7 rfl ?_
  rw [hlg]
  rw [show o_logged S = (nI 0, nI (RS_lg S).length, S) from by unfold o_logged; rfl] at hq
  exact hq.2 rfl _ _ hR hs hG
set_option maxRecDepth 100000 in
set_option maxHeartbeats 4000000 in
theorem l_X11_valueByLog {G : GG} {d bc bs : Nat} {h : Hp} {Q : Pst} {X : CS} (hR : CR h X) {r n : Nat} (hl : (CS_lg X).length ≤ 6 * n) (hn : n ≤ 600) (hr : r < 6) (hl6 : ∀ q, q ∈ CS_lg X → q.2.1 < 6) (hd : 5 ≤ d) : ∀ m k z, m + k = (CS_lg X).length → Q (oRet (vi (vbF r ((CS_lg X).drop k) z))) h → WP G m_X11_valueByLog d 11 [(3, vi (nI k)), (2, vi z), (0, vr (some (nm 40 0))), (1, vi (nI r))] [] h bc bs Q := by
  intro m
  induction m with
  | zero =>
    intro k z hk hq
    have hk : k = (CS_lg X).length := by omega
    subst hk
    rw [List.drop_length] at hq
    refine wp_iload_n (i := 3) dX11_valueByLog_11 rfl rfl ?_
    refine wp_aload_n (i := 0) dX11_valueByLog_12 rfl rfl ?_
    refine wp_get 12 11 (vr (some (nm 40 11))) dX11_valueByLog_13 hR.mk (by decide) (by decide) fl_X11_62 (congrArg (fun z => toV (vr z)) (hR.f11)) ?_
    refine wp_cV (y' := m_Jx4a65c_size_8abf5) 2 [] [vi (nI (CS_lg X).length)] 0 0 dX11_valueByLog_16 ml_X11_417 im_Jx4a65c_size_8abf5 se_Jx4a65c_size_8abf5 (by decide) hR.lg.k ok_Jx4a65c_size_8abf5 rfl (Nat.le_of_ble_eq_true rfl) rfl (Nat.le_of_ble_eq_true rfl) (d' := d - 1) (by omega) (Nat.zero_le _) (Nat.zero_le _) (c_LO_size hR.lg (cont_ret ?_))
    refine wp_icmp_geN 56 dX11_valueByLog_19 (by decide) (by omega) (by omega) (fun c_19 => ?_) (fun c_19 => absurd c_19 (by omega))
    refine wp_iload_n (i := 2) dX11_valueByLog_56 rfl rfl ?_
    refine wp_ireturn dX11_valueByLog_57 rfl ?_
    exact hq
  | succ m ih =>
    intro k z hk hq
    have hk2 : k < (CS_lg X).length := by omega
    have hE := hR.le hk2
    have hgd : (CS_lg X).getD k (0, 0, 0, 0) = (CS_lg X)[k] := by rw [List.getD_eq_getElem?_getD, List.getElem?_eq_getElem hk2]; rfl
    have h6 : (CS_lg X)[k].2.1 < 6 := hl6 _ (List.getElem_mem _)
    rw [vbF_step hk2, hgd] at hq
    refine wp_iload_n (i := 3) dX11_valueByLog_11 rfl rfl ?_
    refine wp_aload_n (i := 0) dX11_valueByLog_12 rfl rfl ?_
    refine wp_get 12 11 (vr (some (nm 40 11))) dX11_valueByLog_13 hR.mk (by decide) (by decide) fl_X11_62 (congrArg (fun z => toV (vr z)) (hR.f11)) ?_
    refine wp_cV (y' := m_Jx4a65c_size_8abf5) 2 [] [vi (nI k)] 0 0 dX11_valueByLog_16 ml_X11_417 im_Jx4a65c_size_8abf5 se_Jx4a65c_size_8abf5 (by decide) hR.lg.k ok_Jx4a65c_size_8abf5 rfl (Nat.le_of_ble_eq_true rfl) rfl (Nat.le_of_ble_eq_true rfl) (d' := d - 1) (by omega) (Nat.zero_le _) (Nat.zero_le _) (c_LO_size hR.lg (cont_ret ?_))
    refine wp_icmp_geN 56 dX11_valueByLog_19 (by decide) (by omega) (by omega) (fun c_19 => absurd c_19 (by omega)) (fun c_19 => ?_)
    refine wp_aload_n (i := 0) dX11_valueByLog_22 rfl rfl ?_
    refine wp_get 12 11 (vr (some (nm 40 11))) dX11_valueByLog_23 hR.mk (by decide) (by decide) fl_X11_62 (congrArg (fun z => toV (vr z)) (hR.f11)) ?_
    refine wp_iload_n (i := 3) dX11_valueByLog_26 rfl rfl ?_
    refine wp_cV (y' := m_Jx4a65c_get_915e3) 2 [vi (nI k)] [] 0 0 dX11_valueByLog_27 ml_X11_419 im_Jx4a65c_get_915e3 se_Jx4a65c_get_915e3 (by decide) hR.lg.k ok_Jx4a65c_get_915e3 rfl (Nat.le_of_ble_eq_true rfl) rfl (Nat.le_of_ble_eq_true rfl) (d' := d - 1) (by omega) (Nat.zero_le _) (Nat.zero_le _) (c_LO_get hR.lg (by omega) (by omega) (cont_ret ?_))
    refine wp_castC 4 dX11_valueByLog_30 (by decide) kl_X11_423 (fun a ha => by cases ha; exact hE.1) ?_
    refine wp_astore (i := 4) (lv' := [(4, vr (some (nm 68 k))), (3, vi (nI k)), (2, vi z), (0, vr (some (nm 40 0))), (1, vi (nI r))]) dX11_valueByLog_33 (by decide) rfl ?_
    refine wp_aload (i := 4) dX11_valueByLog_35 rfl ?_
    refine wp_get 4 1 (vi (nI (CS_lg X)[k].2.1)) dX11_valueByLog_37 hE.1 (by decide) (by decide) fl_X11_425 (congrArg (fun z => toV (vi z)) (hE.2.2.1)) ?_
    refine wp_iload_n (i := 1) dX11_valueByLog_40 rfl rfl ?_
    refine wp_icmp_neN 50 dX11_valueByLog_41 (by decide) (by omega) (by omega) (fun c_41 => ?_) (fun c_41 => ?_)
    · skip
      refine wp_iincN (a := k) (lv' := [(3, vi (nI (k + 1))), (4, vr (some (nm 68 k))), (2, vi z), (0, vr (some (nm 40 0))), (1, vi (nI r))]) 1 dX11_valueByLog_50 rfl (by decide) (by decide) rfl ?_
      refine wp_goto 11 dX11_valueByLog_53 (by decide) ?_
      rw [if_neg (by omega)] at hq
      refine wp_sub [(3, vi (nI (k + 1))), (2, vi z), (0, vr (some (nm 40 0))), (1, vi (nI r))] (sb_cons (.head _) (sb_cons (.tail _ (.tail _ (.head _))) (sb_cons (.tail _ (.tail _ (.tail _ (.head _)))) (sb_cons (.tail _ (.tail _ (.tail _ (.tail _ (.head _))))) sb_nil)))) ?_
      exact ih (k + 1) z (by omega) hq
    · skip
      refine wp_aload (i := 4) dX11_valueByLog_44 rfl ?_
      refine wp_get 4 3 (vi ((CS_lg X)[k].2.2.2)) dX11_valueByLog_46 hE.1 (by decide) (by decide) fl_X11_428 (congrArg (fun z => toV (vi z)) (hE.2.2.2.2)) ?_
      refine wp_topi (fun x_49 e_49 => ?_)
      refine wp_istore_n (i := 2) (lv' := [(2, vi x_49), (4, vr (some (nm 68 k))), (3, vi (nI k)), (0, vr (some (nm 40 0))), (1, vi (nI r))]) dX11_valueByLog_49 rfl (by decide) rfl ?_
      refine wp_iincN (a := k) (lv' := [(3, vi (nI (k + 1))), (2, vi x_49), (4, vr (some (nm 68 k))), (0, vr (some (nm 40 0))), (1, vi (nI r))]) 1 dX11_valueByLog_50 rfl (by decide) (by decide) rfl ?_
      refine wp_goto 11 dX11_valueByLog_53 (by decide) ?_
      rw [if_pos (by omega)] at hq
      subst e_49
      refine wp_sub [(3, vi (nI (k + 1))), (2, vi (CS_lg X)[k].2.2.2), (0, vr (some (nm 40 0))), (1, vi (nI r))] (sb_cons (.head _) (sb_cons (.tail _ (.head _)) (sb_cons (.tail _ (.tail _ (.tail _ (.head _)))) (sb_cons (.tail _ (.tail _ (.tail _ (.tail _ (.head _))))) sb_nil)))) ?_
      exact ih (k + 1) _ (by omega) hq
set_option maxRecDepth 100000 in
set_option maxHeartbeats 4000000 in
theorem c_X11_valueByLog {G : GG} {d bc bs : Nat} {h : Hp} {Q : Pst} {X : CS} {S : RS} (hR : CR h X) (hs : SIM X S) {n : Nat} (hB : RB n S) {u : Int32} {r : Nat} (hu : ixB u (RS_rn S) = true → u = nI r ∧ r < RS_rn S) (hd : 9 ≤ d) (hbc : 6 ≤ bc) (hbs : 40 ≤ bs) (hq : KO Q h ["java/lang/IndexOutOfBoundsException"] (o_valueByLog S u r)) : WP G m_X11_valueByLog d 0 (aargs 0 [vr (some (nm 40 0)), vi u]) [] h bc bs Q := by
  have hG := FRK.rf (h := h)
  have hrn : CS_rn X = RS_rn S := hs.1.1
  have han : CS_an X = RS_an S := hs.1.2.1
  have hbi : CS_bi X = RS_bg S := hs.1.2.2.1
  have hpr : CS_pr X = RS_mo S := hs.1.2.2.2.1
  have hlg : CS_lg X = RS_lg S := hs.1.2.2.2.2
  have hb0 := hB.1
  refine wp_sub [(0, vr (some (nm 40 0))), (1, vi u)] (fun _ hz => hz) ?_
  refine wp_aload_n (i := 0) dX11_valueByLog_0 rfl rfl ?_
  refine wp_iload_n (i := 1) dX11_valueByLog_1 rfl rfl ?_
  refine wp_cV (y' := m_X11_referenceNumbered) 12 [vi u] [] 1 6 dX11_valueByLog_2 ml_X11_340 im_X11_referenceNumbered se_X11_referenceNumbered (by decide) hR.mk ok_X11_referenceNumbered rfl (Nat.le_of_ble_eq_true rfl) rfl (Nat.le_of_ble_eq_true rfl) (d' := d - 1) (by omega) (by omega) (by omega) (c_X11_referenceNumbered hR (by omega) (v := u) (t := r) (fun z => by rw [hrn] at z ⊢; exact hu z) (by omega) (by omega) (by omega) (fun g_r => cont_thr rfl ?_) (fun b_r eu hr => cont_ret ?_))
  · rw [hrn] at g_r
    exact hq.1 0 _ (congrArg (fun z => z.1) (show o_valueByLog S u r = (nI 1, nI 0, S) from by unfold o_valueByLog; rw [if_pos (by rw [g_r]; rfl)])) rfl
  · subst eu
    rw [hrn] at b_r
    have hr0 : r < RS_rn S := by omega
    have hsr := hs.2.1 r hr0
    have hb1 := hB.2.2.1 r hr0
    refine wp_get 7 0 (vi (OR_fst (RS_rr S r))) dX11_valueByLog_5 (hR.r (r := r) hr).k0 (by decide) (by decide) fl_X11_414 (congrArg (fun z => toV (vi z)) ((hR.r (r := r) hr).f_fst.trans hsr.1)) ?_
    refine wp_topi (fun x_8 e_8 => ?_)
    refine wp_istore_n (i := 2) (lv' := [(2, vi x_8), (0, vr (some (nm 40 0))), (1, vi (nI r))]) dX11_valueByLog_8 rfl (by decide) rfl ?_
    refine wp_iconst (nI 0) dX11_valueByLog_9 (by decide) ?_
    refine wp_istore_n (i := 3) (lv' := [(3, vi (nI 0)), (2, vi x_8), (0, vr (some (nm 40 0))), (1, vi (nI r))]) dX11_valueByLog_10 rfl (by decide) rfl ?_
    subst e_8
    refine wp_sub [(3, vi (nI 0)), (2, vi (OR_fst (RS_rr S r))), (0, vr (some (nm 40 0))), (1, vi (nI r))] (sb_cons (.head _) (sb_cons (.tail _ (.head _)) (sb_cons (.tail _ (.tail _ (.head _))) (sb_cons (.tail _ (.tail _ (.tail _ (.head _)))) sb_nil)))) ?_
    refine l_X11_valueByLog hR (n := n) (by rw [hlg]; omega) (by omega) (by omega) (by rw [hlg]; exact hb0.2.2.2.2.2.2) (by omega) (CS_lg X).length 0 _ rfl ?_
    rw [hlg]
    rw [show o_valueByLog S (nI r) r = (nI 0, vbF r (RS_lg S) (OR_fst (RS_rr S r)), S) from by unfold o_valueByLog; rw [if_neg (by rw [b_r]; decide)]] at hq
    exact hq.2 rfl _ _ hR hs hG
