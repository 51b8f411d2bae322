/-! The class: who wins a reference; ensure, write, add. -/
theorem khl_iff {x : KTS} {y : OTS} (H : ST x y) {r : Nat} (hr : r < 6) {e : Bool} : khl x r e = true ↔ OT_op y = true ∧ (OT_wr y r = true ∨ (e = true ∧ OT_en y r = true)) := by
  obtain ⟨a1, a2, a3, a4, a5, a6⟩ := H
  obtain ⟨c1, c2, c3, c4, c5⟩ := a5 r hr
  unfold khl
  rw [c1, c3, Bool.or_eq_true, Bool.and_eq_true]
  constructor
  · intro z
    refine ⟨?_, z⟩
    cases eo : OT_op y
    · obtain ⟨-, s1⟩ := a6 eo
      obtain ⟨d1, d2, -, -⟩ := s1 r hr
      rw [d1, d2] at z
      rcases z with z | z
      · cases z
      · cases z.2
    · rfl
  · exact fun z => z.2
theorem RS_tt_n {S : RS} {t u : Nat} {x : OTS} (h : u ≠ t) : RS_tt (RS_utt1 S t x) u = RS_tt S u := va_up_ne _ _ h
theorem lastq_le {x : ORS} {n : Nat} (h1 : 1 ≤ (OR_hs x).length) (h : ∀ q, q ∈ OR_hs x → q.1 ≤ n) : (lastq x).1 ≤ n := by
  unfold lastq
  rw [List.getD_eq_getElem?_getD, List.getElem?_eq_getElem (by omega)]
  exact h _ (List.getElem_mem _)
set_option maxRecDepth 100000 in
set_option maxHeartbeats 4000000 in
theorem l_X11_wins {G : GG} {d bc bs : Nat} {Q : Pst} {h0 : Hp} {t r n : Nat} {e : Bool} (ht : t < 3) (hr : r < 6) (hd : 4 ≤ d) : ∀ m i X S H, i + m = 3 → CR H X → SIM X S → RB n S → OT_op (RS_tt S t) = true → FRK h0 H → (∀ h' X', CR h' X' → SIM X' (gos t r e m S).2 → FRK h0 h' → Q (oRet (vi (bI (gos t r e m S).1))) h') → WP G m_X11_winsAgainstOthers d 14 [(6, vi (nI i)), (5, vi (nI 3)), (4, vr (some (nm 40 8))), (0, vr (some (nm 40 0))), (1, vr (some (nm 56 t))), (2, vi (nI r)), (3, vi (bI e))] [] H bc bs Q := by
  intro m
  induction m with
  | zero =>
    intro i X S H hi hR hs hB hop hG hq
    have hi : i = 3 := by omega
    subst hi
    refine wp_iload (i := 6) dX11_winsAgainstOthers_14 rfl ?_
    refine wp_iload (i := 5) dX11_winsAgainstOthers_16 rfl ?_
    refine wp_icmp_geN 86 dX11_winsAgainstOthers_18 (by decide) (by decide) (by decide) (fun c_18 => ?_) (fun c_18 => absurd c_18 (by decide))
    refine wp_iconst (nI 1) dX11_winsAgainstOthers_86 (by decide) ?_
    refine wp_zreturn dX11_winsAgainstOthers_87 rfl (by first | rfl | assumption) ?_
    exact hq _ _ hR hs hG
  | succ m ih =>
    intro i X S H hi3 hR hs hB hop hG hq
    have hi : i < 3 := by omega
    have e2 : 2 - m = i := by omega
    have hpr : CS_pr X = RS_mo S := hs.1.2.2.2.1
    have hst := hs.2.2.2.1 t ht
    have hsi := hs.2.2.2.1 i hi
    have hbt := hB.2.1 t ht
    have hbi := hB.2.1 i hi
    have hn := hB.1.1
    have hkl := khl_iff hsi hr (e := e)
    refine wp_iload (i := 6) dX11_winsAgainstOthers_14 rfl ?_
    refine wp_iload (i := 5) dX11_winsAgainstOthers_16 rfl ?_
    refine wp_icmp_geN 86 dX11_winsAgainstOthers_18 (by decide) (by omega) (by decide) (fun c_18 => absurd c_18 (by omega)) (fun c_18 => ?_)
    refine wp_aload (i := 4) dX11_winsAgainstOthers_21 rfl ?_
    refine wp_iload (i := 6) dX11_winsAgainstOthers_23 rfl ?_
    refine wp_aaloadN 3 (some (nm 56 i)) dX11_winsAgainstOthers_25 (arTy_113 hR.k8) hR.n8 (by omega) (by decide) (hR.q8 hi) ?_
    refine wp_astore (i := 7) (lv' := [(7, vr (some (nm 56 i))), (6, vi (nI i)), (5, vi (nI 3)), (4, vr (some (nm 40 8))), (0, vr (some (nm 40 0))), (1, vr (some (nm 56 t))), (2, vi (nI r)), (3, vi (bI e))]) dX11_winsAgainstOthers_26 (by decide) rfl ?_
    refine wp_aload (i := 7) dX11_winsAgainstOthers_28 rfl ?_
    refine wp_ifnull 80 dX11_winsAgainstOthers_30 (by decide) (fun c_30 => absurd c_30 (fun z => nomatch z)) (fun a_30 c_30 => ?_)
    refine wp_aload (i := 7) dX11_winsAgainstOthers_33 rfl ?_
    refine wp_aload_n (i := 1) dX11_winsAgainstOthers_35 rfl rfl ?_
    refine wp_acmp_eq 80 dX11_winsAgainstOthers_36 (by decide) (fun c_36 => ?_) (fun c_36 => ?_)
    · skip
      refine wp_iincN (a := i) (lv' := [(6, vi (nI (i + 1))), (7, vr (some (nm 56 i))), (5, vi (nI 3)), (4, vr (some (nm 40 8))), (0, vr (some (nm 40 0))), (1, vr (some (nm 56 t))), (2, vi (nI r)), (3, vi (bI e))]) 1 dX11_winsAgainstOthers_80 rfl (by decide) (by decide) rfl ?_
      refine wp_goto 14 dX11_winsAgainstOthers_83 (by decide) ?_
      refine wp_sub [(6, vi (nI (i + 1))), (5, vi (nI 3)), (4, vr (some (nm 40 8))), (0, vr (some (nm 40 0))), (1, vr (some (nm 56 t))), (2, vi (nI r)), (3, vi (bI e))] (sb_cons (.head _) (sb_cons (.tail _ (.tail _ (.head _))) (sb_cons (.tail _ (.tail _ (.tail _ (.head _)))) (sb_cons (.tail _ (.tail _ (.tail _ (.tail _ (.head _))))) (sb_cons (.tail _ (.tail _ (.tail _ (.tail _ (.tail _ (.head _)))))) (sb_cons (.tail _ (.tail _ (.tail _ (.tail _ (.tail _ (.tail _ (.head _))))))) (sb_cons (.tail _ (.tail _ (.tail _ (.tail _ (.tail _ (.tail _ (.tail _ (.head _)))))))) sb_nil))))))) ?_
      have ei : i = t := by have := Option.some.inj c_36; unfold nm at this; omega
      have eg : gos t r e (m + 1) S = gos t r e m S := by rw [gos, if_neg (fun z => z.1.1 (e2.trans ei))]
      rw [eg] at hq
      exact ih (i + 1) X S _ (by omega) hR hs hB hop hG hq
    · have hne : i ≠ t := fun z => c_36 (by rw [z])
      refine wp_aload (i := 7) dX11_winsAgainstOthers_39 rfl ?_
      refine wp_iload_n (i := 2) dX11_winsAgainstOthers_41 rfl rfl ?_
      refine wp_iload_n (i := 3) dX11_winsAgainstOthers_42 rfl rfl ?_
      refine wp_cV (y' := m_X7_holds) 9 [vi (nI r), vi (bI e)] [] 0 0 dX11_winsAgainstOthers_43 ml_X11_561 im_X7_holds se_X7_holds (by decide) (hR.t (r := i) hi).k0 ok_X7_holds rfl (Nat.le_of_ble_eq_true rfl) rfl (Nat.le_of_ble_eq_true rfl) (d' := d - 1) (by omega) (Nat.zero_le _) (Nat.zero_le _) (c_X7_holds (hR.t (r := i) hi) hr (cont_ret ?_))
      refine wp_if_eqB 80 dX11_winsAgainstOthers_46 (by decide) (fun c_46 => ?_) (fun c_46 => ?_)
      · skip
        refine wp_iincN (a := i) (lv' := [(6, vi (nI (i + 1))), (7, vr (some (nm 56 i))), (5, vi (nI 3)), (4, vr (some (nm 40 8))), (0, vr (some (nm 40 0))), (1, vr (some (nm 56 t))), (2, vi (nI r)), (3, vi (bI e))]) 1 dX11_winsAgainstOthers_80 rfl (by decide) (by decide) rfl ?_
        refine wp_goto 14 dX11_winsAgainstOthers_83 (by decide) ?_
        refine wp_sub [(6, vi (nI (i + 1))), (5, vi (nI 3)), (4, vr (some (nm 40 8))), (0, vr (some (nm 40 0))), (1, vr (some (nm 56 t))), (2, vi (nI r)), (3, vi (bI e))] (sb_cons (.head _) (sb_cons (.tail _ (.tail _ (.head _))) (sb_cons (.tail _ (.tail _ (.tail _ (.head _)))) (sb_cons (.tail _ (.tail _ (.tail _ (.tail _ (.head _))))) (sb_cons (.tail _ (.tail _ (.tail _ (.tail _ (.tail _ (.head _)))))) (sb_cons (.tail _ (.tail _ (.tail _ (.tail _ (.tail _ (.tail _ (.head _))))))) (sb_cons (.tail _ (.tail _ (.tail _ (.tail _ (.tail _ (.tail _ (.tail _ (.head _)))))))) sb_nil))))))) ?_
        have eg : gos t r e (m + 1) S = gos t r e m S := by rw [gos, e2, if_neg (fun z => Bool.false_ne_true (c_46.symm.trans (hkl.mpr ⟨z.1.2, z.2⟩)))]
        rw [eg] at hq
        exact ih (i + 1) X S _ (by omega) hR hs hB hop hG hq
      · have hki := hkl.mp c_46
        refine wp_aload_n (i := 1) dX11_winsAgainstOthers_49 rfl rfl ?_
        refine wp_get 9 1 (vi (nI (OT_ag (RS_tt S t) + 1))) dX11_winsAgainstOthers_50 (hR.t (r := t) ht).k0 (by decide) (by decide) fl_X11_565 (congrArg (fun z => toV (vi z)) ((hR.t (r := t) ht).f_bir.trans (congrArg nI (hst.2.1 hop)))) ?_
        refine wp_aload (i := 7) dX11_winsAgainstOthers_53 rfl ?_
        refine wp_get 9 1 (vi (nI (OT_ag (RS_tt S i) + 1))) dX11_winsAgainstOthers_55 (hR.t (r := i) hi).k0 (by decide) (by decide) fl_X11_565 (congrArg (fun z => toV (vi z)) ((hR.t (r := i) hi).f_bir.trans (congrArg nI (hsi.2.1 hki.1)))) ?_
        refine wp_icmp_leN 71 dX11_winsAgainstOthers_58 (by decide) (by omega) (by omega) (fun c_58 => ?_) (fun c_58 => ?_)
        · skip
          refine wp_aload (i := 7) dX11_winsAgainstOthers_71 rfl ?_
          refine wp_aload_n (i := 0) dX11_winsAgainstOthers_73 rfl rfl ?_
          refine wp_get 12 10 (vi (nI (RS_mo S))) dX11_winsAgainstOthers_74 hR.mk (by decide) (by decide) fl_X11_56 (congrArg (fun z => toV (vi z)) (hR.i10.trans (congrArg nI hpr))) ?_
          refine wp_cV (y' := m_X7_goBack) 9 [vi (nI (RS_mo S))] [] 0 0 dX11_winsAgainstOthers_77 ml_X11_364 im_X7_goBack se_X7_goBack (by decide) (hR.t (r := i) hi).k0 ok_X7_goBack rfl (Nat.le_of_ble_eq_true rfl) rfl (Nat.le_of_ble_eq_true rfl) (d' := d - 1) (by omega) (Nat.zero_le _) (Nat.zero_le _) (c_X7_goBack hR hi (by omega) (fun h_hR1 hR1 F_hR1 => cont_void ?_))
          have hG2 := hG.tr F_hR1
          refine wp_iincN (a := i) (lv' := [(6, vi (nI (i + 1))), (7, vr (some (nm 56 i))), (5, vi (nI 3)), (4, vr (some (nm 40 8))), (0, vr (some (nm 40 0))), (1, vr (some (nm 56 t))), (2, vi (nI r)), (3, vi (bI e))]) 1 dX11_winsAgainstOthers_80 rfl (by decide) (by decide) rfl ?_
          refine wp_goto 14 dX11_winsAgainstOthers_83 (by decide) ?_
          refine wp_sub [(6, vi (nI (i + 1))), (5, vi (nI 3)), (4, vr (some (nm 40 8))), (0, vr (some (nm 40 0))), (1, vr (some (nm 56 t))), (2, vi (nI r)), (3, vi (bI e))] (sb_cons (.head _) (sb_cons (.tail _ (.tail _ (.head _))) (sb_cons (.tail _ (.tail _ (.tail _ (.head _)))) (sb_cons (.tail _ (.tail _ (.tail _ (.tail _ (.head _))))) (sb_cons (.tail _ (.tail _ (.tail _ (.tail _ (.tail _ (.head _)))))) (sb_cons (.tail _ (.tail _ (.tail _ (.tail _ (.tail _ (.tail _ (.head _))))))) (sb_cons (.tail _ (.tail _ (.tail _ (.tail _ (.tail _ (.tail _ (.tail _ (.head _)))))))) sb_nil))))))) ?_
          have eg : gos t r e (m + 1) S = gos t r e m (RS_utt1 S i (sbk (RS_tt S i) (RS_mo S))) := by rw [gos, e2, if_pos ⟨⟨hne, hki.1⟩, hki.2⟩, if_neg (by omega)]
          rw [eg] at hq
          exact ih (i + 1) _ _ _ (by omega) hR1 (hs.back hi) (RB_sbk hB hi) (by rw [RS_tt_n (fun z => hne z.symm)]; exact hop) hG2 hq
        · skip
          refine wp_aload_n (i := 1) dX11_winsAgainstOthers_61 rfl rfl ?_
          refine wp_aload_n (i := 0) dX11_winsAgainstOthers_62 rfl rfl ?_
          refine wp_get 12 10 (vi (nI (RS_mo S))) dX11_winsAgainstOthers_63 hR.mk (by decide) (by decide) fl_X11_56 (congrArg (fun z => toV (vi z)) (hR.i10.trans (congrArg nI hpr))) ?_
          refine wp_cV (y' := m_X7_goBack) 9 [vi (nI (RS_mo S))] [] 0 0 dX11_winsAgainstOthers_66 ml_X11_364 im_X7_goBack se_X7_goBack (by decide) (hR.t (r := t) ht).k0 ok_X7_goBack rfl (Nat.le_of_ble_eq_true rfl) rfl (Nat.le_of_ble_eq_true rfl) (d' := d - 1) (by omega) (Nat.zero_le _) (Nat.zero_le _) (c_X7_goBack hR ht (by omega) (fun h_hR3 hR3 F_hR3 => cont_void ?_))
          have hG4 := hG.tr F_hR3
          refine wp_iconst (nI 0) dX11_winsAgainstOthers_69 (by decide) ?_
          refine wp_zreturn dX11_winsAgainstOthers_70 rfl (by first | rfl | assumption) ?_
          have eg : gos t r e (m + 1) S = (false, RS_utt1 S t (sbk (RS_tt S t) (RS_mo S))) := by rw [gos, e2, if_pos ⟨⟨hne, hki.1⟩, hki.2⟩, if_pos (by omega)]
          rw [eg] at hq
          exact hq _ _ hR3 (hs.back ht) hG4
set_option maxRecDepth 100000 in
set_option maxHeartbeats 4000000 in
theorem c_X11_winsAgainstOthers {G : GG} {d bc bs : Nat} {h : Hp} {Q : Pst} {X : CS} {S : RS} (hR : CR h X) (hs : SIM X S) {n : Nat} (hB : RB n S) {t r : Nat} {e : Bool} (ht : t < 3) (hr : r < 6) (hop : OT_op (RS_tt S t) = true) (hd : 4 ≤ d) (hq : ∀ h' X', CR h' X' → SIM X' (gos t r e 3 S).2 → FRK h h' → Q (oRet (vi (bI (gos t r e 3 S).1))) h') : WP G m_X11_winsAgainstOthers d 0 (aargs 0 [vr (some (nm 40 0)), vr (some (nm 56 t)), vi (nI r), vi (bI e)]) [] h bc bs Q := by
  have hG := FRK.rf (h := h)
  refine wp_sub [(0, vr (some (nm 40 0))), (1, vr (some (nm 56 t))), (2, vi (nI r)), (3, vi (bI e))] (fun _ hz => hz) ?_
  refine wp_aload_n (i := 0) dX11_winsAgainstOthers_0 rfl rfl ?_
  refine wp_get 12 8 (vr (some (nm 40 8))) dX11_winsAgainstOthers_1 hR.mk (by decide) (by decide) fl_X11_49 (congrArg (fun z => toV (vr z)) (hR.f8)) ?_
  refine wp_astore (i := 4) (lv' := [(4, vr (some (nm 40 8))), (0, vr (some (nm 40 0))), (1, vr (some (nm 56 t))), (2, vi (nI r)), (3, vi (bI e))]) dX11_winsAgainstOthers_4 (by decide) rfl ?_
  refine wp_aload (i := 4) dX11_winsAgainstOthers_6 rfl ?_
  refine wp_alen dX11_winsAgainstOthers_8 (arTy_113 hR.k8) ?_
  rw [hR.n8]
  refine wp_istore (i := 5) (lv' := [(5, vi (nI 3)), (4, vr (some (nm 40 8))), (0, vr (some (nm 40 0))), (1, vr (some (nm 56 t))), (2, vi (nI r)), (3, vi (bI e))]) dX11_winsAgainstOthers_9 (by decide) rfl ?_
  refine wp_iconst (nI 0) dX11_winsAgainstOthers_11 (by decide) ?_
  refine wp_istore (i := 6) (lv' := [(6, vi (nI 0)), (5, vi (nI 3)), (4, vr (some (nm 40 8))), (0, vr (some (nm 40 0))), (1, vr (some (nm 56 t))), (2, vi (nI r)), (3, vi (bI e))]) dX11_winsAgainstOthers_12 (by decide) rfl ?_
  refine wp_sub [(6, vi (nI 0)), (5, vi (nI 3)), (4, vr (some (nm 40 8))), (0, vr (some (nm 40 0))), (1, vr (some (nm 56 t))), (2, vi (nI r)), (3, vi (bI e))] (sb_cons (.head _) (sb_cons (.tail _ (.head _)) (sb_cons (.tail _ (.tail _ (.head _))) (sb_cons (.tail _ (.tail _ (.tail _ (.head _)))) (sb_cons (.tail _ (.tail _ (.tail _ (.tail _ (.head _))))) (sb_cons (.tail _ (.tail _ (.tail _ (.tail _ (.tail _ (.head _)))))) (sb_cons (.tail _ (.tail _ (.tail _ (.tail _ (.tail _ (.tail _ (.head _))))))) sb_nil))))))) ?_
  exact l_X11_wins ht hr (by omega) 3 0 X S _ rfl hR hs hB hop hG (fun h' X' a b c => hq h' X' a b c)
set_option maxRecDepth 100000 in
set_option maxHeartbeats 4000000 in
theorem c_X11_holdsPoint {G : GG} {d bc bs : Nat} {h : Hp} {Q : Pst} {X : CS} {S : RS} (hR : CR h X) (hs : SIM X S) {n : Nat} (hB : RB n S) {t r : Nat} (ht : t < 3) (hr : r < CS_rn X) (hd : 4 ≤ d) (k1 : ¬ OT_pt (RS_tt S t) < (lastq (RS_rr S r)).1 → Q (oRet (vi (nI 1))) h) (k0 : OT_pt (RS_tt S t) < (lastq (RS_rr S r)).1 → ∀ h' X', CR h' X' → SIM X' (RS_utt1 S t (sbk (RS_tt S t) (RS_mo S))) → FRK h h' → Q (oRet (vi (nI 0))) h') : WP G m_X11_holdsPoint d 0 (aargs 0 [vr (some (nm 40 0)), vr (some (nm 56 t)), vr (some (nm 53 r))]) [] h bc bs Q := by
  have hG := FRK.rf (h := h)
  have hrn : CS_rn X = RS_rn S := hs.1.1
  have han : CS_an X = RS_an S := hs.1.2.1
  have hbi : CS_bi X = RS_bg S := hs.1.2.2.1
  have hpr : CS_pr X = RS_mo S := hs.1.2.2.2.1
  have hlg : CS_lg X = RS_lg S := hs.1.2.2.2.2
  have hb0 := hB.1
  have hst := hs.2.2.2.1 t ht
  have hr0 : r < RS_rn S := by omega
  have hsr := hs.2.1 r hr0
  have hb1 := hB.2.2.1 r hr0
  have hb2 := hB.2.1 t ht
  have hlq : (lastq (RS_rr S r)).1 ≤ n := lastq_le hb1.1 hb1.2.2.2
  refine wp_sub [(0, vr (some (nm 40 0))), (1, vr (some (nm 56 t))), (2, vr (some (nm 53 r)))] (fun _ hz => hz) ?_
  refine wp_aload_n (i := 2) dX11_holdsPoint_0 rfl rfl ?_
  refine wp_cV (y' := m_X5_latestMoment) 7 [] [] 0 0 dX11_holdsPoint_1 ml_X11_558 im_X5_latestMoment se_X5_latestMoment (by decide) (hR.r (r := r) hr).k0 ok_X5_latestMoment rfl (Nat.le_of_ble_eq_true rfl) rfl (Nat.le_of_ble_eq_true rfl) (d' := d - 1) (by omega) (Nat.zero_le _) (Nat.zero_le _) (c_X5_latestMoment (hR.r (r := r) hr) (by rw [hsr.2.2.2.1]; omega) (by rw [hsr.2.2.2.1]; omega) (by omega) (cont_ret ?_))
  rw [SR.lm hsr (by omega)]
  refine wp_aload_n (i := 1) dX11_holdsPoint_4 rfl rfl ?_
  refine wp_get 9 2 (vi (nI (OT_pt (RS_tt S t)))) dX11_holdsPoint_5 (hR.t (r := t) ht).k0 (by decide) (by decide) fl_X11_355 (congrArg (fun z => toV (vi z)) ((hR.t (r := t) ht).f_pt.trans (congrArg nI hst.2.2.1))) ?_
  refine wp_icmp_gtN 13 dX11_holdsPoint_8 (by decide) (by omega) (by omega) (fun c_8 => ?_) (fun c_8 => ?_)
  · skip
    refine wp_aload_n (i := 1) dX11_holdsPoint_13 rfl rfl ?_
    refine wp_aload_n (i := 0) dX11_holdsPoint_14 rfl rfl ?_
    refine wp_get 12 10 (vi (nI (RS_mo S))) dX11_holdsPoint_15 hR.mk (by decide) (by decide) fl_X11_56 (congrArg (fun z => toV (vi z)) (hR.i10.trans (congrArg nI hpr))) ?_
    refine wp_cV (y' := m_X7_goBack) 9 [vi (nI (RS_mo S))] [] 0 0 dX11_holdsPoint_18 ml_X11_364 im_X7_goBack se_X7_goBack (by decide) (hR.t (r := t) ht).k0 ok_X7_goBack rfl (Nat.le_of_ble_eq_true rfl) rfl (Nat.le_of_ble_eq_true rfl) (d' := d - 1) (by omega) (Nat.zero_le _) (Nat.zero_le _) (c_X7_goBack hR ht (by omega) (fun h_hR1 hR1 F_hR1 => cont_void ?_))
    have hG2 := hG.tr F_hR1
    refine wp_iconst (nI 0) dX11_holdsPoint_21 (by decide) ?_
    refine wp_zreturn dX11_holdsPoint_22 rfl (by first | rfl | assumption) ?_
    exact k0 (by omega) _ _ hR1 (hs.back ht) hG2
  · skip
    refine wp_iconst (nI 1) dX11_holdsPoint_11 (by decide) ?_
    refine wp_zreturn dX11_holdsPoint_12 rfl (by first | rfl | assumption) ?_
    exact k1 (by omega)
