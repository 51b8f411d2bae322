/-! The class: commit. -/
theorem RB_gos {n t r : Nat} {e : Bool} (ht : t < 3) : ∀ m S, RB n S → RB n (gos t r e m S).2 := by
  intro m
  induction m with
  | zero => intro S h; exact h
  | succ m ih =>
    intro S h
    rw [gos]
    split
    · split
      · exact RB_sbk h ht
      · exact ih _ (RB_sbk h (by omega))
    · exact ih S h
theorem gos_al {t r : Nat} {e : Bool} : ∀ m S, ∃ f, (gos t r e m S).2 = RS_utt S f := by
  intro m
  induction m with
  | zero => intro S; exact ⟨RS_tt S, rfl⟩
  | succ m ih =>
    intro S
    rw [gos]
    split
    · split
      · exact ⟨_, rfl⟩
      · obtain ⟨f, hf⟩ := ih (RS_utt1 S (2 - m) (sbk (RS_tt S (2 - m)) (RS_mo S)))
        exact ⟨f, hf⟩
    · exact ih S
theorem RB_cmA {n t : Nat} (ht : t < 3) : ∀ m r S, RB n S → RB n (cmA t m r S).2 := by
  intro m
  induction m with
  | zero => intro r S h; exact h
  | succ m ih =>
    intro r S h
    rw [cmA]
    split
    · split
      · exact RB_gos ht 3 S h
      · exact ih _ _ (RB_gos ht 3 S h)
    · exact ih _ _ h
theorem cmA_op {t u : Nat} : ∀ m r S, OT_op (RS_tt (cmA t m r S).2 u) = OT_op (RS_tt S u) := by
  intro m
  induction m with
  | zero => intro r S; rfl
  | succ m ih =>
    intro r S
    rw [cmA]
    split
    · split
      · exact gos_op 3 S
      · rw [ih]; exact gos_op 3 S
    · exact ih _ _
theorem cmC_id {S : RS} {t : Nat} : ∀ m r o Z, RS_tt Z t = RS_tt S t → (cmB S t m r o false).2 = false → cmC t m r Z = Z := by
  intro m
  induction m with
  | zero => intro r o Z _ _; rfl
  | succ m ih =>
    intro r o Z hZ h
    rw [cmB, Bool.false_or] at h
    have hc : chg (RS_tt S t) r = false := by
      cases e : chg (RS_tt S t) r
      · rfl
      · rw [e, cmB_s] at h; cases h
    rw [hc] at h
    rw [cmC, hZ, hc, if_neg Bool.false_ne_true]
    exact ih _ _ Z hZ h
theorem cmC_op {t : Nat} {y : OTS} (b : Bool) : ∀ m r S, RS_tt S t = y → cmC t m r (RS_utt1 S t (OT_uop y b)) = RS_utt1 (cmC t m r S) t (OT_uop y b) := by
  intro m
  induction m with
  | zero => intro r S _; rfl
  | succ m ih =>
    intro r S hy
    have e : RS_tt (RS_utt1 S t (OT_uop y b)) t = OT_uop y b := RS_tt_s
    rw [cmC, cmC, e, hy]
    by_cases c : chg y r = true
    · have c2 : chg (OT_uop y b) r = true := c
      rw [if_pos c, if_pos c2]
      exact ih (r + 1) (RS_urr1 (RS_ulg S (RS_lg S ++ [(RS_mo S, r, (lastq (RS_rr S r)).2, vth y (RS_rr S r) r)])) r (OR_uhs (RS_rr S r) (cmH (OR_hs (RS_rr S r)) (OR_lim (RS_rr S r)) (RS_mo S, vth y (RS_rr S r) r)))) hy
    · have c2 : ¬ chg (OT_uop y b) r = true := c
      rw [if_neg c, if_neg c2]
      exact ih (r + 1) S hy
theorem cm_end {S1 S2 : RS} {t rn : Nat} {b : Bool} (h : S2 = cmC t rn 0 (RS_umo S1 (RS_mo S1 + if b = true then 1 else 0))) :
    (fun Z => RS_utt1 Z t (fgt (RS_tt Z t))) (cmG (cmC t rn 0 (cmE S1 t b)) t) = RS_utt1 (cmG S2 t) t (fgt (OT_uop (RS_tt (cmG S2 t) t) false)) := by
  have e1 : cmC t rn 0 (cmE S1 t b) = RS_utt1 S2 t (OT_uop (RS_tt S1 t) false) := by
    rw [h]; exact cmC_op false rn 0 (RS_umo S1 (RS_mo S1 + if b = true then 1 else 0)) rfl
  have e2 : RS_tt S2 t = RS_tt S1 t := by rw [h, cmC_tt.1]
  have e3 : cmG (RS_utt1 S2 t (OT_uop (RS_tt S1 t) false)) t = RS_utt1 (cmG S2 t) t (OT_uop (RS_tt S1 t) false) := by
    unfold cmG
    rw [RS_tt_s, e2]
  rw [e1, e3]
  show RS_utt1 (RS_utt1 (cmG S2 t) t (OT_uop (RS_tt S1 t) false)) t (fgt (RS_tt (RS_utt1 (cmG S2 t) t (OT_uop (RS_tt S1 t) false)) t)) = _
  rw [RS_tt_s, RS_utt1_2]
  show RS_utt1 (cmG S2 t) t (fgt (OT_uop (RS_tt S1 t) false)) = RS_utt1 (cmG S2 t) t (fgt (OT_uop (RS_tt S2 t) false))
  rw [e2]
set_option maxRecDepth 100000 in
set_option maxHeartbeats 4000000 in
theorem l_X11_commit1 {G : GG} {d bc bs : Nat} {Q : Pst} {h0 : Hp} {n t : Nat} (ht : t < 3) (hd : 11 ≤ d) : ∀ m r X S H, r + m = RS_rn S → CR H X → SIM X S → RB n S → OT_op (RS_tt S t) = true → FRK h0 H → ((cmA t m r S).1 = false → ∀ h' X', CR h' X' → SIM X' (cmA t m r S).2 → FRK h0 h' → Q (oRet (vi (nI 115))) h') → ((cmA t m r S).1 = true → ∀ h' X', CR h' X' → SIM X' (cmA t m r S).2 → FRK h0 h' → WP G m_X11_commit d 48 [(0, vr (some (nm 40 0))), (1, vi (nI t)), (2, vr (some (nm 56 t)))] [] h' bc bs Q) → WP G m_X11_commit d 12 [(3, vi (nI r)), (0, vr (some (nm 40 0))), (1, vi (nI t)), (2, vr (some (nm 56 t)))] [] H bc bs Q := by
  intro m
  induction m with
  | zero =>
    intro r X S H hk hR hs hB hop hG hlost hok
    have hrn : CS_rn X = RS_rn S := hs.1.1
    have hb0 := hB.1
    refine wp_iload_n (i := 3) dX11_commit_12 rfl rfl ?_
    refine wp_aload_n (i := 0) dX11_commit_13 rfl rfl ?_
    refine wp_get 12 7 (vi (nI (CS_rn X))) dX11_commit_14 hR.mk (by decide) (by decide) fl_X11_44 (congrArg (fun z => toV (vi z)) (hR.i7)) ?_
    refine wp_icmp_geN 48 dX11_commit_17 (by decide) (by omega) (by omega) (fun c_17 => ?_) (fun c_17 => absurd c_17 (by omega))
    refine wp_sub [(0, vr (some (nm 40 0))), (1, vi (nI t)), (2, vr (some (nm 56 t)))] (sb_cons (.tail _ (.head _)) (sb_cons (.tail _ (.tail _ (.head _))) (sb_cons (.tail _ (.tail _ (.tail _ (.head _)))) sb_nil))) ?_
    exact hok rfl _ _ hR hs hG
  | succ m ih =>
    intro r X S H hk hR hs hB hop hG hlost hok
    have hrn : CS_rn X = RS_rn S := hs.1.1
    have han : CS_an X = RS_an S := hs.1.2.1
    have hbi : CS_bi X = RS_bg S := hs.1.2.2.1
    have hpr : CS_pr X = RS_mo S := hs.1.2.2.2.1
    have hlg : CS_lg X = RS_lg S := hs.1.2.2.2.2
    have hb0 := hB.1
    have hst := hs.2.2.2.1 t ht
    have hr : r < CS_rn X := by omega
    have hr0 : r < RS_rn S := by omega
    have hr6 : r < 6 := by omega
    have hsr := hs.2.1 r hr0
    have hb1 := hB.2.2.1 r hr0
    have hsq := hst.2.2.2.2.1 r hr6
    refine wp_iload_n (i := 3) dX11_commit_12 rfl rfl ?_
    refine wp_aload_n (i := 0) dX11_commit_13 rfl rfl ?_
    refine wp_get 12 7 (vi (nI (CS_rn X))) dX11_commit_14 hR.mk (by decide) (by decide) fl_X11_44 (congrArg (fun z => toV (vi z)) (hR.i7)) ?_
    refine wp_icmp_geN 48 dX11_commit_17 (by decide) (by omega) (by omega) (fun c_17 => absurd c_17 (by omega)) (fun c_17 => ?_)
    refine wp_aload_n (i := 2) dX11_commit_20 rfl rfl ?_
    refine wp_get 9 7 (vr (some (nm 60 t))) dX11_commit_21 (hR.t (r := t) ht).k0 (by decide) (by decide) fl_X11_373 (congrArg (fun z => toV (vr z)) ((hR.t (r := t) ht).r8_7)) ?_
    refine wp_iload_n (i := 3) dX11_commit_24 rfl rfl ?_
    refine wp_zaloadN 6 (bI (KT_ad (CS_tt X t) r)) dX11_commit_25 (hR.t (r := t) ht).k17 (hR.t (r := t) ht).n17 (by omega) (by decide) ((hR.t (r := t) ht).a_ad r) ?_
    refine wp_if_eqB 42 dX11_commit_26 (by decide) (fun c_26 => ?_) (fun c_26 => ?_)
    · skip
      refine wp_iincN (a := r) (lv' := [(3, vi (nI (r + 1))), (0, vr (some (nm 40 0))), (1, vi (nI t)), (2, vr (some (nm 56 t)))]) 1 dX11_commit_42 rfl (by decide) (by decide) rfl ?_
      refine wp_goto 12 dX11_commit_45 (by decide) ?_
      refine wp_sub [(3, vi (nI (r + 1))), (0, vr (some (nm 40 0))), (1, vi (nI t)), (2, vr (some (nm 56 t)))] (sb_cons (.head _) (sb_cons (.tail _ (.head _)) (sb_cons (.tail _ (.tail _ (.head _))) (sb_cons (.tail _ (.tail _ (.tail _ (.head _)))) sb_nil)))) ?_
      have hd2 : ¬ OT_ad (RS_tt S t) r = true := by rw [← hsq.2.2.2.1, c_26]; decide
      rw [cmA, if_neg hd2] at hlost hok
      exact ih (r + 1) X S _ (by omega) hR hs hB hop hG hlost hok
    · skip
      refine wp_aload_n (i := 0) dX11_commit_29 rfl rfl ?_
      refine wp_aload_n (i := 2) dX11_commit_30 rfl rfl ?_
      refine wp_iload_n (i := 3) dX11_commit_31 rfl rfl ?_
      refine wp_iconst (nI 1) dX11_commit_32 (by decide) ?_
      refine wp_cV (y' := m_X11_winsAgainstOthers) 12 [vr (some (nm 56 t)), vi (nI r), vi (nI 1)] [] 0 0 dX11_commit_33 ml_X11_382 im_X11_winsAgainstOthers se_X11_winsAgainstOthers (by decide) hR.mk ok_X11_winsAgainstOthers rfl (Nat.le_of_ble_eq_true rfl) rfl (Nat.le_of_ble_eq_true rfl) (d' := d - 1) (by omega) (Nat.zero_le _) (Nat.zero_le _) (c_X11_winsAgainstOthers hR hs hB ht hr6 hop (e := true) (by omega) (fun h2 X2 R2 s2 F2 => cont_ret ?_))
      have hG2 := hG.tr F2
      refine wp_if_neB 42 dX11_commit_36 (by decide) (fun c_36 => ?_) (fun c_36 => ?_)
      · skip
        refine wp_iincN (a := r) (lv' := [(3, vi (nI (r + 1))), (0, vr (some (nm 40 0))), (1, vi (nI t)), (2, vr (some (nm 56 t)))]) 1 dX11_commit_42 rfl (by decide) (by decide) rfl ?_
        refine wp_goto 12 dX11_commit_45 (by decide) ?_
        refine wp_sub [(3, vi (nI (r + 1))), (0, vr (some (nm 40 0))), (1, vi (nI t)), (2, vr (some (nm 56 t)))] (sb_cons (.head _) (sb_cons (.tail _ (.head _)) (sb_cons (.tail _ (.tail _ (.head _))) (sb_cons (.tail _ (.tail _ (.tail _ (.head _)))) sb_nil)))) ?_
        have hd2 : OT_ad (RS_tt S t) r = true := hsq.2.2.2.1.symm.trans c_26
        rw [cmA, if_pos hd2, if_neg (by rw [c_36]; decide)] at hlost hok
        exact ih (r + 1) X2 _ _ (by rw [gos_rn]; omega) R2 s2 (RB_gos ht 3 S hB) (by rw [gos_op]; exact hop) hG2 hlost hok
      · skip
        refine wp_bipush (nI 115) dX11_commit_39 (by decide) ?_
        refine wp_zreturn dX11_commit_41 rfl (by first | rfl | assumption) ?_
        have hd2 : OT_ad (RS_tt S t) r = true := hsq.2.2.2.1.symm.trans c_26
        rw [cmA, if_pos hd2, if_pos c_36] at hlost
        exact hlost rfl _ _ R2 s2 hG2
set_option maxRecDepth 100000 in
set_option maxHeartbeats 4000000 in
theorem l_X11_commit2 {G : GG} {d bc bs : Nat} {Q : Pst} {h0 H : Hp} {n t : Nat} {X : CS} {S : RS} (ht : t < 3) (hd : 13 ≤ d) (hbc : 50 ≤ bc) (hbs : 200 + 1100 * cgN (RS_tt S t) (RS_rn S) 0 ≤ bs) (hR : CR H X) (hs : SIM X S) (hB : RB n S) (hB2 : RB n (RS_umo S (RS_mo S + 1))) (hl : (RS_lg S).length + 6 ≤ 6 * n) (hcg : (RS_lg S).length + cgN (RS_tt S t) (RS_rn S) 0 ≤ 512) (hG : FRK h0 H) (hqb : (cmB S t (RS_rn S) 0 false false).1 = true → ∀ h' X', CR h' X' → SIM X' (RS_utt1 S t (fgt (OT_uop (RS_tt S t) false))) → FRK h0 h' → Q (oRet (vi (nI 98))) h') (hqc : ¬ (cmB S t (RS_rn S) 0 false false).1 = true → ∀ h' X', CR h' X' → SIM X' (RS_utt1 (cmG (cmC t (RS_rn S) 0 (RS_umo S (RS_mo S + if (cmB S t (RS_rn S) 0 false false).2 = true then 1 else 0))) t) t (fgt (OT_uop (RS_tt (cmG (cmC t (RS_rn S) 0 (RS_umo S (RS_mo S + if (cmB S t (RS_rn S) 0 false false).2 = true then 1 else 0))) t) t) false))) → FRK h0 h' → Q (oRet (vi (nI 99))) h') : WP G m_X11_commit d 48 [(0, vr (some (nm 40 0))), (1, vi (nI t)), (2, vr (some (nm 56 t)))] [] H bc bs Q := by
  refine wp_aload_n (i := 0) dX11_commit_48 rfl rfl ?_
  refine wp_aload_n (i := 2) dX11_commit_49 rfl rfl ?_
  refine wp_cV (y' := m_X11_staysWithinBounds) 12 [vr (some (nm 56 t))] [] 12 72 dX11_commit_50 ml_X11_391 im_X11_staysWithinBounds se_X11_staysWithinBounds (by decide) hR.mk ok_X11_staysWithinBounds rfl (Nat.le_of_ble_eq_true rfl) rfl (Nat.le_of_ble_eq_true rfl) (d' := d - 1) (by omega) (by omega) (by omega) (c_X11_staysWithinBounds hR hs hB ht false (by omega) (Nat.le_refl _) (Nat.le_refl _) (cont_ret ?_))
  refine wp_if_neB 63 dX11_commit_53 (by decide) (fun c_53 => ?_) (fun c_53 => ?_)
  · skip
    refine wp_aload_n (i := 0) dX11_commit_63 rfl rfl ?_
    refine wp_aload_n (i := 2) dX11_commit_64 rfl rfl ?_
    refine wp_cV (y' := m_X11_changesAny) 12 [vr (some (nm 56 t))] [] 0 0 dX11_commit_65 ml_X11_398 im_X11_changesAny se_X11_changesAny (by decide) hR.mk ok_X11_changesAny rfl (Nat.le_of_ble_eq_true rfl) rfl (Nat.le_of_ble_eq_true rfl) (d' := d - 1) (by omega) (Nat.zero_le _) (Nat.zero_le _) (c_X11_changesAny hR hs hB ht false (by omega) (cont_ret ?_))
    refine wp_if_eqB 76 dX11_commit_68 (by decide) (fun c_68 => ?_) (fun c_68 => ?_)
    · skip
      refine wp_aload_n (i := 0) dX11_commit_76 rfl rfl ?_
      refine wp_aload_n (i := 2) dX11_commit_77 rfl rfl ?_
      refine wp_cV (y' := m_X11_deliver) 12 [vr (some (nm 56 t))] [] 4 24 dX11_commit_78 ml_X11_404 im_X11_deliver se_X11_deliver (by decide) hR.mk ok_X11_deliver rfl (Nat.le_of_ble_eq_true rfl) rfl (Nat.le_of_ble_eq_true rfl) (d' := d - 1) (by omega) (by omega) (by omega) (c_X11_deliver hR hs hB ht (by omega) (Nat.le_refl _) (Nat.le_refl _) (fun h4 X4 R4 s4 F4 => cont_void ?_))
      have hG4 := hG.tr F4
      have e3 : S = (cmC t (RS_rn S) 0 (RS_umo S (RS_mo S + if (cmB S t (RS_rn S) 0 false false).2 = true then 1 else 0))) := by rw [c_68, if_neg Bool.false_ne_true]; exact (cmC_id (RS_rn S) 0 false _ rfl c_68).symm
      have s4 : SIM X4 (cmG (cmC t (RS_rn S) 0 (RS_umo S (RS_mo S + if (cmB S t (RS_rn S) 0 false false).2 = true then 1 else 0))) t) := e3 ▸ s4
      refine wp_aload_n (i := 2) dX11_commit_81 rfl rfl ?_
      refine wp_cV (y' := m_X7_stop) 9 [] [] 0 0 dX11_commit_82 ml_X11_395 im_X7_stop se_X7_stop (by decide) (R4.t (r := t) ht).k0 ok_X7_stop rfl (Nat.le_of_ble_eq_true rfl) rfl (Nat.le_of_ble_eq_true rfl) (d' := d - 1) (by omega) (Nat.zero_le _) (Nat.zero_le _) (c_X7_stop R4 ht (by omega) (fun h_hR1 hR1 F_hR1 => cont_void ?_))
      have hG2 := hG4.tr F_hR1
      refine wp_bipush (nI 99) dX11_commit_85 (by decide) ?_
      refine wp_zreturn dX11_commit_87 rfl (by first | rfl | assumption) ?_
      have cb : ¬ (cmB S t (RS_rn S) 0 false false).1 = true := by revert c_53; cases (cmB S t (RS_rn S) 0 false false).1 <;> simp
      exact hqc cb _ _ hR1 (s4.halt ht) hG2
    · skip
      refine wp_aload_n (i := 0) dX11_commit_71 rfl rfl ?_
      refine wp_aload_n (i := 2) dX11_commit_72 rfl rfl ?_
      refine wp_cV (y' := m_X11_recordChanges) 12 [vr (some (nm 56 t))] [] 30 (1100 * cgN (RS_tt S t) (RS_rn S) 0) dX11_commit_73 ml_X11_401 im_X11_recordChanges se_X11_recordChanges (by decide) hR.mk ok_X11_recordChanges rfl (Nat.le_of_ble_eq_true rfl) rfl (Nat.le_of_ble_eq_true rfl) (d' := d - 1) (by omega) (by omega) (by omega) (c_X11_recordChanges hR hs hB ht hB2 hl hcg (by omega) (Nat.le_refl _) (Nat.le_refl _) (fun h3 X3 R3 s3 B3 F3 => cont_void ?_))
      have hG3 := hG.tr F3
      have e3 : cmC t (RS_rn S) 0 (RS_umo S (RS_mo S + 1)) = (cmC t (RS_rn S) 0 (RS_umo S (RS_mo S + if (cmB S t (RS_rn S) 0 false false).2 = true then 1 else 0))) := by rw [if_pos c_68]
      refine wp_aload_n (i := 0) dX11_commit_76 rfl rfl ?_
      refine wp_aload_n (i := 2) dX11_commit_77 rfl rfl ?_
      refine wp_cV (y' := m_X11_deliver) 12 [vr (some (nm 56 t))] [] 4 24 dX11_commit_78 ml_X11_404 im_X11_deliver se_X11_deliver (by decide) R3.mk ok_X11_deliver rfl (Nat.le_of_ble_eq_true rfl) rfl (Nat.le_of_ble_eq_true rfl) (d' := d - 1) (by omega) (by omega) (by omega) (c_X11_deliver R3 s3 B3 ht (by omega) (Nat.le_refl _) (Nat.le_refl _) (fun h4 X4 R4 s4 F4 => cont_void ?_))
      have hG4 := hG3.tr F4
      rw [e3] at s4
      refine wp_aload_n (i := 2) dX11_commit_81 rfl rfl ?_
      refine wp_cV (y' := m_X7_stop) 9 [] [] 0 0 dX11_commit_82 ml_X11_395 im_X7_stop se_X7_stop (by decide) (R4.t (r := t) ht).k0 ok_X7_stop rfl (Nat.le_of_ble_eq_true rfl) rfl (Nat.le_of_ble_eq_true rfl) (d' := d - 1) (by omega) (Nat.zero_le _) (Nat.zero_le _) (c_X7_stop R4 ht (by omega) (fun h_hR3 hR3 F_hR3 => cont_void ?_))
      have hG4 := hG4.tr F_hR3
      refine wp_bipush (nI 99) dX11_commit_85 (by decide) ?_
      refine wp_zreturn dX11_commit_87 rfl (by first | rfl | assumption) ?_
      have cb : ¬ (cmB S t (RS_rn S) 0 false false).1 = true := by revert c_53; cases (cmB S t (RS_rn S) 0 false false).1 <;> simp
      exact hqc cb _ _ hR3 (s4.halt ht) hG4
  · skip
    refine wp_aload_n (i := 2) dX11_commit_56 rfl rfl ?_
    refine wp_cV (y' := m_X7_stop) 9 [] [] 0 0 dX11_commit_57 ml_X11_395 im_X7_stop se_X7_stop (by decide) (hR.t (r := t) ht).k0 ok_X7_stop rfl (Nat.le_of_ble_eq_true rfl) rfl (Nat.le_of_ble_eq_true rfl) (d' := d - 1) (by omega) (Nat.zero_le _) (Nat.zero_le _) (c_X7_stop hR ht (by omega) (fun h_hR5 hR5 F_hR5 => cont_void ?_))
    have hG6 := hG.tr F_hR5
    refine wp_bipush (nI 98) dX11_commit_60 (by decide) ?_
    refine wp_zreturn dX11_commit_62 rfl (by first | rfl | assumption) ?_
    have cb : (cmB S t (RS_rn S) 0 false false).1 = true := by revert c_53; cases (cmB S t (RS_rn S) 0 false false).1 <;> simp
    exact hqb cb _ _ hR5 (hs.halt ht) hG6
