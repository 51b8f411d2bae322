/-! The class: the changes of a commit are recorded. -/
theorem len_1 {α : Type} {l : List α} {q : α} : (l ++ [q]).length = l.length + 1 := by rw [List.length_append]; rfl
set_option maxRecDepth 100000 in
set_option maxHeartbeats 4000000 in
theorem l_X11_record {G : GG} {d bc bs : Nat} {Q : Pst} {h0 : Hp} {n t : Nat} {y : OTS} (ht : t < 3) (hd : 11 ≤ d) : ∀ m r X S H, RS_tt S t = y → r + m = CS_rn X → CR H X → SIM X S → RB n S → FRK h0 H → (RS_lg S).length + m ≤ 6 * n → (RS_lg S).length + cgN (RS_tt S t) m r ≤ 512 → (∀ h' X', CR h' X' → SIM X' (cmC t m r S) → RB n (cmC t m r S) → FRK h0 h' → Q oVoid h') → WP G m_X11_recordChanges d 12 [(2, vi (nI r)), (0, vr (some (nm 40 0))), (1, vr (some (nm 56 t)))] [] H (bc + 5 * m) (bs + 1100 * cgN y m r) Q := by
  have q4 : clN 4 = 4 := rfl
  intro m
  induction m with
  | zero =>
    intro r X S H hy hk hR hs hB hG hl hcg hq
    show WP G m_X11_recordChanges d 12 _ _ _ _ (bs + 1100 * 0) _
    have hrn : CS_rn X = RS_rn S := hs.1.1
    have hb0 := hB.1
    have hk : r = CS_rn X := by omega
    subst hk
    refine wp_iload_n (i := 2) dX11_recordChanges_12 rfl rfl ?_
    refine wp_aload_n (i := 0) dX11_recordChanges_13 rfl rfl ?_
    refine wp_get 12 7 (vi (nI (CS_rn X))) dX11_recordChanges_14 hR.mk (by decide) (by decide) fl_X11_44 (congrArg (fun z => toV (vi z)) (hR.i7)) ?_
    refine wp_icmp_geN 101 dX11_recordChanges_17 (by decide) (by omega) (by omega) (fun c_17 => ?_) (fun c_17 => absurd c_17 (by omega))
    refine wp_return dX11_recordChanges_101 rfl ?_
    exact hq _ _ hR hs hB hG
  | succ m ih =>
    intro r X S H hy hk hR hs hB hG hl hcg hq
    subst hy
    rw [cgN]
    have hrn : CS_rn X = RS_rn S := hs.1.1
    have han : CS_an X = RS_an S := hs.1.2.1
    have hbi : CS_bi X = RS_bg S := hs.1.2.2.1
    have hpr : CS_pr X = RS_mo S := hs.1.2.2.2.1
    have hlg : CS_lg X = RS_lg S := hs.1.2.2.2.2
    have hb0 := hB.1
    have hst := hs.2.2.2.1 t ht
    have hr : r < CS_rn X := by omega
    have hr0 : r < RS_rn S := by omega
    have hr6 : r < 6 := by omega
    have hsr := hs.2.1 r hr0
    have hb1 := hB.2.2.1 r hr0
    have hsq := hst.2.2.2.2.1 r hr6
    have hlx : (CS_lg X).length = (RS_lg S).length := by rw [hlg]
    rw [cmC] at hq
    rw [cgN] at hcg
    refine wp_iload_n (i := 2) dX11_recordChanges_12 rfl rfl ?_
    refine wp_aload_n (i := 0) dX11_recordChanges_13 rfl rfl ?_
    refine wp_get 12 7 (vi (nI (CS_rn X))) dX11_recordChanges_14 hR.mk (by decide) (by decide) fl_X11_44 (congrArg (fun z => toV (vi z)) (hR.i7)) ?_
    refine wp_icmp_geN 101 dX11_recordChanges_17 (by decide) (by omega) (by omega) (fun c_17 => absurd c_17 (by omega)) (fun c_17 => ?_)
    refine wp_aload_n (i := 1) dX11_recordChanges_20 rfl rfl ?_
    refine wp_iload_n (i := 2) dX11_recordChanges_21 rfl rfl ?_
    refine wp_cV (y' := m_X7_changes) 9 [vi (nI r)] [] 0 0 dX11_recordChanges_22 ml_X11_568 im_X7_changes se_X7_changes (by decide) (hR.t (r := t) ht).k0 ok_X7_changes rfl (Nat.le_of_ble_eq_true rfl) rfl (Nat.le_of_ble_eq_true rfl) (d' := d - 1) (by omega) (Nat.zero_le _) (Nat.zero_le _) (c_X7_changes (hR.t (r := t) ht) hr6 (cont_ret ?_))
    rw [kch_eq hst hr6]
    refine wp_if_eqB 95 dX11_recordChanges_25 (by decide) (fun c_25 => ?_) (fun c_25 => ?_)
    · rw [c_25, if_neg Bool.false_ne_true]
      refine wp_iincN (a := r) (lv' := [(2, vi (nI (r + 1))), (0, vr (some (nm 40 0))), (1, vr (some (nm 56 t)))]) 1 dX11_recordChanges_95 rfl (by decide) (by decide) rfl ?_
      refine wp_goto 12 dX11_recordChanges_98 (by decide) ?_
      refine wp_sub [(2, vi (nI (r + 1))), (0, vr (some (nm 40 0))), (1, vr (some (nm 56 t)))] (sb_cons (.head _) (sb_cons (.tail _ (.head _)) (sb_cons (.tail _ (.tail _ (.head _))) sb_nil))) ?_
      refine wp_pay (bc' := bc + 5 * m) (bs' := bs + 1100 * cgN (RS_tt S t) m (r + 1)) (by omega) (by omega) ?_
      rw [c_25, if_neg Bool.false_ne_true] at hq hcg
      exact ih (r + 1) X S _ (by rfl) (by omega) hR hs hB hG (by omega) (by omega) hq
    · rw [if_pos c_25] at hcg
      rw [if_pos c_25]
      refine wp_aload_n (i := 0) dX11_recordChanges_28 rfl rfl ?_
      refine wp_iload_n (i := 2) dX11_recordChanges_29 rfl rfl ?_
      refine wp_cV (y' := m_X11_referenceNumbered) 12 [vi (nI r)] [] 1 6 dX11_recordChanges_30 ml_X11_340 im_X11_referenceNumbered se_X11_referenceNumbered (by decide) hR.mk ok_X11_referenceNumbered rfl (Nat.le_of_ble_eq_true rfl) rfl (Nat.le_of_ble_eq_true rfl) (d' := d - 1) (by omega) (by omega) (by omega) (c_X11_referenceNumbered hR (by omega) (v := nI r) (t := r) (fun _ => ⟨rfl, hr⟩) (by omega) (by omega) (by omega) (fun g => absurd (ixB_of hr (by omega)) (by rw [g]; decide)) (fun _ _ _ => cont_ret ?_))
      refine wp_astore_n (i := 3) (lv' := [(3, vr (some (nm 53 r))), (2, vi (nI r)), (0, vr (some (nm 40 0))), (1, vr (some (nm 56 t)))]) dX11_recordChanges_33 rfl (by decide) rfl ?_
      refine wp_aload_n (i := 3) dX11_recordChanges_34 rfl rfl ?_
      refine wp_cV (y' := m_X5_latestValue) 7 [] [] 0 0 dX11_recordChanges_35 ml_X11_410 im_X5_latestValue se_X5_latestValue (by decide) (hR.r (r := r) hr).k0 ok_X5_latestValue rfl (Nat.le_of_ble_eq_true rfl) rfl (Nat.le_of_ble_eq_true rfl) (d' := d - 1) (by omega) (Nat.zero_le _) (Nat.zero_le _) (c_X5_latestValue (hR.r (r := r) hr) (by rw [hsr.2.2.2.1]; omega) (by rw [hsr.2.2.2.1]; omega) (by omega) (cont_ret ?_))
      rw [SR.lv hsr (by omega)]
      refine wp_topi (fun x_38 e_38 => ?_)
      refine wp_istore (i := 4) (lv' := [(4, vi x_38), (3, vr (some (nm 53 r))), (2, vi (nI r)), (0, vr (some (nm 40 0))), (1, vr (some (nm 56 t)))]) dX11_recordChanges_38 (by decide) rfl ?_
      subst e_38
      refine wp_aload_n (i := 0) dX11_recordChanges_40 rfl rfl ?_
      refine wp_aload_n (i := 1) dX11_recordChanges_41 rfl rfl ?_
      refine wp_iload_n (i := 2) dX11_recordChanges_42 rfl rfl ?_
      refine wp_cV (y' := m_X11_valueToCommit) 12 [vr (some (nm 56 t)), vi (nI r)] [] 1 6 dX11_recordChanges_43 ml_X11_572 im_X11_valueToCommit se_X11_valueToCommit (by decide) hR.mk ok_X11_valueToCommit rfl (Nat.le_of_ble_eq_true rfl) rfl (Nat.le_of_ble_eq_true rfl) (d' := d - 1) (by omega) (by omega) (by omega) (c_X11_valueToCommit hR hs hB ht hr (by omega) (by omega) (by omega) (cont_ret ?_))
      refine wp_topi (fun x_46 e_46 => ?_)
      refine wp_istore (i := 5) (lv' := [(5, vi x_46), (4, vi (lastq (RS_rr S r)).2), (3, vr (some (nm 53 r))), (2, vi (nI r)), (0, vr (some (nm 40 0))), (1, vr (some (nm 56 t)))]) dX11_recordChanges_46 (by decide) rfl ?_
      subst e_46
      refine wp_aload_n (i := 3) dX11_recordChanges_48 rfl rfl ?_
      refine wp_iload (i := 5) dX11_recordChanges_49 rfl ?_
      refine wp_aload_n (i := 0) dX11_recordChanges_51 rfl rfl ?_
      refine wp_get 12 10 (vi (nI (RS_mo S))) dX11_recordChanges_52 hR.mk (by decide) (by decide) fl_X11_56 (congrArg (fun z => toV (vi z)) (hR.i10.trans (congrArg nI hpr))) ?_
      refine wp_cV (y' := m_X5_come) 7 [vi (vth (RS_tt S t) (RS_rr S r) r), vi (nI (RS_mo S))] [] 0 0 dX11_recordChanges_55 ml_X11_578 im_X5_come se_X5_come (by decide) (hR.r (r := r) hr).k0 ok_X5_come rfl (Nat.le_of_ble_eq_true rfl) rfl (Nat.le_of_ble_eq_true rfl) (d' := d - 1) (by omega) (Nat.zero_le _) (Nat.zero_le _) (c_X5_come (hR.r (r := r) hr) (by rw [hsr.2.2.2.1]; exact hb1.1) (by rw [hsr.2.2.2.1, hsr.2.2.2.2.1]; exact hb1.2.1) (by rw [hsr.2.2.2.2.1]; exact hb1.2.2.1) (by omega) (fun h_hR1 O_hR1 F_hR1 => cont_void ?_))
      have hR1 := hR.upR hr F_hR1 O_hR1
      have hG2 := hG.tr (FRK.oR F_hR1)
      refine wp_aload_n (i := 0) dX11_recordChanges_58 rfl rfl ?_
      refine wp_get 12 11 (vr (some (nm 40 11))) dX11_recordChanges_59 hR1.mk (by decide) (by decide) fl_X11_62 (congrArg (fun z => toV (vr z)) (hR1.f11)) ?_
      refine wp_cV (y' := m_Jx4a65c_size_8abf5) 2 [] [] 0 0 dX11_recordChanges_62 ml_X11_417 im_Jx4a65c_size_8abf5 se_Jx4a65c_size_8abf5 (by decide) hR1.lg.k ok_Jx4a65c_size_8abf5 rfl (Nat.le_of_ble_eq_true rfl) rfl (Nat.le_of_ble_eq_true rfl) (d' := d - 1) (by omega) (Nat.zero_le _) (Nat.zero_le _) (c_LO_size (n := (CS_lg X).length) hR1.lg (cont_ret ?_))
      refine wp_sipush (nI 512) dX11_recordChanges_65 (by decide) ?_
      refine wp_icmp_geN 95 dX11_recordChanges_68 (by decide) (by omega) (by decide) (fun c_68 => absurd c_68 (by omega)) (fun c_68 => ?_)
      refine wp_aload_n (i := 0) dX11_recordChanges_71 rfl rfl ?_
      refine wp_get 12 11 (vr (some (nm 40 11))) dX11_recordChanges_72 hR1.mk (by decide) (by decide) fl_X11_62 (congrArg (fun z => toV (vr z)) (hR1.f11)) ?_
      refine wp_new 4 dX11_recordChanges_75 (by decide) kl_X11_423 ins_X1 ini_X1 (by omega) (by show 4 ≤ _; omega) (nm 68 (CS_lg X).length) (hR1.2.2.2.2.2.2.2.2.2.2.2 _ (Nat.le_refl _)) ?_
      refine wp_dup dX11_recordChanges_78 ?_
      refine wp_aload_n (i := 0) dX11_recordChanges_79 rfl rfl ?_
      refine wp_get 12 10 (vi (nI (RS_mo S))) dX11_recordChanges_80 (by rw [gk_mk, if_neg (by unfold nm; omega)]; exact hR1.mk) (by decide) (by decide) fl_X11_56 (congrArg (fun z => toV (vi z)) ((congrFun (ce_I (ce_mk (by unfold nm; omega))) 10).trans (hR1.i10.trans (congrArg nI hpr)))) ?_
      refine wp_iload_n (i := 2) dX11_recordChanges_83 rfl rfl ?_
      refine wp_iload (i := 4) dX11_recordChanges_84 rfl ?_
      refine wp_iload (i := 5) dX11_recordChanges_86 rfl ?_
      refine wp_cI (y' := m_X1_init) [vi (nI (RS_mo S)), vi (nI r), vi (lastq (RS_rr S r)).2, vi (vth (RS_tt S t) (RS_rr S r) r)] [vr (some (nm 68 (CS_lg X).length)), vr (some (nm 40 11))] 0 0 dX11_recordChanges_88 ml_X11_581 im_X1_init rfl rfl ok_X1_init rfl (Nat.le_of_ble_eq_true rfl) rfl (Nat.le_of_ble_eq_true rfl) (d' := d - 1) (by omega) (Nat.zero_le _) (Nat.zero_le _) (c_X1_init (i := (CS_lg X).length) (by omega) (fun h5 K5 F5 => cont_void ?_))
      have L5 : LOb h5 (nm 40 11) 69 0 68 (CS_lg X).length := hR1.lg.frm (F5 0 (by unfold nm; omega)) (F5 _ (by unfold nm; omega)) (fun z => F5 _ (by unfold nm; omega))
      refine wp_cV (y' := m_Jx4a65c_add_9ea2d) 2 [vr (some (nm 68 (CS_lg X).length))] [] 1 (10 + 2 * (CS_lg X).length) dX11_recordChanges_91 ml_X11_584 im_Jx4a65c_add_9ea2d se_Jx4a65c_add_9ea2d (by decide) L5.k ok_Jx4a65c_add_9ea2d rfl (Nat.le_of_ble_eq_true rfl) rfl (Nat.le_of_ble_eq_true rfl) (d' := d - 1) (by omega) (by omega) (by omega) (c_LO_add L5 (by rw [K5.1]; decide) (by rw [K5.1]; decide) (by omega) (by decide) (by decide) (by decide) (by omega) (Nat.le_refl _) (Nat.le_refl _) (fun h6 L6 C6 => cont_ret ?_))
      refine wp_pop dX11_recordChanges_94 ?_
      refine wp_iincN (a := r) (lv' := [(2, vi (nI (r + 1))), (5, vi (vth (RS_tt S t) (RS_rr S r) r)), (4, vi (lastq (RS_rr S r)).2), (3, vr (some (nm 53 r))), (0, vr (some (nm 40 0))), (1, vr (some (nm 56 t)))]) 1 dX11_recordChanges_95 rfl (by decide) (by decide) rfl ?_
      refine wp_goto 12 dX11_recordChanges_98 (by decide) ?_
      refine wp_sub [(2, vi (nI (r + 1))), (0, vr (some (nm 40 0))), (1, vr (some (nm 56 t)))] (sb_cons (.head _) (sb_cons (.tail _ (.tail _ (.tail _ (.tail _ (.head _))))) (sb_cons (.tail _ (.tail _ (.tail _ (.tail _ (.tail _ (.head _)))))) sb_nil))) ?_
      refine wp_pay (bc' := bc + 5 * m) (bs' := bs + 1100 * cgN (RS_tt S t) m (r + 1)) (by omega) (by omega) ?_
      rw [if_pos c_25] at hq
      have R9 := hR1.addL L6 (K5.frm (C6 _ (by unfold nm; omega) (fun z => by unfold nm; omega))) (fun b h1 h2 h3 => (C6 b h1 h2).trans (F5 b h3))
      have s9 := (hs.upR (r := r) (hsr.come hb1.1 hb1.2.1 (v := vth (RS_tt S t) (RS_rr S r) r) (m := RS_mo S))).log (q := (RS_mo S, r, (lastq (RS_rr S r)).2, vth (RS_tt S t) (RS_rr S r) r))
      have B9 := RB_rec hB hr0 (x := (lastq (RS_rr S r)).2) (v := vth (RS_tt S t) (RS_rr S r) r) (by omega)
      exact ih (r + 1) _ _ _ (by rfl) (by show r + 1 + m = CS_rn X; omega) R9.1 s9 B9 (hG2.tr R9.2) (by show (RS_lg S ++ [_]).length + m ≤ 6 * n; rw [len_1]; omega) (by show (RS_lg S ++ [_]).length + cgN (RS_tt S t) m (r + 1) ≤ 512; rw [len_1]; omega) hq
set_option maxRecDepth 100000 in
set_option maxHeartbeats 4000000 in
theorem c_X11_recordChanges {G : GG} {d bc bs : Nat} {h : Hp} {Q : Pst} {X : CS} {S : RS} (hR : CR h X) (hs : SIM X S) {n : Nat} (hB : RB n S) {t : Nat} (ht : t < 3) (hB2 : RB n (RS_umo S (RS_mo S + 1))) (hl : (RS_lg S).length + 6 ≤ 6 * n) (hcg : (RS_lg S).length + cgN (RS_tt S t) (RS_rn S) 0 ≤ 512) (hd : 11 ≤ d) (hbc : 30 ≤ bc) (hbs : 1100 * cgN (RS_tt S t) (RS_rn S) 0 ≤ bs) (hq : ∀ h' X', CR h' X' → SIM X' (cmC t (RS_rn S) 0 (RS_umo S (RS_mo S + 1))) → RB n (cmC t (RS_rn S) 0 (RS_umo S (RS_mo S + 1))) → FRK h h' → Q oVoid h') : WP G m_X11_recordChanges d 0 (aargs 0 [vr (some (nm 40 0)), vr (some (nm 56 t))]) [] h bc bs Q := by
  have hG := FRK.rf (h := h)
  have hrn : CS_rn X = RS_rn S := hs.1.1
  have han : CS_an X = RS_an S := hs.1.2.1
  have hbi : CS_bi X = RS_bg S := hs.1.2.2.1
  have hpr : CS_pr X = RS_mo S := hs.1.2.2.2.1
  have hlg : CS_lg X = RS_lg S := hs.1.2.2.2.2
  have hb0 := hB.1
  have hst := hs.2.2.2.1 t ht
  refine wp_sub [(0, vr (some (nm 40 0))), (1, vr (some (nm 56 t)))] (fun _ hz => hz) ?_
  refine wp_aload_n (i := 0) dX11_recordChanges_0 rfl rfl ?_
  refine wp_dup dX11_recordChanges_1 ?_
  refine wp_get 12 10 (vi (nI (RS_mo S))) dX11_recordChanges_2 hR.mk (by decide) (by decide) fl_X11_56 (congrArg (fun z => toV (vi z)) (hR.i10.trans (congrArg nI hpr))) ?_
  refine wp_iconst (nI 1) dX11_recordChanges_5 (by decide) ?_
  refine wp_iaddN dX11_recordChanges_6 ?_
  refine wp_putI 12 10 dX11_recordChanges_7 hR.mk (by decide) (by decide) (by decide) fl_X11_56 rfl (fun _ _ => rfl) rfl rfl ?_
  have hR1 := hR.wpr (x := ((RS_mo S) + 1))
  have hG2 := hG.tr (FRK.w (k := 10) (x := nI ((RS_mo S) + 1)) (by decide))
  refine wp_iconst (nI 0) dX11_recordChanges_10 (by decide) ?_
  refine wp_istore_n (i := 2) (lv' := [(2, vi (nI 0)), (0, vr (some (nm 40 0))), (1, vr (some (nm 56 t)))]) dX11_recordChanges_11 rfl (by decide) rfl ?_
  refine wp_sub [(2, vi (nI 0)), (0, vr (some (nm 40 0))), (1, vr (some (nm 56 t)))] (sb_cons (.head _) (sb_cons (.tail _ (.head _)) (sb_cons (.tail _ (.tail _ (.head _))) sb_nil))) ?_
  refine wp_pay (bc' := (bc - 30) + 5 * CS_rn X) (bs' := (bs - 1100 * cgN (RS_tt S t) (RS_rn S) 0) + 1100 * cgN (RS_tt S t) (CS_rn X) 0) (by omega) (by rw [hrn]; omega) ?_
  exact l_X11_record (y := RS_tt S t) ht (by omega) (CS_rn X) 0 _ _ _ (by rfl) (by show 0 + CS_rn X = CS_rn X; omega) hR1 hs.pr hB2 hG2 (by show (RS_lg S).length + CS_rn X ≤ 6 * n; omega) (by show (RS_lg S).length + cgN (RS_tt S t) (CS_rn X) 0 ≤ 512; rw [hrn]; exact hcg) (by rw [hrn]; exact hq)
