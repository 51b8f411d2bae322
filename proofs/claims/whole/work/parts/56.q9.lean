/-! The model: at, all, realised, chunks. -/
theorem enR_L {n : Nat} {x : Nat → QIS} (hW : QWs n x) {s : Nat} {r : Nat → Nat} (hs : s < n) (hL : QL n x r) : QL n x (enR x s r) := by
  unfold enR; split
  · exact bk0_L hW _ _ _ hs hL
  · exact rs1_L hW _ _ _ hs hL
theorem enR_at {n : Nat} {x : Nat → QIS} (hW : QWs n x) {s : Nat} {r : Nat → Nat} (hs : s < n) (hB : ¬ q_B (x s) = true) : (q_F (x s)).length ≤ enR x s r s := by
  unfold enR
  rw [if_neg hB, rs1]
  show _ ≤ va_up _ s _ s
  rw [va_up_app, if_pos rfl]
  exact Nat.le_max_right _ _
set_option maxRecDepth 100000 in
set_option maxHeartbeats 4000000 in
theorem c_X16_at {G : GG} {d bc bs : Nat} {h : Hp} {Q : Pst} {n : Nat} {x : Nat → QIS} (hX : QX n x) (hM : MSQ h n x) (hP : PO2 h) {u : Int32} {s : Nat} (hu : ixB u n = true → u = nI s ∧ s < n) {v : Int32} {p : Nat} (hv : ¬ v < 0 → v = nI p ∧ p < 2 ^ 31) (hd : 60 ≤ d) (hbc : s < n → PC n x (atR x s v p) + 16 ≤ bc + PC n x (rcx x) ∧ PS n x (atR x s v p) + 64 ≤ bs + PS n x (rcx x)) (hq : QO Q h (o_at n x u s v p))  : WP G m_X16_at d 0 (aargs 0 [vr (some (nm 1 0)), vi u, vi v]) [] h bc bs Q := by
  have hn12 := hX.1.2.1
  refine wp_sub [(0, vr (some (nm 1 0))), (1, vi u), (2, vi v)] (fun _ hz => hz) ?_
  refine wp_aload_n (i := 0) dX16_at_0 rfl rfl ?_
  refine wp_iconst (nI 0) dX16_at_1 (by decide) ?_
  refine wp_putI 17 0 dX16_at_2 hM.1.1 (by decide) (by decide) (by decide) fl_X16_63 rfl (fun _ _ => rfl) rfl rfl ?_
  have hM0 := hM.wI (i := 0) (k := 0) (v := nI 0) (by decide)
  have hG0 : FRS h (wI h (nm 1 0) 0 (nI 0)) := FRS.w0
  have hP0 := PO2.m (a := nm 1 0) (k := 0) (x := nI 0) hP
  refine wp_aload_n (i := 0) dX16_at_5 rfl rfl ?_
  refine wp_aload_n (i := 0) dX16_at_6 rfl rfl ?_
  refine wp_iload_n (i := 1) dX16_at_7 rfl rfl ?_
  refine wp_cV (y' := m_X16_noSequence) 17 [vi u] [vr (some (nm 1 0))] 0 0 dX16_at_8 ml_X16_179 im_X16_noSequence se_X16_noSequence (by decide) hM0.1.1 ok_X16_noSequence rfl (Nat.le_of_ble_eq_true rfl) rfl (Nat.le_of_ble_eq_true rfl) (d' := d - 1) (by omega) (Nat.zero_le _) (Nat.zero_le _) (c_X16_noSequence hM0 u (by omega) (cont_ret ?_))
  refine wp_iconst (nI 1) dX16_at_11 (by decide) ?_
  refine wp_cV (y' := m_X16_fails) 17 [vi (bI (!ixB u n)), vi (nI 1)] [] 0 0 dX16_at_12 ml_X16_102 im_X16_fails se_X16_fails (by decide) hM0.1.1 ok_X16_fails rfl (Nat.le_of_ble_eq_true rfl) rfl (Nat.le_of_ble_eq_true rfl) (d' := d - 1) (by omega) (Nat.zero_le _) (Nat.zero_le _) (c_flB hM0.1.1 wI_ss (!ixB u n) (nI 1) (by decide) (fun g_1 => cont_ret ?_) (fun g_1 => cont_ret ?_))
  · have hM1 := hM0.wI (i := 0) (k := 0) (v := nI 1) (by decide)
    have hG2 := hG0.tr (FRS.w0 (v := nI 1))
    have hP3 := PO2.m (a := nm 1 0) (k := 0) (x := nI 1) hP0
    refine wp_if_eqN 20 dX16_at_15 (by decide) (by decide) (fun c_15 => absurd c_15 (by decide)) (fun c_15 => ?_)
    refine wp_iconst (nI 0) dX16_at_18 (by decide) ?_
    refine wp_ireturn dX16_at_19 rfl ?_
    rw [show o_at n x u s v p = (nI 1, nI 0, n, x) from if_pos g_1] at hq
    exact hq _ hG2 wI_ss hM1 hP3
  · obtain ⟨eu, hs⟩ := hu (nt_f g_1)
    subst eu
    refine wp_if_eqN 20 dX16_at_15 (by decide) (by decide) (fun c_15 => ?_) (fun c_15 => absurd c_15 (by decide))
    refine wp_aload_n (i := 0) dX16_at_20 rfl rfl ?_
    refine wp_cV (y' := m_X16_keep) 17 [] [] 0 0 dX16_at_21 ml_X16_225 im_X16_keep se_X16_keep (by decide) hM0.1.1 ok_X16_keep rfl (Nat.le_of_ble_eq_true rfl) rfl (Nat.le_of_ble_eq_true rfl) (d' := d - 1) (by omega) (Nat.zero_le _) (Nat.zero_le _) (c_X16_keep hX.1 (hX.st hM0) hX.2.1.l (by omega) (fun H1 m1 i1 c1 => cont_void ?_))
    have g1 := hG0.tr (FRS.k12 c1)
    have p1 := hP0.k12 c1
    have t1 := (k12_th c1).trans wI_ss
    refine wp_aload_n (i := 0) dX16_at_24 rfl rfl ?_
    refine wp_aload_n (i := 0) dX16_at_25 rfl rfl ?_
    refine wp_get 17 11 (vr (some (nm 1 11))) dX16_at_26 m1.1.1 (by decide) (by decide) fl_X16_40 (congrArg (fun z => toV (vr z)) (m1.1.r 11 (by decide) (by decide) (by decide) (by decide))) ?_
    refine wp_iload_n (i := 1) dX16_at_29 rfl rfl ?_
    refine wp_cV (y' := m_Jx4a65c_get_915e3) 2 [vi (nI s)] [vr (some (nm 1 0))] 0 0 dX16_at_30 ml_X16_201 im_Jx4a65c_get_915e3 se_Jx4a65c_get_915e3 (by decide) m1.2.1.k ok_Jx4a65c_get_915e3 rfl (Nat.le_of_ble_eq_true rfl) rfl (Nat.le_of_ble_eq_true rfl) (d' := d - 1) (by omega) (Nat.zero_le _) (Nat.zero_le _) (c_LO_get m1.2.1 (by omega) (by omega) (cont_ret ?_))
    refine wp_castC 15 dX16_at_33 (by decide) kl_X16_170 (fun a ha => by cases ha; exact (m1.2.2.1 s hs).1.k0) ?_
    refine wp_iload_n (i := 2) dX16_at_36 rfl rfl ?_
    by_cases hv0 : v < 0
    · have hbc := hbc hs
      rw [show atR x s v p = enR x s (rcx x) from if_pos (Or.inl hv0)] at hbc
      by_cases hB : q_B (x s) = true
      · refine wp_cV (y' := m_X16_realiseTo) 17 [vr (some (nm 2 s)), vi v] [] bc bs dX16_at_37 ml_X16_228 im_X16_realiseTo se_X16_realiseTo (by decide) m1.1.1 ok_X16_realiseTo rfl (Nat.le_of_ble_eq_true rfl) rfl (Nat.le_of_ble_eq_true rfl) (d' := d - 1) (by omega) (by omega) (by omega) (c_X16_realiseToN hX.1 hs m1 hX.2.1 p1 (by omega) hv0 (by omega) (by omega) (fun H2 m2 p2 q2 => cont_ret ?_))
        rw [show enA x s = -1 from if_pos hB]
        have g2 := g1.tr (FRS.q q2)
        have t2 := q2.th.trans t1
        refine wp_istore_n (i := 3) (lv' := [(3, vi (-1)), (0, vr (some (nm 1 0))), (1, vi (nI s)), (2, vi v)]) dX16_at_40 rfl (by decide) rfl ?_
        refine wp_iload_n (i := 3) dX16_at_41 rfl rfl ?_
        refine wp_iconst (nI 1) dX16_at_42 (by decide) ?_
        refine wp_icmp_eq 50 dX16_at_43 (by decide) (fun c_43 => absurd c_43 (by decide)) (fun c_43 => ?_)
        refine wp_aload_n (i := 0) dX16_at_46 rfl rfl ?_
        refine wp_cV (y' := m_X16_takeBack) 17 [] [] 0 0 dX16_at_47 ml_X16_232 im_X16_takeBack se_X16_takeBack (by decide) m2.1.1 ok_X16_takeBack rfl (Nat.le_of_ble_eq_true rfl) rfl (Nat.le_of_ble_eq_true rfl) (d' := d - 1) (by omega) (Nat.zero_le _) (Nat.zero_le _) (c_X16_takeBack (r0 := rcx x) (r1 := enR x s (rcx x)) (κ := capR x (enR x s (rcx x))) hX.1 m2 p2 (fun j _ => enR_ge hX.1.1 hs j) (enR_L hX.1.1 hs hX.2.1.l) (fun j hj => by rw [congrFun (ce_I (q2.1 _ (by unfold WQQ nm; omega))) j]; exact i1 j hj) (by omega) (fun H3 m3 p3 q3 => cont_void ?_))
        have g3 := g2.tr (FRS.q q3)
        have t3 := q3.th.trans t2
        refine wp_aload_n (i := 0) dX16_at_50 rfl rfl ?_
        refine wp_iload_n (i := 3) dX16_at_51 rfl rfl ?_
        refine wp_if_ge 59 dX16_at_52 (by decide) (fun c_52 => absurd c_52 (by decide)) (fun c_52 => ?_)
        refine wp_iconst (nI 1) dX16_at_55 (by decide) ?_
        refine wp_goto 60 dX16_at_56 (by decide) ?_
        refine wp_iconst (nI 2) dX16_at_60 (by decide) ?_
        refine wp_cV (y' := m_X16_fails) 17 [vi (nI 1), vi (nI 2)] [] 0 0 dX16_at_61 ml_X16_102 im_X16_fails se_X16_fails (by decide) m3.1.1 ok_X16_fails rfl (Nat.le_of_ble_eq_true rfl) rfl (Nat.le_of_ble_eq_true rfl) (d' := d - 1) (by omega) (Nat.zero_le _) (Nat.zero_le _) (c_flT m3.1.1 t3 (nI 2) (by decide) (cont_ret ?_))
        have hM4 := m3.wI (i := 0) (k := 0) (v := nI 2) (by decide)
        have hG5 := g3.tr (FRS.w0 (v := nI 2))
        have hP6 := PO2.m (a := nm 1 0) (k := 0) (x := nI 2) p3
        refine wp_if_neN 84 dX16_at_64 (by decide) (by decide) (fun c_64 => ?_) (fun c_64 => absurd c_64 (by decide))
        refine wp_iconst (nI 0) dX16_at_84 (by decide) ?_
        refine wp_goto 103 dX16_at_85 (by decide) ?_
        refine wp_ireturn dX16_at_103 rfl ?_
        rw [show o_at n x (nI s) s v p = (nI 2, nI 0, n, gst x (rcx x) (capR x (enR x s (rcx x)))) from by unfold o_at; rw [if_neg (fun z => Bool.false_ne_true (g_1.symm.trans z)), if_pos (Or.inl hv0), if_pos hB]] at hq
        exact hq _ hG5 wI_ss hM4 hP6
      · refine wp_cV (y' := m_X16_realiseTo) 17 [vr (some (nm 2 s)), vi v] [] bc bs dX16_at_37 ml_X16_228 im_X16_realiseTo se_X16_realiseTo (by decide) m1.1.1 ok_X16_realiseTo rfl (Nat.le_of_ble_eq_true rfl) rfl (Nat.le_of_ble_eq_true rfl) (d' := d - 1) (by omega) (by omega) (by omega) (c_X16_realiseToN hX.1 hs m1 hX.2.1 p1 (by omega) hv0 (by omega) (by omega) (fun H2 m2 p2 q2 => cont_ret ?_))
        rw [show enA x s = nI 0 from if_neg hB]
        have g2 := g1.tr (FRS.q q2)
        have t2 := q2.th.trans t1
        refine wp_istore_n (i := 3) (lv' := [(3, vi (nI 0)), (0, vr (some (nm 1 0))), (1, vi (nI s)), (2, vi v)]) dX16_at_40 rfl (by decide) rfl ?_
        refine wp_iload_n (i := 3) dX16_at_41 rfl rfl ?_
        refine wp_iconst (nI 1) dX16_at_42 (by decide) ?_
        refine wp_icmp_eqN 50 dX16_at_43 (by decide) (by decide) (by decide) (fun c_43 => absurd c_43 (by decide)) (fun c_43 => ?_)
        refine wp_aload_n (i := 0) dX16_at_46 rfl rfl ?_
        refine wp_cV (y' := m_X16_takeBack) 17 [] [] 0 0 dX16_at_47 ml_X16_232 im_X16_takeBack se_X16_takeBack (by decide) m2.1.1 ok_X16_takeBack rfl (Nat.le_of_ble_eq_true rfl) rfl (Nat.le_of_ble_eq_true rfl) (d' := d - 1) (by omega) (Nat.zero_le _) (Nat.zero_le _) (c_X16_takeBack (r0 := rcx x) (r1 := enR x s (rcx x)) (κ := capR x (enR x s (rcx x))) hX.1 m2 p2 (fun j _ => enR_ge hX.1.1 hs j) (enR_L hX.1.1 hs hX.2.1.l) (fun j hj => by rw [congrFun (ce_I (q2.1 _ (by unfold WQQ nm; omega))) j]; exact i1 j hj) (by omega) (fun H3 m3 p3 q3 => cont_void ?_))
        have g3 := g2.tr (FRS.q q3)
        have t3 := q3.th.trans t2
        refine wp_aload_n (i := 0) dX16_at_50 rfl rfl ?_
        refine wp_iload_n (i := 3) dX16_at_51 rfl rfl ?_
        refine wp_if_geN 59 dX16_at_52 (by decide) (by decide) (fun c_52 => ?_) (fun c_52 => absurd c_52 (by decide))
        refine wp_iconst (nI 0) dX16_at_59 (by decide) ?_
        refine wp_iconst (nI 2) dX16_at_60 (by decide) ?_
        refine wp_cV (y' := m_X16_fails) 17 [vi (nI 0), vi (nI 2)] [] 0 0 dX16_at_61 ml_X16_102 im_X16_fails se_X16_fails (by decide) m3.1.1 ok_X16_fails rfl (Nat.le_of_ble_eq_true rfl) rfl (Nat.le_of_ble_eq_true rfl) (d' := d - 1) (by omega) (Nat.zero_le _) (Nat.zero_le _) (c_flF m3.1.1 t3 (nI 2) (by decide) (cont_ret ?_))
        skip
        refine wp_if_neN 84 dX16_at_64 (by decide) (by decide) (fun c_64 => absurd c_64 (by decide)) (fun c_64 => ?_)
        refine wp_aload_n (i := 0) dX16_at_67 rfl rfl ?_
        refine wp_iload_n (i := 3) dX16_at_68 rfl rfl ?_
        refine wp_if_neN 76 dX16_at_69 (by decide) (by decide) (fun c_69 => absurd c_69 (by decide)) (fun c_69 => ?_)
        refine wp_iconst (nI 1) dX16_at_72 (by decide) ?_
        refine wp_goto 77 dX16_at_73 (by decide) ?_
        refine wp_iconst (nI 3) dX16_at_77 (by decide) ?_
        refine wp_cV (y' := m_X16_fails) 17 [vi (nI 1), vi (nI 3)] [] 0 0 dX16_at_78 ml_X16_102 im_X16_fails se_X16_fails (by decide) m3.1.1 ok_X16_fails rfl (Nat.le_of_ble_eq_true rfl) rfl (Nat.le_of_ble_eq_true rfl) (d' := d - 1) (by omega) (Nat.zero_le _) (Nat.zero_le _) (c_flT m3.1.1 t3 (nI 3) (by decide) (cont_ret ?_))
        have hM10 := m3.wI (i := 0) (k := 0) (v := nI 3) (by decide)
        have hG11 := g3.tr (FRS.w0 (v := nI 3))
        have hP12 := PO2.m (a := nm 1 0) (k := 0) (x := nI 3) p3
        refine wp_if_eqN 88 dX16_at_81 (by decide) (by decide) (fun c_81 => absurd c_81 (by decide)) (fun c_81 => ?_)
        refine wp_iconst (nI 0) dX16_at_84 (by decide) ?_
        refine wp_goto 103 dX16_at_85 (by decide) ?_
        refine wp_ireturn dX16_at_103 rfl ?_
        rw [show o_at n x (nI s) s v p = (nI 3, nI 0, n, gst x (rcx x) (capR x (enR x s (rcx x)))) from by unfold o_at; rw [if_neg (fun z => Bool.false_ne_true (g_1.symm.trans z)), if_pos (Or.inl hv0), if_neg hB]] at hq
        exact hq _ hG11 wI_ss hM10 hP12
    · obtain ⟨ev, hp⟩ := hv hv0
      subst ev
      have hbc := hbc hs
      by_cases hpt : p < tot (q_F (x s))
      · rw [show atR x s (nI p) p = rs0 x (s + 1) s (cf (q_F (x s)) p) (rcx x) from if_neg (fun z => z.elim hv0 (fun z => by omega))] at hbc
        have hge : PC n x (rcx x) ≤ PC n x (rs0 x (s + 1) s (cf (q_F (x s)) p) (rcx x)) ∧ PS n x (rcx x) ≤ PS n x (rs0 x (s + 1) s (cf (q_F (x s)) p) (rcx x)) := ⟨PC_mono (fun j _ => rs0_ge hX.1.1 _ _ _ _ _ hs), PS_mono (fun j _ => rs0_ge hX.1.1 _ _ _ _ _ hs)⟩
        have ht24 := (hX.1.1 s hs).2.1
        have hTp : p < pre (q_F (x s)) (rs0 x (s + 1) s (cf (q_F (x s)) p) (rcx x) s) := by
          rw [rs0_at hX.1.1 hs]
          have a1 := cf_gt hpt
          have a3 := pre_mono (F := q_F (x s)) (Nat.le_max_right (rcx x s) (cf (q_F (x s)) p))
          omega
        have hT24 : tot ((q_F (x s)).take (rs0 x (s + 1) s (cf (q_F (x s)) p) (rcx x) s)) ≤ tot (q_F (x s)) := pre_le
        refine wp_cV (y' := m_X16_realiseTo) 17 [vr (some (nm 2 s)), vi (nI p)] [] ((bc - 1)) ((bs - 4)) dX16_at_37 ml_X16_228 im_X16_realiseTo se_X16_realiseTo (by decide) m1.1.1 ok_X16_realiseTo rfl (Nat.le_of_ble_eq_true rfl) rfl (Nat.le_of_ble_eq_true rfl) (d' := d - 1) (by omega) (by omega) (by omega) (c_X16_realiseToP hX.1 hs m1 hX.2.1 p1 (by omega) hp (fun _ => ⟨by omega, by omega⟩) (fun z => absurd hpt z) (fun _ H2 m2 p2 q2 => cont_ret ?_) (fun z => absurd hpt z))
        have g2 := g1.tr (FRS.q q2)
        have t2 := q2.th.trans t1
        refine wp_istore_n (i := 3) (lv' := [(3, vi (nI 1)), (0, vr (some (nm 1 0))), (1, vi (nI s)), (2, vi (nI p))]) dX16_at_40 rfl (by decide) rfl ?_
        refine wp_iload_n (i := 3) dX16_at_41 rfl rfl ?_
        refine wp_iconst (nI 1) dX16_at_42 (by decide) ?_
        refine wp_icmp_eqN 50 dX16_at_43 (by decide) (by decide) (by decide) (fun c_43 => ?_) (fun c_43 => absurd c_43 (by decide))
        refine wp_aload_n (i := 0) dX16_at_50 rfl rfl ?_
        refine wp_iload_n (i := 3) dX16_at_51 rfl rfl ?_
        refine wp_if_geN 59 dX16_at_52 (by decide) (by decide) (fun c_52 => ?_) (fun c_52 => absurd c_52 (by decide))
        refine wp_iconst (nI 0) dX16_at_59 (by decide) ?_
        refine wp_iconst (nI 2) dX16_at_60 (by decide) ?_
        refine wp_cV (y' := m_X16_fails) 17 [vi (nI 0), vi (nI 2)] [] 0 0 dX16_at_61 ml_X16_102 im_X16_fails se_X16_fails (by decide) m2.1.1 ok_X16_fails rfl (Nat.le_of_ble_eq_true rfl) rfl (Nat.le_of_ble_eq_true rfl) (d' := d - 1) (by omega) (Nat.zero_le _) (Nat.zero_le _) (c_flF m2.1.1 t2 (nI 2) (by decide) (cont_ret ?_))
        skip
        refine wp_if_neN 84 dX16_at_64 (by decide) (by decide) (fun c_64 => absurd c_64 (by decide)) (fun c_64 => ?_)
        refine wp_aload_n (i := 0) dX16_at_67 rfl rfl ?_
        refine wp_iload_n (i := 3) dX16_at_68 rfl rfl ?_
        refine wp_if_neN 76 dX16_at_69 (by decide) (by decide) (fun c_69 => ?_) (fun c_69 => absurd c_69 (by decide))
        refine wp_iconst (nI 0) dX16_at_76 (by decide) ?_
        refine wp_iconst (nI 3) dX16_at_77 (by decide) ?_
        refine wp_cV (y' := m_X16_fails) 17 [vi (nI 0), vi (nI 3)] [] 0 0 dX16_at_78 ml_X16_102 im_X16_fails se_X16_fails (by decide) m2.1.1 ok_X16_fails rfl (Nat.le_of_ble_eq_true rfl) rfl (Nat.le_of_ble_eq_true rfl) (d' := d - 1) (by omega) (Nat.zero_le _) (Nat.zero_le _) (c_flF m2.1.1 t2 (nI 3) (by decide) (cont_ret ?_))
        skip
        refine wp_if_eqN 88 dX16_at_81 (by decide) (by decide) (fun c_81 => ?_) (fun c_81 => absurd c_81 (by decide))
        refine wp_aload_n (i := 0) dX16_at_88 rfl rfl ?_
        refine wp_get 17 11 (vr (some (nm 1 11))) dX16_at_89 m2.1.1 (by decide) (by decide) fl_X16_40 (congrArg (fun z => toV (vr z)) (m2.1.r 11 (by decide) (by decide) (by decide) (by decide))) ?_
        refine wp_iload_n (i := 1) dX16_at_92 rfl rfl ?_
        refine wp_cV (y' := m_Jx4a65c_get_915e3) 2 [vi (nI s)] [] 0 0 dX16_at_93 ml_X16_201 im_Jx4a65c_get_915e3 se_Jx4a65c_get_915e3 (by decide) m2.2.1.k ok_Jx4a65c_get_915e3 rfl (Nat.le_of_ble_eq_true rfl) rfl (Nat.le_of_ble_eq_true rfl) (d' := d - 1) (by omega) (Nat.zero_le _) (Nat.zero_le _) (c_LO_get m2.2.1 (by omega) (by omega) (cont_ret ?_))
        refine wp_castC 15 dX16_at_96 (by decide) kl_X16_170 (fun a ha => by cases ha; exact (m2.2.2.1 s hs).1.k0) ?_
        refine wp_iload_n (i := 2) dX16_at_99 rfl rfl ?_
        have hL5 : LRw _ (nm 3 s) 26 s ((q_F (x s)).take (rs0 x (s + 1) s (cf (q_F (x s)) p) (rcx x) s)) := (m2.2.2.1 s hs).2.w
        obtain ⟨⟨K2, hK2⟩, K, hK⟩ := id p2
        refine wp_cV (y' := m_X14_at) 15 [vi (nI p)] [] 1 4 dX16_at_100 ml_X16_218 im_X14_at se_X14_at (by decide) (m2.2.2.1 s hs).1.k0 ok_X14_at rfl (Nat.le_of_ble_eq_true rfl) rfl (Nat.le_of_ble_eq_true rfl) (d' := d - 1) (by omega) (by omega) (by omega) (c_X14_at (m2.2.2.1 s hs).1 hL5 hK (by omega) (by omega) (Nat.le_refl _) (Nat.le_refl _) hTp (fun H5 C5 => cont_ret ?_))
        rw [atF_take _ _ _ hTp]
        refine wp_ireturn dX16_at_103 rfl ?_
        rw [show o_at n x (nI s) s (nI p) p = (nI 0, atF (q_F (x s)) p, n, setR x (rs0 x (s + 1) s (cf (q_F (x s)) p) (rcx x))) from by unfold o_at; rw [if_neg (fun z => Bool.false_ne_true (g_1.symm.trans z)), if_neg (fun z => z.elim hv0 (fun z => by omega))]] at hq
        exact hq _ (g2.tr (FRS.q (FRQ.it C5))) ((th_it C5).trans t2) (m2.it C5) (p2.itq hK C5)
      · rw [show atR x s (nI p) p = enR x s (rcx x) from if_pos (Or.inr (by omega))] at hbc
        by_cases hB : q_B (x s) = true
        · refine wp_cV (y' := m_X16_realiseTo) 17 [vr (some (nm 2 s)), vi (nI p)] [] bc bs dX16_at_37 ml_X16_228 im_X16_realiseTo se_X16_realiseTo (by decide) m1.1.1 ok_X16_realiseTo rfl (Nat.le_of_ble_eq_true rfl) rfl (Nat.le_of_ble_eq_true rfl) (d' := d - 1) (by omega) (by omega) (by omega) (c_X16_realiseToP hX.1 hs m1 hX.2.1 p1 (by omega) hp (fun z => absurd z hpt) (fun _ => ⟨by omega, by omega⟩) (fun z => absurd z hpt) (fun _ H2 m2 p2 q2 => cont_ret ?_))
          rw [show enA x s = -1 from if_pos hB]
          have g2 := g1.tr (FRS.q q2)
          have t2 := q2.th.trans t1
          refine wp_istore_n (i := 3) (lv' := [(3, vi (-1)), (0, vr (some (nm 1 0))), (1, vi (nI s)), (2, vi (nI p))]) dX16_at_40 rfl (by decide) rfl ?_
          refine wp_iload_n (i := 3) dX16_at_41 rfl rfl ?_
          refine wp_iconst (nI 1) dX16_at_42 (by decide) ?_
          refine wp_icmp_eq 50 dX16_at_43 (by decide) (fun c_43 => absurd c_43 (by decide)) (fun c_43 => ?_)
          refine wp_aload_n (i := 0) dX16_at_46 rfl rfl ?_
          refine wp_cV (y' := m_X16_takeBack) 17 [] [] 0 0 dX16_at_47 ml_X16_232 im_X16_takeBack se_X16_takeBack (by decide) m2.1.1 ok_X16_takeBack rfl (Nat.le_of_ble_eq_true rfl) rfl (Nat.le_of_ble_eq_true rfl) (d' := d - 1) (by omega) (Nat.zero_le _) (Nat.zero_le _) (c_X16_takeBack (r0 := rcx x) (r1 := enR x s (rcx x)) (κ := capR x (enR x s (rcx x))) hX.1 m2 p2 (fun j _ => enR_ge hX.1.1 hs j) (enR_L hX.1.1 hs hX.2.1.l) (fun j hj => by rw [congrFun (ce_I (q2.1 _ (by unfold WQQ nm; omega))) j]; exact i1 j hj) (by omega) (fun H3 m3 p3 q3 => cont_void ?_))
          have g3 := g2.tr (FRS.q q3)
          have t3 := q3.th.trans t2
          refine wp_aload_n (i := 0) dX16_at_50 rfl rfl ?_
          refine wp_iload_n (i := 3) dX16_at_51 rfl rfl ?_
          refine wp_if_ge 59 dX16_at_52 (by decide) (fun c_52 => absurd c_52 (by decide)) (fun c_52 => ?_)
          refine wp_iconst (nI 1) dX16_at_55 (by decide) ?_
          refine wp_goto 60 dX16_at_56 (by decide) ?_
          refine wp_iconst (nI 2) dX16_at_60 (by decide) ?_
          refine wp_cV (y' := m_X16_fails) 17 [vi (nI 1), vi (nI 2)] [] 0 0 dX16_at_61 ml_X16_102 im_X16_fails se_X16_fails (by decide) m3.1.1 ok_X16_fails rfl (Nat.le_of_ble_eq_true rfl) rfl (Nat.le_of_ble_eq_true rfl) (d' := d - 1) (by omega) (Nat.zero_le _) (Nat.zero_le _) (c_flT m3.1.1 t3 (nI 2) (by decide) (cont_ret ?_))
          have hM19 := m3.wI (i := 0) (k := 0) (v := nI 2) (by decide)
          have hG20 := g3.tr (FRS.w0 (v := nI 2))
          have hP21 := PO2.m (a := nm 1 0) (k := 0) (x := nI 2) p3
          refine wp_if_neN 84 dX16_at_64 (by decide) (by decide) (fun c_64 => ?_) (fun c_64 => absurd c_64 (by decide))
          refine wp_iconst (nI 0) dX16_at_84 (by decide) ?_
          refine wp_goto 103 dX16_at_85 (by decide) ?_
          refine wp_ireturn dX16_at_103 rfl ?_
          rw [show o_at n x (nI s) s (nI p) p = (nI 2, nI 0, n, gst x (rcx x) (capR x (enR x s (rcx x)))) from by unfold o_at; rw [if_neg (fun z => Bool.false_ne_true (g_1.symm.trans z)), if_pos (Or.inr (by omega)), if_pos hB]] at hq
          exact hq _ hG20 wI_ss hM19 hP21
        · refine wp_cV (y' := m_X16_realiseTo) 17 [vr (some (nm 2 s)), vi (nI p)] [] bc bs dX16_at_37 ml_X16_228 im_X16_realiseTo se_X16_realiseTo (by decide) m1.1.1 ok_X16_realiseTo rfl (Nat.le_of_ble_eq_true rfl) rfl (Nat.le_of_ble_eq_true rfl) (d' := d - 1) (by omega) (by omega) (by omega) (c_X16_realiseToP hX.1 hs m1 hX.2.1 p1 (by omega) hp (fun z => absurd z hpt) (fun _ => ⟨by omega, by omega⟩) (fun z => absurd z hpt) (fun _ H2 m2 p2 q2 => cont_ret ?_))
          rw [show enA x s = nI 0 from if_neg hB]
          have g2 := g1.tr (FRS.q q2)
          have t2 := q2.th.trans t1
          refine wp_istore_n (i := 3) (lv' := [(3, vi (nI 0)), (0, vr (some (nm 1 0))), (1, vi (nI s)), (2, vi (nI p))]) dX16_at_40 rfl (by decide) rfl ?_
          refine wp_iload_n (i := 3) dX16_at_41 rfl rfl ?_
          refine wp_iconst (nI 1) dX16_at_42 (by decide) ?_
          refine wp_icmp_eqN 50 dX16_at_43 (by decide) (by decide) (by decide) (fun c_43 => absurd c_43 (by decide)) (fun c_43 => ?_)
          refine wp_aload_n (i := 0) dX16_at_46 rfl rfl ?_
          refine wp_cV (y' := m_X16_takeBack) 17 [] [] 0 0 dX16_at_47 ml_X16_232 im_X16_takeBack se_X16_takeBack (by decide) m2.1.1 ok_X16_takeBack rfl (Nat.le_of_ble_eq_true rfl) rfl (Nat.le_of_ble_eq_true rfl) (d' := d - 1) (by omega) (Nat.zero_le _) (Nat.zero_le _) (c_X16_takeBack (r0 := rcx x) (r1 := enR x s (rcx x)) (κ := capR x (enR x s (rcx x))) hX.1 m2 p2 (fun j _ => enR_ge hX.1.1 hs j) (enR_L hX.1.1 hs hX.2.1.l) (fun j hj => by rw [congrFun (ce_I (q2.1 _ (by unfold WQQ nm; omega))) j]; exact i1 j hj) (by omega) (fun H3 m3 p3 q3 => cont_void ?_))
          have g3 := g2.tr (FRS.q q3)
          have t3 := q3.th.trans t2
          refine wp_aload_n (i := 0) dX16_at_50 rfl rfl ?_
          refine wp_iload_n (i := 3) dX16_at_51 rfl rfl ?_
          refine wp_if_geN 59 dX16_at_52 (by decide) (by decide) (fun c_52 => ?_) (fun c_52 => absurd c_52 (by decide))
          refine wp_iconst (nI 0) dX16_at_59 (by decide) ?_
          refine wp_iconst (nI 2) dX16_at_60 (by decide) ?_
          refine wp_cV (y' := m_X16_fails) 17 [vi (nI 0), vi (nI 2)] [] 0 0 dX16_at_61 ml_X16_102 im_X16_fails se_X16_fails (by decide) m3.1.1 ok_X16_fails rfl (Nat.le_of_ble_eq_true rfl) rfl (Nat.le_of_ble_eq_true rfl) (d' := d - 1) (by omega) (Nat.zero_le _) (Nat.zero_le _) (c_flF m3.1.1 t3 (nI 2) (by decide) (cont_ret ?_))
          skip
          refine wp_if_neN 84 dX16_at_64 (by decide) (by decide) (fun c_64 => absurd c_64 (by decide)) (fun c_64 => ?_)
          refine wp_aload_n (i := 0) dX16_at_67 rfl rfl ?_
          refine wp_iload_n (i := 3) dX16_at_68 rfl rfl ?_
          refine wp_if_neN 76 dX16_at_69 (by decide) (by decide) (fun c_69 => absurd c_69 (by decide)) (fun c_69 => ?_)
          refine wp_iconst (nI 1) dX16_at_72 (by decide) ?_
          refine wp_goto 77 dX16_at_73 (by decide) ?_
          refine wp_iconst (nI 3) dX16_at_77 (by decide) ?_
          refine wp_cV (y' := m_X16_fails) 17 [vi (nI 1), vi (nI 3)] [] 0 0 dX16_at_78 ml_X16_102 im_X16_fails se_X16_fails (by decide) m3.1.1 ok_X16_fails rfl (Nat.le_of_ble_eq_true rfl) rfl (Nat.le_of_ble_eq_true rfl) (d' := d - 1) (by omega) (Nat.zero_le _) (Nat.zero_le _) (c_flT m3.1.1 t3 (nI 3) (by decide) (cont_ret ?_))
          have hM25 := m3.wI (i := 0) (k := 0) (v := nI 3) (by decide)
          have hG26 := g3.tr (FRS.w0 (v := nI 3))
          have hP27 := PO2.m (a := nm 1 0) (k := 0) (x := nI 3) p3
          refine wp_if_eqN 88 dX16_at_81 (by decide) (by decide) (fun c_81 => absurd c_81 (by decide)) (fun c_81 => ?_)
          refine wp_iconst (nI 0) dX16_at_84 (by decide) ?_
          refine wp_goto 103 dX16_at_85 (by decide) ?_
          refine wp_ireturn dX16_at_103 rfl ?_
          rw [show o_at n x (nI s) s (nI p) p = (nI 3, nI 0, n, gst x (rcx x) (capR x (enR x s (rcx x)))) from by unfold o_at; rw [if_neg (fun z => Bool.false_ne_true (g_1.symm.trans z)), if_pos (Or.inr (by omega)), if_neg hB]] at hq
          exact hq _ hG26 wI_ss hM25 hP27
set_option maxRecDepth 100000 in
set_option maxHeartbeats 4000000 in
theorem c_X16_all {G : GG} {d bc bs : Nat} {h : Hp} {Q : Pst} {n : Nat} {x : Nat → QIS} (hX : QX n x) (hM : MSQ h n x) (hP : PO2 h) {u : Int32} {s : Nat} (hu : ixB u n = true → u = nI s ∧ s < n) (hd : 60 ≤ d) (hbc : s < n → PC n x (enR x s (rcx x)) + 16 ≤ bc + PC n x (rcx x) ∧ PS n x (enR x s (rcx x)) + 64 ≤ bs + PS n x (rcx x)) (hq : QO Q h (o_all n x u s))  : WP G m_X16_all d 0 (aargs 0 [vr (some (nm 1 0)), vi u]) [] h bc bs Q := by
  have hn12 := hX.1.2.1
  refine wp_sub [(0, vr (some (nm 1 0))), (1, vi u)] (fun _ hz => hz) ?_
  refine wp_aload_n (i := 0) dX16_all_0 rfl rfl ?_
  refine wp_iconst (nI 0) dX16_all_1 (by decide) ?_
  refine wp_putI 17 0 dX16_all_2 hM.1.1 (by decide) (by decide) (by decide) fl_X16_63 rfl (fun _ _ => rfl) rfl rfl ?_
  have hM0 := hM.wI (i := 0) (k := 0) (v := nI 0) (by decide)
  have hG0 : FRS h (wI h (nm 1 0) 0 (nI 0)) := FRS.w0
  have hP0 := PO2.m (a := nm 1 0) (k := 0) (x := nI 0) hP
  refine wp_aload_n (i := 0) dX16_all_5 rfl rfl ?_
  refine wp_aload_n (i := 0) dX16_all_6 rfl rfl ?_
  refine wp_iload_n (i := 1) dX16_all_7 rfl rfl ?_
  refine wp_cV (y' := m_X16_noSequence) 17 [vi u] [vr (some (nm 1 0))] 0 0 dX16_all_8 ml_X16_179 im_X16_noSequence se_X16_noSequence (by decide) hM0.1.1 ok_X16_noSequence rfl (Nat.le_of_ble_eq_true rfl) rfl (Nat.le_of_ble_eq_true rfl) (d' := d - 1) (by omega) (Nat.zero_le _) (Nat.zero_le _) (c_X16_noSequence hM0 u (by omega) (cont_ret ?_))
  refine wp_iconst (nI 1) dX16_all_11 (by decide) ?_
  refine wp_cV (y' := m_X16_fails) 17 [vi (bI (!ixB u n)), vi (nI 1)] [] 0 0 dX16_all_12 ml_X16_102 im_X16_fails se_X16_fails (by decide) hM0.1.1 ok_X16_fails rfl (Nat.le_of_ble_eq_true rfl) rfl (Nat.le_of_ble_eq_true rfl) (d' := d - 1) (by omega) (Nat.zero_le _) (Nat.zero_le _) (c_flB hM0.1.1 wI_ss (!ixB u n) (nI 1) (by decide) (fun g_1 => cont_ret ?_) (fun g_1 => cont_ret ?_))
  · have hM28 := hM0.wI (i := 0) (k := 0) (v := nI 1) (by decide)
    have hG29 := hG0.tr (FRS.w0 (v := nI 1))
    have hP30 := PO2.m (a := nm 1 0) (k := 0) (x := nI 1) hP0
    refine wp_if_eqN 20 dX16_all_15 (by decide) (by decide) (fun c_15 => absurd c_15 (by decide)) (fun c_15 => ?_)
    refine wp_iconst (nI 0) dX16_all_18 (by decide) ?_
    refine wp_ireturn dX16_all_19 rfl ?_
    rw [show o_all n x u s = (nI 1, nI 0, n, x) from if_pos g_1] at hq
    exact hq _ hG29 wI_ss hM28 hP30
  · obtain ⟨eu, hs⟩ := hu (nt_f g_1)
    subst eu
    refine wp_if_eqN 20 dX16_all_15 (by decide) (by decide) (fun c_15 => ?_) (fun c_15 => absurd c_15 (by decide))
    have hge : PC n x (rcx x) ≤ PC n x (enR x s (rcx x)) ∧ PS n x (rcx x) ≤ PS n x (enR x s (rcx x)) := ⟨PC_mono (fun j _ => enR_ge hX.1.1 hs j), PS_mono (fun j _ => enR_ge hX.1.1 hs j)⟩
    have hbc := hbc hs
    refine wp_aload_n (i := 0) dX16_all_20 rfl rfl ?_
    refine wp_cV (y' := m_X16_keep) 17 [] [] 0 0 dX16_all_21 ml_X16_225 im_X16_keep se_X16_keep (by decide) hM0.1.1 ok_X16_keep rfl (Nat.le_of_ble_eq_true rfl) rfl (Nat.le_of_ble_eq_true rfl) (d' := d - 1) (by omega) (Nat.zero_le _) (Nat.zero_le _) (c_X16_keep hX.1 (hX.st hM0) hX.2.1.l (by omega) (fun H1 m1 i1 c1 => cont_void ?_))
    have g1 := hG0.tr (FRS.k12 c1)
    have p1 := hP0.k12 c1
    have t1 := (k12_th c1).trans wI_ss
    refine wp_aload_n (i := 0) dX16_all_24 rfl rfl ?_
    refine wp_aload_n (i := 0) dX16_all_25 rfl rfl ?_
    refine wp_get 17 11 (vr (some (nm 1 11))) dX16_all_26 m1.1.1 (by decide) (by decide) fl_X16_40 (congrArg (fun z => toV (vr z)) (m1.1.r 11 (by decide) (by decide) (by decide) (by decide))) ?_
    refine wp_iload_n (i := 1) dX16_all_29 rfl rfl ?_
    refine wp_cV (y' := m_Jx4a65c_get_915e3) 2 [vi (nI s)] [vr (some (nm 1 0))] 0 0 dX16_all_30 ml_X16_201 im_Jx4a65c_get_915e3 se_Jx4a65c_get_915e3 (by decide) m1.2.1.k ok_Jx4a65c_get_915e3 rfl (Nat.le_of_ble_eq_true rfl) rfl (Nat.le_of_ble_eq_true rfl) (d' := d - 1) (by omega) (Nat.zero_le _) (Nat.zero_le _) (c_LO_get m1.2.1 (by omega) (by omega) (cont_ret ?_))
    refine wp_castC 15 dX16_all_33 (by decide) kl_X16_170 (fun a ha => by cases ha; exact (m1.2.2.1 s hs).1.k0) ?_
    refine wp_iconst (-1) dX16_all_36 (by decide) ?_
    by_cases hB : q_B (x s) = true
    · refine wp_cV (y' := m_X16_realiseTo) 17 [vr (some (nm 2 s)), vi (-1)] [] bc bs dX16_all_37 ml_X16_228 im_X16_realiseTo se_X16_realiseTo (by decide) m1.1.1 ok_X16_realiseTo rfl (Nat.le_of_ble_eq_true rfl) rfl (Nat.le_of_ble_eq_true rfl) (d' := d - 1) (by omega) (by omega) (by omega) (c_X16_realiseToN hX.1 hs m1 hX.2.1 p1 (by omega) (by decide) (by omega) (by omega) (fun H2 m2 p2 q2 => cont_ret ?_))
      rw [show enA x s = -1 from if_pos hB]
      have g2 := g1.tr (FRS.q q2)
      have t2 := q2.th.trans t1
      refine wp_if_ge 56 dX16_all_40 (by decide) (fun c_40 => absurd c_40 (by decide)) (fun c_40 => ?_)
      refine wp_aload_n (i := 0) dX16_all_43 rfl rfl ?_
      refine wp_cV (y' := m_X16_takeBack) 17 [] [] 0 0 dX16_all_44 ml_X16_232 im_X16_takeBack se_X16_takeBack (by decide) m2.1.1 ok_X16_takeBack rfl (Nat.le_of_ble_eq_true rfl) rfl (Nat.le_of_ble_eq_true rfl) (d' := d - 1) (by omega) (Nat.zero_le _) (Nat.zero_le _) (c_X16_takeBack (r0 := rcx x) (r1 := enR x s (rcx x)) (κ := capR x (enR x s (rcx x))) hX.1 m2 p2 (fun j _ => enR_ge hX.1.1 hs j) (enR_L hX.1.1 hs hX.2.1.l) (fun j hj => by rw [congrFun (ce_I (q2.1 _ (by unfold WQQ nm; omega))) j]; exact i1 j hj) (by omega) (fun H3 m3 p3 q3 => cont_void ?_))
      have g3 := g2.tr (FRS.q q3)
      have t3 := q3.th.trans t2
      refine wp_aload_n (i := 0) dX16_all_47 rfl rfl ?_
      refine wp_iconst (nI 1) dX16_all_48 (by decide) ?_
      refine wp_iconst (nI 2) dX16_all_49 (by decide) ?_
      refine wp_cV (y' := m_X16_fails) 17 [vi (nI 1), vi (nI 2)] [] 0 0 dX16_all_50 ml_X16_102 im_X16_fails se_X16_fails (by decide) m3.1.1 ok_X16_fails rfl (Nat.le_of_ble_eq_true rfl) rfl (Nat.le_of_ble_eq_true rfl) (d' := d - 1) (by omega) (Nat.zero_le _) (Nat.zero_le _) (c_flT m3.1.1 t3 (nI 2) (by decide) (cont_ret ?_))
      have hM31 := m3.wI (i := 0) (k := 0) (v := nI 2) (by decide)
      have hG32 := g3.tr (FRS.w0 (v := nI 2))
      have hP33 := PO2.m (a := nm 1 0) (k := 0) (x := nI 2) p3
      refine wp_pop dX16_all_53 ?_
      refine wp_iconst (nI 0) dX16_all_54 (by decide) ?_
      refine wp_ireturn dX16_all_55 rfl ?_
      rw [show o_all n x (nI s) s = (nI 2, nI 0, n, gst x (rcx x) (capR x (enR x s (rcx x)))) from by unfold o_all; rw [if_neg (fun z => Bool.false_ne_true (g_1.symm.trans z)), if_pos hB]] at hq
      exact hq _ hG32 wI_ss hM31 hP33
    · have h24 := (hX.1.1 s hs).2.1
      refine wp_cV (y' := m_X16_realiseTo) 17 [vr (some (nm 2 s)), vi (-1)] [] ((bc - 1)) ((bs - 4)) dX16_all_37 ml_X16_228 im_X16_realiseTo se_X16_realiseTo (by decide) m1.1.1 ok_X16_realiseTo rfl (Nat.le_of_ble_eq_true rfl) rfl (Nat.le_of_ble_eq_true rfl) (d' := d - 1) (by omega) (by omega) (by omega) (c_X16_realiseToN hX.1 hs m1 hX.2.1 p1 (by omega) (by decide) (by omega) (by omega) (fun H2 m2 p2 q2 => cont_ret ?_))
      rw [show enA x s = nI 0 from if_neg hB]
      have g2 := g1.tr (FRS.q q2)
      have t2 := q2.th.trans t1
      refine wp_if_geN 56 dX16_all_40 (by decide) (by decide) (fun c_40 => ?_) (fun c_40 => absurd c_40 (by decide))
      refine wp_aload_n (i := 0) dX16_all_56 rfl rfl ?_
      refine wp_get 17 11 (vr (some (nm 1 11))) dX16_all_57 m2.1.1 (by decide) (by decide) fl_X16_40 (congrArg (fun z => toV (vr z)) (m2.1.r 11 (by decide) (by decide) (by decide) (by decide))) ?_
      refine wp_iload_n (i := 1) dX16_all_60 rfl rfl ?_
      refine wp_cV (y' := m_Jx4a65c_get_915e3) 2 [vi (nI s)] [] 0 0 dX16_all_61 ml_X16_201 im_Jx4a65c_get_915e3 se_Jx4a65c_get_915e3 (by decide) m2.2.1.k ok_Jx4a65c_get_915e3 rfl (Nat.le_of_ble_eq_true rfl) rfl (Nat.le_of_ble_eq_true rfl) (d' := d - 1) (by omega) (Nat.zero_le _) (Nat.zero_le _) (c_LO_get m2.2.1 (by omega) (by omega) (cont_ret ?_))
      refine wp_castC 15 dX16_all_64 (by decide) kl_X16_170 (fun a ha => by cases ha; exact (m2.2.2.1 s hs).1.k0) ?_
      have hL34 : LRw _ (nm 3 s) 26 s ((q_F (x s)).take (enR x s (rcx x) s)) := (m2.2.2.1 s hs).2.w
      obtain ⟨⟨K2, hK2⟩, K, hK⟩ := id p2
      refine wp_cV (y' := m_X14_elements) 15 [] [] 1 4 dX16_all_67 ml_X16_211 im_X14_elements se_X14_elements (by decide) (m2.2.2.1 s hs).1.k0 ok_X14_elements rfl (Nat.le_of_ble_eq_true rfl) rfl (Nat.le_of_ble_eq_true rfl) (d' := d - 1) (by omega) (by omega) (by omega) (c_X14_elements (m2.2.2.1 s hs).1 hL34 hK (by omega) (by have := pre_le (F := q_F (x s)) (k := enR x s (rcx x) s); have e : pre (q_F (x s)) (enR x s (rcx x) s) = tot ((q_F (x s)).take (enR x s (rcx x) s)) := rfl; omega) (Nat.le_refl _) (Nat.le_refl _) (fun H5 C5 => cont_ret ?_))
      have m5 := m2.it C5
      have p5 := p2.itq hK C5
      have g5 := g2.tr (FRS.q (FRQ.it C5))
      have t5 := (th_it C5).trans t2
      refine wp_ireturn dX16_all_70 rfl ?_
      rw [show tot ((q_F (x s)).take (enR x s (rcx x) s)) = tot (q_F (x s)) from pre_all (enR_at hX.1.1 hs hB)]
      rw [show o_all n x (nI s) s = (nI 0, nI (tot (q_F (x s))), n, setR x (enR x s (rcx x))) from by unfold o_all; rw [if_neg (fun z => Bool.false_ne_true (g_1.symm.trans z)), if_neg hB]] at hq
      exact hq _ g5 t5 m5 p5
set_option maxRecDepth 100000 in
set_option maxHeartbeats 4000000 in
theorem c_X16_realised {G : GG} {d bc bs : Nat} {h : Hp} {Q : Pst} {n : Nat} {x : Nat → QIS} (hX : QX n x) (hM : MSQ h n x) (hP : PO2 h) {u : Int32} {s : Nat} (hu : ixB u n = true → u = nI s ∧ s < n) (hd : 60 ≤ d) (hbc : 1 ≤ bc) (hbs : 4 ≤ bs) (hq : QO Q h (o_realised n x u s))  : WP G m_X16_realised d 0 (aargs 0 [vr (some (nm 1 0)), vi u]) [] h bc bs Q := by
  have hn12 := hX.1.2.1
  refine wp_sub [(0, vr (some (nm 1 0))), (1, vi u)] (fun _ hz => hz) ?_
  refine wp_aload_n (i := 0) dX16_realised_0 rfl rfl ?_
  refine wp_iconst (nI 0) dX16_realised_1 (by decide) ?_
  refine wp_putI 17 0 dX16_realised_2 hM.1.1 (by decide) (by decide) (by decide) fl_X16_63 rfl (fun _ _ => rfl) rfl rfl ?_
  have hM0 := hM.wI (i := 0) (k := 0) (v := nI 0) (by decide)
  have hG0 : FRS h (wI h (nm 1 0) 0 (nI 0)) := FRS.w0
  have hP0 := PO2.m (a := nm 1 0) (k := 0) (x := nI 0) hP
  refine wp_aload_n (i := 0) dX16_realised_5 rfl rfl ?_
  refine wp_aload_n (i := 0) dX16_realised_6 rfl rfl ?_
  refine wp_iload_n (i := 1) dX16_realised_7 rfl rfl ?_
  refine wp_cV (y' := m_X16_noSequence) 17 [vi u] [vr (some (nm 1 0))] 0 0 dX16_realised_8 ml_X16_179 im_X16_noSequence se_X16_noSequence (by decide) hM0.1.1 ok_X16_noSequence rfl (Nat.le_of_ble_eq_true rfl) rfl (Nat.le_of_ble_eq_true rfl) (d' := d - 1) (by omega) (Nat.zero_le _) (Nat.zero_le _) (c_X16_noSequence hM0 u (by omega) (cont_ret ?_))
  refine wp_iconst (nI 1) dX16_realised_11 (by decide) ?_
  refine wp_cV (y' := m_X16_fails) 17 [vi (bI (!ixB u n)), vi (nI 1)] [] 0 0 dX16_realised_12 ml_X16_102 im_X16_fails se_X16_fails (by decide) hM0.1.1 ok_X16_fails rfl (Nat.le_of_ble_eq_true rfl) rfl (Nat.le_of_ble_eq_true rfl) (d' := d - 1) (by omega) (Nat.zero_le _) (Nat.zero_le _) (c_flB hM0.1.1 wI_ss (!ixB u n) (nI 1) (by decide) (fun g_1 => cont_ret ?_) (fun g_1 => cont_ret ?_))
  · have hM35 := hM0.wI (i := 0) (k := 0) (v := nI 1) (by decide)
    have hG36 := hG0.tr (FRS.w0 (v := nI 1))
    have hP37 := PO2.m (a := nm 1 0) (k := 0) (x := nI 1) hP0
    refine wp_if_eqN 22 dX16_realised_15 (by decide) (by decide) (fun c_15 => absurd c_15 (by decide)) (fun c_15 => ?_)
    refine wp_iconst (nI 0) dX16_realised_18 (by decide) ?_
    refine wp_goto 36 dX16_realised_19 (by decide) ?_
    refine wp_ireturn dX16_realised_36 rfl ?_
    rw [show o_realised n x u s = (nI 1, nI 0, n, x) from if_pos g_1] at hq
    exact hq _ hG36 wI_ss hM35 hP37
  · obtain ⟨eu, hs⟩ := hu (nt_f g_1)
    subst eu
    refine wp_if_eqN 22 dX16_realised_15 (by decide) (by decide) (fun c_15 => ?_) (fun c_15 => absurd c_15 (by decide))
    have h24 := (hX.1.1 s hs).2.1
    refine wp_aload_n (i := 0) dX16_realised_22 rfl rfl ?_
    refine wp_get 17 11 (vr (some (nm 1 11))) dX16_realised_23 hM0.1.1 (by decide) (by decide) fl_X16_40 (congrArg (fun z => toV (vr z)) (hM0.1.r 11 (by decide) (by decide) (by decide) (by decide))) ?_
    refine wp_iload_n (i := 1) dX16_realised_26 rfl rfl ?_
    refine wp_cV (y' := m_Jx4a65c_get_915e3) 2 [vi (nI s)] [] 0 0 dX16_realised_27 ml_X16_201 im_Jx4a65c_get_915e3 se_Jx4a65c_get_915e3 (by decide) hM0.2.1.k ok_Jx4a65c_get_915e3 rfl (Nat.le_of_ble_eq_true rfl) rfl (Nat.le_of_ble_eq_true rfl) (d' := d - 1) (by omega) (Nat.zero_le _) (Nat.zero_le _) (c_LO_get hM0.2.1 (by omega) (by omega) (cont_ret ?_))
    refine wp_castC 15 dX16_realised_30 (by decide) kl_X16_170 (fun a ha => by cases ha; exact (hM0.2.2.1 s hs).1.k0) ?_
    have hL38 : LRw _ (nm 3 s) 26 s ((q_F (x s)).take (q_rc (x s))) := (hM0.2.2.1 s hs).2.w
    obtain ⟨⟨K2, hK2⟩, K, hK⟩ := id hP0
    refine wp_cV (y' := m_X14_elements) 15 [] [] 1 4 dX16_realised_33 ml_X16_211 im_X14_elements se_X14_elements (by decide) (hM0.2.2.1 s hs).1.k0 ok_X14_elements rfl (Nat.le_of_ble_eq_true rfl) rfl (Nat.le_of_ble_eq_true rfl) (d' := d - 1) (by omega) (by omega) (by omega) (c_X14_elements (hM0.2.2.1 s hs).1 hL38 hK (by omega) (by have := pre_le (F := q_F (x s)) (k := q_rc (x s)); have e : pre (q_F (x s)) (q_rc (x s)) = tot ((q_F (x s)).take (q_rc (x s))) := rfl; omega) (Nat.le_refl _) (Nat.le_refl _) (fun H5 C5 => cont_ret ?_))
    have m5 := hM0.it C5
    have p5 := hP0.itq hK C5
    have g5 := hG0.tr (FRS.q (FRQ.it C5))
    have t5 := (th_it C5).trans wI_ss
    refine wp_ireturn dX16_realised_36 rfl ?_
    rw [show o_realised n x (nI s) s = (nI 0, nI (pre (q_F (x s)) (q_rc (x s))), n, x) from if_neg (fun z => Bool.false_ne_true (g_1.symm.trans z))] at hq
    exact hq _ g5 t5 m5 p5
set_option maxRecDepth 100000 in
set_option maxHeartbeats 4000000 in
theorem c_X16_chunks {G : GG} {d bc bs : Nat} {h : Hp} {Q : Pst} {n : Nat} {x : Nat → QIS} (hX : QX n x) (hM : MSQ h n x) (hP : PO2 h) {u : Int32} {s : Nat} (hu : ixB u n = true → u = nI s ∧ s < n) (hd : 60 ≤ d) (hq : QO Q h (o_chunks n x u s))  : WP G m_X16_chunks d 0 (aargs 0 [vr (some (nm 1 0)), vi u]) [] h bc bs Q := by
  have hn12 := hX.1.2.1
  refine wp_sub [(0, vr (some (nm 1 0))), (1, vi u)] (fun _ hz => hz) ?_
  refine wp_aload_n (i := 0) dX16_chunks_0 rfl rfl ?_
  refine wp_iconst (nI 0) dX16_chunks_1 (by decide) ?_
  refine wp_putI 17 0 dX16_chunks_2 hM.1.1 (by decide) (by decide) (by decide) fl_X16_63 rfl (fun _ _ => rfl) rfl rfl ?_
  have hM0 := hM.wI (i := 0) (k := 0) (v := nI 0) (by decide)
  have hG0 : FRS h (wI h (nm 1 0) 0 (nI 0)) := FRS.w0
  have hP0 := PO2.m (a := nm 1 0) (k := 0) (x := nI 0) hP
  refine wp_aload_n (i := 0) dX16_chunks_5 rfl rfl ?_
  refine wp_aload_n (i := 0) dX16_chunks_6 rfl rfl ?_
  refine wp_iload_n (i := 1) dX16_chunks_7 rfl rfl ?_
  refine wp_cV (y' := m_X16_noSequence) 17 [vi u] [vr (some (nm 1 0))] 0 0 dX16_chunks_8 ml_X16_179 im_X16_noSequence se_X16_noSequence (by decide) hM0.1.1 ok_X16_noSequence rfl (Nat.le_of_ble_eq_true rfl) rfl (Nat.le_of_ble_eq_true rfl) (d' := d - 1) (by omega) (Nat.zero_le _) (Nat.zero_le _) (c_X16_noSequence hM0 u (by omega) (cont_ret ?_))
  refine wp_iconst (nI 1) dX16_chunks_11 (by decide) ?_
  refine wp_cV (y' := m_X16_fails) 17 [vi (bI (!ixB u n)), vi (nI 1)] [] 0 0 dX16_chunks_12 ml_X16_102 im_X16_fails se_X16_fails (by decide) hM0.1.1 ok_X16_fails rfl (Nat.le_of_ble_eq_true rfl) rfl (Nat.le_of_ble_eq_true rfl) (d' := d - 1) (by omega) (Nat.zero_le _) (Nat.zero_le _) (c_flB hM0.1.1 wI_ss (!ixB u n) (nI 1) (by decide) (fun g_1 => cont_ret ?_) (fun g_1 => cont_ret ?_))
  · have hM39 := hM0.wI (i := 0) (k := 0) (v := nI 1) (by decide)
    have hG40 := hG0.tr (FRS.w0 (v := nI 1))
    have hP41 := PO2.m (a := nm 1 0) (k := 0) (x := nI 1) hP0
    refine wp_if_eqN 22 dX16_chunks_15 (by decide) (by decide) (fun c_15 => absurd c_15 (by decide)) (fun c_15 => ?_)
    refine wp_iconst (nI 0) dX16_chunks_18 (by decide) ?_
    refine wp_goto 39 dX16_chunks_19 (by decide) ?_
    refine wp_ireturn dX16_chunks_39 rfl ?_
    rw [show o_chunks n x u s = (nI 1, nI 0, n, x) from if_pos g_1] at hq
    exact hq _ hG40 wI_ss hM39 hP41
  · obtain ⟨eu, hs⟩ := hu (nt_f g_1)
    subst eu
    refine wp_if_eqN 22 dX16_chunks_15 (by decide) (by decide) (fun c_15 => ?_) (fun c_15 => absurd c_15 (by decide))
    refine wp_aload_n (i := 0) dX16_chunks_22 rfl rfl ?_
    refine wp_get 17 11 (vr (some (nm 1 11))) dX16_chunks_23 hM0.1.1 (by decide) (by decide) fl_X16_40 (congrArg (fun z => toV (vr z)) (hM0.1.r 11 (by decide) (by decide) (by decide) (by decide))) ?_
    refine wp_iload_n (i := 1) dX16_chunks_26 rfl rfl ?_
    refine wp_cV (y' := m_Jx4a65c_get_915e3) 2 [vi (nI s)] [] 0 0 dX16_chunks_27 ml_X16_201 im_Jx4a65c_get_915e3 se_Jx4a65c_get_915e3 (by decide) hM0.2.1.k ok_Jx4a65c_get_915e3 rfl (Nat.le_of_ble_eq_true rfl) rfl (Nat.le_of_ble_eq_true rfl) (d' := d - 1) (by omega) (Nat.zero_le _) (Nat.zero_le _) (c_LO_get hM0.2.1 (by omega) (by omega) (cont_ret ?_))
    refine wp_castC 15 dX16_chunks_30 (by decide) kl_X16_170 (fun a ha => by cases ha; exact (hM0.2.2.1 s hs).1.k0) ?_
    refine wp_get 15 5 (vr (some (nm 3 s))) dX16_chunks_33 (hM0.2.2.1 s hs).1.k0 (by decide) (by decide) fl_X16_182 (congrArg (fun z => toV (vr z)) ((hM0.2.2.1 s hs).1.r6_5)) ?_
    have hL : LRw _ (nm 3 s) 26 s ((q_F (x s)).take (q_rc (x s))) := (hM0.2.2.1 s hs).2.w
    refine wp_cV (y' := m_Jx4a65c_size_8abf5) 2 [] [] 0 0 dX16_chunks_36 ml_X16_168 im_Jx4a65c_size_8abf5 se_Jx4a65c_size_8abf5 (by decide) (hM0.2.2.1 s hs).2.k ok_Jx4a65c_size_8abf5 rfl (Nat.le_of_ble_eq_true rfl) rfl (Nat.le_of_ble_eq_true rfl) (d' := d - 1) (by omega) (Nat.zero_le _) (Nat.zero_le _) (c_LP_size hL (cont_ret ?_))
    rw [tk_len (hX.2.1 s hs).1]
    refine wp_ireturn dX16_chunks_39 rfl ?_
    rw [show o_chunks n x (nI s) s = (nI 0, nI (q_rc (x s)), n, x) from if_neg (fun z => Bool.false_ne_true (g_1.symm.trans z))] at hq
    exact hq _ hG0 wI_ss hM0 hP0
