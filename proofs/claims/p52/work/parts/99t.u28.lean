/-! The class: its calls about vectors, cut. -/
set_option maxRecDepth 100000 in
set_option maxHeartbeats 4000000 in
theorem c_X11_cut {G : GG} {d bc bs : Nat} {h : Hp} {Q : Pst} {S : SV} {M : Nat} (hS : SVI S) (hC : CV h S M) (hr : sMd S < 700000) {u : Int32} {k : Nat} (hu : ixB u (sNv S) = true → u = nI k ∧ k < sNv S) (hd : 10 ≤ d) (hbc : 20 ≤ bc) (hbs : 400 ≤ bs) (hq : KOV Q h ["java/lang/IndexOutOfBoundsException", "java/lang/UnsupportedOperationException", "java/util/NoSuchElementException", "java/lang/IllegalStateException"] M (o_cut S u k)) : WP G m_X11_cut d 0 (aargs 0 [vr (some (nm 40 0)), vi u]) [] h bc bs Q := by
  have q8 : clN 10 = 5 := rfl
  have hn60 := hS.1
  obtain ⟨K, fK⟩ := hC.2.2.2.2.2.2
  rcases Nat.eq_zero_or_pos (sSz S k) with z0 | z0
  · skip
    refine wp_sub [(0, vr (some (nm 40 0))), (1, vi u)] (fun _ hz => hz) ?_
    refine wp_aload_n (i := 0) dX11_cut_0 rfl rfl ?_
    refine wp_iload_n (i := 1) dX11_cut_1 rfl rfl ?_
    refine wp_cV (y' := m_X11_valueNumbered) 12 [vi u] [] 1 6 dX11_cut_2 ml_X11_87 im_X11_valueNumbered se_X11_valueNumbered (by decide) hC.1.1.1 ok_X11_valueNumbered rfl (Nat.le_of_ble_eq_true rfl) rfl (Nat.le_of_ble_eq_true rfl) (d' := d - 1) (by omega) (by omega) (by omega) (c_X11_valueNumbered hC.1 (by omega) (v := u) (t := k) hu (by omega) (by omega) (by omega) (fun g_s => cont_thr rfl ?_) (fun b_s eu hk => cont_ret ?_))
    · rw [show o_cut S u k = (nI 1, nI 0, S) from by unfold o_cut; rw [if_pos (by rw [g_s]; rfl)]] at hq
      exact (hq h M (Nat.le_refl _) (by omega) hC FRV.rf).1 0 _ rfl rfl
    · subst eu
      obtain ⟨⟨x, hO, hsz, hx⟩, hT⟩ := hC.2.2.1 k hk
      have hP := hS.2.1 k hk
      have hkd := VAP.kd hx
      have hk4 : KU_kd x < 4 := by rw [hkd]; exact (kdN_v hP.1).2.2.2.2.1
      have hz64 : sSz S k ≤ 64 := hP.2.1
      have hzs : KU_sz x = sSz S k := hsz
      refine wp_astore_n (i := 2) (lv' := [(2, vr (some (nm 42 k))), (0, vr (some (nm 40 0))), (1, vi (nI k))]) dX11_cut_5 rfl (by decide) rfl ?_
      refine wp_aload_n (i := 2) dX11_cut_6 rfl rfl ?_
      refine wp_iconst (nI 0) dX11_cut_7 (by decide) ?_
      refine wp_cS (y' := m_X11_refuseUnless) [vr (some (nm 42 k)), vi (nI 0)] [] 1 6 dX11_cut_8 ml_X11_95 st_X11_refuseUnless ok_X11_refuseUnless rfl (Nat.le_of_ble_eq_true rfl) rfl (Nat.le_of_ble_eq_true rfl) (d' := d - 1) (by omega) (by omega) (by omega) (c_X11_refuseUnless hO (k := 0) hk4 (by decide) (by omega) (by omega) (by omega) (fun g_k => cont_thr rfl ?_) (fun b_k => cont_void ?_))
      · have g_t : sTy S k ≠ 118 := fun z => g_k (hkd.trans ((kdN_v hP.1).1.mpr z))
        rw [show o_cut S (nI k) k = (nI 2, nI 0, S) from by unfold o_cut; rw [if_neg (by rw [b_s]; decide), if_pos g_t]] at hq
        exact (hq h M (Nat.le_refl _) (by omega) hC FRV.rf).1 1 _ rfl rfl
      · have ht : sTy S k = 118 := (kdN_v hP.1).1.mp (hkd.symm.trans b_k)
        obtain ⟨-, -, v1, v2, a, v3, v4⟩ := VAP.v hx ht
        have hv9 : pvec (vp S k) := Or.inl ht
        refine wp_aload_n (i := 2) dX11_cut_11 rfl rfl ?_
        refine wp_get 10 2 (vi (nI 0)) dX11_cut_12 hO.k0 (by decide) (by decide) fl_X11_103 (congrArg (fun z => toV (vi z)) (hO.f_sz.trans (congrArg nI (hsz.trans z0)))) ?_
        refine wp_iconst (nI 1) dX11_cut_15 (by decide) ?_
        refine wp_isub dX11_cut_16 ?_
        refine wp_topi (fun x_17 e_17 => ?_)
        refine wp_istore_n (i := 3) (lv' := [(3, vi x_17), (2, vr (some (nm 42 k))), (0, vr (some (nm 40 0))), (1, vi (nI k))]) dX11_cut_17 rfl (by decide) rfl ?_
        refine wp_iload_n (i := 3) dX11_cut_18 rfl rfl ?_
        refine wp_if_ge 32 dX11_cut_19 (by decide) (fun c_19 => absurd c_19 (by rw [e_17]; decide)) (fun c_19 => ?_)
        refine wp_throwNL dX11_cut_22 dX11_cut_25 dX11_cut_26 dX11_cut_28 dX11_cut_31 rfl sr_X11_139 rfl (by omega) (by omega) (by omega) ?_
        rw [show o_cut S (nI k) k = (nI 3, nI 0, S) from by unfold o_cut; rw [if_neg (by rw [b_s]; decide), if_neg (fun z => z ht), if_pos z0]] at hq
        exact (hq h M (Nat.le_refl _) (by omega) hC FRV.rf).1 2 _ rfl rfl
  · obtain ⟨pl, ep⟩ : ∃ pl, sSz S k = pl + 1 := ⟨sSz S k - 1, by omega⟩
    refine wp_sub [(0, vr (some (nm 40 0))), (1, vi u)] (fun _ hz => hz) ?_
    refine wp_aload_n (i := 0) dX11_cut_0 rfl rfl ?_
    refine wp_iload_n (i := 1) dX11_cut_1 rfl rfl ?_
    refine wp_cV (y' := m_X11_valueNumbered) 12 [vi u] [] 1 6 dX11_cut_2 ml_X11_87 im_X11_valueNumbered se_X11_valueNumbered (by decide) hC.1.1.1 ok_X11_valueNumbered rfl (Nat.le_of_ble_eq_true rfl) rfl (Nat.le_of_ble_eq_true rfl) (d' := d - 1) (by omega) (by omega) (by omega) (c_X11_valueNumbered hC.1 (by omega) (v := u) (t := k) hu (by omega) (by omega) (by omega) (fun g_s => cont_thr rfl ?_) (fun b_s eu hk => cont_ret ?_))
    · rw [show o_cut S u k = (nI 1, nI 0, S) from by unfold o_cut; rw [if_pos (by rw [g_s]; rfl)]] at hq
      exact (hq h M (Nat.le_refl _) (by omega) hC FRV.rf).1 0 _ rfl rfl
    · subst eu
      obtain ⟨⟨x, hO, hsz, hx⟩, hT⟩ := hC.2.2.1 k hk
      have hP := hS.2.1 k hk
      have hkd := VAP.kd hx
      have hk4 : KU_kd x < 4 := by rw [hkd]; exact (kdN_v hP.1).2.2.2.2.1
      have hz64 : sSz S k ≤ 64 := hP.2.1
      have hzs : KU_sz x = sSz S k := hsz
      refine wp_astore_n (i := 2) (lv' := [(2, vr (some (nm 42 k))), (0, vr (some (nm 40 0))), (1, vi (nI k))]) dX11_cut_5 rfl (by decide) rfl ?_
      refine wp_aload_n (i := 2) dX11_cut_6 rfl rfl ?_
      refine wp_iconst (nI 0) dX11_cut_7 (by decide) ?_
      refine wp_cS (y' := m_X11_refuseUnless) [vr (some (nm 42 k)), vi (nI 0)] [] 1 6 dX11_cut_8 ml_X11_95 st_X11_refuseUnless ok_X11_refuseUnless rfl (Nat.le_of_ble_eq_true rfl) rfl (Nat.le_of_ble_eq_true rfl) (d' := d - 1) (by omega) (by omega) (by omega) (c_X11_refuseUnless hO (k := 0) hk4 (by decide) (by omega) (by omega) (by omega) (fun g_k => cont_thr rfl ?_) (fun b_k => cont_void ?_))
      · have g_t : sTy S k ≠ 118 := fun z => g_k (hkd.trans ((kdN_v hP.1).1.mpr z))
        rw [show o_cut S (nI k) k = (nI 2, nI 0, S) from by unfold o_cut; rw [if_neg (by rw [b_s]; decide), if_pos g_t]] at hq
        exact (hq h M (Nat.le_refl _) (by omega) hC FRV.rf).1 1 _ rfl rfl
      · have ht : sTy S k = 118 := (kdN_v hP.1).1.mp (hkd.symm.trans b_k)
        obtain ⟨-, -, v1, v2, a, v3, v4⟩ := VAP.v hx ht
        have hv9 : pvec (vp S k) := Or.inl ht
        refine wp_aload_n (i := 2) dX11_cut_11 rfl rfl ?_
        refine wp_get 10 2 (vi (nI (pl + 1))) dX11_cut_12 hO.k0 (by decide) (by decide) fl_X11_103 (congrArg (fun z => toV (vi z)) (hO.f_sz.trans (congrArg nI (hsz.trans ep)))) ?_
        refine wp_iconst (nI 1) dX11_cut_15 (by decide) ?_
        refine wp_isubN dX11_cut_16 (by omega) ?_
        show WP _ _ _ _ _ [vi (nI pl)] _ _ _ _
        refine wp_istore_n (i := 3) (lv' := [(3, vi (nI pl)), (2, vr (some (nm 42 k))), (0, vr (some (nm 40 0))), (1, vi (nI k))]) dX11_cut_17 rfl (by decide) rfl ?_
        refine wp_iload_n (i := 3) dX11_cut_18 rfl rfl ?_
        refine wp_if_geN 32 dX11_cut_19 (by decide) (by omega) (fun c_19 => ?_) (fun c_19 => absurd c_19 (fun z => z))
        refine wp_aload_n (i := 0) dX11_cut_32 rfl rfl ?_
        refine wp_cV (y' := m_X11_refuseMoreValues) 12 [] [] 1 6 dX11_cut_33 ml_X11_76 im_X11_refuseMoreValues se_X11_refuseMoreValues (by decide) hC.1.1.1 ok_X11_refuseMoreValues rfl (Nat.le_of_ble_eq_true rfl) rfl (Nat.le_of_ble_eq_true rfl) (d' := d - 1) (by omega) (by omega) (by omega) (c_X11_refuseMoreValues hC.1 (by omega) (by omega) (by omega) (by omega) (fun g_m => cont_thr rfl ?_) (fun b_m => cont_void ?_))
        · rw [show o_cut S (nI k) k = (nI 4, nI 0, S) from by unfold o_cut; rw [if_neg (by rw [b_s]; decide), if_neg (fun z => z ht), if_neg (show ¬ sSz S k = 0 by omega), if_pos (by omega)]] at hq
          exact (hq h M (Nat.le_refl _) (by omega) hC FRV.rf).1 3 _ rfl rfl
        · skip
          have hpl : pl < 64 := by omega
          have N := NVF.cut (c := 118) hk hpl ep
          generalize hS9 : s_nf (s_4 (s_dup S 118 k) (sNv S) (sSz S k - 1)) (sNv S) k = S9 at N
          refine wp_aload_n (i := 0) dX11_cut_36 rfl rfl ?_
          refine wp_aload_n (i := 0) dX11_cut_37 rfl rfl ?_
          refine wp_get 12 2 (vr (some (nm 40 2))) dX11_cut_38 hC.1.1.1 (by decide) (by decide) fl_X11_22 (congrArg (fun z => toV (vr z)) (hC.1.1.2.2.2.1)) ?_
          refine wp_aload_n (i := 2) dX11_cut_41 rfl rfl ?_
          refine wp_get 10 1 (vr (some (nm 45 (ndv S k (rtS (pl + 1)))))) dX11_cut_42 hO.k0 (by decide) (by decide) fl_X11_116 (congrArg (fun z => toV (vr z)) ((hO.o_tp.trans v1).trans (congrArg (fun z => some (nm 45 (ndv S k (rtS z)))) ep))) ?_
          refine wp_aload_n (i := 2) dX11_cut_45 rfl rfl ?_
          refine wp_get 10 2 (vi (nI (pl + 1))) dX11_cut_46 hO.k0 (by decide) (by decide) fl_X11_103 (congrArg (fun z => toV (vi z)) (hO.f_sz.trans (congrArg nI (hsz.trans ep)))) ?_
          refine wp_cS (y' := m_X9_withOneLess) [vr (some (nm 40 2)), vr (some (nm 45 (ndv S k (rtS (pl + 1))))), vi (nI (pl + 1))] [vr (some (nm 40 0))] 12 273 dX11_cut_49 ml_X11_144 st_X9_withOneLess ok_X9_withOneLess rfl (Nat.le_of_ble_eq_true rfl) rfl (Nat.le_of_ble_eq_true rfl) (d' := d - 1) (by omega) (by omega) (by omega) (c_lessN hS hC hk hv9 hr hpl ep N (by omega) (by omega) (by omega) (fun h3 V3 O3 M3 F3 => cont_ret ?_))
          have v5 := v4.frm (F3 _ (by unfold VN nm; omega))
          refine wp_iload_n (i := 3) dX11_cut_52 rfl rfl ?_
          refine wp_aload_n (i := 2) dX11_cut_53 rfl rfl ?_
          refine wp_get 10 4 (vr (some (nm 43 a))) dX11_cut_54 ((ce_k (F3 _ (by unfold VN nm; omega))).trans hO.k0) (by decide) (by decide) fl_X11_106 (congrArg (fun z => toV (vr z)) ((congrFun (ce_R (F3 (nm 42 k) (by unfold VN nm; omega))) 4).trans (hO.o_pe.trans v3))) ?_
          refine wp_iload_n (i := 3) dX11_cut_57 rfl rfl ?_
          refine wp_cS (y' := m_J7_copyOf_59c91) [vr (some (nm 43 a)), vi (nI pl)] [vi (nI pl), vr (some (nm 45 (ndv S9 (sNv S) (rtS pl)))), vr (some (nm 40 0))] 1 70 dX11_cut_58 ml_X11_110 st_J7_copyOf_59c91 ok_J7_copyOf_59c91 rfl (Nat.le_of_ble_eq_true rfl) rfl (Nat.le_of_ble_eq_true rfl) (d' := d - 1) (by omega) (by omega) (by omega) (c_J7_copyI (q := nm 43 K) v5.1 (by rw [v5.2.1]; omega) (by omega) ((ce_k (F3 _ (by unfold VN nm; omega))).trans (fK K (Nat.le_refl _))) (by omega) (by omega) (by omega) (fun h4 k1 n1 e1 e2 F1 => cont_ret ?_))
          have F9 : Fr h h4 (VX K (sMd S) (sMd S9)) := fun b hb => (F1 b (fun z => hb (Or.inr (Or.inl z)))).trans (F3 b (fun z => hb (Or.inl z)))
          have C4 : CVh h4 (sNv S) M := hC.1.frm (F9 _ (by unfold VX VN nm; omega)) (F9 _ (by unfold VX VN nm; omega))
          have g1 : ∀ r i, 45 ≤ r → r ≤ 48 → ce h4 (nm r i) = ce h3 (nm r i) := fun r i r1 r2 => F1 _ (by unfold nm; omega)
          have R4 : PRr h4 (nm 43 K) pl (elv S k) := ⟨k1, n1, fun j hj => by rw [e1 j (by rw [v5.2.1]; omega)]; exact v5.2.2 j (by omega)⟩
          refine wp_cV (y' := m_X11_keepVector) 12 [vr (some (nm 45 (ndv S9 (sNv S) (rtS pl)))), vi (nI pl), vr (some (nm 43 K))] [] 1 5 dX11_cut_61 ml_X11_83 im_X11_keepVector se_X11_keepVector (by decide) (C4.1.1) ok_X11_keepVector rfl (Nat.le_of_ble_eq_true rfl) rfl (Nat.le_of_ble_eq_true rfl) (d' := d - 1) (by omega) (by omega) (by omega) (c_X11_keepVector C4 (by omega) (by omega) ((ce_k (F9 _ (by unfold VX VN nm; omega))).trans (hC.2.2.2.1 _ (Nat.le_refl _))) (by omega) (by omega) (by omega) (fun h5 C5 K5 G5 V5 => cont_ret ?_))
          have E9 := hC.vecEnd N.1.1 N.1.2.1 N.1.2.2.1 N.1.2.2.2.1 N.1.2.2.2.2.1 (nv_le N) fK F9 R4 (V3.frm (fun s r _ _ r1 r2 => g1 r _ r1 r2)) (fun s s1 s2 => by rw [ce_I (g1 45 _ (by decide) (by decide))]; exact O3 s s1 s2) (M3.frm (F1 _ (by unfold nm; omega))) C5 K5 G5 V5
          refine wp_ireturn dX11_cut_64 rfl ?_
          rw [show o_cut S (nI k) k = (nI 0, nI (sNv S), s_nf (s_4 (s_dup S 118 k) (sNv S) (sSz S k - 1)) (sNv S) k) from by unfold o_cut; rw [if_neg (by rw [b_s]; decide), if_neg (fun z => z ht), if_neg (show ¬ sSz S k = 0 by omega), if_neg (by omega)]] at hq
          rw [hS9] at hq
          exact (hq h5 M (Nat.le_refl _) (by omega) E9.1 E9.2).2 rfl
theorem vecB_kd {t : Nat} (ht : t = 118 ∨ t = 111 ∨ t = 109 ∨ t = 120) : (decide (t = 118) || decide (t = 111)) = decide (kdN t < 2) := by
  rcases ht with rfl | rfl | rfl | rfl <;> rfl
set_option maxRecDepth 100000 in
set_option maxHeartbeats 4000000 in
theorem c_X11_depth {G : GG} {d bc bs : Nat} {h : Hp} {Q : Pst} {S : SV} {M : Nat} (hS : SVI S) (hC : CV h S M) (hr : sMd S < 700000) {u : Int32} {k : Nat} (hu : ixB u (sNv S) = true → u = nI k ∧ k < sNv S) (hd : 10 ≤ d) (hbc : 6 ≤ bc) (hbs : 40 ≤ bs) (hq : KOV Q h ["java/lang/IndexOutOfBoundsException", "java/lang/UnsupportedOperationException"] M (o_depth S u k)) : WP G m_X11_depth d 0 (aargs 0 [vr (some (nm 40 0)), vi u]) [] h bc bs Q := by
  have q8 : clN 10 = 5 := rfl
  have hn60 := hS.1
  obtain ⟨K, fK⟩ := hC.2.2.2.2.2.2
  refine wp_sub [(0, vr (some (nm 40 0))), (1, vi u)] (fun _ hz => hz) ?_
  refine wp_aload_n (i := 0) dX11_depth_0 rfl rfl ?_
  refine wp_iload_n (i := 1) dX11_depth_1 rfl rfl ?_
  refine wp_cV (y' := m_X11_valueNumbered) 12 [vi u] [] 1 6 dX11_depth_2 ml_X11_87 im_X11_valueNumbered se_X11_valueNumbered (by decide) hC.1.1.1 ok_X11_valueNumbered rfl (Nat.le_of_ble_eq_true rfl) rfl (Nat.le_of_ble_eq_true rfl) (d' := d - 1) (by omega) (by omega) (by omega) (c_X11_valueNumbered hC.1 (by omega) (v := u) (t := k) hu (by omega) (by omega) (by omega) (fun g_s => cont_thr rfl ?_) (fun b_s eu hk => cont_ret ?_))
  · rw [show o_depth S u k = (nI 1, nI 0, S) from by unfold o_depth; rw [if_pos (by rw [g_s]; rfl)]] at hq
    exact (hq h M (Nat.le_refl _) (by omega) hC FRV.rf).1 0 _ rfl rfl
  · subst eu
    obtain ⟨⟨x, hO, hsz, hx⟩, hT⟩ := hC.2.2.1 k hk
    have hP := hS.2.1 k hk
    have hkd := VAP.kd hx
    have hk4 : KU_kd x < 4 := by rw [hkd]; exact (kdN_v hP.1).2.2.2.2.1
    have hz64 : sSz S k ≤ 64 := hP.2.1
    have hzs : KU_sz x = sSz S k := hsz
    refine wp_astore_n (i := 2) (lv' := [(2, vr (some (nm 42 k))), (0, vr (some (nm 40 0))), (1, vi (nI k))]) dX11_depth_5 rfl (by decide) rfl ?_
    refine wp_aload_n (i := 2) dX11_depth_6 rfl rfl ?_
    refine wp_cV (y' := m_X8_isLiveVector) 10 [] [] 0 0 dX11_depth_7 ml_X11_148 im_X8_isLiveVector se_X8_isLiveVector (by decide) hO.k0 ok_X8_isLiveVector rfl (Nat.le_of_ble_eq_true rfl) rfl (Nat.le_of_ble_eq_true rfl) (d' := d - 1) (by omega) (Nat.zero_le _) (Nat.zero_le _) (c_X8_isLiveVector hO hk4 (cont_ret ?_))
    refine wp_if_neB 23 dX11_depth_10 (by decide) (fun c_10 => ?_) (fun c_10 => ?_)
    · skip
      refine wp_aload_n (i := 2) dX11_depth_23 rfl rfl ?_
      refine wp_get 10 2 (vi (nI (sSz S k))) dX11_depth_24 hO.k0 (by decide) (by decide) fl_X11_103 (congrArg (fun z => toV (vi z)) (hO.f_sz.trans (congrArg nI hsz))) ?_
      refine wp_cS (y' := m_X9_depthFor) [vi (nI (sSz S k))] [] 0 0 dX11_depth_27 ml_X11_157 st_X9_depthFor ok_X9_depthFor rfl (Nat.le_of_ble_eq_true rfl) rfl (Nat.le_of_ble_eq_true rfl) (d' := d - 1) (by omega) (Nat.zero_le _) (Nat.zero_le _) (c_X9_depthFor (by omega) (cont_ret ?_))
      refine wp_ireturn dX11_depth_30 rfl ?_
      rw [show o_depth S (nI k) k = (nI 0, nI (dOf (sSz S k)), S) from by unfold o_depth; rw [if_neg (by rw [b_s]; decide), if_neg (show ¬ vecB S k = false by rw [show vecB S k = true from ((vecB_kd hP.1).trans (congrArg (fun z => decide (z < 2)) hkd.symm)).trans c_10]; decide)]] at hq
      exact (hq h M (Nat.le_refl _) (by omega) (hC) (FRV.rf)).2 rfl
    · skip
      refine wp_throwL dX11_depth_13 dX11_depth_16 dX11_depth_17 dX11_depth_19 dX11_depth_22 th_152 sr_X11_154 rfl (by omega) (by omega) (by omega) ?_
      rw [show o_depth S (nI k) k = (nI 2, nI 0, S) from by unfold o_depth; rw [if_neg (by rw [b_s]; decide), if_pos (show vecB S k = false from ((vecB_kd hP.1).trans (congrArg (fun z => decide (z < 2)) hkd.symm)).trans c_10)]] at hq
      exact (hq h M (Nat.le_refl _) (by omega) hC FRV.rf).1 1 _ rfl rfl
set_option maxRecDepth 100000 in
set_option maxHeartbeats 4000000 in
theorem c_X11_size {G : GG} {d bc bs : Nat} {h : Hp} {Q : Pst} {S : SV} {M : Nat} (hS : SVI S) (hC : CV h S M) (hr : sMd S < 700000) {u : Int32} {k : Nat} (hu : ixB u (sNv S) = true → u = nI k ∧ k < sNv S) (hd : 10 ≤ d) (hbc : 6 ≤ bc) (hbs : 40 ≤ bs) (hq : KOV Q h ["java/lang/IndexOutOfBoundsException"] M (o_size S u k)) : WP G m_X11_size d 0 (aargs 0 [vr (some (nm 40 0)), vi u]) [] h bc bs Q := by
  have q8 : clN 10 = 5 := rfl
  have hn60 := hS.1
  obtain ⟨K, fK⟩ := hC.2.2.2.2.2.2
  refine wp_sub [(0, vr (some (nm 40 0))), (1, vi u)] (fun _ hz => hz) ?_
  refine wp_aload_n (i := 0) dX11_size_0 rfl rfl ?_
  refine wp_iload_n (i := 1) dX11_size_1 rfl rfl ?_
  refine wp_cV (y' := m_X11_valueNumbered) 12 [vi u] [] 1 6 dX11_size_2 ml_X11_87 im_X11_valueNumbered se_X11_valueNumbered (by decide) hC.1.1.1 ok_X11_valueNumbered rfl (Nat.le_of_ble_eq_true rfl) rfl (Nat.le_of_ble_eq_true rfl) (d' := d - 1) (by omega) (by omega) (by omega) (c_X11_valueNumbered hC.1 (by omega) (v := u) (t := k) hu (by omega) (by omega) (by omega) (fun g_s => cont_thr rfl ?_) (fun b_s eu hk => cont_ret ?_))
  · rw [show o_size S u k = (nI 1, nI 0, S) from by unfold o_size; rw [if_pos (by rw [g_s]; rfl)]] at hq
    exact (hq h M (Nat.le_refl _) (by omega) hC FRV.rf).1 0 _ rfl rfl
  · subst eu
    obtain ⟨⟨x, hO, hsz, hx⟩, hT⟩ := hC.2.2.1 k hk
    have hP := hS.2.1 k hk
    have hkd := VAP.kd hx
    have hk4 : KU_kd x < 4 := by rw [hkd]; exact (kdN_v hP.1).2.2.2.2.1
    have hz64 : sSz S k ≤ 64 := hP.2.1
    have hzs : KU_sz x = sSz S k := hsz
    refine wp_get 10 2 (vi (nI (sSz S k))) dX11_size_5 hO.k0 (by decide) (by decide) fl_X11_103 (congrArg (fun z => toV (vi z)) (hO.f_sz.trans (congrArg nI hsz))) ?_
    refine wp_ireturn dX11_size_8 rfl ?_
    rw [show o_size S (nI k) k = (nI 0, nI (sSz S k), S) from by unfold o_size; rw [if_neg (by rw [b_s]; decide)]] at hq
    exact (hq h M (Nat.le_refl _) (by omega) (hC) (FRV.rf)).2 rfl
set_option maxRecDepth 100000 in
set_option maxHeartbeats 4000000 in
theorem c_X11_isOpen {G : GG} {d bc bs : Nat} {h : Hp} {Q : Pst} {S : SV} {M : Nat} (hS : SVI S) (hC : CV h S M) (hr : sMd S < 700000) {u : Int32} {k : Nat} (hu : ixB u (sNv S) = true → u = nI k ∧ k < sNv S) (hd : 10 ≤ d) (hbc : 6 ≤ bc) (hbs : 40 ≤ bs) (hq : KOV Q h ["java/lang/IndexOutOfBoundsException"] M (o_isOpen S u k)) : WP G m_X11_isOpen d 0 (aargs 0 [vr (some (nm 40 0)), vi u]) [] h bc bs Q := by
  have q8 : clN 10 = 5 := rfl
  have hn60 := hS.1
  obtain ⟨K, fK⟩ := hC.2.2.2.2.2.2
  refine wp_sub [(0, vr (some (nm 40 0))), (1, vi u)] (fun _ hz => hz) ?_
  refine wp_aload_n (i := 0) dX11_isOpen_0 rfl rfl ?_
  refine wp_iload_n (i := 1) dX11_isOpen_1 rfl rfl ?_
  refine wp_cV (y' := m_X11_valueNumbered) 12 [vi u] [] 1 6 dX11_isOpen_2 ml_X11_87 im_X11_valueNumbered se_X11_valueNumbered (by decide) hC.1.1.1 ok_X11_valueNumbered rfl (Nat.le_of_ble_eq_true rfl) rfl (Nat.le_of_ble_eq_true rfl) (d' := d - 1) (by omega) (by omega) (by omega) (c_X11_valueNumbered hC.1 (by omega) (v := u) (t := k) hu (by omega) (by omega) (by omega) (fun g_s => cont_thr rfl ?_) (fun b_s eu hk => cont_ret ?_))
  · rw [show o_isOpen S u k = (nI 1, nI 0, S) from by unfold o_isOpen; rw [if_pos (by rw [g_s]; rfl)]] at hq
    exact (hq h M (Nat.le_refl _) (by omega) hC FRV.rf).1 0 _ rfl rfl
  · subst eu
    obtain ⟨⟨x, hO, hsz, hx⟩, hT⟩ := hC.2.2.1 k hk
    have hP := hS.2.1 k hk
    have hkd := VAP.kd hx
    have hk4 : KU_kd x < 4 := by rw [hkd]; exact (kdN_v hP.1).2.2.2.2.1
    have hz64 : sSz S k ≤ 64 := hP.2.1
    have hzs : KU_sz x = sSz S k := hsz
    refine wp_get 10 0 (vi (nI (KU_kd x))) dX11_isOpen_5 hO.k0 (by decide) (by decide) fl_X11_179 (congrArg (fun z => toV (vi z)) (hO.f_kd)) ?_
    refine wp_iconst (nI 1) dX11_isOpen_8 (by decide) ?_
    refine wp_icmp_neN 16 dX11_isOpen_9 (by decide) (by omega) (by decide) (fun c_9 => ?_) (fun c_9 => ?_)
    · skip
      refine wp_iconst (nI 0) dX11_isOpen_16 (by decide) ?_
      refine wp_zreturn dX11_isOpen_17 rfl (by first | rfl | assumption) ?_
      rw [hkd] at c_9
      rw [show o_isOpen S (nI k) k = (nI 0, bI false, S) from by unfold o_isOpen; rw [if_neg (by rw [b_s]; decide), show decide (sTy S k = 111) = false from decide_eq_false (fun z => c_9 (by rw [(kdN_v hP.1).2.1.mpr z]))]] at hq
      exact (hq h M (Nat.le_refl _) (by omega) hC FRV.rf).2 rfl
    · skip
      refine wp_iconst (nI 1) dX11_isOpen_12 (by decide) ?_
      refine wp_goto 17 dX11_isOpen_13 (by decide) ?_
      refine wp_zreturn dX11_isOpen_17 rfl (by first | rfl | assumption) ?_
      rw [hkd] at c_9
      rw [show o_isOpen S (nI k) k = (nI 0, bI true, S) from by unfold o_isOpen; rw [if_neg (by rw [b_s]; decide), show decide (sTy S k = 111) = true from decide_eq_true ((kdN_v hP.1).2.1.mp (by omega))]] at hq
      exact (hq h M (Nat.le_refl _) (by omega) hC FRV.rf).2 rfl
