/-! isMade. -/
set_option maxRecDepth 100000 in
set_option maxHeartbeats 4000000 in
theorem c_L_isMade {G : GG} {d c n m0 : Nat} {Q : Pst} {V : SV} {x : Nat → QIS} {R : RS} {v u : Nat} (B : PU c V n x R) (hc : c ≤ 512) (hv : v < sNv V) (hu : u < sNv V) (hm : nsN V v = shN V v u + (sMd V - m0) ∧ m0 ≤ sMd V) (hd : 30 ≤ d) {h : Hp} {M bc bs : Nat} (C : CLS h V M n x R) (hM : M + 10 < 900000) (hbc : 24 ≤ bc) (hbs : 160 ≤ bs) (hq : ∀ h' M', M ≤ M' → M' ≤ M + 4 → CLS h' V M' n x R → FK h h' → Q (oRet (vi (nI 1))) h') : WP G m_L_isMade d 0 (aargs 0 [vr (some (nm 40 0)), vi (nI v), vi (nI u), vl (nI m0).toInt64]) [] h bc bs Q := by
  have hn60 := B.1.1
  have hn : sNv V < 2 ^ 31 := by omega
  have hv1 : v < 2 ^ 31 := by omega
  have hu1 : u < 2 ^ 31 := by omega
  have hmd := B.2.2.1
  have hns := @ns_le V v
  have hsh := @sh_le V v u
  have hsh2 := @sh_le V u v
  refine wp_sub [(0, vr (some (nm 40 0))), (1, vi (nI v)), (2, vi (nI u)), (3, vl (nI m0).toInt64)] (fun _ hz => hz) ?_
  refine wp_aload_n (i := 0) dL_isMade_0 rfl rfl ?_
  refine wp_cV (y' := m_X11_made) 12 [] [] 0 0 dL_isMade_1 ml_L_187 im_X11_made se_X11_made (by decide) C.hk ok_X11_made rfl (Nat.le_of_ble_eq_true rfl) rfl (Nat.le_of_ble_eq_true rfl) (d' := d - 1) (by omega) (Nat.zero_le _) (Nat.zero_le _) (c_X11_made C.2.2 (cont_ret ?_))
  refine wp_lload_n (i := 3) dL_isMade_4 rfl rfl ?_
  refine wp_lsub dL_isMade_5 ?_
  rw [l64_sub hm.2 (by omega)]
  refine wp_aload_n (i := 0) dL_isMade_6 rfl rfl ?_
  refine wp_iconst (nI 5) dL_isMade_7 (by decide) ?_
  refine wp_iload_n (i := 1) dL_isMade_8 rfl rfl ?_
  refine wp_iconst (nI 0) dL_isMade_9 (by decide) ?_
  refine wp_cSH (y' := m_L_ask) [vr (some (nm 40 0)), vi (nI 5), vi (nI v), vi (nI 0)] [vl (nI (sMd V - m0)).toInt64] 6 40 dL_isMade_10 ml_L_184 st_L_ask okH_L_ask rfl (Nat.le_of_ble_eq_true rfl) rfl (Nat.le_of_ble_eq_true rfl) (d' := d - 1) (by omega) (by omega) (by omega) (q_nodes (k := v) hv1 B hc C (by omega) (by omega) (by omega) (fun h1 M1 ma1 mb1 C1 F1 => cont_ret ?_))
  rw [r_nodes] at C1
  rw [an_nodes hv hn]
  refine wp_aload_n (i := 0) dL_isMade_13 rfl rfl ?_
  refine wp_bipush (nI 6) dL_isMade_14 (by decide) ?_
  refine wp_iload_n (i := 1) dL_isMade_16 rfl rfl ?_
  refine wp_iload_n (i := 2) dL_isMade_17 rfl rfl ?_
  refine wp_cSH (y' := m_L_ask) [vr (some (nm 40 0)), vi (nI 6), vi (nI v), vi (nI u)] [vi (nI (nsN V v)), vl (nI (sMd V - m0)).toInt64] 6 40 dL_isMade_18 ml_L_184 st_L_ask okH_L_ask rfl (Nat.le_of_ble_eq_true rfl) rfl (Nat.le_of_ble_eq_true rfl) (d' := d - 1) (by omega) (by omega) (by omega) (q_shared (k := v) hv1 (k2 := u) hu1 B hc C1 (by omega) (by omega) (by omega) (by omega) (fun h2 M2 ma2 mb2 C2 F2 => cont_ret ?_))
  rw [r_shared] at C2
  rw [an_shared hv hu hn]
  have G2 := F1.tr F2
  refine wp_isubN dL_isMade_21 (by omega) ?_
  refine wp_i2l dL_isMade_22 ?_
  refine wp_lcmp dL_isMade_23 ?_
  rw [show sMd V - m0 = nsN V v - shN V v u by omega, lg_same]
  refine wp_if_ne 50 dL_isMade_24 (by decide) (fun c_24 => absurd c_24 (fun z => z rfl)) (fun c_24 => ?_)
  refine wp_aload_n (i := 0) dL_isMade_27 rfl rfl ?_
  refine wp_bipush (nI 6) dL_isMade_28 (by decide) ?_
  refine wp_iload_n (i := 2) dL_isMade_30 rfl rfl ?_
  refine wp_iload_n (i := 1) dL_isMade_31 rfl rfl ?_
  refine wp_cSH (y' := m_L_ask) [vr (some (nm 40 0)), vi (nI 6), vi (nI u), vi (nI v)] [] 6 40 dL_isMade_32 ml_L_184 st_L_ask okH_L_ask rfl (Nat.le_of_ble_eq_true rfl) rfl (Nat.le_of_ble_eq_true rfl) (d' := d - 1) (by omega) (by omega) (by omega) (q_shared (k := u) hu1 (k2 := v) hv1 B hc C2 (by omega) (by omega) (by omega) (by omega) (fun h3 M3 ma3 mb3 C3 F3 => cont_ret ?_))
  rw [r_shared] at C3
  rw [an_shared hu hv hn]
  have G3 := G2.tr F3
  refine wp_aload_n (i := 0) dL_isMade_35 rfl rfl ?_
  refine wp_bipush (nI 6) dL_isMade_36 (by decide) ?_
  refine wp_iload_n (i := 1) dL_isMade_38 rfl rfl ?_
  refine wp_iload_n (i := 2) dL_isMade_39 rfl rfl ?_
  refine wp_cSH (y' := m_L_ask) [vr (some (nm 40 0)), vi (nI 6), vi (nI v), vi (nI u)] [vi (nI (shN V u v))] 6 40 dL_isMade_40 ml_L_184 st_L_ask okH_L_ask rfl (Nat.le_of_ble_eq_true rfl) rfl (Nat.le_of_ble_eq_true rfl) (d' := d - 1) (by omega) (by omega) (by omega) (q_shared (k := v) hv1 (k2 := u) hu1 B hc C3 (by omega) (by omega) (by omega) (by omega) (fun h4 M4 ma4 mb4 C4 F4 => cont_ret ?_))
  rw [r_shared] at C4
  rw [an_shared hv hu hn]
  have G4 := G3.tr F4
  refine wp_icmp_neN 50 dL_isMade_43 (by decide) (by omega) (by omega) (fun c_43 => absurd c_43 (by rw [sh_sym]; exact fun z => z rfl)) (fun c_43 => ?_)
  refine wp_iconst (nI 1) dL_isMade_46 (by decide) ?_
  refine wp_goto 51 dL_isMade_47 (by decide) ?_
  refine wp_zreturn dL_isMade_51 rfl (by decide) ?_
  exact hq _ _ (by omega) (by omega) C4 G4
