/-! The helpers about sequences and references. -/
set_option maxRecDepth 100000 in
set_option maxHeartbeats 4000000 in
theorem g_range {G : GG} {d bc bs c M n : Nat} {h : Hp} {Q : Pst} {V : SV} {x : Nat → QIS} {R : RS} {a : Int32} {b : Int32} {c9 : Int32} (B : PUR c V M n x R) (hc : c < 512) (C : CLS h V M n x R) (O : h_k h (nm 70 0) = 104 ∧ h_n h (nm 70 0) = 1)  (hd : 20 ≤ d) (hbc : 6 ≤ bc) (hbs : 80 ≤ bs) (hq : HQ Q h (o_range n x a b c9 (tn c9)).1 (o_range n x a b c9 (tn c9)).2.1.toInt64 M V (o_range n x a b c9 (tn c9)).2.2.1 (o_range n x a b c9 (tn c9)).2.2.2 R) : WP G m_L_range d 0 (aargs 0 [vr (some (nm 40 0)), vi a, vi b, vi c9, vr (some (nm 70 0))]) [] h bc bs Q := by
  obtain ⟨hS, hW, hmd, hMc, hX, hRB, hLF⟩ := B
  have hr : sMd V < 700000 := by omega
  have hb1 := hRB.1
  have hnv := hS.1
  have hn12 := hX.1.2.1
  refine wp_sub [(0, vr (some (nm 40 0))), (1, vi a), (2, vi b), (3, vi c9), (4, vr (some (nm 70 0)))] (fun _ hz => hz) ?_
  refine wp_aload (i := 4) dL_range_0 rfl ?_
  refine wp_iconst (nI 0) dL_range_2 (by decide) ?_
  refine wp_aload_n (i := 0) dL_range_3 rfl rfl ?_
  refine wp_iload_n (i := 1) dL_range_4 rfl rfl ?_
  refine wp_iload_n (i := 2) dL_range_5 rfl rfl ?_
  refine wp_iload_n (i := 3) dL_range_6 rfl rfl ?_
  refine wp_cV (y' := m_X11_range) 12 [vi a, vi b, vi c9] [vi (nI 0), vr (some (nm 70 0))] 6 80 dL_range_7 ml_L_85 im_X11_range se_X11_range (by decide) C.hk ok_X11_range rfl (Nat.le_of_ble_eq_true rfl) rfl (Nat.le_of_ble_eq_true rfl) (d' := d - 1) (by omega) (by omega) (by omega) (c_X11_range hX C.2.1 (fun z => ⟨(in_tn (m := 24) (by decide) z).1, Nat.le_of_lt_succ (in_tn (m := 24) (by decide) z).2⟩) (by omega) (by omega) (by omega) ?_)
  refine ⟨?_, ?_⟩
  · intro i e h1 h2 C9
    rcases i with _ | _ | i
    · have h2 : some "java/lang/IllegalArgumentException" = some e := h2
      cases h2
      refine cont_x (wx_catch (j := 5) [] (0, 12, 15, 21) [(0, 12, 19, 13)] rfl ps_nil (by decide) (by decide) kl_L_21 ca_417 dL_range_15 (by decide) (hj_cons ⟨by decide, rfl⟩ (hj_cons ⟨by decide, rfl⟩ (hj_cons ⟨by decide, rfl⟩ (hj_cons ⟨by decide, rfl⟩ (hj_cons ⟨by decide, rfl⟩ hj_nil))))) ?_)
      refine wp_iconst (nI 1) dL_range_17 (by decide) ?_
      refine wp_ireturn dL_range_18 rfl ?_
      exact hq.thr h1 (by decide) (Nat.le_refl _) (Nat.le_succ _) ⟨C.1, C9, C.2.2⟩ FK.rf O
    · have h2 : some "java/lang/IllegalStateException" = some e := h2
      cases h2
      refine cont_x (wx_catch (j := 5) [(0, 12, 15, 21)] (0, 12, 19, 13) [] rfl (ps_cons (by decide) kl_L_21 (by decide +kernel) ps_nil) (by decide) (by decide) kl_L_13 ca_234 dL_range_19 (by decide) (hj_cons ⟨by decide, rfl⟩ (hj_cons ⟨by decide, rfl⟩ (hj_cons ⟨by decide, rfl⟩ (hj_cons ⟨by decide, rfl⟩ (hj_cons ⟨by decide, rfl⟩ hj_nil))))) ?_)
      refine wp_iconst (nI 2) dL_range_21 (by decide) ?_
      refine wp_ireturn dL_range_22 rfl ?_
      exact hq.thr h1 (by decide) (Nat.le_refl _) (Nat.le_succ _) ⟨C.1, C9, C.2.2⟩ FK.rf O
    · have h2 : (none : Option String) = some e := h2
      cases h2
  · intro h0 h' C9 F9
    refine cont_ret ?_
    have O2 := FK.out F9.fk O
    refine wp_i2l dL_range_10 ?_
    refine wp_lastoreN 1 dL_range_11 O2.1 O2.2 (by decide) (by decide) ?_
    refine wp_goto 23 dL_range_12 (by decide) ?_
    refine wp_iconst (nI 0) dL_range_23 (by decide) ?_
    refine wp_ireturn dL_range_24 rfl ?_
    exact hq.ret h0 (Nat.le_refl _) (Nat.le_succ _) (C.ofQ F9 C9) F9.fk O
set_option maxRecDepth 100000 in
set_option maxHeartbeats 4000000 in
theorem g_over {G : GG} {d bc bs c M n : Nat} {h : Hp} {Q : Pst} {V : SV} {x : Nat → QIS} {R : RS} {u : Int32} {wn : Nat} {m : Int32} (B : PUR c V M n x R) (hc : c < 512) (C : CLS h V M n x R) (O : h_k h (nm 70 0) = 104 ∧ h_n h (nm 70 0) = 1) (hwn : wn < 65536) (hd : 20 ≤ d) (hbc : 6 ≤ bc) (hbs : 80 ≤ bs) (hq : HQ Q h (o_over n x u (tn u) wn m).1 (o_over n x u (tn u) wn m).2.1.toInt64 M V (o_over n x u (tn u) wn m).2.2.1 (o_over n x u (tn u) wn m).2.2.2 R) : WP G m_L_over d 0 (aargs 0 [vr (some (nm 40 0)), vi u, vi (nI wn), vi m, vr (some (nm 70 0))]) [] h bc bs Q := by
  obtain ⟨hS, hW, hmd, hMc, hX, hRB, hLF⟩ := B
  have hr : sMd V < 700000 := by omega
  have hb1 := hRB.1
  have hnv := hS.1
  have hn12 := hX.1.2.1
  refine wp_sub [(0, vr (some (nm 40 0))), (1, vi u), (2, vi (nI wn)), (3, vi m), (4, vr (some (nm 70 0)))] (fun _ hz => hz) ?_
  refine wp_aload (i := 4) dL_over_0 rfl ?_
  refine wp_iconst (nI 0) dL_over_2 (by decide) ?_
  refine wp_aload_n (i := 0) dL_over_3 rfl rfl ?_
  refine wp_iload_n (i := 1) dL_over_4 rfl rfl ?_
  refine wp_iload_n (i := 2) dL_over_5 rfl rfl ?_
  refine wp_iload_n (i := 3) dL_over_6 rfl rfl ?_
  refine wp_cV (y' := m_X11_over) 12 [vi u, vi (nI wn), vi m] [vi (nI 0), vr (some (nm 70 0))] 6 80 dL_over_7 ml_L_88 im_X11_over se_X11_over (by decide) C.hk ok_X11_over rfl (Nat.le_of_ble_eq_true rfl) rfl (Nat.le_of_ble_eq_true rfl) (d' := d - 1) (by omega) (by omega) (by omega) (c_X11_over hX C.2.1 (ix_tn (by omega)) hwn (by omega) (by omega) (by omega) ?_)
  refine ⟨?_, ?_⟩
  · intro i e h1 h2 C9
    rcases i with _ | _ | _ | i
    · have h2 : some "java/lang/IndexOutOfBoundsException" = some e := h2
      cases h2
      refine cont_x (wx_catch (j := 5) [] (0, 12, 15, 19) [(0, 12, 19, 21), (0, 12, 23, 13)] rfl ps_nil (by decide) (by decide) kl_L_19 ca_395 dL_over_15 (by decide) (hj_cons ⟨by decide, rfl⟩ (hj_cons ⟨by decide, rfl⟩ (hj_cons ⟨by decide, rfl⟩ (hj_cons ⟨by decide, rfl⟩ (hj_cons ⟨by decide, rfl⟩ hj_nil))))) ?_)
      refine wp_iconst (nI 1) dL_over_17 (by decide) ?_
      refine wp_ireturn dL_over_18 rfl ?_
      exact hq.thr h1 (by decide) (Nat.le_refl _) (Nat.le_succ _) ⟨C.1, C9, C.2.2⟩ FK.rf O
    · have h2 : some "java/lang/IllegalArgumentException" = some e := h2
      cases h2
      refine cont_x (wx_catch (j := 5) [(0, 12, 15, 19)] (0, 12, 19, 21) [(0, 12, 23, 13)] rfl (ps_cons (by decide) kl_L_19 (by decide +kernel) ps_nil) (by decide) (by decide) kl_L_21 ca_417 dL_over_19 (by decide) (hj_cons ⟨by decide, rfl⟩ (hj_cons ⟨by decide, rfl⟩ (hj_cons ⟨by decide, rfl⟩ (hj_cons ⟨by decide, rfl⟩ (hj_cons ⟨by decide, rfl⟩ hj_nil))))) ?_)
      refine wp_iconst (nI 2) dL_over_21 (by decide) ?_
      refine wp_ireturn dL_over_22 rfl ?_
      exact hq.thr h1 (by decide) (Nat.le_refl _) (Nat.le_succ _) ⟨C.1, C9, C.2.2⟩ FK.rf O
    · have h2 : some "java/lang/IllegalStateException" = some e := h2
      cases h2
      refine cont_x (wx_catch (j := 5) [(0, 12, 15, 19), (0, 12, 19, 21)] (0, 12, 23, 13) [] rfl (ps_cons (by decide) kl_L_19 (by decide +kernel) (ps_cons (by decide) kl_L_21 (by decide +kernel) ps_nil)) (by decide) (by decide) kl_L_13 ca_234 dL_over_23 (by decide) (hj_cons ⟨by decide, rfl⟩ (hj_cons ⟨by decide, rfl⟩ (hj_cons ⟨by decide, rfl⟩ (hj_cons ⟨by decide, rfl⟩ (hj_cons ⟨by decide, rfl⟩ hj_nil))))) ?_)
      refine wp_iconst (nI 3) dL_over_25 (by decide) ?_
      refine wp_ireturn dL_over_26 rfl ?_
      exact hq.thr h1 (by decide) (Nat.le_refl _) (Nat.le_succ _) ⟨C.1, C9, C.2.2⟩ FK.rf O
    · have h2 : (none : Option String) = some e := h2
      cases h2
  · intro h0 h' C9 F9
    refine cont_ret ?_
    have O2 := FK.out F9.fk O
    refine wp_i2l dL_over_10 ?_
    refine wp_lastoreN 1 dL_over_11 O2.1 O2.2 (by decide) (by decide) ?_
    refine wp_goto 27 dL_over_12 (by decide) ?_
    refine wp_iconst (nI 0) dL_over_27 (by decide) ?_
    refine wp_ireturn dL_over_28 rfl ?_
    exact hq.ret h0 (Nat.le_refl _) (Nat.le_succ _) (C.ofQ F9 C9) F9.fk O
set_option maxRecDepth 100000 in
set_option maxHeartbeats 4000000 in
theorem g_at {G : GG} {d bc bs c M n : Nat} {h : Hp} {Q : Pst} {V : SV} {x : Nat → QIS} {R : RS} {u : Int32} {v : Int32} (B : PUR c V M n x R) (hc : c < 512) (C : CLS h V M n x R) (O : h_k h (nm 70 0) = 104 ∧ h_n h (nm 70 0) = 1)  (hd : 20 ≤ d) (hbc : 6 ≤ bc) (hbs : 80 ≤ bs) (hq : HQ Q h (o_at n x u (tn u) v (tn v)).1 (o_at n x u (tn u) v (tn v)).2.1.toInt64 M V (o_at n x u (tn u) v (tn v)).2.2.1 (o_at n x u (tn u) v (tn v)).2.2.2 R) : WP G m_L_at d 0 (aargs 0 [vr (some (nm 40 0)), vi u, vi v, vr (some (nm 70 0))]) [] h bc bs Q := by
  obtain ⟨hS, hW, hmd, hMc, hX, hRB, hLF⟩ := B
  have hr : sMd V < 700000 := by omega
  have hb1 := hRB.1
  have hnv := hS.1
  have hn12 := hX.1.2.1
  refine wp_sub [(0, vr (some (nm 40 0))), (1, vi u), (2, vi v), (3, vr (some (nm 70 0)))] (fun _ hz => hz) ?_
  refine wp_aload_n (i := 3) dL_at_0 rfl rfl ?_
  refine wp_iconst (nI 0) dL_at_1 (by decide) ?_
  refine wp_aload_n (i := 0) dL_at_2 rfl rfl ?_
  refine wp_iload_n (i := 1) dL_at_3 rfl rfl ?_
  refine wp_iload_n (i := 2) dL_at_4 rfl rfl ?_
  refine wp_cV (y' := m_X11_at) 12 [vi u, vi v] [vi (nI 0), vr (some (nm 70 0))] 6 80 dL_at_5 ml_L_92 im_X11_at se_X11_at (by decide) C.hk ok_X11_at rfl (Nat.le_of_ble_eq_true rfl) rfl (Nat.le_of_ble_eq_true rfl) (d' := d - 1) (by omega) (by omega) (by omega) (c_X11_at hX C.2.1 (ix_tn (by omega)) nn_tn (by omega) (by omega) (by omega) ?_)
  refine ⟨?_, ?_⟩
  · intro i e h1 h2 C9
    rcases i with _ | _ | _ | i
    · have h2 : some "java/lang/IndexOutOfBoundsException" = some e := h2
      cases h2
      refine cont_x (wx_catch (j := 4) [] (0, 10, 13, 19) [(0, 10, 17, 23), (0, 10, 21, 29)] rfl ps_nil (by decide) (by decide) kl_L_19 ca_395 dL_at_13 (by decide) (hj_cons ⟨by decide, rfl⟩ (hj_cons ⟨by decide, rfl⟩ (hj_cons ⟨by decide, rfl⟩ (hj_cons ⟨by decide, rfl⟩ hj_nil)))) ?_)
      refine wp_iconst (nI 1) dL_at_15 (by decide) ?_
      refine wp_ireturn dL_at_16 rfl ?_
      exact hq.thr h1 (by decide) (Nat.le_refl _) (Nat.le_succ _) ⟨C.1, C9, C.2.2⟩ FK.rf O
    · have h2 : some "java/lang/UnsupportedOperationException" = some e := h2
      cases h2
      refine cont_x (wx_catch (j := 4) [(0, 10, 13, 19)] (0, 10, 17, 23) [(0, 10, 21, 29)] rfl (ps_cons (by decide) kl_L_19 (by decide +kernel) ps_nil) (by decide) (by decide) kl_L_23 ca_436 dL_at_17 (by decide) (hj_cons ⟨by decide, rfl⟩ (hj_cons ⟨by decide, rfl⟩ (hj_cons ⟨by decide, rfl⟩ (hj_cons ⟨by decide, rfl⟩ hj_nil)))) ?_)
      refine wp_iconst (nI 2) dL_at_19 (by decide) ?_
      refine wp_ireturn dL_at_20 rfl ?_
      exact hq.thr h1 (by decide) (Nat.le_refl _) (Nat.le_succ _) ⟨C.1, C9, C.2.2⟩ FK.rf O
    · have h2 : some "java/util/NoSuchElementException" = some e := h2
      cases h2
      refine cont_x (wx_catch (j := 4) [(0, 10, 13, 19), (0, 10, 17, 23)] (0, 10, 21, 29) [] rfl (ps_cons (by decide) kl_L_19 (by decide +kernel) (ps_cons (by decide) kl_L_23 (by decide +kernel) ps_nil)) (by decide) (by decide) kl_L_29 ca_527 dL_at_21 (by decide) (hj_cons ⟨by decide, rfl⟩ (hj_cons ⟨by decide, rfl⟩ (hj_cons ⟨by decide, rfl⟩ (hj_cons ⟨by decide, rfl⟩ hj_nil)))) ?_)
      refine wp_iconst (nI 3) dL_at_23 (by decide) ?_
      refine wp_ireturn dL_at_24 rfl ?_
      exact hq.thr h1 (by decide) (Nat.le_refl _) (Nat.le_succ _) ⟨C.1, C9, C.2.2⟩ FK.rf O
    · have h2 : (none : Option String) = some e := h2
      cases h2
  · intro h0 h' C9 F9
    refine cont_ret ?_
    have O2 := FK.out F9.fk O
    refine wp_i2l dL_at_8 ?_
    refine wp_lastoreN 1 dL_at_9 O2.1 O2.2 (by decide) (by decide) ?_
    refine wp_goto 25 dL_at_10 (by decide) ?_
    refine wp_iconst (nI 0) dL_at_25 (by decide) ?_
    refine wp_ireturn dL_at_26 rfl ?_
    exact hq.ret h0 (Nat.le_refl _) (Nat.le_succ _) (C.ofQ F9 C9) F9.fk O
set_option maxRecDepth 100000 in
set_option maxHeartbeats 4000000 in
theorem g_all {G : GG} {d bc bs c M n : Nat} {h : Hp} {Q : Pst} {V : SV} {x : Nat → QIS} {R : RS} {u : Int32} (B : PUR c V M n x R) (hc : c < 512) (C : CLS h V M n x R) (O : h_k h (nm 70 0) = 104 ∧ h_n h (nm 70 0) = 1)  (hd : 20 ≤ d) (hbc : 6 ≤ bc) (hbs : 80 ≤ bs) (hq : HQ Q h (o_all n x u (tn u)).1 (o_all n x u (tn u)).2.1.toInt64 M V (o_all n x u (tn u)).2.2.1 (o_all n x u (tn u)).2.2.2 R) : WP G m_L_all d 0 (aargs 0 [vr (some (nm 40 0)), vi u, vr (some (nm 70 0))]) [] h bc bs Q := by
  obtain ⟨hS, hW, hmd, hMc, hX, hRB, hLF⟩ := B
  have hr : sMd V < 700000 := by omega
  have hb1 := hRB.1
  have hnv := hS.1
  have hn12 := hX.1.2.1
  refine wp_sub [(0, vr (some (nm 40 0))), (1, vi u), (2, vr (some (nm 70 0)))] (fun _ hz => hz) ?_
  refine wp_aload_n (i := 2) dL_all_0 rfl rfl ?_
  refine wp_iconst (nI 0) dL_all_1 (by decide) ?_
  refine wp_aload_n (i := 0) dL_all_2 rfl rfl ?_
  refine wp_iload_n (i := 1) dL_all_3 rfl rfl ?_
  refine wp_cV (y' := m_X11_all) 12 [vi u] [vi (nI 0), vr (some (nm 70 0))] 6 80 dL_all_4 ml_L_95 im_X11_all se_X11_all (by decide) C.hk ok_X11_all rfl (Nat.le_of_ble_eq_true rfl) rfl (Nat.le_of_ble_eq_true rfl) (d' := d - 1) (by omega) (by omega) (by omega) (c_X11_all hX C.2.1 (ix_tn (by omega)) (by omega) (by omega) (by omega) ?_)
  refine ⟨?_, ?_⟩
  · intro i e h1 h2 C9
    rcases i with _ | _ | i
    · have h2 : some "java/lang/IndexOutOfBoundsException" = some e := h2
      cases h2
      refine cont_x (wx_catch_n (j := 3) [] (0, 9, 12, 19) [(0, 9, 15, 23)] rfl ps_nil (by decide) (by decide) kl_L_19 ca_395 dL_all_12 rfl (by decide) (hj_cons ⟨by decide, rfl⟩ (hj_cons ⟨by decide, rfl⟩ (hj_cons ⟨by decide, rfl⟩ hj_nil))) ?_)
      refine wp_iconst (nI 1) dL_all_13 (by decide) ?_
      refine wp_ireturn dL_all_14 rfl ?_
      exact hq.thr h1 (by decide) (Nat.le_refl _) (Nat.le_succ _) ⟨C.1, C9, C.2.2⟩ FK.rf O
    · have h2 : some "java/lang/UnsupportedOperationException" = some e := h2
      cases h2
      refine cont_x (wx_catch_n (j := 3) [(0, 9, 12, 19)] (0, 9, 15, 23) [] rfl (ps_cons (by decide) kl_L_19 (by decide +kernel) ps_nil) (by decide) (by decide) kl_L_23 ca_436 dL_all_15 rfl (by decide) (hj_cons ⟨by decide, rfl⟩ (hj_cons ⟨by decide, rfl⟩ (hj_cons ⟨by decide, rfl⟩ hj_nil))) ?_)
      refine wp_iconst (nI 2) dL_all_16 (by decide) ?_
      refine wp_ireturn dL_all_17 rfl ?_
      exact hq.thr h1 (by decide) (Nat.le_refl _) (Nat.le_succ _) ⟨C.1, C9, C.2.2⟩ FK.rf O
    · have h2 : (none : Option String) = some e := h2
      cases h2
  · intro h0 h' C9 F9
    refine cont_ret ?_
    have O2 := FK.out F9.fk O
    refine wp_i2l dL_all_7 ?_
    refine wp_lastoreN 1 dL_all_8 O2.1 O2.2 (by decide) (by decide) ?_
    refine wp_goto 18 dL_all_9 (by decide) ?_
    refine wp_iconst (nI 0) dL_all_18 (by decide) ?_
    refine wp_ireturn dL_all_19 rfl ?_
    exact hq.ret h0 (Nat.le_refl _) (Nat.le_succ _) (C.ofQ F9 C9) F9.fk O
set_option maxRecDepth 100000 in
set_option maxHeartbeats 4000000 in
theorem g_realised {G : GG} {d bc bs c M n : Nat} {h : Hp} {Q : Pst} {V : SV} {x : Nat → QIS} {R : RS} {u : Int32} (B : PUR c V M n x R) (hc : c < 512) (C : CLS h V M n x R) (O : h_k h (nm 70 0) = 104 ∧ h_n h (nm 70 0) = 1)  (hd : 20 ≤ d) (hbc : 6 ≤ bc) (hbs : 80 ≤ bs) (hq : HQ Q h (o_realised n x u (tn u)).1 (o_realised n x u (tn u)).2.1.toInt64 M V (o_realised n x u (tn u)).2.2.1 (o_realised n x u (tn u)).2.2.2 R) : WP G m_L_realised d 0 (aargs 0 [vr (some (nm 40 0)), vi u, vr (some (nm 70 0))]) [] h bc bs Q := by
  obtain ⟨hS, hW, hmd, hMc, hX, hRB, hLF⟩ := B
  have hr : sMd V < 700000 := by omega
  have hb1 := hRB.1
  have hnv := hS.1
  have hn12 := hX.1.2.1
  refine wp_sub [(0, vr (some (nm 40 0))), (1, vi u), (2, vr (some (nm 70 0)))] (fun _ hz => hz) ?_
  refine wp_aload_n (i := 2) dL_realised_0 rfl rfl ?_
  refine wp_iconst (nI 0) dL_realised_1 (by decide) ?_
  refine wp_aload_n (i := 0) dL_realised_2 rfl rfl ?_
  refine wp_iload_n (i := 1) dL_realised_3 rfl rfl ?_
  refine wp_cV (y' := m_X11_realised) 12 [vi u] [vi (nI 0), vr (some (nm 70 0))] 6 80 dL_realised_4 ml_L_98 im_X11_realised se_X11_realised (by decide) C.hk ok_X11_realised rfl (Nat.le_of_ble_eq_true rfl) rfl (Nat.le_of_ble_eq_true rfl) (d' := d - 1) (by omega) (by omega) (by omega) (c_X11_realised hX C.2.1 (ix_tn (by omega)) (by omega) (by omega) (by omega) ?_)
  refine ⟨?_, ?_⟩
  · intro i e h1 h2 C9
    rcases i with _ | i
    · have h2 : some "java/lang/IndexOutOfBoundsException" = some e := h2
      cases h2
      refine cont_x (wx_catch_n (j := 3) [] (0, 9, 12, 19) [] rfl ps_nil (by decide) (by decide) kl_L_19 ca_395 dL_realised_12 rfl (by decide) (hj_cons ⟨by decide, rfl⟩ (hj_cons ⟨by decide, rfl⟩ (hj_cons ⟨by decide, rfl⟩ hj_nil))) ?_)
      refine wp_iconst (nI 1) dL_realised_13 (by decide) ?_
      refine wp_ireturn dL_realised_14 rfl ?_
      exact hq.thr h1 (by decide) (Nat.le_refl _) (Nat.le_succ _) ⟨C.1, C9, C.2.2⟩ FK.rf O
    · have h2 : (none : Option String) = some e := h2
      cases h2
  · intro h0 h' C9 F9
    refine cont_ret ?_
    have O2 := FK.out F9.fk O
    refine wp_i2l dL_realised_7 ?_
    refine wp_lastoreN 1 dL_realised_8 O2.1 O2.2 (by decide) (by decide) ?_
    refine wp_goto 15 dL_realised_9 (by decide) ?_
    refine wp_iconst (nI 0) dL_realised_15 (by decide) ?_
    refine wp_ireturn dL_realised_16 rfl ?_
    exact hq.ret h0 (Nat.le_refl _) (Nat.le_succ _) (C.ofQ F9 C9) F9.fk O
set_option maxRecDepth 100000 in
set_option maxHeartbeats 4000000 in
theorem g_chunks {G : GG} {d bc bs c M n : Nat} {h : Hp} {Q : Pst} {V : SV} {x : Nat → QIS} {R : RS} {u : Int32} (B : PUR c V M n x R) (hc : c < 512) (C : CLS h V M n x R) (O : h_k h (nm 70 0) = 104 ∧ h_n h (nm 70 0) = 1)  (hd : 20 ≤ d) (hbc : 6 ≤ bc) (hbs : 80 ≤ bs) (hq : HQ Q h (o_chunks n x u (tn u)).1 (o_chunks n x u (tn u)).2.1.toInt64 M V (o_chunks n x u (tn u)).2.2.1 (o_chunks n x u (tn u)).2.2.2 R) : WP G m_L_chunks d 0 (aargs 0 [vr (some (nm 40 0)), vi u, vr (some (nm 70 0))]) [] h bc bs Q := by
  obtain ⟨hS, hW, hmd, hMc, hX, hRB, hLF⟩ := B
  have hr : sMd V < 700000 := by omega
  have hb1 := hRB.1
  have hnv := hS.1
  have hn12 := hX.1.2.1
  refine wp_sub [(0, vr (some (nm 40 0))), (1, vi u), (2, vr (some (nm 70 0)))] (fun _ hz => hz) ?_
  refine wp_aload_n (i := 2) dL_chunks_0 rfl rfl ?_
  refine wp_iconst (nI 0) dL_chunks_1 (by decide) ?_
  refine wp_aload_n (i := 0) dL_chunks_2 rfl rfl ?_
  refine wp_iload_n (i := 1) dL_chunks_3 rfl rfl ?_
  refine wp_cV (y' := m_X11_chunks) 12 [vi u] [vi (nI 0), vr (some (nm 70 0))] 6 80 dL_chunks_4 ml_L_101 im_X11_chunks se_X11_chunks (by decide) C.hk ok_X11_chunks rfl (Nat.le_of_ble_eq_true rfl) rfl (Nat.le_of_ble_eq_true rfl) (d' := d - 1) (by omega) (by omega) (by omega) (c_X11_chunks hX C.2.1 (ix_tn (by omega)) (by omega) (by omega) (by omega) ?_)
  refine ⟨?_, ?_⟩
  · intro i e h1 h2 C9
    rcases i with _ | i
    · have h2 : some "java/lang/IndexOutOfBoundsException" = some e := h2
      cases h2
      refine cont_x (wx_catch_n (j := 3) [] (0, 9, 12, 19) [] rfl ps_nil (by decide) (by decide) kl_L_19 ca_395 dL_chunks_12 rfl (by decide) (hj_cons ⟨by decide, rfl⟩ (hj_cons ⟨by decide, rfl⟩ (hj_cons ⟨by decide, rfl⟩ hj_nil))) ?_)
      refine wp_iconst (nI 1) dL_chunks_13 (by decide) ?_
      refine wp_ireturn dL_chunks_14 rfl ?_
      exact hq.thr h1 (by decide) (Nat.le_refl _) (Nat.le_succ _) ⟨C.1, C9, C.2.2⟩ FK.rf O
    · have h2 : (none : Option String) = some e := h2
      cases h2
  · intro h0 h' C9 F9
    refine cont_ret ?_
    have O2 := FK.out F9.fk O
    refine wp_i2l dL_chunks_7 ?_
    refine wp_lastoreN 1 dL_chunks_8 O2.1 O2.2 (by decide) (by decide) ?_
    refine wp_goto 15 dL_chunks_9 (by decide) ?_
    refine wp_iconst (nI 0) dL_chunks_15 (by decide) ?_
    refine wp_ireturn dL_chunks_16 rfl ?_
    exact hq.ret h0 (Nat.le_refl _) (Nat.le_succ _) (C.ofQ F9 C9) F9.fk O
set_option maxRecDepth 100000 in
set_option maxHeartbeats 4000000 in
theorem g_collect {G : GG} {d bc bs c M n : Nat} {h : Hp} {Q : Pst} {V : SV} {x : Nat → QIS} {R : RS} {u : Int32} (B : PUR c V M n x R) (hc : c < 512) (C : CLS h V M n x R) (O : h_k h (nm 70 0) = 104 ∧ h_n h (nm 70 0) = 1)  (hd : 20 ≤ d) (hbc : 3 ≤ bc ∧ ((o_collect V n x u (tn u)).1 = nI 0 → 500 ≤ bc)) (hbs : 18 ≤ bs ∧ ((o_collect V n x u (tn u)).1 = nI 0 → 9000 ≤ bs)) (hq : HQ Q h (o_collect V n x u (tn u)).1 (o_collect V n x u (tn u)).2.1.toInt64 M (o_collect V n x u (tn u)).2.2.1 (o_collect V n x u (tn u)).2.2.2.1 (o_collect V n x u (tn u)).2.2.2.2 R) : WP G m_L_collect d 0 (aargs 0 [vr (some (nm 40 0)), vi u, vr (some (nm 70 0))]) [] h bc bs Q := by
  obtain ⟨hS, hW, hmd, hMc, hX, hRB, hLF⟩ := B
  have hr : sMd V < 700000 := by omega
  have hb1 := hRB.1
  have hnv := hS.1
  have hn12 := hX.1.2.1
  refine wp_sub [(0, vr (some (nm 40 0))), (1, vi u), (2, vr (some (nm 70 0)))] (fun _ hz => hz) ?_
  refine wp_aload_n (i := 2) dL_collect_0 rfl rfl ?_
  refine wp_iconst (nI 0) dL_collect_1 (by decide) ?_
  refine wp_aload_n (i := 0) dL_collect_2 rfl rfl ?_
  refine wp_iload_n (i := 1) dL_collect_3 rfl rfl ?_
  refine wp_cV (y' := m_X11_collect) 12 [vi u] [vi (nI 0), vr (some (nm 70 0))] bc bs dL_collect_4 ml_L_104 im_X11_collect se_X11_collect (by decide) C.hk ok_X11_collect rfl (Nat.le_of_ble_eq_true rfl) rfl (Nat.le_of_ble_eq_true rfl) (d' := d - 1) (by omega) (by omega) (by omega) (c_X11_collect hS C.2.2 hX C.2.1 (by omega) (ix_tn (by omega)) (by omega) hbc hbs ?_)
  refine ⟨?_, ?_⟩
  · intro i e h1 h2 C9 C8
    rcases i with _ | _ | _ | _ | i
    · have h2 : some "java/lang/IndexOutOfBoundsException" = some e := h2
      cases h2
      refine cont_x (wx_catch_n (j := 3) [] (0, 9, 12, 19) [(0, 9, 15, 23), (0, 9, 18, 21), (0, 9, 21, 13)] rfl ps_nil (by decide) (by decide) kl_L_19 ca_395 dL_collect_12 rfl (by decide) (hj_cons ⟨by decide, rfl⟩ (hj_cons ⟨by decide, rfl⟩ (hj_cons ⟨by decide, rfl⟩ hj_nil))) ?_)
      refine wp_iconst (nI 1) dL_collect_13 (by decide) ?_
      refine wp_ireturn dL_collect_14 rfl ?_
      exact hq.thr h1 (by decide) (Nat.le_refl _) (Nat.le_succ _) ⟨C.1, C9, C8⟩ FK.rf O
    · have h2 : some "java/lang/UnsupportedOperationException" = some e := h2
      cases h2
      refine cont_x (wx_catch_n (j := 3) [(0, 9, 12, 19)] (0, 9, 15, 23) [(0, 9, 18, 21), (0, 9, 21, 13)] rfl (ps_cons (by decide) kl_L_19 (by decide +kernel) ps_nil) (by decide) (by decide) kl_L_23 ca_436 dL_collect_15 rfl (by decide) (hj_cons ⟨by decide, rfl⟩ (hj_cons ⟨by decide, rfl⟩ (hj_cons ⟨by decide, rfl⟩ hj_nil))) ?_)
      refine wp_iconst (nI 2) dL_collect_16 (by decide) ?_
      refine wp_ireturn dL_collect_17 rfl ?_
      exact hq.thr h1 (by decide) (Nat.le_refl _) (Nat.le_succ _) ⟨C.1, C9, C8⟩ FK.rf O
    · have h2 : some "java/lang/IllegalArgumentException" = some e := h2
      cases h2
      refine cont_x (wx_catch_n (j := 3) [(0, 9, 12, 19), (0, 9, 15, 23)] (0, 9, 18, 21) [(0, 9, 21, 13)] rfl (ps_cons (by decide) kl_L_19 (by decide +kernel) (ps_cons (by decide) kl_L_23 (by decide +kernel) ps_nil)) (by decide) (by decide) kl_L_21 ca_417 dL_collect_18 rfl (by decide) (hj_cons ⟨by decide, rfl⟩ (hj_cons ⟨by decide, rfl⟩ (hj_cons ⟨by decide, rfl⟩ hj_nil))) ?_)
      refine wp_iconst (nI 3) dL_collect_19 (by decide) ?_
      refine wp_ireturn dL_collect_20 rfl ?_
      exact hq.thr h1 (by decide) (Nat.le_refl _) (Nat.le_succ _) ⟨C.1, C9, C8⟩ FK.rf O
    · have h2 : some "java/lang/IllegalStateException" = some e := h2
      cases h2
      refine cont_x (wx_catch_n (j := 3) [(0, 9, 12, 19), (0, 9, 15, 23), (0, 9, 18, 21)] (0, 9, 21, 13) [] rfl (ps_cons (by decide) kl_L_19 (by decide +kernel) (ps_cons (by decide) kl_L_23 (by decide +kernel) (ps_cons (by decide) kl_L_21 (by decide +kernel) ps_nil))) (by decide) (by decide) kl_L_13 ca_234 dL_collect_21 rfl (by decide) (hj_cons ⟨by decide, rfl⟩ (hj_cons ⟨by decide, rfl⟩ (hj_cons ⟨by decide, rfl⟩ hj_nil))) ?_)
      refine wp_iconst (nI 4) dL_collect_22 (by decide) ?_
      refine wp_ireturn dL_collect_23 rfl ?_
      exact hq.thr h1 (by decide) (Nat.le_refl _) (Nat.le_succ _) ⟨C.1, C9, C8⟩ FK.rf O
    · have h2 : (none : Option String) = some e := h2
      cases h2
  · intro h0 h9 h' F8 F9 C9 C8
    refine cont_ret ?_
    have O2 := FK.out (F8.fk.tr F9.fk) O
    refine wp_i2l dL_collect_7 ?_
    refine wp_lastoreN 1 dL_collect_8 O2.1 O2.2 (by decide) (by decide) ?_
    refine wp_goto 24 dL_collect_9 (by decide) ?_
    refine wp_iconst (nI 0) dL_collect_24 (by decide) ?_
    refine wp_ireturn dL_collect_25 rfl ?_
    exact hq.ret h0 (Nat.le_refl _) (Nat.le_succ _) (C.ofC F8 F9 C9 C8) (F8.fk.tr F9.fk) O
set_option maxRecDepth 100000 in
set_option maxHeartbeats 4000000 in
theorem g_addReference {G : GG} {d bc bs c M n : Nat} {h : Hp} {Q : Pst} {V : SV} {x : Nat → QIS} {R : RS} {v : Int32} {lo : Int32} {hi : Int32} (B : PUR c V M n x R) (hc : c < 512) (C : CLS h V M n x R) (O : h_k h (nm 70 0) = 104 ∧ h_n h (nm 70 0) = 1)  (hd : 20 ≤ d) (hbc : 6 ≤ bc) (hbs : 60 ≤ bs) (hq : HQ Q h (o_addReference R v lo hi).1 (o_addReference R v lo hi).2.1.toInt64 M V n x (o_addReference R v lo hi).2.2) : WP G m_L_addReference d 0 (aargs 0 [vr (some (nm 40 0)), vi v, vi lo, vi hi, vr (some (nm 70 0))]) [] h bc bs Q := by
  obtain ⟨hS, hW, hmd, hMc, hX, hRB, hLF⟩ := B
  have hr : sMd V < 700000 := by omega
  have hb1 := hRB.1
  have hnv := hS.1
  have hn12 := hX.1.2.1
  refine wp_sub [(0, vr (some (nm 40 0))), (1, vi v), (2, vi lo), (3, vi hi), (4, vr (some (nm 70 0)))] (fun _ hz => hz) ?_
  refine wp_aload (i := 4) dL_addReference_0 rfl ?_
  refine wp_iconst (nI 0) dL_addReference_2 (by decide) ?_
  refine wp_aload_n (i := 0) dL_addReference_3 rfl rfl ?_
  refine wp_iload_n (i := 1) dL_addReference_4 rfl rfl ?_
  refine wp_iload_n (i := 2) dL_addReference_5 rfl rfl ?_
  refine wp_iload_n (i := 3) dL_addReference_6 rfl rfl ?_
  obtain ⟨X, HR, HS⟩ := C.1
  refine wp_cV (y' := m_X11_addReference) 12 [vi v, vi lo, vi hi] [vi (nI 0), vr (some (nm 70 0))] 6 60 dL_addReference_7 ml_L_107 im_X11_addReference se_X11_addReference (by decide) C.hk ok_X11_addReference rfl (Nat.le_of_ble_eq_true rfl) rfl (Nat.le_of_ble_eq_true rfl) (d' := d - 1) (by omega) (by omega) (by omega) (c_X11_addReference HR HS (RB_up hRB (by omega)) (by omega) (by omega) (by omega) ?_)
  refine ⟨?_, ?_⟩
  · intro i e h1 h2
    rcases i with _ | _ | i
    · have h2 : some "java/lang/IllegalArgumentException" = some e := h2
      cases h2
      refine cont_x (wx_catch (j := 5) [] (0, 12, 15, 21) [(0, 12, 19, 13)] rfl ps_nil (by decide) (by decide) kl_L_21 ca_417 dL_addReference_15 (by decide) (hj_cons ⟨by decide, rfl⟩ (hj_cons ⟨by decide, rfl⟩ (hj_cons ⟨by decide, rfl⟩ (hj_cons ⟨by decide, rfl⟩ (hj_cons ⟨by decide, rfl⟩ hj_nil))))) ?_)
      refine wp_iconst (nI 1) dL_addReference_17 (by decide) ?_
      refine wp_ireturn dL_addReference_18 rfl ?_
      exact hq.thr h1 (by decide) (Nat.le_refl _) (Nat.le_succ _) (by rw [e_addReference (by rw [h1]; exact nI_ne9 (by decide))]; exact C) FK.rf O
    · have h2 : some "java/lang/IllegalStateException" = some e := h2
      cases h2
      refine cont_x (wx_catch (j := 5) [(0, 12, 15, 21)] (0, 12, 19, 13) [] rfl (ps_cons (by decide) kl_L_21 (by decide +kernel) ps_nil) (by decide) (by decide) kl_L_13 ca_234 dL_addReference_19 (by decide) (hj_cons ⟨by decide, rfl⟩ (hj_cons ⟨by decide, rfl⟩ (hj_cons ⟨by decide, rfl⟩ (hj_cons ⟨by decide, rfl⟩ (hj_cons ⟨by decide, rfl⟩ hj_nil))))) ?_)
      refine wp_iconst (nI 2) dL_addReference_21 (by decide) ?_
      refine wp_ireturn dL_addReference_22 rfl ?_
      exact hq.thr h1 (by decide) (Nat.le_refl _) (Nat.le_succ _) (by rw [e_addReference (by rw [h1]; exact nI_ne9 (by decide))]; exact C) FK.rf O
    · have h2 : (none : Option String) = some e := h2
      cases h2
  · intro h0 h' X' C9 S9 F9
    refine cont_ret ?_
    have O2 := FK.out F9.fk O
    refine wp_i2l dL_addReference_10 ?_
    refine wp_lastoreN 1 dL_addReference_11 O2.1 O2.2 (by decide) (by decide) ?_
    refine wp_goto 23 dL_addReference_12 (by decide) ?_
    refine wp_iconst (nI 0) dL_addReference_23 (by decide) ?_
    refine wp_ireturn dL_addReference_24 rfl ?_
    exact hq.ret h0 (Nat.le_refl _) (Nat.le_succ _) (C.ofR F9 C9 S9) F9.fk O
set_option maxRecDepth 100000 in
set_option maxHeartbeats 4000000 in
theorem g_begin {G : GG} {d bc bs c M n : Nat} {h : Hp} {Q : Pst} {V : SV} {x : Nat → QIS} {R : RS} {v : Int32} (B : PUR c V M n x R) (hc : c < 512) (C : CLS h V M n x R) (O : h_k h (nm 70 0) = 104 ∧ h_n h (nm 70 0) = 1)  (hd : 20 ≤ d) (hbc : 6 ≤ bc) (hbs : 60 ≤ bs) (hq : HQ Q h (o_begin R v (tn v)).1 (o_begin R v (tn v)).2.1.toInt64 M V n x (o_begin R v (tn v)).2.2) : WP G m_L_begin d 0 (aargs 0 [vr (some (nm 40 0)), vi v, vr (some (nm 70 0))]) [] h bc bs Q := by
  obtain ⟨hS, hW, hmd, hMc, hX, hRB, hLF⟩ := B
  have hr : sMd V < 700000 := by omega
  have hb1 := hRB.1
  have hnv := hS.1
  have hn12 := hX.1.2.1
  refine wp_sub [(0, vr (some (nm 40 0))), (1, vi v), (2, vr (some (nm 70 0)))] (fun _ hz => hz) ?_
  refine wp_aload_n (i := 2) dL_begin_0 rfl rfl ?_
  refine wp_iconst (nI 0) dL_begin_1 (by decide) ?_
  refine wp_aload_n (i := 0) dL_begin_2 rfl rfl ?_
  refine wp_iload_n (i := 1) dL_begin_3 rfl rfl ?_
  obtain ⟨X, HR, HS⟩ := C.1
  refine wp_cV (y' := m_X11_begin) 12 [vi v] [vi (nI 0), vr (some (nm 70 0))] 6 60 dL_begin_4 ml_L_110 im_X11_begin se_X11_begin (by decide) C.hk ok_X11_begin rfl (Nat.le_of_ble_eq_true rfl) rfl (Nat.le_of_ble_eq_true rfl) (d' := d - 1) (by omega) (by omega) (by omega) (c_X11_begin HR HS (RB_up hRB (by omega)) (ix_tn (by decide)) (by omega) (by omega) (by omega) ?_)
  refine ⟨?_, ?_⟩
  · intro i e h1 h2
    rcases i with _ | _ | i
    · have h2 : some "java/lang/IllegalArgumentException" = some e := h2
      cases h2
      refine cont_x (wx_catch_n (j := 3) [] (0, 9, 12, 21) [(0, 9, 15, 13)] rfl ps_nil (by decide) (by decide) kl_L_21 ca_417 dL_begin_12 rfl (by decide) (hj_cons ⟨by decide, rfl⟩ (hj_cons ⟨by decide, rfl⟩ (hj_cons ⟨by decide, rfl⟩ hj_nil))) ?_)
      refine wp_iconst (nI 1) dL_begin_13 (by decide) ?_
      refine wp_ireturn dL_begin_14 rfl ?_
      exact hq.thr h1 (by decide) (Nat.le_refl _) (Nat.le_succ _) (by rw [e_begin (by rw [h1]; exact nI_ne9 (by decide))]; exact C) FK.rf O
    · have h2 : some "java/lang/IllegalStateException" = some e := h2
      cases h2
      refine cont_x (wx_catch_n (j := 3) [(0, 9, 12, 21)] (0, 9, 15, 13) [] rfl (ps_cons (by decide) kl_L_21 (by decide +kernel) ps_nil) (by decide) (by decide) kl_L_13 ca_234 dL_begin_15 rfl (by decide) (hj_cons ⟨by decide, rfl⟩ (hj_cons ⟨by decide, rfl⟩ (hj_cons ⟨by decide, rfl⟩ hj_nil))) ?_)
      refine wp_iconst (nI 2) dL_begin_16 (by decide) ?_
      refine wp_ireturn dL_begin_17 rfl ?_
      exact hq.thr h1 (by decide) (Nat.le_refl _) (Nat.le_succ _) (by rw [e_begin (by rw [h1]; exact nI_ne9 (by decide))]; exact C) FK.rf O
    · have h2 : (none : Option String) = some e := h2
      cases h2
  · intro h0 h' X' C9 S9 F9
    refine cont_ret ?_
    have O2 := FK.out F9.fk O
    refine wp_i2l dL_begin_7 ?_
    refine wp_lastoreN 1 dL_begin_8 O2.1 O2.2 (by decide) (by decide) ?_
    refine wp_goto 18 dL_begin_9 (by decide) ?_
    refine wp_iconst (nI 0) dL_begin_18 (by decide) ?_
    refine wp_ireturn dL_begin_19 rfl ?_
    exact hq.ret h0 (Nat.le_refl _) (Nat.le_succ _) (C.ofR F9 C9 S9) F9.fk O
set_option maxRecDepth 100000 in
set_option maxHeartbeats 4000000 in
theorem g_read {G : GG} {d bc bs c M n : Nat} {h : Hp} {Q : Pst} {V : SV} {x : Nat → QIS} {R : RS} {v : Int32} {u : Int32} (B : PUR c V M n x R) (hc : c < 512) (C : CLS h V M n x R) (O : h_k h (nm 70 0) = 104 ∧ h_n h (nm 70 0) = 1)  (hd : 20 ≤ d) (hbc : 6 ≤ bc) (hbs : 60 ≤ bs) (hq : HQ Q h (o_read R v (tn v) u (tn u)).1 (o_read R v (tn v) u (tn u)).2.1.toInt64 M V n x (o_read R v (tn v) u (tn u)).2.2) : WP G m_L_read d 0 (aargs 0 [vr (some (nm 40 0)), vi v, vi u, vr (some (nm 70 0))]) [] h bc bs Q := by
  obtain ⟨hS, hW, hmd, hMc, hX, hRB, hLF⟩ := B
  have hr : sMd V < 700000 := by omega
  have hb1 := hRB.1
  have hnv := hS.1
  have hn12 := hX.1.2.1
  refine wp_sub [(0, vr (some (nm 40 0))), (1, vi v), (2, vi u), (3, vr (some (nm 70 0)))] (fun _ hz => hz) ?_
  refine wp_aload_n (i := 3) dL_read_0 rfl rfl ?_
  refine wp_iconst (nI 0) dL_read_1 (by decide) ?_
  refine wp_aload_n (i := 0) dL_read_2 rfl rfl ?_
  refine wp_iload_n (i := 1) dL_read_3 rfl rfl ?_
  refine wp_iload_n (i := 2) dL_read_4 rfl rfl ?_
  obtain ⟨X, HR, HS⟩ := C.1
  refine wp_cV (y' := m_X11_read) 12 [vi v, vi u] [vi (nI 0), vr (some (nm 70 0))] 6 60 dL_read_5 ml_L_113 im_X11_read se_X11_read (by decide) C.hk ok_X11_read rfl (Nat.le_of_ble_eq_true rfl) rfl (Nat.le_of_ble_eq_true rfl) (d' := d - 1) (by omega) (by omega) (by omega) (c_X11_read HR HS (RB_up hRB (by omega)) (ix_tn (by decide)) (ix_tn (by omega)) (by omega) (by omega) (by omega) ?_)
  refine ⟨?_, ?_⟩
  · intro i e h1 h2
    rcases i with _ | _ | _ | i
    · have h2 : some "java/lang/IllegalArgumentException" = some e := h2
      cases h2
      refine cont_x (wx_catch (j := 4) [] (0, 10, 13, 21) [(0, 10, 17, 19), (0, 10, 21, 13)] rfl ps_nil (by decide) (by decide) kl_L_21 ca_417 dL_read_13 (by decide) (hj_cons ⟨by decide, rfl⟩ (hj_cons ⟨by decide, rfl⟩ (hj_cons ⟨by decide, rfl⟩ (hj_cons ⟨by decide, rfl⟩ hj_nil)))) ?_)
      refine wp_iconst (nI 1) dL_read_15 (by decide) ?_
      refine wp_ireturn dL_read_16 rfl ?_
      exact hq.thr h1 (by decide) (Nat.le_refl _) (Nat.le_succ _) (by rw [e_read (by rw [h1]; exact nI_ne9 (by decide))]; exact C) FK.rf O
    · have h2 : some "java/lang/IndexOutOfBoundsException" = some e := h2
      cases h2
      refine cont_x (wx_catch (j := 4) [(0, 10, 13, 21)] (0, 10, 17, 19) [(0, 10, 21, 13)] rfl (ps_cons (by decide) kl_L_21 (by decide +kernel) ps_nil) (by decide) (by decide) kl_L_19 ca_395 dL_read_17 (by decide) (hj_cons ⟨by decide, rfl⟩ (hj_cons ⟨by decide, rfl⟩ (hj_cons ⟨by decide, rfl⟩ (hj_cons ⟨by decide, rfl⟩ hj_nil)))) ?_)
      refine wp_iconst (nI 2) dL_read_19 (by decide) ?_
      refine wp_ireturn dL_read_20 rfl ?_
      exact hq.thr h1 (by decide) (Nat.le_refl _) (Nat.le_succ _) (by rw [e_read (by rw [h1]; exact nI_ne9 (by decide))]; exact C) FK.rf O
    · have h2 : some "java/lang/IllegalStateException" = some e := h2
      cases h2
      refine cont_x (wx_catch (j := 4) [(0, 10, 13, 21), (0, 10, 17, 19)] (0, 10, 21, 13) [] rfl (ps_cons (by decide) kl_L_21 (by decide +kernel) (ps_cons (by decide) kl_L_19 (by decide +kernel) ps_nil)) (by decide) (by decide) kl_L_13 ca_234 dL_read_21 (by decide) (hj_cons ⟨by decide, rfl⟩ (hj_cons ⟨by decide, rfl⟩ (hj_cons ⟨by decide, rfl⟩ (hj_cons ⟨by decide, rfl⟩ hj_nil)))) ?_)
      refine wp_iconst (nI 3) dL_read_23 (by decide) ?_
      refine wp_ireturn dL_read_24 rfl ?_
      exact hq.thr h1 (by decide) (Nat.le_refl _) (Nat.le_succ _) (by rw [e_read (by rw [h1]; exact nI_ne9 (by decide))]; exact C) FK.rf O
    · have h2 : (none : Option String) = some e := h2
      cases h2
  · intro h0 h' X' C9 S9 F9
    refine cont_ret ?_
    have O2 := FK.out F9.fk O
    refine wp_i2l dL_read_8 ?_
    refine wp_lastoreN 1 dL_read_9 O2.1 O2.2 (by decide) (by decide) ?_
    refine wp_goto 25 dL_read_10 (by decide) ?_
    refine wp_iconst (nI 0) dL_read_25 (by decide) ?_
    refine wp_ireturn dL_read_26 rfl ?_
    exact hq.ret h0 (Nat.le_refl _) (Nat.le_succ _) (C.ofR F9 C9 S9) F9.fk O
set_option maxRecDepth 100000 in
set_option maxHeartbeats 4000000 in
theorem g_write {G : GG} {d bc bs c M n : Nat} {h : Hp} {Q : Pst} {V : SV} {x : Nat → QIS} {R : RS} {v : Int32} {u : Int32} {y : Int32} (B : PUR c V M n x R) (hc : c < 512) (C : CLS h V M n x R) (O : h_k h (nm 70 0) = 104 ∧ h_n h (nm 70 0) = 1)  (hd : 20 ≤ d) (hbc : 6 ≤ bc) (hbs : 60 ≤ bs) (hq : HQ Q h (o_write R v (tn v) u (tn u) y).1 (zL (o_write R v (tn v) u (tn u) y).2.1) M V n x (o_write R v (tn v) u (tn u) y).2.2) : WP G m_L_write d 0 (aargs 0 [vr (some (nm 40 0)), vi v, vi u, vi y, vr (some (nm 70 0))]) [] h bc bs Q := by
  obtain ⟨hS, hW, hmd, hMc, hX, hRB, hLF⟩ := B
  have hr : sMd V < 700000 := by omega
  have hb1 := hRB.1
  have hnv := hS.1
  have hn12 := hX.1.2.1
  refine wp_sub [(0, vr (some (nm 40 0))), (1, vi v), (2, vi u), (3, vi y), (4, vr (some (nm 70 0)))] (fun _ hz => hz) ?_
  refine wp_aload (i := 4) dL_write_0 rfl ?_
  refine wp_iconst (nI 0) dL_write_2 (by decide) ?_
  refine wp_aload_n (i := 0) dL_write_3 rfl rfl ?_
  refine wp_iload_n (i := 1) dL_write_4 rfl rfl ?_
  refine wp_iload_n (i := 2) dL_write_5 rfl rfl ?_
  refine wp_iload_n (i := 3) dL_write_6 rfl rfl ?_
  obtain ⟨X, HR, HS⟩ := C.1
  refine wp_cV (y' := m_X11_write) 12 [vi v, vi u, vi y] [vi (nI 0), vr (some (nm 70 0))] 6 60 dL_write_7 ml_L_116 im_X11_write se_X11_write (by decide) C.hk ok_X11_write rfl (Nat.le_of_ble_eq_true rfl) rfl (Nat.le_of_ble_eq_true rfl) (d' := d - 1) (by omega) (by omega) (by omega) (c_X11_write HR HS (RB_up hRB (by omega)) (ix_tn (by decide)) (ix_tn (by omega)) (by omega) (by omega) (by omega) ?_)
  refine ⟨?_, ?_⟩
  · intro i e h1 h2
    rcases i with _ | _ | _ | _ | i
    · have h2 : some "java/lang/IllegalArgumentException" = some e := h2
      cases h2
      refine cont_x (wx_catch (j := 5) [] (0, 19, 22, 21) [(0, 19, 26, 19), (0, 19, 30, 13), (0, 19, 34, 23)] rfl ps_nil (by decide) (by decide) kl_L_21 ca_417 dL_write_22 (by decide) (hj_cons ⟨by decide, rfl⟩ (hj_cons ⟨by decide, rfl⟩ (hj_cons ⟨by decide, rfl⟩ (hj_cons ⟨by decide, rfl⟩ (hj_cons ⟨by decide, rfl⟩ hj_nil))))) ?_)
      refine wp_iconst (nI 1) dL_write_24 (by decide) ?_
      refine wp_ireturn dL_write_25 rfl ?_
      exact hq.thr h1 (by decide) (Nat.le_refl _) (Nat.le_succ _) (by rw [e_write (by rw [h1]; exact nI_ne9 (by decide))]; exact C) FK.rf O
    · have h2 : some "java/lang/IndexOutOfBoundsException" = some e := h2
      cases h2
      refine cont_x (wx_catch (j := 5) [(0, 19, 22, 21)] (0, 19, 26, 19) [(0, 19, 30, 13), (0, 19, 34, 23)] rfl (ps_cons (by decide) kl_L_21 (by decide +kernel) ps_nil) (by decide) (by decide) kl_L_19 ca_395 dL_write_26 (by decide) (hj_cons ⟨by decide, rfl⟩ (hj_cons ⟨by decide, rfl⟩ (hj_cons ⟨by decide, rfl⟩ (hj_cons ⟨by decide, rfl⟩ (hj_cons ⟨by decide, rfl⟩ hj_nil))))) ?_)
      refine wp_iconst (nI 2) dL_write_28 (by decide) ?_
      refine wp_ireturn dL_write_29 rfl ?_
      exact hq.thr h1 (by decide) (Nat.le_refl _) (Nat.le_succ _) (by rw [e_write (by rw [h1]; exact nI_ne9 (by decide))]; exact C) FK.rf O
    · have h2 : some "java/lang/IllegalStateException" = some e := h2
      cases h2
      refine cont_x (wx_catch (j := 5) [(0, 19, 22, 21), (0, 19, 26, 19)] (0, 19, 30, 13) [(0, 19, 34, 23)] rfl (ps_cons (by decide) kl_L_21 (by decide +kernel) (ps_cons (by decide) kl_L_19 (by decide +kernel) ps_nil)) (by decide) (by decide) kl_L_13 ca_234 dL_write_30 (by decide) (hj_cons ⟨by decide, rfl⟩ (hj_cons ⟨by decide, rfl⟩ (hj_cons ⟨by decide, rfl⟩ (hj_cons ⟨by decide, rfl⟩ (hj_cons ⟨by decide, rfl⟩ hj_nil))))) ?_)
      refine wp_iconst (nI 3) dL_write_32 (by decide) ?_
      refine wp_ireturn dL_write_33 rfl ?_
      exact hq.thr h1 (by decide) (Nat.le_refl _) (Nat.le_succ _) (by rw [e_write (by rw [h1]; exact nI_ne9 (by decide))]; exact C) FK.rf O
    · have h2 : some "java/lang/UnsupportedOperationException" = some e := h2
      cases h2
      refine cont_x (wx_catch (j := 5) [(0, 19, 22, 21), (0, 19, 26, 19), (0, 19, 30, 13)] (0, 19, 34, 23) [] rfl (ps_cons (by decide) kl_L_21 (by decide +kernel) (ps_cons (by decide) kl_L_19 (by decide +kernel) (ps_cons (by decide) kl_L_13 (by decide +kernel) ps_nil))) (by decide) (by decide) kl_L_23 ca_436 dL_write_34 (by decide) (hj_cons ⟨by decide, rfl⟩ (hj_cons ⟨by decide, rfl⟩ (hj_cons ⟨by decide, rfl⟩ (hj_cons ⟨by decide, rfl⟩ (hj_cons ⟨by decide, rfl⟩ hj_nil))))) ?_)
      refine wp_iconst (nI 4) dL_write_36 (by decide) ?_
      refine wp_ireturn dL_write_37 rfl ?_
      exact hq.thr h1 (by decide) (Nat.le_refl _) (Nat.le_succ _) (by rw [e_write (by rw [h1]; exact nI_ne9 (by decide))]; exact C) FK.rf O
    · have h2 : (none : Option String) = some e := h2
      cases h2
  · intro h0 h' X' C9 S9 F9
    refine cont_ret ?_
    have O2 := FK.out F9.fk O
    refine wp_if_eq 17 dL_write_10 (by decide) (fun c_e => ?_) (fun c_e => ?_)
    · refine wp_lconst (zL (o_write R v (tn v) u (tn u) y).2.1) dL_write_17 (by rw [zL, if_pos c_e]; rfl) ?_
      refine wp_lastoreN 1 dL_write_18 O2.1 O2.2 (by decide) (by decide) ?_
      refine wp_goto 38 dL_write_19 (by decide) ?_
      refine wp_iconst (nI 0) dL_write_38 (by decide) ?_
      refine wp_ireturn dL_write_39 rfl ?_
      exact hq.ret h0 (Nat.le_refl _) (Nat.le_succ _) (C.ofR F9 C9 S9) F9.fk O
    · refine wp_lconst (zL (o_write R v (tn v) u (tn u) y).2.1) dL_write_13 (by rw [zL, if_neg c_e]; rfl) ?_
      refine wp_goto 18 dL_write_14 (by decide) ?_
      refine wp_lastoreN 1 dL_write_18 O2.1 O2.2 (by decide) (by decide) ?_
      refine wp_goto 38 dL_write_19 (by decide) ?_
      refine wp_iconst (nI 0) dL_write_38 (by decide) ?_
      refine wp_ireturn dL_write_39 rfl ?_
      exact hq.ret h0 (Nat.le_refl _) (Nat.le_succ _) (C.ofR F9 C9 S9) F9.fk O
set_option maxRecDepth 100000 in
set_option maxHeartbeats 4000000 in
theorem g_ensure {G : GG} {d bc bs c M n : Nat} {h : Hp} {Q : Pst} {V : SV} {x : Nat → QIS} {R : RS} {v : Int32} {u : Int32} (B : PUR c V M n x R) (hc : c < 512) (C : CLS h V M n x R) (O : h_k h (nm 70 0) = 104 ∧ h_n h (nm 70 0) = 1)  (hd : 20 ≤ d) (hbc : 6 ≤ bc) (hbs : 60 ≤ bs) (hq : HQ Q h (o_ensure R v (tn v) u (tn u)).1 (zL (o_ensure R v (tn v) u (tn u)).2.1) M V n x (o_ensure R v (tn v) u (tn u)).2.2) : WP G m_L_ensure d 0 (aargs 0 [vr (some (nm 40 0)), vi v, vi u, vr (some (nm 70 0))]) [] h bc bs Q := by
  obtain ⟨hS, hW, hmd, hMc, hX, hRB, hLF⟩ := B
  have hr : sMd V < 700000 := by omega
  have hb1 := hRB.1
  have hnv := hS.1
  have hn12 := hX.1.2.1
  refine wp_sub [(0, vr (some (nm 40 0))), (1, vi v), (2, vi u), (3, vr (some (nm 70 0)))] (fun _ hz => hz) ?_
  refine wp_aload_n (i := 3) dL_ensure_0 rfl rfl ?_
  refine wp_iconst (nI 0) dL_ensure_1 (by decide) ?_
  refine wp_aload_n (i := 0) dL_ensure_2 rfl rfl ?_
  refine wp_iload_n (i := 1) dL_ensure_3 rfl rfl ?_
  refine wp_iload_n (i := 2) dL_ensure_4 rfl rfl ?_
  obtain ⟨X, HR, HS⟩ := C.1
  refine wp_cV (y' := m_X11_ensure) 12 [vi v, vi u] [vi (nI 0), vr (some (nm 70 0))] 6 60 dL_ensure_5 ml_L_120 im_X11_ensure se_X11_ensure (by decide) C.hk ok_X11_ensure rfl (Nat.le_of_ble_eq_true rfl) rfl (Nat.le_of_ble_eq_true rfl) (d' := d - 1) (by omega) (by omega) (by omega) (c_X11_ensure HR HS (RB_up hRB (by omega)) (ix_tn (by decide)) (ix_tn (by omega)) (by omega) (by omega) (by omega) ?_)
  refine ⟨?_, ?_⟩
  · intro i e h1 h2
    rcases i with _ | _ | _ | i
    · have h2 : some "java/lang/IllegalArgumentException" = some e := h2
      cases h2
      refine cont_x (wx_catch (j := 4) [] (0, 17, 20, 21) [(0, 17, 24, 19), (0, 17, 28, 13)] rfl ps_nil (by decide) (by decide) kl_L_21 ca_417 dL_ensure_20 (by decide) (hj_cons ⟨by decide, rfl⟩ (hj_cons ⟨by decide, rfl⟩ (hj_cons ⟨by decide, rfl⟩ (hj_cons ⟨by decide, rfl⟩ hj_nil)))) ?_)
      refine wp_iconst (nI 1) dL_ensure_22 (by decide) ?_
      refine wp_ireturn dL_ensure_23 rfl ?_
      exact hq.thr h1 (by decide) (Nat.le_refl _) (Nat.le_succ _) (by rw [e_ensure (by rw [h1]; exact nI_ne9 (by decide))]; exact C) FK.rf O
    · have h2 : some "java/lang/IndexOutOfBoundsException" = some e := h2
      cases h2
      refine cont_x (wx_catch (j := 4) [(0, 17, 20, 21)] (0, 17, 24, 19) [(0, 17, 28, 13)] rfl (ps_cons (by decide) kl_L_21 (by decide +kernel) ps_nil) (by decide) (by decide) kl_L_19 ca_395 dL_ensure_24 (by decide) (hj_cons ⟨by decide, rfl⟩ (hj_cons ⟨by decide, rfl⟩ (hj_cons ⟨by decide, rfl⟩ (hj_cons ⟨by decide, rfl⟩ hj_nil)))) ?_)
      refine wp_iconst (nI 2) dL_ensure_26 (by decide) ?_
      refine wp_ireturn dL_ensure_27 rfl ?_
      exact hq.thr h1 (by decide) (Nat.le_refl _) (Nat.le_succ _) (by rw [e_ensure (by rw [h1]; exact nI_ne9 (by decide))]; exact C) FK.rf O
    · have h2 : some "java/lang/IllegalStateException" = some e := h2
      cases h2
      refine cont_x (wx_catch (j := 4) [(0, 17, 20, 21), (0, 17, 24, 19)] (0, 17, 28, 13) [] rfl (ps_cons (by decide) kl_L_21 (by decide +kernel) (ps_cons (by decide) kl_L_19 (by decide +kernel) ps_nil)) (by decide) (by decide) kl_L_13 ca_234 dL_ensure_28 (by decide) (hj_cons ⟨by decide, rfl⟩ (hj_cons ⟨by decide, rfl⟩ (hj_cons ⟨by decide, rfl⟩ (hj_cons ⟨by decide, rfl⟩ hj_nil)))) ?_)
      refine wp_iconst (nI 3) dL_ensure_30 (by decide) ?_
      refine wp_ireturn dL_ensure_31 rfl ?_
      exact hq.thr h1 (by decide) (Nat.le_refl _) (Nat.le_succ _) (by rw [e_ensure (by rw [h1]; exact nI_ne9 (by decide))]; exact C) FK.rf O
    · have h2 : (none : Option String) = some e := h2
      cases h2
  · intro h0 h' X' C9 S9 F9
    refine cont_ret ?_
    have O2 := FK.out F9.fk O
    refine wp_if_eq 15 dL_ensure_8 (by decide) (fun c_e => ?_) (fun c_e => ?_)
    · refine wp_lconst (zL (o_ensure R v (tn v) u (tn u)).2.1) dL_ensure_15 (by rw [zL, if_pos c_e]; rfl) ?_
      refine wp_lastoreN 1 dL_ensure_16 O2.1 O2.2 (by decide) (by decide) ?_
      refine wp_goto 32 dL_ensure_17 (by decide) ?_
      refine wp_iconst (nI 0) dL_ensure_32 (by decide) ?_
      refine wp_ireturn dL_ensure_33 rfl ?_
      exact hq.ret h0 (Nat.le_refl _) (Nat.le_succ _) (C.ofR F9 C9 S9) F9.fk O
    · refine wp_lconst (zL (o_ensure R v (tn v) u (tn u)).2.1) dL_ensure_11 (by rw [zL, if_neg c_e]; rfl) ?_
      refine wp_goto 16 dL_ensure_12 (by decide) ?_
      refine wp_lastoreN 1 dL_ensure_16 O2.1 O2.2 (by decide) (by decide) ?_
      refine wp_goto 32 dL_ensure_17 (by decide) ?_
      refine wp_iconst (nI 0) dL_ensure_32 (by decide) ?_
      refine wp_ireturn dL_ensure_33 rfl ?_
      exact hq.ret h0 (Nat.le_refl _) (Nat.le_succ _) (C.ofR F9 C9 S9) F9.fk O
set_option maxRecDepth 100000 in
set_option maxHeartbeats 4000000 in
theorem g_add {G : GG} {d bc bs c M n : Nat} {h : Hp} {Q : Pst} {V : SV} {x : Nat → QIS} {R : RS} {v : Int32} {u : Int32} {y : Int32} (B : PUR c V M n x R) (hc : c < 512) (C : CLS h V M n x R) (O : h_k h (nm 70 0) = 104 ∧ h_n h (nm 70 0) = 1)  (hd : 20 ≤ d) (hbc : 6 ≤ bc) (hbs : 60 ≤ bs) (hq : HQ Q h (o_add R v (tn v) u (tn u) y).1 (zL (o_add R v (tn v) u (tn u) y).2.1) M V n x (o_add R v (tn v) u (tn u) y).2.2) : WP G m_L_add d 0 (aargs 0 [vr (some (nm 40 0)), vi v, vi u, vi y, vr (some (nm 70 0))]) [] h bc bs Q := by
  obtain ⟨hS, hW, hmd, hMc, hX, hRB, hLF⟩ := B
  have hr : sMd V < 700000 := by omega
  have hb1 := hRB.1
  have hnv := hS.1
  have hn12 := hX.1.2.1
  refine wp_sub [(0, vr (some (nm 40 0))), (1, vi v), (2, vi u), (3, vi y), (4, vr (some (nm 70 0)))] (fun _ hz => hz) ?_
  refine wp_aload (i := 4) dL_add_0 rfl ?_
  refine wp_iconst (nI 0) dL_add_2 (by decide) ?_
  refine wp_aload_n (i := 0) dL_add_3 rfl rfl ?_
  refine wp_iload_n (i := 1) dL_add_4 rfl rfl ?_
  refine wp_iload_n (i := 2) dL_add_5 rfl rfl ?_
  refine wp_iload_n (i := 3) dL_add_6 rfl rfl ?_
  obtain ⟨X, HR, HS⟩ := C.1
  refine wp_cV (y' := m_X11_add) 12 [vi v, vi u, vi y] [vi (nI 0), vr (some (nm 70 0))] 6 60 dL_add_7 ml_L_123 im_X11_add se_X11_add (by decide) C.hk ok_X11_add rfl (Nat.le_of_ble_eq_true rfl) rfl (Nat.le_of_ble_eq_true rfl) (d' := d - 1) (by omega) (by omega) (by omega) (c_X11_add HR HS (RB_up hRB (by omega)) (ix_tn (by decide)) (ix_tn (by omega)) (by omega) (by omega) (by omega) ?_)
  refine ⟨?_, ?_⟩
  · intro i e h1 h2
    rcases i with _ | _ | _ | _ | i
    · have h2 : some "java/lang/IllegalArgumentException" = some e := h2
      cases h2
      refine cont_x (wx_catch (j := 5) [] (0, 19, 22, 21) [(0, 19, 26, 19), (0, 19, 30, 13), (0, 19, 34, 23)] rfl ps_nil (by decide) (by decide) kl_L_21 ca_417 dL_add_22 (by decide) (hj_cons ⟨by decide, rfl⟩ (hj_cons ⟨by decide, rfl⟩ (hj_cons ⟨by decide, rfl⟩ (hj_cons ⟨by decide, rfl⟩ (hj_cons ⟨by decide, rfl⟩ hj_nil))))) ?_)
      refine wp_iconst (nI 1) dL_add_24 (by decide) ?_
      refine wp_ireturn dL_add_25 rfl ?_
      exact hq.thr h1 (by decide) (Nat.le_refl _) (Nat.le_succ _) (by rw [e_add (by rw [h1]; exact nI_ne9 (by decide))]; exact C) FK.rf O
    · have h2 : some "java/lang/IndexOutOfBoundsException" = some e := h2
      cases h2
      refine cont_x (wx_catch (j := 5) [(0, 19, 22, 21)] (0, 19, 26, 19) [(0, 19, 30, 13), (0, 19, 34, 23)] rfl (ps_cons (by decide) kl_L_21 (by decide +kernel) ps_nil) (by decide) (by decide) kl_L_19 ca_395 dL_add_26 (by decide) (hj_cons ⟨by decide, rfl⟩ (hj_cons ⟨by decide, rfl⟩ (hj_cons ⟨by decide, rfl⟩ (hj_cons ⟨by decide, rfl⟩ (hj_cons ⟨by decide, rfl⟩ hj_nil))))) ?_)
      refine wp_iconst (nI 2) dL_add_28 (by decide) ?_
      refine wp_ireturn dL_add_29 rfl ?_
      exact hq.thr h1 (by decide) (Nat.le_refl _) (Nat.le_succ _) (by rw [e_add (by rw [h1]; exact nI_ne9 (by decide))]; exact C) FK.rf O
    · have h2 : some "java/lang/IllegalStateException" = some e := h2
      cases h2
      refine cont_x (wx_catch (j := 5) [(0, 19, 22, 21), (0, 19, 26, 19)] (0, 19, 30, 13) [(0, 19, 34, 23)] rfl (ps_cons (by decide) kl_L_21 (by decide +kernel) (ps_cons (by decide) kl_L_19 (by decide +kernel) ps_nil)) (by decide) (by decide) kl_L_13 ca_234 dL_add_30 (by decide) (hj_cons ⟨by decide, rfl⟩ (hj_cons ⟨by decide, rfl⟩ (hj_cons ⟨by decide, rfl⟩ (hj_cons ⟨by decide, rfl⟩ (hj_cons ⟨by decide, rfl⟩ hj_nil))))) ?_)
      refine wp_iconst (nI 3) dL_add_32 (by decide) ?_
      refine wp_ireturn dL_add_33 rfl ?_
      exact hq.thr h1 (by decide) (Nat.le_refl _) (Nat.le_succ _) (by rw [e_add (by rw [h1]; exact nI_ne9 (by decide))]; exact C) FK.rf O
    · have h2 : some "java/lang/UnsupportedOperationException" = some e := h2
      cases h2
      refine cont_x (wx_catch (j := 5) [(0, 19, 22, 21), (0, 19, 26, 19), (0, 19, 30, 13)] (0, 19, 34, 23) [] rfl (ps_cons (by decide) kl_L_21 (by decide +kernel) (ps_cons (by decide) kl_L_19 (by decide +kernel) (ps_cons (by decide) kl_L_13 (by decide +kernel) ps_nil))) (by decide) (by decide) kl_L_23 ca_436 dL_add_34 (by decide) (hj_cons ⟨by decide, rfl⟩ (hj_cons ⟨by decide, rfl⟩ (hj_cons ⟨by decide, rfl⟩ (hj_cons ⟨by decide, rfl⟩ (hj_cons ⟨by decide, rfl⟩ hj_nil))))) ?_)
      refine wp_iconst (nI 4) dL_add_36 (by decide) ?_
      refine wp_ireturn dL_add_37 rfl ?_
      exact hq.thr h1 (by decide) (Nat.le_refl _) (Nat.le_succ _) (by rw [e_add (by rw [h1]; exact nI_ne9 (by decide))]; exact C) FK.rf O
    · have h2 : (none : Option String) = some e := h2
      cases h2
  · intro h0 h' X' C9 S9 F9
    refine cont_ret ?_
    have O2 := FK.out F9.fk O
    refine wp_if_eq 17 dL_add_10 (by decide) (fun c_e => ?_) (fun c_e => ?_)
    · refine wp_lconst (zL (o_add R v (tn v) u (tn u) y).2.1) dL_add_17 (by rw [zL, if_pos c_e]; rfl) ?_
      refine wp_lastoreN 1 dL_add_18 O2.1 O2.2 (by decide) (by decide) ?_
      refine wp_goto 38 dL_add_19 (by decide) ?_
      refine wp_iconst (nI 0) dL_add_38 (by decide) ?_
      refine wp_ireturn dL_add_39 rfl ?_
      exact hq.ret h0 (Nat.le_refl _) (Nat.le_succ _) (C.ofR F9 C9 S9) F9.fk O
    · refine wp_lconst (zL (o_add R v (tn v) u (tn u) y).2.1) dL_add_13 (by rw [zL, if_neg c_e]; rfl) ?_
      refine wp_goto 18 dL_add_14 (by decide) ?_
      refine wp_lastoreN 1 dL_add_18 O2.1 O2.2 (by decide) (by decide) ?_
      refine wp_goto 38 dL_add_19 (by decide) ?_
      refine wp_iconst (nI 0) dL_add_38 (by decide) ?_
      refine wp_ireturn dL_add_39 rfl ?_
      exact hq.ret h0 (Nat.le_refl _) (Nat.le_succ _) (C.ofR F9 C9 S9) F9.fk O
set_option maxRecDepth 100000 in
set_option maxHeartbeats 4000000 in
theorem g_commit {G : GG} {d bc bs c M n : Nat} {h : Hp} {Q : Pst} {V : SV} {x : Nat → QIS} {R : RS} {v : Int32} (B : PUR c V M n x R) (hc : c < 512) (C : CLS h V M n x R) (O : h_k h (nm 70 0) = 104 ∧ h_n h (nm 70 0) = 1)  (hd : 20 ≤ d) (hbc : 60 ≤ bc) (hbs : (300 + 1100 * cgN (RS_tt R (tn v % 3)) (RS_rn R) 0) ≤ bs) (hq : HQ Q h (o_commit R v (tn v % 3)).1 (o_commit R v (tn v % 3)).2.1.toInt64 M V n x (o_commit R v (tn v % 3)).2.2) : WP G m_L_commit d 0 (aargs 0 [vr (some (nm 40 0)), vi v, vr (some (nm 70 0))]) [] h bc bs Q := by
  obtain ⟨hS, hW, hmd, hMc, hX, hRB, hLF⟩ := B
  have hr : sMd V < 700000 := by omega
  have hb1 := hRB.1
  have hnv := hS.1
  have hn12 := hX.1.2.1
  refine wp_sub [(0, vr (some (nm 40 0))), (1, vi v), (2, vr (some (nm 70 0)))] (fun _ hz => hz) ?_
  refine wp_aload_n (i := 2) dL_commit_0 rfl rfl ?_
  refine wp_iconst (nI 0) dL_commit_1 (by decide) ?_
  refine wp_aload_n (i := 0) dL_commit_2 rfl rfl ?_
  refine wp_iload_n (i := 1) dL_commit_3 rfl rfl ?_
  obtain ⟨X, HR, HS⟩ := C.1
  have hcg : (RS_lg R).length + cgN (RS_tt R (tn v % 3)) (RS_rn R) 0 ≤ 512 := by
    have := flg_t (Nat.mod_lt (tn v) (by decide : 0 < 3)) hb1.2.1
    unfold LF at hLF
    omega
  refine wp_cV (y' := m_X11_commit) 12 [vi v] [vi (nI 0), vr (some (nm 70 0))] 60 (300 + 1100 * cgN (RS_tt R (tn v % 3)) (RS_rn R) 0) dL_commit_4 ml_L_126 im_X11_commit se_X11_commit (by decide) C.hk ok_X11_commit rfl (Nat.le_of_ble_eq_true rfl) rfl (Nat.le_of_ble_eq_true rfl) (d' := d - 1) (by omega) (by omega) (by omega) (c_X11_commit HR HS (RB_up hRB (by omega)) ix_t3 (by omega) (by omega) hcg (by omega) (by omega) (by omega) ?_)
  refine ⟨?_, ?_⟩
  · intro i e h1 h2
    rcases i with _ | _ | i
    · have h2 : some "java/lang/IllegalArgumentException" = some e := h2
      cases h2
      refine cont_x (wx_catch_n (j := 3) [] (0, 9, 12, 21) [(0, 9, 15, 13)] rfl ps_nil (by decide) (by decide) kl_L_21 ca_417 dL_commit_12 rfl (by decide) (hj_cons ⟨by decide, rfl⟩ (hj_cons ⟨by decide, rfl⟩ (hj_cons ⟨by decide, rfl⟩ hj_nil))) ?_)
      refine wp_iconst (nI 1) dL_commit_13 (by decide) ?_
      refine wp_ireturn dL_commit_14 rfl ?_
      exact hq.thr h1 (by decide) (Nat.le_refl _) (Nat.le_succ _) (by rw [e_commit (by rw [h1]; exact nI_ne9 (by decide))]; exact C) FK.rf O
    · have h2 : some "java/lang/IllegalStateException" = some e := h2
      cases h2
      refine cont_x (wx_catch_n (j := 3) [(0, 9, 12, 21)] (0, 9, 15, 13) [] rfl (ps_cons (by decide) kl_L_21 (by decide +kernel) ps_nil) (by decide) (by decide) kl_L_13 ca_234 dL_commit_15 rfl (by decide) (hj_cons ⟨by decide, rfl⟩ (hj_cons ⟨by decide, rfl⟩ (hj_cons ⟨by decide, rfl⟩ hj_nil))) ?_)
      refine wp_iconst (nI 2) dL_commit_16 (by decide) ?_
      refine wp_ireturn dL_commit_17 rfl ?_
      exact hq.thr h1 (by decide) (Nat.le_refl _) (Nat.le_succ _) (by rw [e_commit (by rw [h1]; exact nI_ne9 (by decide))]; exact C) FK.rf O
    · have h2 : (none : Option String) = some e := h2
      cases h2
  · intro h0 h' X' C9 S9 F9
    refine cont_ret ?_
    have O2 := FK.out F9.fk O
    refine wp_i2l dL_commit_7 ?_
    refine wp_lastoreN 1 dL_commit_8 O2.1 O2.2 (by decide) (by decide) ?_
    refine wp_goto 18 dL_commit_9 (by decide) ?_
    refine wp_iconst (nI 0) dL_commit_18 (by decide) ?_
    refine wp_ireturn dL_commit_19 rfl ?_
    exact hq.ret h0 (Nat.le_refl _) (Nat.le_succ _) (C.ofR F9 C9 S9) F9.fk O
set_option maxRecDepth 100000 in
set_option maxHeartbeats 4000000 in
theorem g_commitE {G : GG} {d bc bs c M n : Nat} {h : Hp} {Q : Pst} {V : SV} {x : Nat → QIS} {R : RS} {v : Int32} (B : PUR c V M n x R) (hc : c < 512) (C : CLS h V M n x R) (O : h_k h (nm 70 0) = 104 ∧ h_n h (nm 70 0) = 1) (he : ¬ (o_commit R v (tn v % 3)).1 = nI 0) (hd : 20 ≤ d) (hbc : 6 ≤ bc) (hbs : 40 ≤ bs) (hq : HQ Q h (o_commit R v (tn v % 3)).1 (o_commit R v (tn v % 3)).2.1.toInt64 M V n x (o_commit R v (tn v % 3)).2.2) : WP G m_L_commit d 0 (aargs 0 [vr (some (nm 40 0)), vi v, vr (some (nm 70 0))]) [] h bc bs Q := by
  obtain ⟨hS, hW, hmd, hMc, hX, hRB, hLF⟩ := B
  have hr : sMd V < 700000 := by omega
  have hb1 := hRB.1
  have hnv := hS.1
  have hn12 := hX.1.2.1
  refine wp_sub [(0, vr (some (nm 40 0))), (1, vi v), (2, vr (some (nm 70 0)))] (fun _ hz => hz) ?_
  refine wp_aload_n (i := 2) dL_commit_0 rfl rfl ?_
  refine wp_iconst (nI 0) dL_commit_1 (by decide) ?_
  refine wp_aload_n (i := 0) dL_commit_2 rfl rfl ?_
  refine wp_iload_n (i := 1) dL_commit_3 rfl rfl ?_
  obtain ⟨X, HR, HS⟩ := C.1
  refine wp_cV (y' := m_X11_commit) 12 [vi v] [vi (nI 0), vr (some (nm 70 0))] 6 40 dL_commit_4 ml_L_126 im_X11_commit se_X11_commit (by decide) C.hk ok_X11_commit rfl (Nat.le_of_ble_eq_true rfl) rfl (Nat.le_of_ble_eq_true rfl) (d' := d - 1) (by omega) (by omega) (by omega) (c_X11_commitE HR HS (RB_up hRB (by omega)) ix_t3 he (by omega) (by omega) (by omega) ?_)
  refine ⟨?_, ?_⟩
  · intro i e h1 h2
    rcases i with _ | _ | i
    · have h2 : some "java/lang/IllegalArgumentException" = some e := h2
      cases h2
      refine cont_x (wx_catch_n (j := 3) [] (0, 9, 12, 21) [(0, 9, 15, 13)] rfl ps_nil (by decide) (by decide) kl_L_21 ca_417 dL_commit_12 rfl (by decide) (hj_cons ⟨by decide, rfl⟩ (hj_cons ⟨by decide, rfl⟩ (hj_cons ⟨by decide, rfl⟩ hj_nil))) ?_)
      refine wp_iconst (nI 1) dL_commit_13 (by decide) ?_
      refine wp_ireturn dL_commit_14 rfl ?_
      exact hq.thr h1 (by decide) (Nat.le_refl _) (Nat.le_succ _) (by rw [e_commit (by rw [h1]; exact nI_ne9 (by decide))]; exact C) FK.rf O
    · have h2 : some "java/lang/IllegalStateException" = some e := h2
      cases h2
      refine cont_x (wx_catch_n (j := 3) [(0, 9, 12, 21)] (0, 9, 15, 13) [] rfl (ps_cons (by decide) kl_L_21 (by decide +kernel) ps_nil) (by decide) (by decide) kl_L_13 ca_234 dL_commit_15 rfl (by decide) (hj_cons ⟨by decide, rfl⟩ (hj_cons ⟨by decide, rfl⟩ (hj_cons ⟨by decide, rfl⟩ hj_nil))) ?_)
      refine wp_iconst (nI 2) dL_commit_16 (by decide) ?_
      refine wp_ireturn dL_commit_17 rfl ?_
      exact hq.thr h1 (by decide) (Nat.le_refl _) (Nat.le_succ _) (by rw [e_commit (by rw [h1]; exact nI_ne9 (by decide))]; exact C) FK.rf O
    · have h2 : (none : Option String) = some e := h2
      cases h2
  · intro h0 h' X' C9 S9 F9
    refine cont_ret ?_
    have O2 := FK.out F9.fk O
    refine wp_i2l dL_commit_7 ?_
    refine wp_lastoreN 1 dL_commit_8 O2.1 O2.2 (by decide) (by decide) ?_
    refine wp_goto 18 dL_commit_9 (by decide) ?_
    refine wp_iconst (nI 0) dL_commit_18 (by decide) ?_
    refine wp_ireturn dL_commit_19 rfl ?_
    exact hq.ret h0 (Nat.le_refl _) (Nat.le_succ _) (C.ofR F9 C9 S9) F9.fk O
set_option maxRecDepth 100000 in
set_option maxHeartbeats 4000000 in
theorem g_end {G : GG} {d bc bs c M n : Nat} {h : Hp} {Q : Pst} {V : SV} {x : Nat → QIS} {R : RS} {v : Int32} (B : PUR c V M n x R) (hc : c < 512) (C : CLS h V M n x R) (O : h_k h (nm 70 0) = 104 ∧ h_n h (nm 70 0) = 1)  (hd : 20 ≤ d) (hbc : 6 ≤ bc) (hbs : 60 ≤ bs) (hq : HQ Q h (o_end R v (tn v)).1 (o_end R v (tn v)).2.1.toInt64 M V n x (o_end R v (tn v)).2.2) : WP G m_L_end d 0 (aargs 0 [vr (some (nm 40 0)), vi v, vr (some (nm 70 0))]) [] h bc bs Q := by
  obtain ⟨hS, hW, hmd, hMc, hX, hRB, hLF⟩ := B
  have hr : sMd V < 700000 := by omega
  have hb1 := hRB.1
  have hnv := hS.1
  have hn12 := hX.1.2.1
  refine wp_sub [(0, vr (some (nm 40 0))), (1, vi v), (2, vr (some (nm 70 0)))] (fun _ hz => hz) ?_
  refine wp_aload_n (i := 2) dL_end_0 rfl rfl ?_
  refine wp_iconst (nI 0) dL_end_1 (by decide) ?_
  refine wp_aload_n (i := 0) dL_end_2 rfl rfl ?_
  refine wp_iload_n (i := 1) dL_end_3 rfl rfl ?_
  obtain ⟨X, HR, HS⟩ := C.1
  refine wp_cV (y' := m_X11_end) 12 [vi v] [vi (nI 0), vr (some (nm 70 0))] 6 60 dL_end_4 ml_L_130 im_X11_end se_X11_end (by decide) C.hk ok_X11_end rfl (Nat.le_of_ble_eq_true rfl) rfl (Nat.le_of_ble_eq_true rfl) (d' := d - 1) (by omega) (by omega) (by omega) (c_X11_end HR HS (RB_up hRB (by omega)) (ix_tn (by decide)) (by omega) (by omega) (by omega) ?_)
  refine ⟨?_, ?_⟩
  · intro i e h1 h2
    rcases i with _ | _ | i
    · have h2 : some "java/lang/IllegalArgumentException" = some e := h2
      cases h2
      refine cont_x (wx_catch_n (j := 3) [] (0, 9, 12, 21) [(0, 9, 15, 13)] rfl ps_nil (by decide) (by decide) kl_L_21 ca_417 dL_end_12 rfl (by decide) (hj_cons ⟨by decide, rfl⟩ (hj_cons ⟨by decide, rfl⟩ (hj_cons ⟨by decide, rfl⟩ hj_nil))) ?_)
      refine wp_iconst (nI 1) dL_end_13 (by decide) ?_
      refine wp_ireturn dL_end_14 rfl ?_
      exact hq.thr h1 (by decide) (Nat.le_refl _) (Nat.le_succ _) (by rw [e_end (by rw [h1]; exact nI_ne9 (by decide))]; exact C) FK.rf O
    · have h2 : some "java/lang/IllegalStateException" = some e := h2
      cases h2
      refine cont_x (wx_catch_n (j := 3) [(0, 9, 12, 21)] (0, 9, 15, 13) [] rfl (ps_cons (by decide) kl_L_21 (by decide +kernel) ps_nil) (by decide) (by decide) kl_L_13 ca_234 dL_end_15 rfl (by decide) (hj_cons ⟨by decide, rfl⟩ (hj_cons ⟨by decide, rfl⟩ (hj_cons ⟨by decide, rfl⟩ hj_nil))) ?_)
      refine wp_iconst (nI 2) dL_end_16 (by decide) ?_
      refine wp_ireturn dL_end_17 rfl ?_
      exact hq.thr h1 (by decide) (Nat.le_refl _) (Nat.le_succ _) (by rw [e_end (by rw [h1]; exact nI_ne9 (by decide))]; exact C) FK.rf O
    · have h2 : (none : Option String) = some e := h2
      cases h2
  · intro h0 h' X' C9 S9 F9
    refine cont_ret ?_
    have O2 := FK.out F9.fk O
    refine wp_i2l dL_end_7 ?_
    refine wp_lastoreN 1 dL_end_8 O2.1 O2.2 (by decide) (by decide) ?_
    refine wp_goto 18 dL_end_9 (by decide) ?_
    refine wp_iconst (nI 0) dL_end_18 (by decide) ?_
    refine wp_ireturn dL_end_19 rfl ?_
    exact hq.ret h0 (Nat.le_refl _) (Nat.le_succ _) (C.ofR F9 C9 S9) F9.fk O
set_option maxRecDepth 100000 in
set_option maxHeartbeats 4000000 in
theorem g_sentBack {G : GG} {d bc bs c M n : Nat} {h : Hp} {Q : Pst} {V : SV} {x : Nat → QIS} {R : RS} {v : Int32} (B : PUR c V M n x R) (hc : c < 512) (C : CLS h V M n x R) (O : h_k h (nm 70 0) = 104 ∧ h_n h (nm 70 0) = 1)  (hd : 20 ≤ d) (hbc : 6 ≤ bc) (hbs : 60 ≤ bs) (hq : HQ Q h (o_sentBack R v (tn v)).1 (o_sentBack R v (tn v)).2.1.toInt64 M V n x (o_sentBack R v (tn v)).2.2) : WP G m_L_sentBack d 0 (aargs 0 [vr (some (nm 40 0)), vi v, vr (some (nm 70 0))]) [] h bc bs Q := by
  obtain ⟨hS, hW, hmd, hMc, hX, hRB, hLF⟩ := B
  have hr : sMd V < 700000 := by omega
  have hb1 := hRB.1
  have hnv := hS.1
  have hn12 := hX.1.2.1
  refine wp_sub [(0, vr (some (nm 40 0))), (1, vi v), (2, vr (some (nm 70 0)))] (fun _ hz => hz) ?_
  refine wp_aload_n (i := 2) dL_sentBack_0 rfl rfl ?_
  refine wp_iconst (nI 0) dL_sentBack_1 (by decide) ?_
  refine wp_aload_n (i := 0) dL_sentBack_2 rfl rfl ?_
  refine wp_iload_n (i := 1) dL_sentBack_3 rfl rfl ?_
  obtain ⟨X, HR, HS⟩ := C.1
  refine wp_cV (y' := m_X11_sentBack) 12 [vi v] [vi (nI 0), vr (some (nm 70 0))] 6 60 dL_sentBack_4 ml_L_133 im_X11_sentBack se_X11_sentBack (by decide) C.hk ok_X11_sentBack rfl (Nat.le_of_ble_eq_true rfl) rfl (Nat.le_of_ble_eq_true rfl) (d' := d - 1) (by omega) (by omega) (by omega) (c_X11_sentBack HR HS (RB_up hRB (by omega)) (ix_tn (by decide)) (by omega) (by omega) (by omega) ?_)
  refine ⟨?_, ?_⟩
  · intro i e h1 h2
    rcases i with _ | i
    · have h2 : some "java/lang/IllegalArgumentException" = some e := h2
      cases h2
      refine cont_x (wx_catch_n (j := 3) [] (0, 9, 12, 21) [] rfl ps_nil (by decide) (by decide) kl_L_21 ca_417 dL_sentBack_12 rfl (by decide) (hj_cons ⟨by decide, rfl⟩ (hj_cons ⟨by decide, rfl⟩ (hj_cons ⟨by decide, rfl⟩ hj_nil))) ?_)
      refine wp_iconst (nI 1) dL_sentBack_13 (by decide) ?_
      refine wp_ireturn dL_sentBack_14 rfl ?_
      exact hq.thr h1 (by decide) (Nat.le_refl _) (Nat.le_succ _) (by rw [e_sentBack (by rw [h1]; exact nI_ne9 (by decide))]; exact C) FK.rf O
    · have h2 : (none : Option String) = some e := h2
      cases h2
  · intro h0 h' X' C9 S9 F9
    refine cont_ret ?_
    have O2 := FK.out F9.fk O
    refine wp_i2l dL_sentBack_7 ?_
    refine wp_lastoreN 1 dL_sentBack_8 O2.1 O2.2 (by decide) (by decide) ?_
    refine wp_goto 15 dL_sentBack_9 (by decide) ?_
    refine wp_iconst (nI 0) dL_sentBack_15 (by decide) ?_
    refine wp_ireturn dL_sentBack_16 rfl ?_
    exact hq.ret h0 (Nat.le_refl _) (Nat.le_succ _) (C.ofR F9 C9 S9) F9.fk O
set_option maxRecDepth 100000 in
set_option maxHeartbeats 4000000 in
theorem g_valueOf {G : GG} {d bc bs c M n : Nat} {h : Hp} {Q : Pst} {V : SV} {x : Nat → QIS} {R : RS} {u : Int32} (B : PUR c V M n x R) (hc : c < 512) (C : CLS h V M n x R) (O : h_k h (nm 70 0) = 104 ∧ h_n h (nm 70 0) = 1)  (hd : 20 ≤ d) (hbc : 6 ≤ bc) (hbs : 60 ≤ bs) (hq : HQ Q h (o_valueOf R u (tn u)).1 (o_valueOf R u (tn u)).2.1.toInt64 M V n x (o_valueOf R u (tn u)).2.2) : WP G m_L_valueOf d 0 (aargs 0 [vr (some (nm 40 0)), vi u, vr (some (nm 70 0))]) [] h bc bs Q := by
  obtain ⟨hS, hW, hmd, hMc, hX, hRB, hLF⟩ := B
  have hr : sMd V < 700000 := by omega
  have hb1 := hRB.1
  have hnv := hS.1
  have hn12 := hX.1.2.1
  refine wp_sub [(0, vr (some (nm 40 0))), (1, vi u), (2, vr (some (nm 70 0)))] (fun _ hz => hz) ?_
  refine wp_aload_n (i := 2) dL_valueOf_0 rfl rfl ?_
  refine wp_iconst (nI 0) dL_valueOf_1 (by decide) ?_
  refine wp_aload_n (i := 0) dL_valueOf_2 rfl rfl ?_
  refine wp_iload_n (i := 1) dL_valueOf_3 rfl rfl ?_
  obtain ⟨X, HR, HS⟩ := C.1
  refine wp_cV (y' := m_X11_valueOf) 12 [vi u] [vi (nI 0), vr (some (nm 70 0))] 6 60 dL_valueOf_4 ml_L_136 im_X11_valueOf se_X11_valueOf (by decide) C.hk ok_X11_valueOf rfl (Nat.le_of_ble_eq_true rfl) rfl (Nat.le_of_ble_eq_true rfl) (d' := d - 1) (by omega) (by omega) (by omega) (c_X11_valueOf HR HS (RB_up hRB (by omega)) (ix_tn (by omega)) (by omega) (by omega) (by omega) ?_)
  refine ⟨?_, ?_⟩
  · intro i e h1 h2
    rcases i with _ | i
    · have h2 : some "java/lang/IndexOutOfBoundsException" = some e := h2
      cases h2
      refine cont_x (wx_catch_n (j := 3) [] (0, 9, 12, 19) [] rfl ps_nil (by decide) (by decide) kl_L_19 ca_395 dL_valueOf_12 rfl (by decide) (hj_cons ⟨by decide, rfl⟩ (hj_cons ⟨by decide, rfl⟩ (hj_cons ⟨by decide, rfl⟩ hj_nil))) ?_)
      refine wp_iconst (nI 1) dL_valueOf_13 (by decide) ?_
      refine wp_ireturn dL_valueOf_14 rfl ?_
      exact hq.thr h1 (by decide) (Nat.le_refl _) (Nat.le_succ _) (by rw [e_valueOf (by rw [h1]; exact nI_ne9 (by decide))]; exact C) FK.rf O
    · have h2 : (none : Option String) = some e := h2
      cases h2
  · intro h0 h' X' C9 S9 F9
    refine cont_ret ?_
    have O2 := FK.out F9.fk O
    refine wp_i2l dL_valueOf_7 ?_
    refine wp_lastoreN 1 dL_valueOf_8 O2.1 O2.2 (by decide) (by decide) ?_
    refine wp_goto 15 dL_valueOf_9 (by decide) ?_
    refine wp_iconst (nI 0) dL_valueOf_15 (by decide) ?_
    refine wp_ireturn dL_valueOf_16 rfl ?_
    exact hq.ret h0 (Nat.le_refl _) (Nat.le_succ _) (C.ofR F9 C9 S9) F9.fk O
set_option maxRecDepth 100000 in
set_option maxHeartbeats 4000000 in
theorem g_valueByLog {G : GG} {d bc bs c M n : Nat} {h : Hp} {Q : Pst} {V : SV} {x : Nat → QIS} {R : RS} {u : Int32} (B : PUR c V M n x R) (hc : c < 512) (C : CLS h V M n x R) (O : h_k h (nm 70 0) = 104 ∧ h_n h (nm 70 0) = 1)  (hd : 20 ≤ d) (hbc : 6 ≤ bc) (hbs : 60 ≤ bs) (hq : HQ Q h (o_valueByLog R u (tn u)).1 (o_valueByLog R u (tn u)).2.1.toInt64 M V n x (o_valueByLog R u (tn u)).2.2) : WP G m_L_valueByLog d 0 (aargs 0 [vr (some (nm 40 0)), vi u, vr (some (nm 70 0))]) [] h bc bs Q := by
  obtain ⟨hS, hW, hmd, hMc, hX, hRB, hLF⟩ := B
  have hr : sMd V < 700000 := by omega
  have hb1 := hRB.1
  have hnv := hS.1
  have hn12 := hX.1.2.1
  refine wp_sub [(0, vr (some (nm 40 0))), (1, vi u), (2, vr (some (nm 70 0)))] (fun _ hz => hz) ?_
  refine wp_aload_n (i := 2) dL_valueByLog_0 rfl rfl ?_
  refine wp_iconst (nI 0) dL_valueByLog_1 (by decide) ?_
  refine wp_aload_n (i := 0) dL_valueByLog_2 rfl rfl ?_
  refine wp_iload_n (i := 1) dL_valueByLog_3 rfl rfl ?_
  obtain ⟨X, HR, HS⟩ := C.1
  refine wp_cV (y' := m_X11_valueByLog) 12 [vi u] [vi (nI 0), vr (some (nm 70 0))] 6 60 dL_valueByLog_4 ml_L_139 im_X11_valueByLog se_X11_valueByLog (by decide) C.hk ok_X11_valueByLog rfl (Nat.le_of_ble_eq_true rfl) rfl (Nat.le_of_ble_eq_true rfl) (d' := d - 1) (by omega) (by omega) (by omega) (c_X11_valueByLog HR HS (RB_up hRB (by omega)) (ix_tn (by omega)) (by omega) (by omega) (by omega) ?_)
  refine ⟨?_, ?_⟩
  · intro i e h1 h2
    rcases i with _ | i
    · have h2 : some "java/lang/IndexOutOfBoundsException" = some e := h2
      cases h2
      refine cont_x (wx_catch_n (j := 3) [] (0, 9, 12, 19) [] rfl ps_nil (by decide) (by decide) kl_L_19 ca_395 dL_valueByLog_12 rfl (by decide) (hj_cons ⟨by decide, rfl⟩ (hj_cons ⟨by decide, rfl⟩ (hj_cons ⟨by decide, rfl⟩ hj_nil))) ?_)
      refine wp_iconst (nI 1) dL_valueByLog_13 (by decide) ?_
      refine wp_ireturn dL_valueByLog_14 rfl ?_
      exact hq.thr h1 (by decide) (Nat.le_refl _) (Nat.le_succ _) (by rw [e_valueByLog (by rw [h1]; exact nI_ne9 (by decide))]; exact C) FK.rf O
    · have h2 : (none : Option String) = some e := h2
      cases h2
  · intro h0 h' X' C9 S9 F9
    refine cont_ret ?_
    have O2 := FK.out F9.fk O
    refine wp_i2l dL_valueByLog_7 ?_
    refine wp_lastoreN 1 dL_valueByLog_8 O2.1 O2.2 (by decide) (by decide) ?_
    refine wp_goto 15 dL_valueByLog_9 (by decide) ?_
    refine wp_iconst (nI 0) dL_valueByLog_15 (by decide) ?_
    refine wp_ireturn dL_valueByLog_16 rfl ?_
    exact hq.ret h0 (Nat.le_refl _) (Nat.le_succ _) (C.ofR F9 C9 S9) F9.fk O
set_option maxRecDepth 100000 in
set_option maxHeartbeats 4000000 in
theorem g_history {G : GG} {d bc bs c M n : Nat} {h : Hp} {Q : Pst} {V : SV} {x : Nat → QIS} {R : RS} {u : Int32} (B : PUR c V M n x R) (hc : c < 512) (C : CLS h V M n x R) (O : h_k h (nm 70 0) = 104 ∧ h_n h (nm 70 0) = 1)  (hd : 20 ≤ d) (hbc : 6 ≤ bc) (hbs : 60 ≤ bs) (hq : HQ Q h (o_history R u (tn u)).1 (o_history R u (tn u)).2.1.toInt64 M V n x (o_history R u (tn u)).2.2) : WP G m_L_history d 0 (aargs 0 [vr (some (nm 40 0)), vi u, vr (some (nm 70 0))]) [] h bc bs Q := by
  obtain ⟨hS, hW, hmd, hMc, hX, hRB, hLF⟩ := B
  have hr : sMd V < 700000 := by omega
  have hb1 := hRB.1
  have hnv := hS.1
  have hn12 := hX.1.2.1
  refine wp_sub [(0, vr (some (nm 40 0))), (1, vi u), (2, vr (some (nm 70 0)))] (fun _ hz => hz) ?_
  refine wp_aload_n (i := 2) dL_history_0 rfl rfl ?_
  refine wp_iconst (nI 0) dL_history_1 (by decide) ?_
  refine wp_aload_n (i := 0) dL_history_2 rfl rfl ?_
  refine wp_iload_n (i := 1) dL_history_3 rfl rfl ?_
  obtain ⟨X, HR, HS⟩ := C.1
  refine wp_cV (y' := m_X11_history) 12 [vi u] [vi (nI 0), vr (some (nm 70 0))] 6 60 dL_history_4 ml_L_142 im_X11_history se_X11_history (by decide) C.hk ok_X11_history rfl (Nat.le_of_ble_eq_true rfl) rfl (Nat.le_of_ble_eq_true rfl) (d' := d - 1) (by omega) (by omega) (by omega) (c_X11_history HR HS (RB_up hRB (by omega)) (ix_tn (by omega)) (by omega) (by omega) (by omega) ?_)
  refine ⟨?_, ?_⟩
  · intro i e h1 h2
    rcases i with _ | i
    · have h2 : some "java/lang/IndexOutOfBoundsException" = some e := h2
      cases h2
      refine cont_x (wx_catch_n (j := 3) [] (0, 9, 12, 19) [] rfl ps_nil (by decide) (by decide) kl_L_19 ca_395 dL_history_12 rfl (by decide) (hj_cons ⟨by decide, rfl⟩ (hj_cons ⟨by decide, rfl⟩ (hj_cons ⟨by decide, rfl⟩ hj_nil))) ?_)
      refine wp_iconst (nI 1) dL_history_13 (by decide) ?_
      refine wp_ireturn dL_history_14 rfl ?_
      exact hq.thr h1 (by decide) (Nat.le_refl _) (Nat.le_succ _) (by rw [e_history (by rw [h1]; exact nI_ne9 (by decide))]; exact C) FK.rf O
    · have h2 : (none : Option String) = some e := h2
      cases h2
  · intro h0 h' X' C9 S9 F9
    refine cont_ret ?_
    have O2 := FK.out F9.fk O
    refine wp_i2l dL_history_7 ?_
    refine wp_lastoreN 1 dL_history_8 O2.1 O2.2 (by decide) (by decide) ?_
    refine wp_goto 15 dL_history_9 (by decide) ?_
    refine wp_iconst (nI 0) dL_history_15 (by decide) ?_
    refine wp_ireturn dL_history_16 rfl ?_
    exact hq.ret h0 (Nat.le_refl _) (Nat.le_succ _) (C.ofR F9 C9 S9) F9.fk O
set_option maxRecDepth 100000 in
set_option maxHeartbeats 4000000 in
theorem g_logAt {G : GG} {d bc bs c M n : Nat} {h : Hp} {Q : Pst} {V : SV} {x : Nat → QIS} {R : RS} {w : Int32} {y : Int32} (B : PUR c V M n x R) (hc : c < 512) (C : CLS h V M n x R) (O : h_k h (nm 70 0) = 104 ∧ h_n h (nm 70 0) = 1)  (hd : 20 ≤ d) (hbc : 6 ≤ bc) (hbs : 60 ≤ bs) (hq : HQ Q h (o_logAt R w (tn w) y (tn y)).1 (o_logAt R w (tn w) y (tn y)).2.1.toInt64 M V n x (o_logAt R w (tn w) y (tn y)).2.2) : WP G m_L_logAt d 0 (aargs 0 [vr (some (nm 40 0)), vi w, vi y, vr (some (nm 70 0))]) [] h bc bs Q := by
  obtain ⟨hS, hW, hmd, hMc, hX, hRB, hLF⟩ := B
  have hr : sMd V < 700000 := by omega
  have hb1 := hRB.1
  have hnv := hS.1
  have hn12 := hX.1.2.1
  refine wp_sub [(0, vr (some (nm 40 0))), (1, vi w), (2, vi y), (3, vr (some (nm 70 0)))] (fun _ hz => hz) ?_
  refine wp_aload_n (i := 3) dL_logAt_0 rfl rfl ?_
  refine wp_iconst (nI 0) dL_logAt_1 (by decide) ?_
  refine wp_aload_n (i := 0) dL_logAt_2 rfl rfl ?_
  refine wp_iload_n (i := 1) dL_logAt_3 rfl rfl ?_
  refine wp_iload_n (i := 2) dL_logAt_4 rfl rfl ?_
  obtain ⟨X, HR, HS⟩ := C.1
  have hlg : (RS_lg R).length ≤ 512 := by unfold LF at hLF; omega
  refine wp_cV (y' := m_X11_logAt) 12 [vi w, vi y] [vi (nI 0), vr (some (nm 70 0))] 6 60 dL_logAt_5 ml_L_145 im_X11_logAt se_X11_logAt (by decide) C.hk ok_X11_logAt rfl (Nat.le_of_ble_eq_true rfl) rfl (Nat.le_of_ble_eq_true rfl) (d' := d - 1) (by omega) (by omega) (by omega) (c_X11_logAt HR HS (RB_up hRB (by omega)) (ix_tn (by omega)) (in_tn (m := 3) (by decide)) (by omega) (by omega) (by omega) ?_)
  refine ⟨?_, ?_⟩
  · intro i e h1 h2
    rcases i with _ | _ | i
    · have h2 : some "java/lang/IndexOutOfBoundsException" = some e := h2
      cases h2
      refine cont_x (wx_catch (j := 4) [] (0, 10, 13, 19) [(0, 10, 17, 21)] rfl ps_nil (by decide) (by decide) kl_L_19 ca_395 dL_logAt_13 (by decide) (hj_cons ⟨by decide, rfl⟩ (hj_cons ⟨by decide, rfl⟩ (hj_cons ⟨by decide, rfl⟩ (hj_cons ⟨by decide, rfl⟩ hj_nil)))) ?_)
      refine wp_iconst (nI 1) dL_logAt_15 (by decide) ?_
      refine wp_ireturn dL_logAt_16 rfl ?_
      exact hq.thr h1 (by decide) (Nat.le_refl _) (Nat.le_succ _) (by rw [e_logAt (by rw [h1]; exact nI_ne9 (by decide))]; exact C) FK.rf O
    · have h2 : some "java/lang/IllegalArgumentException" = some e := h2
      cases h2
      refine cont_x (wx_catch (j := 4) [(0, 10, 13, 19)] (0, 10, 17, 21) [] rfl (ps_cons (by decide) kl_L_19 (by decide +kernel) ps_nil) (by decide) (by decide) kl_L_21 ca_417 dL_logAt_17 (by decide) (hj_cons ⟨by decide, rfl⟩ (hj_cons ⟨by decide, rfl⟩ (hj_cons ⟨by decide, rfl⟩ (hj_cons ⟨by decide, rfl⟩ hj_nil)))) ?_)
      refine wp_iconst (nI 2) dL_logAt_19 (by decide) ?_
      refine wp_ireturn dL_logAt_20 rfl ?_
      exact hq.thr h1 (by decide) (Nat.le_refl _) (Nat.le_succ _) (by rw [e_logAt (by rw [h1]; exact nI_ne9 (by decide))]; exact C) FK.rf O
    · have h2 : (none : Option String) = some e := h2
      cases h2
  · intro h0 h' X' C9 S9 F9
    refine cont_ret ?_
    have O2 := FK.out F9.fk O
    refine wp_i2l dL_logAt_8 ?_
    refine wp_lastoreN 1 dL_logAt_9 O2.1 O2.2 (by decide) (by decide) ?_
    refine wp_goto 21 dL_logAt_10 (by decide) ?_
    refine wp_iconst (nI 0) dL_logAt_21 (by decide) ?_
    refine wp_ireturn dL_logAt_22 rfl ?_
    exact hq.ret h0 (Nat.le_refl _) (Nat.le_succ _) (C.ofR F9 C9 S9) F9.fk O
set_option maxRecDepth 100000 in
set_option maxHeartbeats 4000000 in
theorem g_addAgent {G : GG} {d bc bs c M n : Nat} {h : Hp} {Q : Pst} {V : SV} {x : Nat → QIS} {R : RS} {v : Int32} {lo : Int32} {hi : Int32} {md : Nat} (B : PUR c V M n x R) (hc : c < 512) (C : CLS h V M n x R) (O : h_k h (nm 70 0) = 104 ∧ h_n h (nm 70 0) = 1) (hmd9 : md < 65536) (hd : 20 ≤ d) (hbc : 6 ≤ bc) (hbs : 60 ≤ bs) (hq : HQ Q h (o_addAgent R v lo hi (nI md)).1 (o_addAgent R v lo hi (nI md)).2.1.toInt64 M V n x (o_addAgent R v lo hi (nI md)).2.2) : WP G m_L_addAgent d 0 (aargs 0 [vr (some (nm 40 0)), vi v, vi lo, vi hi, vi (nI md), vr (some (nm 70 0))]) [] h bc bs Q := by
  obtain ⟨hS, hW, hmd, hMc, hX, hRB, hLF⟩ := B
  have hr : sMd V < 700000 := by omega
  have hb1 := hRB.1
  have hnv := hS.1
  have hn12 := hX.1.2.1
  refine wp_sub [(0, vr (some (nm 40 0))), (1, vi v), (2, vi lo), (3, vi hi), (4, vi (nI md)), (5, vr (some (nm 70 0)))] (fun _ hz => hz) ?_
  refine wp_aload (i := 5) dL_addAgent_0 rfl ?_
  refine wp_iconst (nI 0) dL_addAgent_2 (by decide) ?_
  refine wp_aload_n (i := 0) dL_addAgent_3 rfl rfl ?_
  refine wp_iload_n (i := 1) dL_addAgent_4 rfl rfl ?_
  refine wp_iload_n (i := 2) dL_addAgent_5 rfl rfl ?_
  refine wp_iload_n (i := 3) dL_addAgent_6 rfl rfl ?_
  refine wp_iload (i := 4) dL_addAgent_7 rfl ?_
  obtain ⟨X, HR, HS⟩ := C.1
  refine wp_cV (y' := m_X11_addAgent) 12 [vi v, vi lo, vi hi, vi (nI md)] [vi (nI 0), vr (some (nm 70 0))] 6 60 dL_addAgent_9 ml_L_148 im_X11_addAgent se_X11_addAgent (by decide) C.hk ok_X11_addAgent rfl (Nat.le_of_ble_eq_true rfl) rfl (Nat.le_of_ble_eq_true rfl) (d' := d - 1) (by omega) (by omega) (by omega) (c_X11_addAgent HR HS (RB_up hRB (by omega)) hmd9 (by omega) (by omega) (by omega) ?_)
  refine ⟨?_, ?_⟩
  · intro i e h1 h2
    rcases i with _ | _ | i
    · have h2 : some "java/lang/IllegalArgumentException" = some e := h2
      cases h2
      refine cont_x (wx_catch (j := 6) [] (0, 14, 17, 21) [(0, 14, 21, 13)] rfl ps_nil (by decide) (by decide) kl_L_21 ca_417 dL_addAgent_17 (by decide) (hj_cons ⟨by decide, rfl⟩ (hj_cons ⟨by decide, rfl⟩ (hj_cons ⟨by decide, rfl⟩ (hj_cons ⟨by decide, rfl⟩ (hj_cons ⟨by decide, rfl⟩ (hj_cons ⟨by decide, rfl⟩ hj_nil)))))) ?_)
      refine wp_iconst (nI 1) dL_addAgent_19 (by decide) ?_
      refine wp_ireturn dL_addAgent_20 rfl ?_
      exact hq.thr h1 (by decide) (Nat.le_refl _) (Nat.le_succ _) (by rw [e_addAgent (by rw [h1]; exact nI_ne9 (by decide))]; exact C) FK.rf O
    · have h2 : some "java/lang/IllegalStateException" = some e := h2
      cases h2
      refine cont_x (wx_catch (j := 6) [(0, 14, 17, 21)] (0, 14, 21, 13) [] rfl (ps_cons (by decide) kl_L_21 (by decide +kernel) ps_nil) (by decide) (by decide) kl_L_13 ca_234 dL_addAgent_21 (by decide) (hj_cons ⟨by decide, rfl⟩ (hj_cons ⟨by decide, rfl⟩ (hj_cons ⟨by decide, rfl⟩ (hj_cons ⟨by decide, rfl⟩ (hj_cons ⟨by decide, rfl⟩ (hj_cons ⟨by decide, rfl⟩ hj_nil)))))) ?_)
      refine wp_iconst (nI 2) dL_addAgent_23 (by decide) ?_
      refine wp_ireturn dL_addAgent_24 rfl ?_
      exact hq.thr h1 (by decide) (Nat.le_refl _) (Nat.le_succ _) (by rw [e_addAgent (by rw [h1]; exact nI_ne9 (by decide))]; exact C) FK.rf O
    · have h2 : (none : Option String) = some e := h2
      cases h2
  · intro h0 h' X' C9 S9 F9
    refine cont_ret ?_
    have O2 := FK.out F9.fk O
    refine wp_i2l dL_addAgent_12 ?_
    refine wp_lastoreN 1 dL_addAgent_13 O2.1 O2.2 (by decide) (by decide) ?_
    refine wp_goto 25 dL_addAgent_14 (by decide) ?_
    refine wp_iconst (nI 0) dL_addAgent_25 (by decide) ?_
    refine wp_ireturn dL_addAgent_26 rfl ?_
    exact hq.ret h0 (Nat.le_refl _) (Nat.le_succ _) (C.ofR F9 C9 S9) F9.fk O
set_option maxRecDepth 100000 in
set_option maxHeartbeats 4000000 in
theorem g_send {G : GG} {d bc bs c M n : Nat} {h : Hp} {Q : Pst} {V : SV} {x : Nat → QIS} {R : RS} {v : Int32} {w : Int32} {z : Int32} (B : PUR c V M n x R) (hc : c < 512) (C : CLS h V M n x R) (O : h_k h (nm 70 0) = 104 ∧ h_n h (nm 70 0) = 1)  (hd : 20 ≤ d) (hbc : 6 ≤ bc) (hbs : 60 ≤ bs) (hq : HQ Q h (o_send R v (tn v) w (tn w) z).1 (o_send R v (tn v) w (tn w) z).2.1.toInt64 M V n x (o_send R v (tn v) w (tn w) z).2.2) : WP G m_L_send d 0 (aargs 0 [vr (some (nm 40 0)), vi v, vi w, vi z, vr (some (nm 70 0))]) [] h bc bs Q := by
  obtain ⟨hS, hW, hmd, hMc, hX, hRB, hLF⟩ := B
  have hr : sMd V < 700000 := by omega
  have hb1 := hRB.1
  have hnv := hS.1
  have hn12 := hX.1.2.1
  refine wp_sub [(0, vr (some (nm 40 0))), (1, vi v), (2, vi w), (3, vi z), (4, vr (some (nm 70 0)))] (fun _ hz => hz) ?_
  refine wp_aload (i := 4) dL_send_0 rfl ?_
  refine wp_iconst (nI 0) dL_send_2 (by decide) ?_
  refine wp_aload_n (i := 0) dL_send_3 rfl rfl ?_
  refine wp_iload_n (i := 1) dL_send_4 rfl rfl ?_
  refine wp_iload_n (i := 2) dL_send_5 rfl rfl ?_
  refine wp_iload_n (i := 3) dL_send_6 rfl rfl ?_
  obtain ⟨X, HR, HS⟩ := C.1
  refine wp_cV (y' := m_X11_send) 12 [vi v, vi w, vi z] [vi (nI 0), vr (some (nm 70 0))] 6 60 dL_send_7 ml_L_152 im_X11_send se_X11_send (by decide) C.hk ok_X11_send rfl (Nat.le_of_ble_eq_true rfl) rfl (Nat.le_of_ble_eq_true rfl) (d' := d - 1) (by omega) (by omega) (by omega) (c_X11_send HR HS (RB_up hRB (by omega)) (ix_tn (by decide)) (ix_tn (by omega)) (by omega) (by omega) (by omega) ?_)
  refine ⟨?_, ?_⟩
  · intro i e h1 h2
    rcases i with _ | _ | _ | i
    · have h2 : some "java/lang/IllegalArgumentException" = some e := h2
      cases h2
      refine cont_x (wx_catch (j := 5) [] (0, 12, 15, 21) [(0, 12, 19, 19), (0, 12, 23, 13)] rfl ps_nil (by decide) (by decide) kl_L_21 ca_417 dL_send_15 (by decide) (hj_cons ⟨by decide, rfl⟩ (hj_cons ⟨by decide, rfl⟩ (hj_cons ⟨by decide, rfl⟩ (hj_cons ⟨by decide, rfl⟩ (hj_cons ⟨by decide, rfl⟩ hj_nil))))) ?_)
      refine wp_iconst (nI 1) dL_send_17 (by decide) ?_
      refine wp_ireturn dL_send_18 rfl ?_
      exact hq.thr h1 (by decide) (Nat.le_refl _) (Nat.le_succ _) (by rw [e_send (by rw [h1]; exact nI_ne9 (by decide))]; exact C) FK.rf O
    · have h2 : some "java/lang/IndexOutOfBoundsException" = some e := h2
      cases h2
      refine cont_x (wx_catch (j := 5) [(0, 12, 15, 21)] (0, 12, 19, 19) [(0, 12, 23, 13)] rfl (ps_cons (by decide) kl_L_21 (by decide +kernel) ps_nil) (by decide) (by decide) kl_L_19 ca_395 dL_send_19 (by decide) (hj_cons ⟨by decide, rfl⟩ (hj_cons ⟨by decide, rfl⟩ (hj_cons ⟨by decide, rfl⟩ (hj_cons ⟨by decide, rfl⟩ (hj_cons ⟨by decide, rfl⟩ hj_nil))))) ?_)
      refine wp_iconst (nI 2) dL_send_21 (by decide) ?_
      refine wp_ireturn dL_send_22 rfl ?_
      exact hq.thr h1 (by decide) (Nat.le_refl _) (Nat.le_succ _) (by rw [e_send (by rw [h1]; exact nI_ne9 (by decide))]; exact C) FK.rf O
    · have h2 : some "java/lang/IllegalStateException" = some e := h2
      cases h2
      refine cont_x (wx_catch (j := 5) [(0, 12, 15, 21), (0, 12, 19, 19)] (0, 12, 23, 13) [] rfl (ps_cons (by decide) kl_L_21 (by decide +kernel) (ps_cons (by decide) kl_L_19 (by decide +kernel) ps_nil)) (by decide) (by decide) kl_L_13 ca_234 dL_send_23 (by decide) (hj_cons ⟨by decide, rfl⟩ (hj_cons ⟨by decide, rfl⟩ (hj_cons ⟨by decide, rfl⟩ (hj_cons ⟨by decide, rfl⟩ (hj_cons ⟨by decide, rfl⟩ hj_nil))))) ?_)
      refine wp_iconst (nI 3) dL_send_25 (by decide) ?_
      refine wp_ireturn dL_send_26 rfl ?_
      exact hq.thr h1 (by decide) (Nat.le_refl _) (Nat.le_succ _) (by rw [e_send (by rw [h1]; exact nI_ne9 (by decide))]; exact C) FK.rf O
    · have h2 : (none : Option String) = some e := h2
      cases h2
  · intro h0 h' X' C9 S9 F9
    refine cont_ret ?_
    have O2 := FK.out F9.fk O
    refine wp_i2l dL_send_10 ?_
    refine wp_lastoreN 1 dL_send_11 O2.1 O2.2 (by decide) (by decide) ?_
    refine wp_goto 27 dL_send_12 (by decide) ?_
    refine wp_iconst (nI 0) dL_send_27 (by decide) ?_
    refine wp_ireturn dL_send_28 rfl ?_
    exact hq.ret h0 (Nat.le_refl _) (Nat.le_succ _) (C.ofR F9 C9 S9) F9.fk O
set_option maxRecDepth 100000 in
set_option maxHeartbeats 4000000 in
theorem g_act {G : GG} {d bc bs c M n : Nat} {h : Hp} {Q : Pst} {V : SV} {x : Nat → QIS} {R : RS} {w : Int32} (B : PUR c V M n x R) (hc : c < 512) (C : CLS h V M n x R) (O : h_k h (nm 70 0) = 104 ∧ h_n h (nm 70 0) = 1)  (hd : 20 ≤ d) (hbc : 6 ≤ bc) (hbs : 60 ≤ bs) (hq : HQ Q h (o_act R w (tn w)).1 (o_act R w (tn w)).2.1.toInt64 M V n x (o_act R w (tn w)).2.2) : WP G m_L_act d 0 (aargs 0 [vr (some (nm 40 0)), vi w, vr (some (nm 70 0))]) [] h bc bs Q := by
  obtain ⟨hS, hW, hmd, hMc, hX, hRB, hLF⟩ := B
  have hr : sMd V < 700000 := by omega
  have hb1 := hRB.1
  have hnv := hS.1
  have hn12 := hX.1.2.1
  refine wp_sub [(0, vr (some (nm 40 0))), (1, vi w), (2, vr (some (nm 70 0)))] (fun _ hz => hz) ?_
  refine wp_aload_n (i := 2) dL_act_0 rfl rfl ?_
  refine wp_iconst (nI 0) dL_act_1 (by decide) ?_
  refine wp_aload_n (i := 0) dL_act_2 rfl rfl ?_
  refine wp_iload_n (i := 1) dL_act_3 rfl rfl ?_
  obtain ⟨X, HR, HS⟩ := C.1
  refine wp_cV (y' := m_X11_act) 12 [vi w] [vi (nI 0), vr (some (nm 70 0))] 6 60 dL_act_4 ml_L_155 im_X11_act se_X11_act (by decide) C.hk ok_X11_act rfl (Nat.le_of_ble_eq_true rfl) rfl (Nat.le_of_ble_eq_true rfl) (d' := d - 1) (by omega) (by omega) (by omega) (c_X11_act HR HS (RB_up hRB (by omega)) (ix_tn (by omega)) (by omega) (by omega) (by omega) ?_)
  refine ⟨?_, ?_⟩
  · intro i e h1 h2
    rcases i with _ | _ | _ | i
    · have h2 : some "java/lang/IndexOutOfBoundsException" = some e := h2
      cases h2
      refine cont_x (wx_catch_n (j := 3) [] (0, 9, 12, 19) [(0, 9, 15, 29), (0, 9, 18, 13)] rfl ps_nil (by decide) (by decide) kl_L_19 ca_395 dL_act_12 rfl (by decide) (hj_cons ⟨by decide, rfl⟩ (hj_cons ⟨by decide, rfl⟩ (hj_cons ⟨by decide, rfl⟩ hj_nil))) ?_)
      refine wp_iconst (nI 1) dL_act_13 (by decide) ?_
      refine wp_ireturn dL_act_14 rfl ?_
      exact hq.thr h1 (by decide) (Nat.le_refl _) (Nat.le_succ _) (by rw [e_act (by rw [h1]; exact nI_ne9 (by decide))]; exact C) FK.rf O
    · have h2 : some "java/util/NoSuchElementException" = some e := h2
      cases h2
      refine cont_x (wx_catch_n (j := 3) [(0, 9, 12, 19)] (0, 9, 15, 29) [(0, 9, 18, 13)] rfl (ps_cons (by decide) kl_L_19 (by decide +kernel) ps_nil) (by decide) (by decide) kl_L_29 ca_527 dL_act_15 rfl (by decide) (hj_cons ⟨by decide, rfl⟩ (hj_cons ⟨by decide, rfl⟩ (hj_cons ⟨by decide, rfl⟩ hj_nil))) ?_)
      refine wp_iconst (nI 2) dL_act_16 (by decide) ?_
      refine wp_ireturn dL_act_17 rfl ?_
      exact hq.thr h1 (by decide) (Nat.le_refl _) (Nat.le_succ _) (by rw [e_act (by rw [h1]; exact nI_ne9 (by decide))]; exact C) FK.rf O
    · have h2 : some "java/lang/IllegalStateException" = some e := h2
      cases h2
      refine cont_x (wx_catch_n (j := 3) [(0, 9, 12, 19), (0, 9, 15, 29)] (0, 9, 18, 13) [] rfl (ps_cons (by decide) kl_L_19 (by decide +kernel) (ps_cons (by decide) kl_L_29 (by decide +kernel) ps_nil)) (by decide) (by decide) kl_L_13 ca_234 dL_act_18 rfl (by decide) (hj_cons ⟨by decide, rfl⟩ (hj_cons ⟨by decide, rfl⟩ (hj_cons ⟨by decide, rfl⟩ hj_nil))) ?_)
      refine wp_iconst (nI 3) dL_act_19 (by decide) ?_
      refine wp_ireturn dL_act_20 rfl ?_
      exact hq.thr h1 (by decide) (Nat.le_refl _) (Nat.le_succ _) (by rw [e_act (by rw [h1]; exact nI_ne9 (by decide))]; exact C) FK.rf O
    · have h2 : (none : Option String) = some e := h2
      cases h2
  · intro h0 h' X' C9 S9 F9
    refine cont_ret ?_
    have O2 := FK.out F9.fk O
    refine wp_i2l dL_act_7 ?_
    refine wp_lastoreN 1 dL_act_8 O2.1 O2.2 (by decide) (by decide) ?_
    refine wp_goto 21 dL_act_9 (by decide) ?_
    refine wp_iconst (nI 0) dL_act_21 (by decide) ?_
    refine wp_ireturn dL_act_22 rfl ?_
    exact hq.ret h0 (Nat.le_refl _) (Nat.le_succ _) (C.ofR F9 C9 S9) F9.fk O
set_option maxRecDepth 100000 in
set_option maxHeartbeats 4000000 in
theorem g_beginAnew {G : GG} {d bc bs c M n : Nat} {h : Hp} {Q : Pst} {V : SV} {x : Nat → QIS} {R : RS} {w : Int32} {y : Int32} (B : PUR c V M n x R) (hc : c < 512) (C : CLS h V M n x R) (O : h_k h (nm 70 0) = 104 ∧ h_n h (nm 70 0) = 1)  (hd : 20 ≤ d) (hbc : 6 ≤ bc) (hbs : 60 ≤ bs) (hq : HQ Q h (o_beginAnew R w (tn w) y).1 (o_beginAnew R w (tn w) y).2.1.toInt64 M V n x (o_beginAnew R w (tn w) y).2.2) : WP G m_L_beginAnew d 0 (aargs 0 [vr (some (nm 40 0)), vi w, vi y, vr (some (nm 70 0))]) [] h bc bs Q := by
  obtain ⟨hS, hW, hmd, hMc, hX, hRB, hLF⟩ := B
  have hr : sMd V < 700000 := by omega
  have hb1 := hRB.1
  have hnv := hS.1
  have hn12 := hX.1.2.1
  refine wp_sub [(0, vr (some (nm 40 0))), (1, vi w), (2, vi y), (3, vr (some (nm 70 0)))] (fun _ hz => hz) ?_
  refine wp_aload_n (i := 3) dL_beginAnew_0 rfl rfl ?_
  refine wp_iconst (nI 0) dL_beginAnew_1 (by decide) ?_
  refine wp_aload_n (i := 0) dL_beginAnew_2 rfl rfl ?_
  refine wp_iload_n (i := 1) dL_beginAnew_3 rfl rfl ?_
  refine wp_iload_n (i := 2) dL_beginAnew_4 rfl rfl ?_
  obtain ⟨X, HR, HS⟩ := C.1
  refine wp_cV (y' := m_X11_beginAnew) 12 [vi w, vi y] [vi (nI 0), vr (some (nm 70 0))] 6 60 dL_beginAnew_5 ml_L_158 im_X11_beginAnew se_X11_beginAnew (by decide) C.hk ok_X11_beginAnew rfl (Nat.le_of_ble_eq_true rfl) rfl (Nat.le_of_ble_eq_true rfl) (d' := d - 1) (by omega) (by omega) (by omega) (c_X11_beginAnew HR HS (RB_up hRB (by omega)) (ix_tn (by omega)) (by omega) (by omega) (by omega) ?_)
  refine ⟨?_, ?_⟩
  · intro i e h1 h2
    rcases i with _ | _ | _ | i
    · have h2 : some "java/lang/IndexOutOfBoundsException" = some e := h2
      cases h2
      refine cont_x (wx_catch (j := 4) [] (0, 10, 13, 19) [(0, 10, 17, 21), (0, 10, 21, 13)] rfl ps_nil (by decide) (by decide) kl_L_19 ca_395 dL_beginAnew_13 (by decide) (hj_cons ⟨by decide, rfl⟩ (hj_cons ⟨by decide, rfl⟩ (hj_cons ⟨by decide, rfl⟩ (hj_cons ⟨by decide, rfl⟩ hj_nil)))) ?_)
      refine wp_iconst (nI 1) dL_beginAnew_15 (by decide) ?_
      refine wp_ireturn dL_beginAnew_16 rfl ?_
      exact hq.thr h1 (by decide) (Nat.le_refl _) (Nat.le_succ _) (by rw [e_beginAnew (by rw [h1]; exact nI_ne9 (by decide))]; exact C) FK.rf O
    · have h2 : some "java/lang/IllegalArgumentException" = some e := h2
      cases h2
      refine cont_x (wx_catch (j := 4) [(0, 10, 13, 19)] (0, 10, 17, 21) [(0, 10, 21, 13)] rfl (ps_cons (by decide) kl_L_19 (by decide +kernel) ps_nil) (by decide) (by decide) kl_L_21 ca_417 dL_beginAnew_17 (by decide) (hj_cons ⟨by decide, rfl⟩ (hj_cons ⟨by decide, rfl⟩ (hj_cons ⟨by decide, rfl⟩ (hj_cons ⟨by decide, rfl⟩ hj_nil)))) ?_)
      refine wp_iconst (nI 2) dL_beginAnew_19 (by decide) ?_
      refine wp_ireturn dL_beginAnew_20 rfl ?_
      exact hq.thr h1 (by decide) (Nat.le_refl _) (Nat.le_succ _) (by rw [e_beginAnew (by rw [h1]; exact nI_ne9 (by decide))]; exact C) FK.rf O
    · have h2 : some "java/lang/IllegalStateException" = some e := h2
      cases h2
      refine cont_x (wx_catch (j := 4) [(0, 10, 13, 19), (0, 10, 17, 21)] (0, 10, 21, 13) [] rfl (ps_cons (by decide) kl_L_19 (by decide +kernel) (ps_cons (by decide) kl_L_21 (by decide +kernel) ps_nil)) (by decide) (by decide) kl_L_13 ca_234 dL_beginAnew_21 (by decide) (hj_cons ⟨by decide, rfl⟩ (hj_cons ⟨by decide, rfl⟩ (hj_cons ⟨by decide, rfl⟩ (hj_cons ⟨by decide, rfl⟩ hj_nil)))) ?_)
      refine wp_iconst (nI 3) dL_beginAnew_23 (by decide) ?_
      refine wp_ireturn dL_beginAnew_24 rfl ?_
      exact hq.thr h1 (by decide) (Nat.le_refl _) (Nat.le_succ _) (by rw [e_beginAnew (by rw [h1]; exact nI_ne9 (by decide))]; exact C) FK.rf O
    · have h2 : (none : Option String) = some e := h2
      cases h2
  · intro h0 h' X' C9 S9 F9
    refine cont_ret ?_
    have O2 := FK.out F9.fk O
    refine wp_i2l dL_beginAnew_8 ?_
    refine wp_lastoreN 1 dL_beginAnew_9 O2.1 O2.2 (by decide) (by decide) ?_
    refine wp_goto 25 dL_beginAnew_10 (by decide) ?_
    refine wp_iconst (nI 0) dL_beginAnew_25 (by decide) ?_
    refine wp_ireturn dL_beginAnew_26 rfl ?_
    exact hq.ret h0 (Nat.le_refl _) (Nat.le_succ _) (C.ofR F9 C9 S9) F9.fk O
set_option maxRecDepth 100000 in
set_option maxHeartbeats 4000000 in
theorem g_errors {G : GG} {d bc bs c M n : Nat} {h : Hp} {Q : Pst} {V : SV} {x : Nat → QIS} {R : RS} {w : Int32} (B : PUR c V M n x R) (hc : c < 512) (C : CLS h V M n x R) (O : h_k h (nm 70 0) = 104 ∧ h_n h (nm 70 0) = 1)  (hd : 20 ≤ d) (hbc : 6 ≤ bc) (hbs : 60 ≤ bs) (hq : HQ Q h (o_errors R w (tn w)).1 (o_errors R w (tn w)).2.1.toInt64 M V n x (o_errors R w (tn w)).2.2) : WP G m_L_errors d 0 (aargs 0 [vr (some (nm 40 0)), vi w, vr (some (nm 70 0))]) [] h bc bs Q := by
  obtain ⟨hS, hW, hmd, hMc, hX, hRB, hLF⟩ := B
  have hr : sMd V < 700000 := by omega
  have hb1 := hRB.1
  have hnv := hS.1
  have hn12 := hX.1.2.1
  refine wp_sub [(0, vr (some (nm 40 0))), (1, vi w), (2, vr (some (nm 70 0)))] (fun _ hz => hz) ?_
  refine wp_aload_n (i := 2) dL_errors_0 rfl rfl ?_
  refine wp_iconst (nI 0) dL_errors_1 (by decide) ?_
  refine wp_aload_n (i := 0) dL_errors_2 rfl rfl ?_
  refine wp_iload_n (i := 1) dL_errors_3 rfl rfl ?_
  obtain ⟨X, HR, HS⟩ := C.1
  refine wp_cV (y' := m_X11_errors) 12 [vi w] [vi (nI 0), vr (some (nm 70 0))] 6 60 dL_errors_4 ml_L_161 im_X11_errors se_X11_errors (by decide) C.hk ok_X11_errors rfl (Nat.le_of_ble_eq_true rfl) rfl (Nat.le_of_ble_eq_true rfl) (d' := d - 1) (by omega) (by omega) (by omega) (c_X11_errors HR HS (RB_up hRB (by omega)) (ix_tn (by omega)) (by omega) (by omega) (by omega) ?_)
  refine ⟨?_, ?_⟩
  · intro i e h1 h2
    rcases i with _ | i
    · have h2 : some "java/lang/IndexOutOfBoundsException" = some e := h2
      cases h2
      refine cont_x (wx_catch_n (j := 3) [] (0, 9, 12, 19) [] rfl ps_nil (by decide) (by decide) kl_L_19 ca_395 dL_errors_12 rfl (by decide) (hj_cons ⟨by decide, rfl⟩ (hj_cons ⟨by decide, rfl⟩ (hj_cons ⟨by decide, rfl⟩ hj_nil))) ?_)
      refine wp_iconst (nI 1) dL_errors_13 (by decide) ?_
      refine wp_ireturn dL_errors_14 rfl ?_
      exact hq.thr h1 (by decide) (Nat.le_refl _) (Nat.le_succ _) (by rw [e_errors (by rw [h1]; exact nI_ne9 (by decide))]; exact C) FK.rf O
    · have h2 : (none : Option String) = some e := h2
      cases h2
  · intro h0 h' X' C9 S9 F9
    refine cont_ret ?_
    have O2 := FK.out F9.fk O
    refine wp_i2l dL_errors_7 ?_
    refine wp_lastoreN 1 dL_errors_8 O2.1 O2.2 (by decide) (by decide) ?_
    refine wp_goto 15 dL_errors_9 (by decide) ?_
    refine wp_iconst (nI 0) dL_errors_15 (by decide) ?_
    refine wp_ireturn dL_errors_16 rfl ?_
    exact hq.ret h0 (Nat.le_refl _) (Nat.le_succ _) (C.ofR F9 C9 S9) F9.fk O
