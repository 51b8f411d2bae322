/-! The helpers about values. -/
set_option maxRecDepth 100000 in
set_option maxHeartbeats 4000000 in
theorem g_vector {G : GG} {d bc bs c M n : Nat} {h : Hp} {Q : Pst} {V : SV} {x : Nat → QIS} {R : RS}  (B : PUR c V M n x R) (hc : c < 512) (C : CLS h V M n x R) (O : h_k h (nm 70 0) = 104 ∧ h_n h (nm 70 0) = 1)  (hd : 20 ≤ d) (hbc : 30 ≤ bc) (hbs : 900 ≤ bs) (hq : HQ Q h (o_vector V).1 (o_vector V).2.1.toInt64 M (o_vector V).2.2 n x R) : WP G m_L_vector d 0 (aargs 0 [vr (some (nm 40 0)), vr (some (nm 70 0))]) [] h bc bs Q := by
  obtain ⟨hS, hW, hmd, hMc, hX, hRB, hLF⟩ := B
  have hr : sMd V < 700000 := by omega
  have hb1 := hRB.1
  have hnv := hS.1
  have hn12 := hX.1.2.1
  refine wp_sub [(0, vr (some (nm 40 0))), (1, vr (some (nm 70 0)))] (fun _ hz => hz) ?_
  refine wp_aload_n (i := 1) dL_vector_0 rfl rfl ?_
  refine wp_iconst (nI 0) dL_vector_1 (by decide) ?_
  refine wp_aload_n (i := 0) dL_vector_2 rfl rfl ?_
  refine wp_cV (y' := m_X11_vector) 12 [] [vi (nI 0), vr (some (nm 70 0))] 30 900 dL_vector_3 ml_L_7 im_X11_vector se_X11_vector (by decide) C.hk ok_X11_vector rfl (Nat.le_of_ble_eq_true rfl) rfl (Nat.le_of_ble_eq_true rfl) (d' := d - 1) (by omega) (by omega) (by omega) (c_X11_vector hS C.2.2 hr (by omega) (by omega) (by omega) ?_)
  intro h' M' m1 m2 C9 F9
  refine ⟨?_, ?_⟩
  · intro i e h1 h2
    rcases i with _ | i
    · have h2 : some "java/lang/IllegalStateException" = some e := h2
      cases h2
      refine cont_x (wx_catch_n (j := 2) [] (0, 8, 11, 13) [] rfl ps_nil (by decide) (by decide) kl_L_13 ca_234 dL_vector_11 rfl (by decide) (hj_cons ⟨by decide, rfl⟩ (hj_cons ⟨by decide, rfl⟩ hj_nil)) ?_)
      refine wp_iconst (nI 1) dL_vector_12 (by decide) ?_
      refine wp_ireturn dL_vector_13 rfl ?_
      exact hq.thr h1 (by decide) m1 m2 (C.ofV F9 C9) F9.fk O
    · have h2 : (none : Option String) = some e := h2
      cases h2
  · intro h0
    refine cont_ret ?_
    have O2 := FK.out F9.fk O
    refine wp_i2l dL_vector_6 ?_
    refine wp_lastoreN 1 dL_vector_7 O2.1 O2.2 (by decide) (by decide) ?_
    refine wp_goto 14 dL_vector_8 (by decide) ?_
    refine wp_iconst (nI 0) dL_vector_14 (by decide) ?_
    refine wp_ireturn dL_vector_15 rfl ?_
    exact hq.ret h0 m1 m2 (C.ofV F9 C9) F9.fk O
set_option maxRecDepth 100000 in
set_option maxHeartbeats 4000000 in
theorem g_append {G : GG} {d bc bs c M n : Nat} {h : Hp} {Q : Pst} {V : SV} {x : Nat → QIS} {R : RS} {u : Int32} {e : Int32} (B : PUR c V M n x R) (hc : c < 512) (C : CLS h V M n x R) (O : h_k h (nm 70 0) = 104 ∧ h_n h (nm 70 0) = 1)  (hd : 20 ≤ d) (hbc : 30 ≤ bc) (hbs : 900 ≤ bs) (hq : HQ Q h (o_append V u (tn u) e).1 (o_append V u (tn u) e).2.1.toInt64 M (o_append V u (tn u) e).2.2 n x R) : WP G m_L_append d 0 (aargs 0 [vr (some (nm 40 0)), vi u, vi e, vr (some (nm 70 0))]) [] h bc bs Q := by
  obtain ⟨hS, hW, hmd, hMc, hX, hRB, hLF⟩ := B
  have hr : sMd V < 700000 := by omega
  have hb1 := hRB.1
  have hnv := hS.1
  have hn12 := hX.1.2.1
  refine wp_sub [(0, vr (some (nm 40 0))), (1, vi u), (2, vi e), (3, vr (some (nm 70 0)))] (fun _ hz => hz) ?_
  refine wp_aload_n (i := 3) dL_append_0 rfl rfl ?_
  refine wp_iconst (nI 0) dL_append_1 (by decide) ?_
  refine wp_aload_n (i := 0) dL_append_2 rfl rfl ?_
  refine wp_iload_n (i := 1) dL_append_3 rfl rfl ?_
  refine wp_iload_n (i := 2) dL_append_4 rfl rfl ?_
  refine wp_cV (y' := m_X11_append) 12 [vi u, vi e] [vi (nI 0), vr (some (nm 70 0))] 30 900 dL_append_5 ml_L_15 im_X11_append se_X11_append (by decide) C.hk ok_X11_append rfl (Nat.le_of_ble_eq_true rfl) rfl (Nat.le_of_ble_eq_true rfl) (d' := d - 1) (by omega) (by omega) (by omega) (c_X11_append hS C.2.2 hr (ix_tn (by omega)) (by omega) (by omega) (by omega) ?_)
  intro h' M' m1 m2 C9 F9
  refine ⟨?_, ?_⟩
  · intro i e h1 h2
    rcases i with _ | _ | _ | _ | i
    · have h2 : some "java/lang/IndexOutOfBoundsException" = some e := h2
      cases h2
      refine cont_x (wx_catch (j := 4) [] (0, 10, 13, 19) [(0, 10, 17, 21), (0, 10, 21, 23), (0, 10, 25, 13)] rfl ps_nil (by decide) (by decide) kl_L_19 ca_395 dL_append_13 (by decide) (hj_cons ⟨by decide, rfl⟩ (hj_cons ⟨by decide, rfl⟩ (hj_cons ⟨by decide, rfl⟩ (hj_cons ⟨by decide, rfl⟩ hj_nil)))) ?_)
      refine wp_iconst (nI 1) dL_append_15 (by decide) ?_
      refine wp_ireturn dL_append_16 rfl ?_
      exact hq.thr h1 (by decide) m1 m2 (C.ofV F9 C9) F9.fk O
    · have h2 : some "java/lang/IllegalArgumentException" = some e := h2
      cases h2
      refine cont_x (wx_catch (j := 4) [(0, 10, 13, 19)] (0, 10, 17, 21) [(0, 10, 21, 23), (0, 10, 25, 13)] rfl (ps_cons (by decide) kl_L_19 (by decide +kernel) ps_nil) (by decide) (by decide) kl_L_21 ca_417 dL_append_17 (by decide) (hj_cons ⟨by decide, rfl⟩ (hj_cons ⟨by decide, rfl⟩ (hj_cons ⟨by decide, rfl⟩ (hj_cons ⟨by decide, rfl⟩ hj_nil)))) ?_)
      refine wp_iconst (nI 2) dL_append_19 (by decide) ?_
      refine wp_ireturn dL_append_20 rfl ?_
      exact hq.thr h1 (by decide) m1 m2 (C.ofV F9 C9) F9.fk O
    · have h2 : some "java/lang/UnsupportedOperationException" = some e := h2
      cases h2
      refine cont_x (wx_catch (j := 4) [(0, 10, 13, 19), (0, 10, 17, 21)] (0, 10, 21, 23) [(0, 10, 25, 13)] rfl (ps_cons (by decide) kl_L_19 (by decide +kernel) (ps_cons (by decide) kl_L_21 (by decide +kernel) ps_nil)) (by decide) (by decide) kl_L_23 ca_436 dL_append_21 (by decide) (hj_cons ⟨by decide, rfl⟩ (hj_cons ⟨by decide, rfl⟩ (hj_cons ⟨by decide, rfl⟩ (hj_cons ⟨by decide, rfl⟩ hj_nil)))) ?_)
      refine wp_iconst (nI 3) dL_append_23 (by decide) ?_
      refine wp_ireturn dL_append_24 rfl ?_
      exact hq.thr h1 (by decide) m1 m2 (C.ofV F9 C9) F9.fk O
    · have h2 : some "java/lang/IllegalStateException" = some e := h2
      cases h2
      refine cont_x (wx_catch (j := 4) [(0, 10, 13, 19), (0, 10, 17, 21), (0, 10, 21, 23)] (0, 10, 25, 13) [] rfl (ps_cons (by decide) kl_L_19 (by decide +kernel) (ps_cons (by decide) kl_L_21 (by decide +kernel) (ps_cons (by decide) kl_L_23 (by decide +kernel) ps_nil))) (by decide) (by decide) kl_L_13 ca_234 dL_append_25 (by decide) (hj_cons ⟨by decide, rfl⟩ (hj_cons ⟨by decide, rfl⟩ (hj_cons ⟨by decide, rfl⟩ (hj_cons ⟨by decide, rfl⟩ hj_nil)))) ?_)
      refine wp_iconst (nI 4) dL_append_27 (by decide) ?_
      refine wp_ireturn dL_append_28 rfl ?_
      exact hq.thr h1 (by decide) m1 m2 (C.ofV F9 C9) F9.fk O
    · have h2 : (none : Option String) = some e := h2
      cases h2
  · intro h0
    refine cont_ret ?_
    have O2 := FK.out F9.fk O
    refine wp_i2l dL_append_8 ?_
    refine wp_lastoreN 1 dL_append_9 O2.1 O2.2 (by decide) (by decide) ?_
    refine wp_goto 29 dL_append_10 (by decide) ?_
    refine wp_iconst (nI 0) dL_append_29 (by decide) ?_
    refine wp_ireturn dL_append_30 rfl ?_
    exact hq.ret h0 m1 m2 (C.ofV F9 C9) F9.fk O
set_option maxRecDepth 100000 in
set_option maxHeartbeats 4000000 in
theorem g_set {G : GG} {d bc bs c M n : Nat} {h : Hp} {Q : Pst} {V : SV} {x : Nat → QIS} {R : RS} {u : Int32} {i : Int32} {e : Int32} (B : PUR c V M n x R) (hc : c < 512) (C : CLS h V M n x R) (O : h_k h (nm 70 0) = 104 ∧ h_n h (nm 70 0) = 1)  (hd : 20 ≤ d) (hbc : 30 ≤ bc) (hbs : 900 ≤ bs) (hq : HQ Q h (o_set V u (tn u) i (tn i) e).1 (o_set V u (tn u) i (tn i) e).2.1.toInt64 M (o_set V u (tn u) i (tn i) e).2.2 n x R) : WP G m_L_set d 0 (aargs 0 [vr (some (nm 40 0)), vi u, vi i, vi e, vr (some (nm 70 0))]) [] h bc bs Q := by
  obtain ⟨hS, hW, hmd, hMc, hX, hRB, hLF⟩ := B
  have hr : sMd V < 700000 := by omega
  have hb1 := hRB.1
  have hnv := hS.1
  have hn12 := hX.1.2.1
  refine wp_sub [(0, vr (some (nm 40 0))), (1, vi u), (2, vi i), (3, vi e), (4, vr (some (nm 70 0)))] (fun _ hz => hz) ?_
  refine wp_aload (i := 4) dL_set_0 rfl ?_
  refine wp_iconst (nI 0) dL_set_2 (by decide) ?_
  refine wp_aload_n (i := 0) dL_set_3 rfl rfl ?_
  refine wp_iload_n (i := 1) dL_set_4 rfl rfl ?_
  refine wp_iload_n (i := 2) dL_set_5 rfl rfl ?_
  refine wp_iload_n (i := 3) dL_set_6 rfl rfl ?_
  have hsz : ∀ j, sSz V j < 2 ^ 31 := fun j => by have := hW.1.2.2.2.1 j; omega
  refine wp_cV (y' := m_X11_set) 12 [vi u, vi i, vi e] [vi (nI 0), vr (some (nm 70 0))] 30 900 dL_set_7 ml_L_25 im_X11_set se_X11_set (by decide) C.hk ok_X11_set rfl (Nat.le_of_ble_eq_true rfl) rfl (Nat.le_of_ble_eq_true rfl) (d' := d - 1) (by omega) (by omega) (by omega) (c_X11_set hS C.2.2 hr (ix_tn (by omega)) (ix_tn (hsz _)) (by omega) (by omega) (by omega) ?_)
  intro h' M' m1 m2 C9 F9
  refine ⟨?_, ?_⟩
  · intro i e h1 h2
    rcases i with _ | _ | _ | _ | _ | i
    · have h2 : some "java/lang/IndexOutOfBoundsException" = some e := h2
      cases h2
      refine cont_x (wx_catch (j := 5) [] (0, 12, 15, 19) [(0, 12, 19, 21), (0, 12, 23, 23), (0, 12, 27, 29), (0, 12, 31, 13)] rfl ps_nil (by decide) (by decide) kl_L_19 ca_395 dL_set_15 (by decide) (hj_cons ⟨by decide, rfl⟩ (hj_cons ⟨by decide, rfl⟩ (hj_cons ⟨by decide, rfl⟩ (hj_cons ⟨by decide, rfl⟩ (hj_cons ⟨by decide, rfl⟩ hj_nil))))) ?_)
      refine wp_iconst (nI 1) dL_set_17 (by decide) ?_
      refine wp_ireturn dL_set_18 rfl ?_
      exact hq.thr h1 (by decide) m1 m2 (C.ofV F9 C9) F9.fk O
    · have h2 : some "java/lang/IllegalArgumentException" = some e := h2
      cases h2
      refine cont_x (wx_catch (j := 5) [(0, 12, 15, 19)] (0, 12, 19, 21) [(0, 12, 23, 23), (0, 12, 27, 29), (0, 12, 31, 13)] rfl (ps_cons (by decide) kl_L_19 (by decide +kernel) ps_nil) (by decide) (by decide) kl_L_21 ca_417 dL_set_19 (by decide) (hj_cons ⟨by decide, rfl⟩ (hj_cons ⟨by decide, rfl⟩ (hj_cons ⟨by decide, rfl⟩ (hj_cons ⟨by decide, rfl⟩ (hj_cons ⟨by decide, rfl⟩ hj_nil))))) ?_)
      refine wp_iconst (nI 2) dL_set_21 (by decide) ?_
      refine wp_ireturn dL_set_22 rfl ?_
      exact hq.thr h1 (by decide) m1 m2 (C.ofV F9 C9) F9.fk O
    · have h2 : some "java/lang/UnsupportedOperationException" = some e := h2
      cases h2
      refine cont_x (wx_catch (j := 5) [(0, 12, 15, 19), (0, 12, 19, 21)] (0, 12, 23, 23) [(0, 12, 27, 29), (0, 12, 31, 13)] rfl (ps_cons (by decide) kl_L_19 (by decide +kernel) (ps_cons (by decide) kl_L_21 (by decide +kernel) ps_nil)) (by decide) (by decide) kl_L_23 ca_436 dL_set_23 (by decide) (hj_cons ⟨by decide, rfl⟩ (hj_cons ⟨by decide, rfl⟩ (hj_cons ⟨by decide, rfl⟩ (hj_cons ⟨by decide, rfl⟩ (hj_cons ⟨by decide, rfl⟩ hj_nil))))) ?_)
      refine wp_iconst (nI 3) dL_set_25 (by decide) ?_
      refine wp_ireturn dL_set_26 rfl ?_
      exact hq.thr h1 (by decide) m1 m2 (C.ofV F9 C9) F9.fk O
    · have h2 : some "java/util/NoSuchElementException" = some e := h2
      cases h2
      refine cont_x (wx_catch (j := 5) [(0, 12, 15, 19), (0, 12, 19, 21), (0, 12, 23, 23)] (0, 12, 27, 29) [(0, 12, 31, 13)] rfl (ps_cons (by decide) kl_L_19 (by decide +kernel) (ps_cons (by decide) kl_L_21 (by decide +kernel) (ps_cons (by decide) kl_L_23 (by decide +kernel) ps_nil))) (by decide) (by decide) kl_L_29 ca_527 dL_set_27 (by decide) (hj_cons ⟨by decide, rfl⟩ (hj_cons ⟨by decide, rfl⟩ (hj_cons ⟨by decide, rfl⟩ (hj_cons ⟨by decide, rfl⟩ (hj_cons ⟨by decide, rfl⟩ hj_nil))))) ?_)
      refine wp_iconst (nI 4) dL_set_29 (by decide) ?_
      refine wp_ireturn dL_set_30 rfl ?_
      exact hq.thr h1 (by decide) m1 m2 (C.ofV F9 C9) F9.fk O
    · have h2 : some "java/lang/IllegalStateException" = some e := h2
      cases h2
      refine cont_x (wx_catch (j := 5) [(0, 12, 15, 19), (0, 12, 19, 21), (0, 12, 23, 23), (0, 12, 27, 29)] (0, 12, 31, 13) [] rfl (ps_cons (by decide) kl_L_19 (by decide +kernel) (ps_cons (by decide) kl_L_21 (by decide +kernel) (ps_cons (by decide) kl_L_23 (by decide +kernel) (ps_cons (by decide) kl_L_29 (by decide +kernel) ps_nil)))) (by decide) (by decide) kl_L_13 ca_234 dL_set_31 (by decide) (hj_cons ⟨by decide, rfl⟩ (hj_cons ⟨by decide, rfl⟩ (hj_cons ⟨by decide, rfl⟩ (hj_cons ⟨by decide, rfl⟩ (hj_cons ⟨by decide, rfl⟩ hj_nil))))) ?_)
      refine wp_iconst (nI 5) dL_set_33 (by decide) ?_
      refine wp_ireturn dL_set_34 rfl ?_
      exact hq.thr h1 (by decide) m1 m2 (C.ofV F9 C9) F9.fk O
    · have h2 : (none : Option String) = some e := h2
      cases h2
  · intro h0
    refine cont_ret ?_
    have O2 := FK.out F9.fk O
    refine wp_i2l dL_set_10 ?_
    refine wp_lastoreN 1 dL_set_11 O2.1 O2.2 (by decide) (by decide) ?_
    refine wp_goto 35 dL_set_12 (by decide) ?_
    refine wp_iconst (nI 0) dL_set_35 (by decide) ?_
    refine wp_ireturn dL_set_36 rfl ?_
    exact hq.ret h0 m1 m2 (C.ofV F9 C9) F9.fk O
set_option maxRecDepth 100000 in
set_option maxHeartbeats 4000000 in
theorem g_cut {G : GG} {d bc bs c M n : Nat} {h : Hp} {Q : Pst} {V : SV} {x : Nat → QIS} {R : RS} {u : Int32} (B : PUR c V M n x R) (hc : c < 512) (C : CLS h V M n x R) (O : h_k h (nm 70 0) = 104 ∧ h_n h (nm 70 0) = 1)  (hd : 20 ≤ d) (hbc : 30 ≤ bc) (hbs : 900 ≤ bs) (hq : HQ Q h (o_cut V u (tn u)).1 (o_cut V u (tn u)).2.1.toInt64 M (o_cut V u (tn u)).2.2 n x R) : WP G m_L_cut d 0 (aargs 0 [vr (some (nm 40 0)), vi u, vr (some (nm 70 0))]) [] h bc bs Q := by
  obtain ⟨hS, hW, hmd, hMc, hX, hRB, hLF⟩ := B
  have hr : sMd V < 700000 := by omega
  have hb1 := hRB.1
  have hnv := hS.1
  have hn12 := hX.1.2.1
  refine wp_sub [(0, vr (some (nm 40 0))), (1, vi u), (2, vr (some (nm 70 0)))] (fun _ hz => hz) ?_
  refine wp_aload_n (i := 2) dL_cut_0 rfl rfl ?_
  refine wp_iconst (nI 0) dL_cut_1 (by decide) ?_
  refine wp_aload_n (i := 0) dL_cut_2 rfl rfl ?_
  refine wp_iload_n (i := 1) dL_cut_3 rfl rfl ?_
  refine wp_cV (y' := m_X11_cut) 12 [vi u] [vi (nI 0), vr (some (nm 70 0))] 30 900 dL_cut_4 ml_L_31 im_X11_cut se_X11_cut (by decide) C.hk ok_X11_cut rfl (Nat.le_of_ble_eq_true rfl) rfl (Nat.le_of_ble_eq_true rfl) (d' := d - 1) (by omega) (by omega) (by omega) (c_X11_cut hS C.2.2 hr (ix_tn (by omega)) (by omega) (by omega) (by omega) ?_)
  intro h' M' m1 m2 C9 F9
  refine ⟨?_, ?_⟩
  · intro i e h1 h2
    rcases i with _ | _ | _ | _ | i
    · have h2 : some "java/lang/IndexOutOfBoundsException" = some e := h2
      cases h2
      refine cont_x (wx_catch_n (j := 3) [] (0, 9, 12, 19) [(0, 9, 15, 23), (0, 9, 18, 29), (0, 9, 21, 13)] rfl ps_nil (by decide) (by decide) kl_L_19 ca_395 dL_cut_12 rfl (by decide) (hj_cons ⟨by decide, rfl⟩ (hj_cons ⟨by decide, rfl⟩ (hj_cons ⟨by decide, rfl⟩ hj_nil))) ?_)
      refine wp_iconst (nI 1) dL_cut_13 (by decide) ?_
      refine wp_ireturn dL_cut_14 rfl ?_
      exact hq.thr h1 (by decide) m1 m2 (C.ofV F9 C9) F9.fk O
    · have h2 : some "java/lang/UnsupportedOperationException" = some e := h2
      cases h2
      refine cont_x (wx_catch_n (j := 3) [(0, 9, 12, 19)] (0, 9, 15, 23) [(0, 9, 18, 29), (0, 9, 21, 13)] rfl (ps_cons (by decide) kl_L_19 (by decide +kernel) ps_nil) (by decide) (by decide) kl_L_23 ca_436 dL_cut_15 rfl (by decide) (hj_cons ⟨by decide, rfl⟩ (hj_cons ⟨by decide, rfl⟩ (hj_cons ⟨by decide, rfl⟩ hj_nil))) ?_)
      refine wp_iconst (nI 2) dL_cut_16 (by decide) ?_
      refine wp_ireturn dL_cut_17 rfl ?_
      exact hq.thr h1 (by decide) m1 m2 (C.ofV F9 C9) F9.fk O
    · have h2 : some "java/util/NoSuchElementException" = some e := h2
      cases h2
      refine cont_x (wx_catch_n (j := 3) [(0, 9, 12, 19), (0, 9, 15, 23)] (0, 9, 18, 29) [(0, 9, 21, 13)] rfl (ps_cons (by decide) kl_L_19 (by decide +kernel) (ps_cons (by decide) kl_L_23 (by decide +kernel) ps_nil)) (by decide) (by decide) kl_L_29 ca_527 dL_cut_18 rfl (by decide) (hj_cons ⟨by decide, rfl⟩ (hj_cons ⟨by decide, rfl⟩ (hj_cons ⟨by decide, rfl⟩ hj_nil))) ?_)
      refine wp_iconst (nI 3) dL_cut_19 (by decide) ?_
      refine wp_ireturn dL_cut_20 rfl ?_
      exact hq.thr h1 (by decide) m1 m2 (C.ofV F9 C9) F9.fk O
    · have h2 : some "java/lang/IllegalStateException" = some e := h2
      cases h2
      refine cont_x (wx_catch_n (j := 3) [(0, 9, 12, 19), (0, 9, 15, 23), (0, 9, 18, 29)] (0, 9, 21, 13) [] rfl (ps_cons (by decide) kl_L_19 (by decide +kernel) (ps_cons (by decide) kl_L_23 (by decide +kernel) (ps_cons (by decide) kl_L_29 (by decide +kernel) ps_nil))) (by decide) (by decide) kl_L_13 ca_234 dL_cut_21 rfl (by decide) (hj_cons ⟨by decide, rfl⟩ (hj_cons ⟨by decide, rfl⟩ (hj_cons ⟨by decide, rfl⟩ hj_nil))) ?_)
      refine wp_iconst (nI 4) dL_cut_22 (by decide) ?_
      refine wp_ireturn dL_cut_23 rfl ?_
      exact hq.thr h1 (by decide) m1 m2 (C.ofV F9 C9) F9.fk O
    · have h2 : (none : Option String) = some e := h2
      cases h2
  · intro h0
    refine cont_ret ?_
    have O2 := FK.out F9.fk O
    refine wp_i2l dL_cut_7 ?_
    refine wp_lastoreN 1 dL_cut_8 O2.1 O2.2 (by decide) (by decide) ?_
    refine wp_goto 24 dL_cut_9 (by decide) ?_
    refine wp_iconst (nI 0) dL_cut_24 (by decide) ?_
    refine wp_ireturn dL_cut_25 rfl ?_
    exact hq.ret h0 m1 m2 (C.ofV F9 C9) F9.fk O
set_option maxRecDepth 100000 in
set_option maxHeartbeats 4000000 in
theorem g_depth {G : GG} {d bc bs c M n : Nat} {h : Hp} {Q : Pst} {V : SV} {x : Nat → QIS} {R : RS} {u : Int32} (B : PUR c V M n x R) (hc : c < 512) (C : CLS h V M n x R) (O : h_k h (nm 70 0) = 104 ∧ h_n h (nm 70 0) = 1)  (hd : 20 ≤ d) (hbc : 30 ≤ bc) (hbs : 900 ≤ bs) (hq : HQ Q h (o_depth V u (tn u)).1 (o_depth V u (tn u)).2.1.toInt64 M (o_depth V u (tn u)).2.2 n x R) : WP G m_L_depth d 0 (aargs 0 [vr (some (nm 40 0)), vi u, vr (some (nm 70 0))]) [] h bc bs Q := by
  obtain ⟨hS, hW, hmd, hMc, hX, hRB, hLF⟩ := B
  have hr : sMd V < 700000 := by omega
  have hb1 := hRB.1
  have hnv := hS.1
  have hn12 := hX.1.2.1
  refine wp_sub [(0, vr (some (nm 40 0))), (1, vi u), (2, vr (some (nm 70 0)))] (fun _ hz => hz) ?_
  refine wp_aload_n (i := 2) dL_depth_0 rfl rfl ?_
  refine wp_iconst (nI 0) dL_depth_1 (by decide) ?_
  refine wp_aload_n (i := 0) dL_depth_2 rfl rfl ?_
  refine wp_iload_n (i := 1) dL_depth_3 rfl rfl ?_
  refine wp_cV (y' := m_X11_depth) 12 [vi u] [vi (nI 0), vr (some (nm 70 0))] 30 900 dL_depth_4 ml_L_35 im_X11_depth se_X11_depth (by decide) C.hk ok_X11_depth rfl (Nat.le_of_ble_eq_true rfl) rfl (Nat.le_of_ble_eq_true rfl) (d' := d - 1) (by omega) (by omega) (by omega) (c_X11_depth hS C.2.2 hr (ix_tn (by omega)) (by omega) (by omega) (by omega) ?_)
  intro h' M' m1 m2 C9 F9
  refine ⟨?_, ?_⟩
  · intro i e h1 h2
    rcases i with _ | _ | i
    · have h2 : some "java/lang/IndexOutOfBoundsException" = some e := h2
      cases h2
      refine cont_x (wx_catch_n (j := 3) [] (0, 9, 12, 19) [(0, 9, 15, 23)] rfl ps_nil (by decide) (by decide) kl_L_19 ca_395 dL_depth_12 rfl (by decide) (hj_cons ⟨by decide, rfl⟩ (hj_cons ⟨by decide, rfl⟩ (hj_cons ⟨by decide, rfl⟩ hj_nil))) ?_)
      refine wp_iconst (nI 1) dL_depth_13 (by decide) ?_
      refine wp_ireturn dL_depth_14 rfl ?_
      exact hq.thr h1 (by decide) m1 m2 (C.ofV F9 C9) F9.fk O
    · have h2 : some "java/lang/UnsupportedOperationException" = some e := h2
      cases h2
      refine cont_x (wx_catch_n (j := 3) [(0, 9, 12, 19)] (0, 9, 15, 23) [] rfl (ps_cons (by decide) kl_L_19 (by decide +kernel) ps_nil) (by decide) (by decide) kl_L_23 ca_436 dL_depth_15 rfl (by decide) (hj_cons ⟨by decide, rfl⟩ (hj_cons ⟨by decide, rfl⟩ (hj_cons ⟨by decide, rfl⟩ hj_nil))) ?_)
      refine wp_iconst (nI 2) dL_depth_16 (by decide) ?_
      refine wp_ireturn dL_depth_17 rfl ?_
      exact hq.thr h1 (by decide) m1 m2 (C.ofV F9 C9) F9.fk O
    · have h2 : (none : Option String) = some e := h2
      cases h2
  · intro h0
    refine cont_ret ?_
    have O2 := FK.out F9.fk O
    refine wp_i2l dL_depth_7 ?_
    refine wp_lastoreN 1 dL_depth_8 O2.1 O2.2 (by decide) (by decide) ?_
    refine wp_goto 18 dL_depth_9 (by decide) ?_
    refine wp_iconst (nI 0) dL_depth_18 (by decide) ?_
    refine wp_ireturn dL_depth_19 rfl ?_
    exact hq.ret h0 m1 m2 (C.ofV F9 C9) F9.fk O
set_option maxRecDepth 100000 in
set_option maxHeartbeats 4000000 in
theorem g_open {G : GG} {d bc bs c M n : Nat} {h : Hp} {Q : Pst} {V : SV} {x : Nat → QIS} {R : RS} {u : Int32} (B : PUR c V M n x R) (hc : c < 512) (C : CLS h V M n x R) (O : h_k h (nm 70 0) = 104 ∧ h_n h (nm 70 0) = 1)  (hd : 20 ≤ d) (hbc : 30 ≤ bc) (hbs : 900 ≤ bs) (hq : HQ Q h (o_open V u (tn u)).1 (o_open V u (tn u)).2.1.toInt64 M (o_open V u (tn u)).2.2 n x R) : WP G m_L_open d 0 (aargs 0 [vr (some (nm 40 0)), vi u, vr (some (nm 70 0))]) [] h bc bs Q := by
  obtain ⟨hS, hW, hmd, hMc, hX, hRB, hLF⟩ := B
  have hr : sMd V < 700000 := by omega
  have hb1 := hRB.1
  have hnv := hS.1
  have hn12 := hX.1.2.1
  refine wp_sub [(0, vr (some (nm 40 0))), (1, vi u), (2, vr (some (nm 70 0)))] (fun _ hz => hz) ?_
  refine wp_aload_n (i := 2) dL_open_0 rfl rfl ?_
  refine wp_iconst (nI 0) dL_open_1 (by decide) ?_
  refine wp_aload_n (i := 0) dL_open_2 rfl rfl ?_
  refine wp_iload_n (i := 1) dL_open_3 rfl rfl ?_
  refine wp_cV (y' := m_X11_open) 12 [vi u] [vi (nI 0), vr (some (nm 70 0))] 30 900 dL_open_4 ml_L_38 im_X11_open se_X11_open (by decide) C.hk ok_X11_open rfl (Nat.le_of_ble_eq_true rfl) rfl (Nat.le_of_ble_eq_true rfl) (d' := d - 1) (by omega) (by omega) (by omega) (c_X11_open hS C.2.2 hr (ix_tn (by omega)) (by omega) (by omega) (by omega) ?_)
  intro h' M' m1 m2 C9 F9
  refine ⟨?_, ?_⟩
  · intro i e h1 h2
    rcases i with _ | _ | _ | i
    · have h2 : some "java/lang/IndexOutOfBoundsException" = some e := h2
      cases h2
      refine cont_x (wx_catch_n (j := 3) [] (0, 9, 12, 19) [(0, 9, 15, 23), (0, 9, 18, 13)] rfl ps_nil (by decide) (by decide) kl_L_19 ca_395 dL_open_12 rfl (by decide) (hj_cons ⟨by decide, rfl⟩ (hj_cons ⟨by decide, rfl⟩ (hj_cons ⟨by decide, rfl⟩ hj_nil))) ?_)
      refine wp_iconst (nI 1) dL_open_13 (by decide) ?_
      refine wp_ireturn dL_open_14 rfl ?_
      exact hq.thr h1 (by decide) m1 m2 (C.ofV F9 C9) F9.fk O
    · have h2 : some "java/lang/UnsupportedOperationException" = some e := h2
      cases h2
      refine cont_x (wx_catch_n (j := 3) [(0, 9, 12, 19)] (0, 9, 15, 23) [(0, 9, 18, 13)] rfl (ps_cons (by decide) kl_L_19 (by decide +kernel) ps_nil) (by decide) (by decide) kl_L_23 ca_436 dL_open_15 rfl (by decide) (hj_cons ⟨by decide, rfl⟩ (hj_cons ⟨by decide, rfl⟩ (hj_cons ⟨by decide, rfl⟩ hj_nil))) ?_)
      refine wp_iconst (nI 2) dL_open_16 (by decide) ?_
      refine wp_ireturn dL_open_17 rfl ?_
      exact hq.thr h1 (by decide) m1 m2 (C.ofV F9 C9) F9.fk O
    · have h2 : some "java/lang/IllegalStateException" = some e := h2
      cases h2
      refine cont_x (wx_catch_n (j := 3) [(0, 9, 12, 19), (0, 9, 15, 23)] (0, 9, 18, 13) [] rfl (ps_cons (by decide) kl_L_19 (by decide +kernel) (ps_cons (by decide) kl_L_23 (by decide +kernel) ps_nil)) (by decide) (by decide) kl_L_13 ca_234 dL_open_18 rfl (by decide) (hj_cons ⟨by decide, rfl⟩ (hj_cons ⟨by decide, rfl⟩ (hj_cons ⟨by decide, rfl⟩ hj_nil))) ?_)
      refine wp_iconst (nI 3) dL_open_19 (by decide) ?_
      refine wp_ireturn dL_open_20 rfl ?_
      exact hq.thr h1 (by decide) m1 m2 (C.ofV F9 C9) F9.fk O
    · have h2 : (none : Option String) = some e := h2
      cases h2
  · intro h0
    refine cont_ret ?_
    have O2 := FK.out F9.fk O
    refine wp_i2l dL_open_7 ?_
    refine wp_lastoreN 1 dL_open_8 O2.1 O2.2 (by decide) (by decide) ?_
    refine wp_goto 21 dL_open_9 (by decide) ?_
    refine wp_iconst (nI 0) dL_open_21 (by decide) ?_
    refine wp_ireturn dL_open_22 rfl ?_
    exact hq.ret h0 m1 m2 (C.ofV F9 C9) F9.fk O
set_option maxRecDepth 100000 in
set_option maxHeartbeats 4000000 in
theorem g_appendTo {G : GG} {d bc bs c M n : Nat} {h : Hp} {Q : Pst} {V : SV} {x : Nat → QIS} {R : RS} {u : Int32} {e : Int32} (B : PUR c V M n x R) (hc : c < 512) (C : CLS h V M n x R) (O : h_k h (nm 70 0) = 104 ∧ h_n h (nm 70 0) = 1)  (hd : 20 ≤ d) (hbc : 30 ≤ bc) (hbs : 900 ≤ bs) (hq : HQ Q h (o_appendTo V u (tn u) e).1 (o_appendTo V u (tn u) e).2.1.toInt64 M (o_appendTo V u (tn u) e).2.2 n x R) : WP G m_L_appendTo d 0 (aargs 0 [vr (some (nm 40 0)), vi u, vi e, vr (some (nm 70 0))]) [] h bc bs Q := by
  obtain ⟨hS, hW, hmd, hMc, hX, hRB, hLF⟩ := B
  have hr : sMd V < 700000 := by omega
  have hb1 := hRB.1
  have hnv := hS.1
  have hn12 := hX.1.2.1
  refine wp_sub [(0, vr (some (nm 40 0))), (1, vi u), (2, vi e), (3, vr (some (nm 70 0)))] (fun _ hz => hz) ?_
  refine wp_aload_n (i := 3) dL_appendTo_0 rfl rfl ?_
  refine wp_iconst (nI 0) dL_appendTo_1 (by decide) ?_
  refine wp_aload_n (i := 0) dL_appendTo_2 rfl rfl ?_
  refine wp_iload_n (i := 1) dL_appendTo_3 rfl rfl ?_
  refine wp_iload_n (i := 2) dL_appendTo_4 rfl rfl ?_
  refine wp_cV (y' := m_X11_appendTo) 12 [vi u, vi e] [vi (nI 0), vr (some (nm 70 0))] 30 900 dL_appendTo_5 ml_L_41 im_X11_appendTo se_X11_appendTo (by decide) C.hk ok_X11_appendTo rfl (Nat.le_of_ble_eq_true rfl) rfl (Nat.le_of_ble_eq_true rfl) (d' := d - 1) (by omega) (by omega) (by omega) (c_X11_appendTo hS C.2.2 hr (ix_tn (by omega)) (by omega) (by omega) (by omega) ?_)
  intro h' M' m1 m2 C9 F9
  refine ⟨?_, ?_⟩
  · intro i e h1 h2
    rcases i with _ | _ | _ | i
    · have h2 : some "java/lang/IndexOutOfBoundsException" = some e := h2
      cases h2
      refine cont_x (wx_catch (j := 4) [] (0, 10, 13, 19) [(0, 10, 17, 21), (0, 10, 21, 23)] rfl ps_nil (by decide) (by decide) kl_L_19 ca_395 dL_appendTo_13 (by decide) (hj_cons ⟨by decide, rfl⟩ (hj_cons ⟨by decide, rfl⟩ (hj_cons ⟨by decide, rfl⟩ (hj_cons ⟨by decide, rfl⟩ hj_nil)))) ?_)
      refine wp_iconst (nI 1) dL_appendTo_15 (by decide) ?_
      refine wp_ireturn dL_appendTo_16 rfl ?_
      exact hq.thr h1 (by decide) m1 m2 (C.ofV F9 C9) F9.fk O
    · have h2 : some "java/lang/IllegalArgumentException" = some e := h2
      cases h2
      refine cont_x (wx_catch (j := 4) [(0, 10, 13, 19)] (0, 10, 17, 21) [(0, 10, 21, 23)] rfl (ps_cons (by decide) kl_L_19 (by decide +kernel) ps_nil) (by decide) (by decide) kl_L_21 ca_417 dL_appendTo_17 (by decide) (hj_cons ⟨by decide, rfl⟩ (hj_cons ⟨by decide, rfl⟩ (hj_cons ⟨by decide, rfl⟩ (hj_cons ⟨by decide, rfl⟩ hj_nil)))) ?_)
      refine wp_iconst (nI 2) dL_appendTo_19 (by decide) ?_
      refine wp_ireturn dL_appendTo_20 rfl ?_
      exact hq.thr h1 (by decide) m1 m2 (C.ofV F9 C9) F9.fk O
    · have h2 : some "java/lang/UnsupportedOperationException" = some e := h2
      cases h2
      refine cont_x (wx_catch (j := 4) [(0, 10, 13, 19), (0, 10, 17, 21)] (0, 10, 21, 23) [] rfl (ps_cons (by decide) kl_L_19 (by decide +kernel) (ps_cons (by decide) kl_L_21 (by decide +kernel) ps_nil)) (by decide) (by decide) kl_L_23 ca_436 dL_appendTo_21 (by decide) (hj_cons ⟨by decide, rfl⟩ (hj_cons ⟨by decide, rfl⟩ (hj_cons ⟨by decide, rfl⟩ (hj_cons ⟨by decide, rfl⟩ hj_nil)))) ?_)
      refine wp_iconst (nI 3) dL_appendTo_23 (by decide) ?_
      refine wp_ireturn dL_appendTo_24 rfl ?_
      exact hq.thr h1 (by decide) m1 m2 (C.ofV F9 C9) F9.fk O
    · have h2 : (none : Option String) = some e := h2
      cases h2
  · intro h0
    refine cont_ret ?_
    have O2 := FK.out F9.fk O
    refine wp_i2l dL_appendTo_8 ?_
    refine wp_lastoreN 1 dL_appendTo_9 O2.1 O2.2 (by decide) (by decide) ?_
    refine wp_goto 25 dL_appendTo_10 (by decide) ?_
    refine wp_iconst (nI 0) dL_appendTo_25 (by decide) ?_
    refine wp_ireturn dL_appendTo_26 rfl ?_
    exact hq.ret h0 m1 m2 (C.ofV F9 C9) F9.fk O
set_option maxRecDepth 100000 in
set_option maxHeartbeats 4000000 in
theorem g_setIn {G : GG} {d bc bs c M n : Nat} {h : Hp} {Q : Pst} {V : SV} {x : Nat → QIS} {R : RS} {u : Int32} {i : Int32} {e : Int32} (B : PUR c V M n x R) (hc : c < 512) (C : CLS h V M n x R) (O : h_k h (nm 70 0) = 104 ∧ h_n h (nm 70 0) = 1)  (hd : 20 ≤ d) (hbc : 30 ≤ bc) (hbs : 900 ≤ bs) (hq : HQ Q h (o_setIn V u (tn u) i (tn i) e).1 (o_setIn V u (tn u) i (tn i) e).2.1.toInt64 M (o_setIn V u (tn u) i (tn i) e).2.2 n x R) : WP G m_L_setIn d 0 (aargs 0 [vr (some (nm 40 0)), vi u, vi i, vi e, vr (some (nm 70 0))]) [] h bc bs Q := by
  obtain ⟨hS, hW, hmd, hMc, hX, hRB, hLF⟩ := B
  have hr : sMd V < 700000 := by omega
  have hb1 := hRB.1
  have hnv := hS.1
  have hn12 := hX.1.2.1
  refine wp_sub [(0, vr (some (nm 40 0))), (1, vi u), (2, vi i), (3, vi e), (4, vr (some (nm 70 0)))] (fun _ hz => hz) ?_
  refine wp_aload (i := 4) dL_setIn_0 rfl ?_
  refine wp_iconst (nI 0) dL_setIn_2 (by decide) ?_
  refine wp_aload_n (i := 0) dL_setIn_3 rfl rfl ?_
  refine wp_iload_n (i := 1) dL_setIn_4 rfl rfl ?_
  refine wp_iload_n (i := 2) dL_setIn_5 rfl rfl ?_
  refine wp_iload_n (i := 3) dL_setIn_6 rfl rfl ?_
  have hsz : ∀ j, sSz V j < 2 ^ 31 := fun j => by have := hW.1.2.2.2.1 j; omega
  refine wp_cV (y' := m_X11_setIn) 12 [vi u, vi i, vi e] [vi (nI 0), vr (some (nm 70 0))] 30 900 dL_setIn_7 ml_L_44 im_X11_setIn se_X11_setIn (by decide) C.hk ok_X11_setIn rfl (Nat.le_of_ble_eq_true rfl) rfl (Nat.le_of_ble_eq_true rfl) (d' := d - 1) (by omega) (by omega) (by omega) (c_X11_setIn hS C.2.2 hr (ix_tn (by omega)) (ix_tn (hsz _)) (by omega) (by omega) (by omega) ?_)
  intro h' M' m1 m2 C9 F9
  refine ⟨?_, ?_⟩
  · intro i e h1 h2
    rcases i with _ | _ | _ | _ | i
    · have h2 : some "java/lang/IndexOutOfBoundsException" = some e := h2
      cases h2
      refine cont_x (wx_catch (j := 5) [] (0, 12, 15, 19) [(0, 12, 19, 21), (0, 12, 23, 23), (0, 12, 27, 29)] rfl ps_nil (by decide) (by decide) kl_L_19 ca_395 dL_setIn_15 (by decide) (hj_cons ⟨by decide, rfl⟩ (hj_cons ⟨by decide, rfl⟩ (hj_cons ⟨by decide, rfl⟩ (hj_cons ⟨by decide, rfl⟩ (hj_cons ⟨by decide, rfl⟩ hj_nil))))) ?_)
      refine wp_iconst (nI 1) dL_setIn_17 (by decide) ?_
      refine wp_ireturn dL_setIn_18 rfl ?_
      exact hq.thr h1 (by decide) m1 m2 (C.ofV F9 C9) F9.fk O
    · have h2 : some "java/lang/IllegalArgumentException" = some e := h2
      cases h2
      refine cont_x (wx_catch (j := 5) [(0, 12, 15, 19)] (0, 12, 19, 21) [(0, 12, 23, 23), (0, 12, 27, 29)] rfl (ps_cons (by decide) kl_L_19 (by decide +kernel) ps_nil) (by decide) (by decide) kl_L_21 ca_417 dL_setIn_19 (by decide) (hj_cons ⟨by decide, rfl⟩ (hj_cons ⟨by decide, rfl⟩ (hj_cons ⟨by decide, rfl⟩ (hj_cons ⟨by decide, rfl⟩ (hj_cons ⟨by decide, rfl⟩ hj_nil))))) ?_)
      refine wp_iconst (nI 2) dL_setIn_21 (by decide) ?_
      refine wp_ireturn dL_setIn_22 rfl ?_
      exact hq.thr h1 (by decide) m1 m2 (C.ofV F9 C9) F9.fk O
    · have h2 : some "java/lang/UnsupportedOperationException" = some e := h2
      cases h2
      refine cont_x (wx_catch (j := 5) [(0, 12, 15, 19), (0, 12, 19, 21)] (0, 12, 23, 23) [(0, 12, 27, 29)] rfl (ps_cons (by decide) kl_L_19 (by decide +kernel) (ps_cons (by decide) kl_L_21 (by decide +kernel) ps_nil)) (by decide) (by decide) kl_L_23 ca_436 dL_setIn_23 (by decide) (hj_cons ⟨by decide, rfl⟩ (hj_cons ⟨by decide, rfl⟩ (hj_cons ⟨by decide, rfl⟩ (hj_cons ⟨by decide, rfl⟩ (hj_cons ⟨by decide, rfl⟩ hj_nil))))) ?_)
      refine wp_iconst (nI 3) dL_setIn_25 (by decide) ?_
      refine wp_ireturn dL_setIn_26 rfl ?_
      exact hq.thr h1 (by decide) m1 m2 (C.ofV F9 C9) F9.fk O
    · have h2 : some "java/util/NoSuchElementException" = some e := h2
      cases h2
      refine cont_x (wx_catch (j := 5) [(0, 12, 15, 19), (0, 12, 19, 21), (0, 12, 23, 23)] (0, 12, 27, 29) [] rfl (ps_cons (by decide) kl_L_19 (by decide +kernel) (ps_cons (by decide) kl_L_21 (by decide +kernel) (ps_cons (by decide) kl_L_23 (by decide +kernel) ps_nil))) (by decide) (by decide) kl_L_29 ca_527 dL_setIn_27 (by decide) (hj_cons ⟨by decide, rfl⟩ (hj_cons ⟨by decide, rfl⟩ (hj_cons ⟨by decide, rfl⟩ (hj_cons ⟨by decide, rfl⟩ (hj_cons ⟨by decide, rfl⟩ hj_nil))))) ?_)
      refine wp_iconst (nI 4) dL_setIn_29 (by decide) ?_
      refine wp_ireturn dL_setIn_30 rfl ?_
      exact hq.thr h1 (by decide) m1 m2 (C.ofV F9 C9) F9.fk O
    · have h2 : (none : Option String) = some e := h2
      cases h2
  · intro h0
    refine cont_ret ?_
    have O2 := FK.out F9.fk O
    refine wp_i2l dL_setIn_10 ?_
    refine wp_lastoreN 1 dL_setIn_11 O2.1 O2.2 (by decide) (by decide) ?_
    refine wp_goto 31 dL_setIn_12 (by decide) ?_
    refine wp_iconst (nI 0) dL_setIn_31 (by decide) ?_
    refine wp_ireturn dL_setIn_32 rfl ?_
    exact hq.ret h0 m1 m2 (C.ofV F9 C9) F9.fk O
set_option maxRecDepth 100000 in
set_option maxHeartbeats 4000000 in
theorem g_makeLasting {G : GG} {d bc bs c M n : Nat} {h : Hp} {Q : Pst} {V : SV} {x : Nat → QIS} {R : RS} {u : Int32} (B : PUR c V M n x R) (hc : c < 512) (C : CLS h V M n x R) (O : h_k h (nm 70 0) = 104 ∧ h_n h (nm 70 0) = 1)  (hd : 20 ≤ d) (hbc : 30 ≤ bc) (hbs : 900 ≤ bs) (hq : HQ Q h (o_lasting V u (tn u)).1 (o_lasting V u (tn u)).2.1.toInt64 M (o_lasting V u (tn u)).2.2 n x R) : WP G m_L_makeLasting d 0 (aargs 0 [vr (some (nm 40 0)), vi u, vr (some (nm 70 0))]) [] h bc bs Q := by
  obtain ⟨hS, hW, hmd, hMc, hX, hRB, hLF⟩ := B
  have hr : sMd V < 700000 := by omega
  have hb1 := hRB.1
  have hnv := hS.1
  have hn12 := hX.1.2.1
  refine wp_sub [(0, vr (some (nm 40 0))), (1, vi u), (2, vr (some (nm 70 0)))] (fun _ hz => hz) ?_
  refine wp_aload_n (i := 2) dL_makeLasting_0 rfl rfl ?_
  refine wp_iconst (nI 0) dL_makeLasting_1 (by decide) ?_
  refine wp_aload_n (i := 0) dL_makeLasting_2 rfl rfl ?_
  refine wp_iload_n (i := 1) dL_makeLasting_3 rfl rfl ?_
  refine wp_cV (y' := m_X11_makeLasting) 12 [vi u] [vi (nI 0), vr (some (nm 70 0))] 30 900 dL_makeLasting_4 ml_L_47 im_X11_makeLasting se_X11_makeLasting (by decide) C.hk ok_X11_makeLasting rfl (Nat.le_of_ble_eq_true rfl) rfl (Nat.le_of_ble_eq_true rfl) (d' := d - 1) (by omega) (by omega) (by omega) (c_X11_makeLasting hS C.2.2 hr (ix_tn (by omega)) (by omega) (by omega) (by omega) ?_)
  intro h' M' m1 m2 C9 F9
  refine ⟨?_, ?_⟩
  · intro i e h1 h2
    rcases i with _ | _ | _ | i
    · have h2 : some "java/lang/IndexOutOfBoundsException" = some e := h2
      cases h2
      refine cont_x (wx_catch_n (j := 3) [] (0, 9, 12, 19) [(0, 9, 15, 23), (0, 9, 18, 13)] rfl ps_nil (by decide) (by decide) kl_L_19 ca_395 dL_makeLasting_12 rfl (by decide) (hj_cons ⟨by decide, rfl⟩ (hj_cons ⟨by decide, rfl⟩ (hj_cons ⟨by decide, rfl⟩ hj_nil))) ?_)
      refine wp_iconst (nI 1) dL_makeLasting_13 (by decide) ?_
      refine wp_ireturn dL_makeLasting_14 rfl ?_
      exact hq.thr h1 (by decide) m1 m2 (C.ofV F9 C9) F9.fk O
    · have h2 : some "java/lang/UnsupportedOperationException" = some e := h2
      cases h2
      refine cont_x (wx_catch_n (j := 3) [(0, 9, 12, 19)] (0, 9, 15, 23) [(0, 9, 18, 13)] rfl (ps_cons (by decide) kl_L_19 (by decide +kernel) ps_nil) (by decide) (by decide) kl_L_23 ca_436 dL_makeLasting_15 rfl (by decide) (hj_cons ⟨by decide, rfl⟩ (hj_cons ⟨by decide, rfl⟩ (hj_cons ⟨by decide, rfl⟩ hj_nil))) ?_)
      refine wp_iconst (nI 2) dL_makeLasting_16 (by decide) ?_
      refine wp_ireturn dL_makeLasting_17 rfl ?_
      exact hq.thr h1 (by decide) m1 m2 (C.ofV F9 C9) F9.fk O
    · have h2 : some "java/lang/IllegalStateException" = some e := h2
      cases h2
      refine cont_x (wx_catch_n (j := 3) [(0, 9, 12, 19), (0, 9, 15, 23)] (0, 9, 18, 13) [] rfl (ps_cons (by decide) kl_L_19 (by decide +kernel) (ps_cons (by decide) kl_L_23 (by decide +kernel) ps_nil)) (by decide) (by decide) kl_L_13 ca_234 dL_makeLasting_18 rfl (by decide) (hj_cons ⟨by decide, rfl⟩ (hj_cons ⟨by decide, rfl⟩ (hj_cons ⟨by decide, rfl⟩ hj_nil))) ?_)
      refine wp_iconst (nI 3) dL_makeLasting_19 (by decide) ?_
      refine wp_ireturn dL_makeLasting_20 rfl ?_
      exact hq.thr h1 (by decide) m1 m2 (C.ofV F9 C9) F9.fk O
    · have h2 : (none : Option String) = some e := h2
      cases h2
  · intro h0
    refine cont_ret ?_
    have O2 := FK.out F9.fk O
    refine wp_i2l dL_makeLasting_7 ?_
    refine wp_lastoreN 1 dL_makeLasting_8 O2.1 O2.2 (by decide) (by decide) ?_
    refine wp_goto 21 dL_makeLasting_9 (by decide) ?_
    refine wp_iconst (nI 0) dL_makeLasting_21 (by decide) ?_
    refine wp_ireturn dL_makeLasting_22 rfl ?_
    exact hq.ret h0 m1 m2 (C.ofV F9 C9) F9.fk O
set_option maxRecDepth 100000 in
set_option maxHeartbeats 4000000 in
theorem g_isOpen {G : GG} {d bc bs c M n : Nat} {h : Hp} {Q : Pst} {V : SV} {x : Nat → QIS} {R : RS} {u : Int32} (B : PUR c V M n x R) (hc : c < 512) (C : CLS h V M n x R) (O : h_k h (nm 70 0) = 104 ∧ h_n h (nm 70 0) = 1)  (hd : 20 ≤ d) (hbc : 30 ≤ bc) (hbs : 900 ≤ bs) (hq : HQ Q h (o_isOpen V u (tn u)).1 (zL (o_isOpen V u (tn u)).2.1) M (o_isOpen V u (tn u)).2.2 n x R) : WP G m_L_isOpen d 0 (aargs 0 [vr (some (nm 40 0)), vi u, vr (some (nm 70 0))]) [] h bc bs Q := by
  obtain ⟨hS, hW, hmd, hMc, hX, hRB, hLF⟩ := B
  have hr : sMd V < 700000 := by omega
  have hb1 := hRB.1
  have hnv := hS.1
  have hn12 := hX.1.2.1
  refine wp_sub [(0, vr (some (nm 40 0))), (1, vi u), (2, vr (some (nm 70 0)))] (fun _ hz => hz) ?_
  refine wp_aload_n (i := 2) dL_isOpen_0 rfl rfl ?_
  refine wp_iconst (nI 0) dL_isOpen_1 (by decide) ?_
  refine wp_aload_n (i := 0) dL_isOpen_2 rfl rfl ?_
  refine wp_iload_n (i := 1) dL_isOpen_3 rfl rfl ?_
  refine wp_cV (y' := m_X11_isOpen) 12 [vi u] [vi (nI 0), vr (some (nm 70 0))] 30 900 dL_isOpen_4 ml_L_50 im_X11_isOpen se_X11_isOpen (by decide) C.hk ok_X11_isOpen rfl (Nat.le_of_ble_eq_true rfl) rfl (Nat.le_of_ble_eq_true rfl) (d' := d - 1) (by omega) (by omega) (by omega) (c_X11_isOpen hS C.2.2 hr (ix_tn (by omega)) (by omega) (by omega) (by omega) ?_)
  intro h' M' m1 m2 C9 F9
  refine ⟨?_, ?_⟩
  · intro i e h1 h2
    rcases i with _ | i
    · have h2 : some "java/lang/IndexOutOfBoundsException" = some e := h2
      cases h2
      refine cont_x (wx_catch_n (j := 3) [] (0, 16, 19, 19) [] rfl ps_nil (by decide) (by decide) kl_L_19 ca_395 dL_isOpen_19 rfl (by decide) (hj_cons ⟨by decide, rfl⟩ (hj_cons ⟨by decide, rfl⟩ (hj_cons ⟨by decide, rfl⟩ hj_nil))) ?_)
      refine wp_iconst (nI 1) dL_isOpen_20 (by decide) ?_
      refine wp_ireturn dL_isOpen_21 rfl ?_
      exact hq.thr h1 (by decide) m1 m2 (C.ofV F9 C9) F9.fk O
    · have h2 : (none : Option String) = some e := h2
      cases h2
  · intro h0
    refine cont_ret ?_
    have O2 := FK.out F9.fk O
    refine wp_if_eq 14 dL_isOpen_7 (by decide) (fun c_e => ?_) (fun c_e => ?_)
    · refine wp_lconst (zL (o_isOpen V u (tn u)).2.1) dL_isOpen_14 (by rw [zL, if_pos c_e]; rfl) ?_
      refine wp_lastoreN 1 dL_isOpen_15 O2.1 O2.2 (by decide) (by decide) ?_
      refine wp_goto 22 dL_isOpen_16 (by decide) ?_
      refine wp_iconst (nI 0) dL_isOpen_22 (by decide) ?_
      refine wp_ireturn dL_isOpen_23 rfl ?_
      exact hq.ret h0 m1 m2 (C.ofV F9 C9) F9.fk O
    · refine wp_lconst (zL (o_isOpen V u (tn u)).2.1) dL_isOpen_10 (by rw [zL, if_neg c_e]; rfl) ?_
      refine wp_goto 15 dL_isOpen_11 (by decide) ?_
      refine wp_lastoreN 1 dL_isOpen_15 O2.1 O2.2 (by decide) (by decide) ?_
      refine wp_goto 22 dL_isOpen_16 (by decide) ?_
      refine wp_iconst (nI 0) dL_isOpen_22 (by decide) ?_
      refine wp_ireturn dL_isOpen_23 rfl ?_
      exact hq.ret h0 m1 m2 (C.ofV F9 C9) F9.fk O
set_option maxRecDepth 100000 in
set_option maxHeartbeats 4000000 in
theorem g_map {G : GG} {d bc bs c M n : Nat} {h : Hp} {Q : Pst} {V : SV} {x : Nat → QIS} {R : RS}  (B : PUR c V M n x R) (hc : c < 512) (C : CLS h V M n x R) (O : h_k h (nm 70 0) = 104 ∧ h_n h (nm 70 0) = 1)  (hd : 20 ≤ d) (hbc : 30 ≤ bc) (hbs : 900 ≤ bs) (hq : HQ Q h (o_map V).1 (o_map V).2.1.toInt64 M (o_map V).2.2 n x R) : WP G m_L_map d 0 (aargs 0 [vr (some (nm 40 0)), vr (some (nm 70 0))]) [] h bc bs Q := by
  obtain ⟨hS, hW, hmd, hMc, hX, hRB, hLF⟩ := B
  have hr : sMd V < 700000 := by omega
  have hb1 := hRB.1
  have hnv := hS.1
  have hn12 := hX.1.2.1
  refine wp_sub [(0, vr (some (nm 40 0))), (1, vr (some (nm 70 0)))] (fun _ hz => hz) ?_
  refine wp_aload_n (i := 1) dL_map_0 rfl rfl ?_
  refine wp_iconst (nI 0) dL_map_1 (by decide) ?_
  refine wp_aload_n (i := 0) dL_map_2 rfl rfl ?_
  refine wp_cV (y' := m_X11_map) 12 [] [vi (nI 0), vr (some (nm 70 0))] 30 900 dL_map_3 ml_L_54 im_X11_map se_X11_map (by decide) C.hk ok_X11_map rfl (Nat.le_of_ble_eq_true rfl) rfl (Nat.le_of_ble_eq_true rfl) (d' := d - 1) (by omega) (by omega) (by omega) (c_X11_map hS C.2.2 hr (by omega) (by omega) (by omega) ?_)
  intro h' M' m1 m2 C9 F9
  refine ⟨?_, ?_⟩
  · intro i e h1 h2
    rcases i with _ | i
    · have h2 : some "java/lang/IllegalStateException" = some e := h2
      cases h2
      refine cont_x (wx_catch_n (j := 2) [] (0, 8, 11, 13) [] rfl ps_nil (by decide) (by decide) kl_L_13 ca_234 dL_map_11 rfl (by decide) (hj_cons ⟨by decide, rfl⟩ (hj_cons ⟨by decide, rfl⟩ hj_nil)) ?_)
      refine wp_iconst (nI 1) dL_map_12 (by decide) ?_
      refine wp_ireturn dL_map_13 rfl ?_
      exact hq.thr h1 (by decide) m1 m2 (C.ofV F9 C9) F9.fk O
    · have h2 : (none : Option String) = some e := h2
      cases h2
  · intro h0
    refine cont_ret ?_
    have O2 := FK.out F9.fk O
    refine wp_i2l dL_map_6 ?_
    refine wp_lastoreN 1 dL_map_7 O2.1 O2.2 (by decide) (by decide) ?_
    refine wp_goto 14 dL_map_8 (by decide) ?_
    refine wp_iconst (nI 0) dL_map_14 (by decide) ?_
    refine wp_ireturn dL_map_15 rfl ?_
    exact hq.ret h0 m1 m2 (C.ofV F9 C9) F9.fk O
set_option maxRecDepth 100000 in
set_option maxHeartbeats 4000000 in
theorem g_put {G : GG} {d bc bs c M n : Nat} {h : Hp} {Q : Pst} {V : SV} {x : Nat → QIS} {R : RS} {u : Int32} {w : Int32} {e : Int32} (B : PUR c V M n x R) (hc : c < 512) (C : CLS h V M n x R) (O : h_k h (nm 70 0) = 104 ∧ h_n h (nm 70 0) = 1)  (hd : 20 ≤ d) (hbc : 30 ≤ bc) (hbs : 900 ≤ bs) (hq : HQ Q h (o_put V u (tn u) w (tn w) e).1 (o_put V u (tn u) w (tn w) e).2.1.toInt64 M (o_put V u (tn u) w (tn w) e).2.2 n x R) : WP G m_L_put d 0 (aargs 0 [vr (some (nm 40 0)), vi u, vi w, vi e, vr (some (nm 70 0))]) [] h bc bs Q := by
  obtain ⟨hS, hW, hmd, hMc, hX, hRB, hLF⟩ := B
  have hr : sMd V < 700000 := by omega
  have hb1 := hRB.1
  have hnv := hS.1
  have hn12 := hX.1.2.1
  refine wp_sub [(0, vr (some (nm 40 0))), (1, vi u), (2, vi w), (3, vi e), (4, vr (some (nm 70 0)))] (fun _ hz => hz) ?_
  refine wp_aload (i := 4) dL_put_0 rfl ?_
  refine wp_iconst (nI 0) dL_put_2 (by decide) ?_
  refine wp_aload_n (i := 0) dL_put_3 rfl rfl ?_
  refine wp_iload_n (i := 1) dL_put_4 rfl rfl ?_
  refine wp_iload_n (i := 2) dL_put_5 rfl rfl ?_
  refine wp_iload_n (i := 3) dL_put_6 rfl rfl ?_
  refine wp_cV (y' := m_X11_put) 12 [vi u, vi w, vi e] [vi (nI 0), vr (some (nm 70 0))] 30 900 dL_put_7 ml_L_57 im_X11_put se_X11_put (by decide) C.hk ok_X11_put rfl (Nat.le_of_ble_eq_true rfl) rfl (Nat.le_of_ble_eq_true rfl) (d' := d - 1) (by omega) (by omega) (by omega) (c_X11_put hS C.2.2 hr (ix_tn (by omega)) (fun n9 hn9 => ix_tn hn9) (by omega) (by omega) (by omega) ?_)
  intro h' M' m1 m2 C9 F9
  refine ⟨?_, ?_⟩
  · intro i e h1 h2
    rcases i with _ | _ | _ | _ | i
    · have h2 : some "java/lang/IndexOutOfBoundsException" = some e := h2
      cases h2
      refine cont_x (wx_catch (j := 5) [] (0, 12, 15, 19) [(0, 12, 19, 21), (0, 12, 23, 23), (0, 12, 27, 13)] rfl ps_nil (by decide) (by decide) kl_L_19 ca_395 dL_put_15 (by decide) (hj_cons ⟨by decide, rfl⟩ (hj_cons ⟨by decide, rfl⟩ (hj_cons ⟨by decide, rfl⟩ (hj_cons ⟨by decide, rfl⟩ (hj_cons ⟨by decide, rfl⟩ hj_nil))))) ?_)
      refine wp_iconst (nI 1) dL_put_17 (by decide) ?_
      refine wp_ireturn dL_put_18 rfl ?_
      exact hq.thr h1 (by decide) m1 m2 (C.ofV F9 C9) F9.fk O
    · have h2 : some "java/lang/IllegalArgumentException" = some e := h2
      cases h2
      refine cont_x (wx_catch (j := 5) [(0, 12, 15, 19)] (0, 12, 19, 21) [(0, 12, 23, 23), (0, 12, 27, 13)] rfl (ps_cons (by decide) kl_L_19 (by decide +kernel) ps_nil) (by decide) (by decide) kl_L_21 ca_417 dL_put_19 (by decide) (hj_cons ⟨by decide, rfl⟩ (hj_cons ⟨by decide, rfl⟩ (hj_cons ⟨by decide, rfl⟩ (hj_cons ⟨by decide, rfl⟩ (hj_cons ⟨by decide, rfl⟩ hj_nil))))) ?_)
      refine wp_iconst (nI 2) dL_put_21 (by decide) ?_
      refine wp_ireturn dL_put_22 rfl ?_
      exact hq.thr h1 (by decide) m1 m2 (C.ofV F9 C9) F9.fk O
    · have h2 : some "java/lang/UnsupportedOperationException" = some e := h2
      cases h2
      refine cont_x (wx_catch (j := 5) [(0, 12, 15, 19), (0, 12, 19, 21)] (0, 12, 23, 23) [(0, 12, 27, 13)] rfl (ps_cons (by decide) kl_L_19 (by decide +kernel) (ps_cons (by decide) kl_L_21 (by decide +kernel) ps_nil)) (by decide) (by decide) kl_L_23 ca_436 dL_put_23 (by decide) (hj_cons ⟨by decide, rfl⟩ (hj_cons ⟨by decide, rfl⟩ (hj_cons ⟨by decide, rfl⟩ (hj_cons ⟨by decide, rfl⟩ (hj_cons ⟨by decide, rfl⟩ hj_nil))))) ?_)
      refine wp_iconst (nI 3) dL_put_25 (by decide) ?_
      refine wp_ireturn dL_put_26 rfl ?_
      exact hq.thr h1 (by decide) m1 m2 (C.ofV F9 C9) F9.fk O
    · have h2 : some "java/lang/IllegalStateException" = some e := h2
      cases h2
      refine cont_x (wx_catch (j := 5) [(0, 12, 15, 19), (0, 12, 19, 21), (0, 12, 23, 23)] (0, 12, 27, 13) [] rfl (ps_cons (by decide) kl_L_19 (by decide +kernel) (ps_cons (by decide) kl_L_21 (by decide +kernel) (ps_cons (by decide) kl_L_23 (by decide +kernel) ps_nil))) (by decide) (by decide) kl_L_13 ca_234 dL_put_27 (by decide) (hj_cons ⟨by decide, rfl⟩ (hj_cons ⟨by decide, rfl⟩ (hj_cons ⟨by decide, rfl⟩ (hj_cons ⟨by decide, rfl⟩ (hj_cons ⟨by decide, rfl⟩ hj_nil))))) ?_)
      refine wp_iconst (nI 4) dL_put_29 (by decide) ?_
      refine wp_ireturn dL_put_30 rfl ?_
      exact hq.thr h1 (by decide) m1 m2 (C.ofV F9 C9) F9.fk O
    · have h2 : (none : Option String) = some e := h2
      cases h2
  · intro h0
    refine cont_ret ?_
    have O2 := FK.out F9.fk O
    refine wp_i2l dL_put_10 ?_
    refine wp_lastoreN 1 dL_put_11 O2.1 O2.2 (by decide) (by decide) ?_
    refine wp_goto 31 dL_put_12 (by decide) ?_
    refine wp_iconst (nI 0) dL_put_31 (by decide) ?_
    refine wp_ireturn dL_put_32 rfl ?_
    exact hq.ret h0 m1 m2 (C.ofV F9 C9) F9.fk O
set_option maxRecDepth 100000 in
set_option maxHeartbeats 4000000 in
theorem g_without {G : GG} {d bc bs c M n : Nat} {h : Hp} {Q : Pst} {V : SV} {x : Nat → QIS} {R : RS} {u : Int32} {w : Int32} (B : PUR c V M n x R) (hc : c < 512) (C : CLS h V M n x R) (O : h_k h (nm 70 0) = 104 ∧ h_n h (nm 70 0) = 1)  (hd : 20 ≤ d) (hbc : 30 ≤ bc) (hbs : 900 ≤ bs) (hq : HQ Q h (o_without V u (tn u) w (tn w)).1 (o_without V u (tn u) w (tn w)).2.1.toInt64 M (o_without V u (tn u) w (tn w)).2.2 n x R) : WP G m_L_without d 0 (aargs 0 [vr (some (nm 40 0)), vi u, vi w, vr (some (nm 70 0))]) [] h bc bs Q := by
  obtain ⟨hS, hW, hmd, hMc, hX, hRB, hLF⟩ := B
  have hr : sMd V < 700000 := by omega
  have hb1 := hRB.1
  have hnv := hS.1
  have hn12 := hX.1.2.1
  refine wp_sub [(0, vr (some (nm 40 0))), (1, vi u), (2, vi w), (3, vr (some (nm 70 0)))] (fun _ hz => hz) ?_
  refine wp_aload_n (i := 3) dL_without_0 rfl rfl ?_
  refine wp_iconst (nI 0) dL_without_1 (by decide) ?_
  refine wp_aload_n (i := 0) dL_without_2 rfl rfl ?_
  refine wp_iload_n (i := 1) dL_without_3 rfl rfl ?_
  refine wp_iload_n (i := 2) dL_without_4 rfl rfl ?_
  refine wp_cV (y' := m_X11_without) 12 [vi u, vi w] [vi (nI 0), vr (some (nm 70 0))] 30 900 dL_without_5 ml_L_60 im_X11_without se_X11_without (by decide) C.hk ok_X11_without rfl (Nat.le_of_ble_eq_true rfl) rfl (Nat.le_of_ble_eq_true rfl) (d' := d - 1) (by omega) (by omega) (by omega) (c_X11_without hS C.2.2 hr (ix_tn (by omega)) (fun n9 hn9 => ix_tn hn9) (by omega) (by omega) (by omega) ?_)
  intro h' M' m1 m2 C9 F9
  refine ⟨?_, ?_⟩
  · intro i e h1 h2
    rcases i with _ | _ | _ | _ | i
    · have h2 : some "java/lang/IndexOutOfBoundsException" = some e := h2
      cases h2
      refine cont_x (wx_catch (j := 4) [] (0, 10, 13, 19) [(0, 10, 17, 23), (0, 10, 21, 29), (0, 10, 25, 13)] rfl ps_nil (by decide) (by decide) kl_L_19 ca_395 dL_without_13 (by decide) (hj_cons ⟨by decide, rfl⟩ (hj_cons ⟨by decide, rfl⟩ (hj_cons ⟨by decide, rfl⟩ (hj_cons ⟨by decide, rfl⟩ hj_nil)))) ?_)
      refine wp_iconst (nI 1) dL_without_15 (by decide) ?_
      refine wp_ireturn dL_without_16 rfl ?_
      exact hq.thr h1 (by decide) m1 m2 (C.ofV F9 C9) F9.fk O
    · have h2 : some "java/lang/UnsupportedOperationException" = some e := h2
      cases h2
      refine cont_x (wx_catch (j := 4) [(0, 10, 13, 19)] (0, 10, 17, 23) [(0, 10, 21, 29), (0, 10, 25, 13)] rfl (ps_cons (by decide) kl_L_19 (by decide +kernel) ps_nil) (by decide) (by decide) kl_L_23 ca_436 dL_without_17 (by decide) (hj_cons ⟨by decide, rfl⟩ (hj_cons ⟨by decide, rfl⟩ (hj_cons ⟨by decide, rfl⟩ (hj_cons ⟨by decide, rfl⟩ hj_nil)))) ?_)
      refine wp_iconst (nI 2) dL_without_19 (by decide) ?_
      refine wp_ireturn dL_without_20 rfl ?_
      exact hq.thr h1 (by decide) m1 m2 (C.ofV F9 C9) F9.fk O
    · have h2 : some "java/util/NoSuchElementException" = some e := h2
      cases h2
      refine cont_x (wx_catch (j := 4) [(0, 10, 13, 19), (0, 10, 17, 23)] (0, 10, 21, 29) [(0, 10, 25, 13)] rfl (ps_cons (by decide) kl_L_19 (by decide +kernel) (ps_cons (by decide) kl_L_23 (by decide +kernel) ps_nil)) (by decide) (by decide) kl_L_29 ca_527 dL_without_21 (by decide) (hj_cons ⟨by decide, rfl⟩ (hj_cons ⟨by decide, rfl⟩ (hj_cons ⟨by decide, rfl⟩ (hj_cons ⟨by decide, rfl⟩ hj_nil)))) ?_)
      refine wp_iconst (nI 3) dL_without_23 (by decide) ?_
      refine wp_ireturn dL_without_24 rfl ?_
      exact hq.thr h1 (by decide) m1 m2 (C.ofV F9 C9) F9.fk O
    · have h2 : some "java/lang/IllegalStateException" = some e := h2
      cases h2
      refine cont_x (wx_catch (j := 4) [(0, 10, 13, 19), (0, 10, 17, 23), (0, 10, 21, 29)] (0, 10, 25, 13) [] rfl (ps_cons (by decide) kl_L_19 (by decide +kernel) (ps_cons (by decide) kl_L_23 (by decide +kernel) (ps_cons (by decide) kl_L_29 (by decide +kernel) ps_nil))) (by decide) (by decide) kl_L_13 ca_234 dL_without_25 (by decide) (hj_cons ⟨by decide, rfl⟩ (hj_cons ⟨by decide, rfl⟩ (hj_cons ⟨by decide, rfl⟩ (hj_cons ⟨by decide, rfl⟩ hj_nil)))) ?_)
      refine wp_iconst (nI 4) dL_without_27 (by decide) ?_
      refine wp_ireturn dL_without_28 rfl ?_
      exact hq.thr h1 (by decide) m1 m2 (C.ofV F9 C9) F9.fk O
    · have h2 : (none : Option String) = some e := h2
      cases h2
  · intro h0
    refine cont_ret ?_
    have O2 := FK.out F9.fk O
    refine wp_i2l dL_without_8 ?_
    refine wp_lastoreN 1 dL_without_9 O2.1 O2.2 (by decide) (by decide) ?_
    refine wp_goto 29 dL_without_10 (by decide) ?_
    refine wp_iconst (nI 0) dL_without_29 (by decide) ?_
    refine wp_ireturn dL_without_30 rfl ?_
    exact hq.ret h0 m1 m2 (C.ofV F9 C9) F9.fk O
set_option maxRecDepth 100000 in
set_option maxHeartbeats 4000000 in
theorem g_get {G : GG} {d bc bs c M n : Nat} {h : Hp} {Q : Pst} {V : SV} {x : Nat → QIS} {R : RS} {u : Int32} {w : Int32} (B : PUR c V M n x R) (hc : c < 512) (C : CLS h V M n x R) (O : h_k h (nm 70 0) = 104 ∧ h_n h (nm 70 0) = 1)  (hd : 20 ≤ d) (hbc : 30 ≤ bc) (hbs : 900 ≤ bs) (hq : HQ Q h (o_get V u (tn u) w (tn w)).1 (o_get V u (tn u) w (tn w)).2.1.toInt64 M (o_get V u (tn u) w (tn w)).2.2 n x R) : WP G m_L_get d 0 (aargs 0 [vr (some (nm 40 0)), vi u, vi w, vr (some (nm 70 0))]) [] h bc bs Q := by
  obtain ⟨hS, hW, hmd, hMc, hX, hRB, hLF⟩ := B
  have hr : sMd V < 700000 := by omega
  have hb1 := hRB.1
  have hnv := hS.1
  have hn12 := hX.1.2.1
  refine wp_sub [(0, vr (some (nm 40 0))), (1, vi u), (2, vi w), (3, vr (some (nm 70 0)))] (fun _ hz => hz) ?_
  refine wp_aload_n (i := 3) dL_get_0 rfl rfl ?_
  refine wp_iconst (nI 0) dL_get_1 (by decide) ?_
  refine wp_aload_n (i := 0) dL_get_2 rfl rfl ?_
  refine wp_iload_n (i := 1) dL_get_3 rfl rfl ?_
  refine wp_iload_n (i := 2) dL_get_4 rfl rfl ?_
  refine wp_cV (y' := m_X11_get) 12 [vi u, vi w] [vi (nI 0), vr (some (nm 70 0))] 30 900 dL_get_5 ml_L_63 im_X11_get se_X11_get (by decide) C.hk ok_X11_get rfl (Nat.le_of_ble_eq_true rfl) rfl (Nat.le_of_ble_eq_true rfl) (d' := d - 1) (by omega) (by omega) (by omega) (c_X11_get hS C.2.2 hr (ix_tn (by omega)) (fun n9 hn9 => ix_tn hn9) (by omega) (by omega) (by omega) ?_)
  intro h' M' m1 m2 C9 F9
  refine ⟨?_, ?_⟩
  · intro i e h1 h2
    rcases i with _ | _ | i
    · have h2 : some "java/lang/IndexOutOfBoundsException" = some e := h2
      cases h2
      refine cont_x (wx_catch (j := 4) [] (0, 10, 13, 19) [(0, 10, 17, 29)] rfl ps_nil (by decide) (by decide) kl_L_19 ca_395 dL_get_13 (by decide) (hj_cons ⟨by decide, rfl⟩ (hj_cons ⟨by decide, rfl⟩ (hj_cons ⟨by decide, rfl⟩ (hj_cons ⟨by decide, rfl⟩ hj_nil)))) ?_)
      refine wp_iconst (nI 1) dL_get_15 (by decide) ?_
      refine wp_ireturn dL_get_16 rfl ?_
      exact hq.thr h1 (by decide) m1 m2 (C.ofV F9 C9) F9.fk O
    · have h2 : some "java/util/NoSuchElementException" = some e := h2
      cases h2
      refine cont_x (wx_catch (j := 4) [(0, 10, 13, 19)] (0, 10, 17, 29) [] rfl (ps_cons (by decide) kl_L_19 (by decide +kernel) ps_nil) (by decide) (by decide) kl_L_29 ca_527 dL_get_17 (by decide) (hj_cons ⟨by decide, rfl⟩ (hj_cons ⟨by decide, rfl⟩ (hj_cons ⟨by decide, rfl⟩ (hj_cons ⟨by decide, rfl⟩ hj_nil)))) ?_)
      refine wp_iconst (nI 2) dL_get_19 (by decide) ?_
      refine wp_ireturn dL_get_20 rfl ?_
      exact hq.thr h1 (by decide) m1 m2 (C.ofV F9 C9) F9.fk O
    · have h2 : (none : Option String) = some e := h2
      cases h2
  · intro h0
    refine cont_ret ?_
    have O2 := FK.out F9.fk O
    refine wp_i2l dL_get_8 ?_
    refine wp_lastoreN 1 dL_get_9 O2.1 O2.2 (by decide) (by decide) ?_
    refine wp_goto 21 dL_get_10 (by decide) ?_
    refine wp_iconst (nI 0) dL_get_21 (by decide) ?_
    refine wp_ireturn dL_get_22 rfl ?_
    exact hq.ret h0 m1 m2 (C.ofV F9 C9) F9.fk O
set_option maxRecDepth 100000 in
set_option maxHeartbeats 4000000 in
theorem g_getPlain {G : GG} {d bc bs c M n : Nat} {h : Hp} {Q : Pst} {V : SV} {x : Nat → QIS} {R : RS} {u : Int32} {w : Int32} (B : PUR c V M n x R) (hc : c < 512) (C : CLS h V M n x R) (O : h_k h (nm 70 0) = 104 ∧ h_n h (nm 70 0) = 1)  (hd : 20 ≤ d) (hbc : 30 ≤ bc) (hbs : 900 ≤ bs) (hq : HQ Q h (o_get V u (tn u) w (tn w)).1 (o_get V u (tn u) w (tn w)).2.1.toInt64 M (o_get V u (tn u) w (tn w)).2.2 n x R) : WP G m_L_getPlain d 0 (aargs 0 [vr (some (nm 40 0)), vi u, vi w, vr (some (nm 70 0))]) [] h bc bs Q := by
  obtain ⟨hS, hW, hmd, hMc, hX, hRB, hLF⟩ := B
  have hr : sMd V < 700000 := by omega
  have hb1 := hRB.1
  have hnv := hS.1
  have hn12 := hX.1.2.1
  refine wp_sub [(0, vr (some (nm 40 0))), (1, vi u), (2, vi w), (3, vr (some (nm 70 0)))] (fun _ hz => hz) ?_
  refine wp_aload_n (i := 3) dL_getPlain_0 rfl rfl ?_
  refine wp_iconst (nI 0) dL_getPlain_1 (by decide) ?_
  refine wp_aload_n (i := 0) dL_getPlain_2 rfl rfl ?_
  refine wp_iload_n (i := 1) dL_getPlain_3 rfl rfl ?_
  refine wp_iload_n (i := 2) dL_getPlain_4 rfl rfl ?_
  refine wp_cV (y' := m_X11_getPlain) 12 [vi u, vi w] [vi (nI 0), vr (some (nm 70 0))] 30 900 dL_getPlain_5 ml_L_66 im_X11_getPlain se_X11_getPlain (by decide) C.hk ok_X11_getPlain rfl (Nat.le_of_ble_eq_true rfl) rfl (Nat.le_of_ble_eq_true rfl) (d' := d - 1) (by omega) (by omega) (by omega) (c_X11_getPlain hS C.2.2 hr (ix_tn (by omega)) (fun n9 hn9 => ix_tn hn9) (by omega) (by omega) (by omega) ?_)
  intro h' M' m1 m2 C9 F9
  refine ⟨?_, ?_⟩
  · intro i e h1 h2
    rcases i with _ | _ | i
    · have h2 : some "java/lang/IndexOutOfBoundsException" = some e := h2
      cases h2
      refine cont_x (wx_catch (j := 4) [] (0, 10, 13, 19) [(0, 10, 17, 29)] rfl ps_nil (by decide) (by decide) kl_L_19 ca_395 dL_getPlain_13 (by decide) (hj_cons ⟨by decide, rfl⟩ (hj_cons ⟨by decide, rfl⟩ (hj_cons ⟨by decide, rfl⟩ (hj_cons ⟨by decide, rfl⟩ hj_nil)))) ?_)
      refine wp_iconst (nI 1) dL_getPlain_15 (by decide) ?_
      refine wp_ireturn dL_getPlain_16 rfl ?_
      exact hq.thr h1 (by decide) m1 m2 (C.ofV F9 C9) F9.fk O
    · have h2 : some "java/util/NoSuchElementException" = some e := h2
      cases h2
      refine cont_x (wx_catch (j := 4) [(0, 10, 13, 19)] (0, 10, 17, 29) [] rfl (ps_cons (by decide) kl_L_19 (by decide +kernel) ps_nil) (by decide) (by decide) kl_L_29 ca_527 dL_getPlain_17 (by decide) (hj_cons ⟨by decide, rfl⟩ (hj_cons ⟨by decide, rfl⟩ (hj_cons ⟨by decide, rfl⟩ (hj_cons ⟨by decide, rfl⟩ hj_nil)))) ?_)
      refine wp_iconst (nI 2) dL_getPlain_19 (by decide) ?_
      refine wp_ireturn dL_getPlain_20 rfl ?_
      exact hq.thr h1 (by decide) m1 m2 (C.ofV F9 C9) F9.fk O
    · have h2 : (none : Option String) = some e := h2
      cases h2
  · intro h0
    refine cont_ret ?_
    have O2 := FK.out F9.fk O
    refine wp_i2l dL_getPlain_8 ?_
    refine wp_lastoreN 1 dL_getPlain_9 O2.1 O2.2 (by decide) (by decide) ?_
    refine wp_goto 21 dL_getPlain_10 (by decide) ?_
    refine wp_iconst (nI 0) dL_getPlain_21 (by decide) ?_
    refine wp_ireturn dL_getPlain_22 rfl ?_
    exact hq.ret h0 m1 m2 (C.ofV F9 C9) F9.fk O
set_option maxRecDepth 100000 in
set_option maxHeartbeats 4000000 in
theorem g_levelOf {G : GG} {d bc bs c M n : Nat} {h : Hp} {Q : Pst} {V : SV} {x : Nat → QIS} {R : RS} {u : Int32} {w : Int32} (B : PUR c V M n x R) (hc : c < 512) (C : CLS h V M n x R) (O : h_k h (nm 70 0) = 104 ∧ h_n h (nm 70 0) = 1)  (hd : 20 ≤ d) (hbc : 30 ≤ bc) (hbs : 900 ≤ bs) (hq : HQ Q h (o_levelOf V u (tn u) w (tn w)).1 (o_levelOf V u (tn u) w (tn w)).2.1.toInt64 M (o_levelOf V u (tn u) w (tn w)).2.2 n x R) : WP G m_L_levelOf d 0 (aargs 0 [vr (some (nm 40 0)), vi u, vi w, vr (some (nm 70 0))]) [] h bc bs Q := by
  obtain ⟨hS, hW, hmd, hMc, hX, hRB, hLF⟩ := B
  have hr : sMd V < 700000 := by omega
  have hb1 := hRB.1
  have hnv := hS.1
  have hn12 := hX.1.2.1
  refine wp_sub [(0, vr (some (nm 40 0))), (1, vi u), (2, vi w), (3, vr (some (nm 70 0)))] (fun _ hz => hz) ?_
  refine wp_aload_n (i := 3) dL_levelOf_0 rfl rfl ?_
  refine wp_iconst (nI 0) dL_levelOf_1 (by decide) ?_
  refine wp_aload_n (i := 0) dL_levelOf_2 rfl rfl ?_
  refine wp_iload_n (i := 1) dL_levelOf_3 rfl rfl ?_
  refine wp_iload_n (i := 2) dL_levelOf_4 rfl rfl ?_
  refine wp_cV (y' := m_X11_levelOf) 12 [vi u, vi w] [vi (nI 0), vr (some (nm 70 0))] 30 900 dL_levelOf_5 ml_L_69 im_X11_levelOf se_X11_levelOf (by decide) C.hk ok_X11_levelOf rfl (Nat.le_of_ble_eq_true rfl) rfl (Nat.le_of_ble_eq_true rfl) (d' := d - 1) (by omega) (by omega) (by omega) (c_X11_levelOf hS C.2.2 hr (ix_tn (by omega)) (fun n9 hn9 => ix_tn hn9) (by omega) (by omega) (by omega) ?_)
  intro h' M' m1 m2 C9 F9
  refine ⟨?_, ?_⟩
  · intro i e h1 h2
    rcases i with _ | _ | _ | i
    · have h2 : some "java/lang/IndexOutOfBoundsException" = some e := h2
      cases h2
      refine cont_x (wx_catch (j := 4) [] (0, 10, 13, 19) [(0, 10, 17, 23), (0, 10, 21, 29)] rfl ps_nil (by decide) (by decide) kl_L_19 ca_395 dL_levelOf_13 (by decide) (hj_cons ⟨by decide, rfl⟩ (hj_cons ⟨by decide, rfl⟩ (hj_cons ⟨by decide, rfl⟩ (hj_cons ⟨by decide, rfl⟩ hj_nil)))) ?_)
      refine wp_iconst (nI 1) dL_levelOf_15 (by decide) ?_
      refine wp_ireturn dL_levelOf_16 rfl ?_
      exact hq.thr h1 (by decide) m1 m2 (C.ofV F9 C9) F9.fk O
    · have h2 : some "java/lang/UnsupportedOperationException" = some e := h2
      cases h2
      refine cont_x (wx_catch (j := 4) [(0, 10, 13, 19)] (0, 10, 17, 23) [(0, 10, 21, 29)] rfl (ps_cons (by decide) kl_L_19 (by decide +kernel) ps_nil) (by decide) (by decide) kl_L_23 ca_436 dL_levelOf_17 (by decide) (hj_cons ⟨by decide, rfl⟩ (hj_cons ⟨by decide, rfl⟩ (hj_cons ⟨by decide, rfl⟩ (hj_cons ⟨by decide, rfl⟩ hj_nil)))) ?_)
      refine wp_iconst (nI 2) dL_levelOf_19 (by decide) ?_
      refine wp_ireturn dL_levelOf_20 rfl ?_
      exact hq.thr h1 (by decide) m1 m2 (C.ofV F9 C9) F9.fk O
    · have h2 : some "java/util/NoSuchElementException" = some e := h2
      cases h2
      refine cont_x (wx_catch (j := 4) [(0, 10, 13, 19), (0, 10, 17, 23)] (0, 10, 21, 29) [] rfl (ps_cons (by decide) kl_L_19 (by decide +kernel) (ps_cons (by decide) kl_L_23 (by decide +kernel) ps_nil)) (by decide) (by decide) kl_L_29 ca_527 dL_levelOf_21 (by decide) (hj_cons ⟨by decide, rfl⟩ (hj_cons ⟨by decide, rfl⟩ (hj_cons ⟨by decide, rfl⟩ (hj_cons ⟨by decide, rfl⟩ hj_nil)))) ?_)
      refine wp_iconst (nI 3) dL_levelOf_23 (by decide) ?_
      refine wp_ireturn dL_levelOf_24 rfl ?_
      exact hq.thr h1 (by decide) m1 m2 (C.ofV F9 C9) F9.fk O
    · have h2 : (none : Option String) = some e := h2
      cases h2
  · intro h0
    refine cont_ret ?_
    have O2 := FK.out F9.fk O
    refine wp_i2l dL_levelOf_8 ?_
    refine wp_lastoreN 1 dL_levelOf_9 O2.1 O2.2 (by decide) (by decide) ?_
    refine wp_goto 25 dL_levelOf_10 (by decide) ?_
    refine wp_iconst (nI 0) dL_levelOf_25 (by decide) ?_
    refine wp_ireturn dL_levelOf_26 rfl ?_
    exact hq.ret h0 m1 m2 (C.ofV F9 C9) F9.fk O
set_option maxRecDepth 100000 in
set_option maxHeartbeats 4000000 in
theorem g_size {G : GG} {d bc bs c M n : Nat} {h : Hp} {Q : Pst} {V : SV} {x : Nat → QIS} {R : RS} {u : Int32} (B : PUR c V M n x R) (hc : c < 512) (C : CLS h V M n x R) (O : h_k h (nm 70 0) = 104 ∧ h_n h (nm 70 0) = 1)  (hd : 20 ≤ d) (hbc : 30 ≤ bc) (hbs : 900 ≤ bs) (hq : HQ Q h (o_size V u (tn u)).1 (o_size V u (tn u)).2.1.toInt64 M (o_size V u (tn u)).2.2 n x R) : WP G m_L_size d 0 (aargs 0 [vr (some (nm 40 0)), vi u, vr (some (nm 70 0))]) [] h bc bs Q := by
  obtain ⟨hS, hW, hmd, hMc, hX, hRB, hLF⟩ := B
  have hr : sMd V < 700000 := by omega
  have hb1 := hRB.1
  have hnv := hS.1
  have hn12 := hX.1.2.1
  refine wp_sub [(0, vr (some (nm 40 0))), (1, vi u), (2, vr (some (nm 70 0)))] (fun _ hz => hz) ?_
  refine wp_aload_n (i := 2) dL_size_0 rfl rfl ?_
  refine wp_iconst (nI 0) dL_size_1 (by decide) ?_
  refine wp_aload_n (i := 0) dL_size_2 rfl rfl ?_
  refine wp_iload_n (i := 1) dL_size_3 rfl rfl ?_
  refine wp_cV (y' := m_X11_size) 12 [vi u] [vi (nI 0), vr (some (nm 70 0))] 30 900 dL_size_4 ml_L_72 im_X11_size se_X11_size (by decide) C.hk ok_X11_size rfl (Nat.le_of_ble_eq_true rfl) rfl (Nat.le_of_ble_eq_true rfl) (d' := d - 1) (by omega) (by omega) (by omega) (c_X11_size hS C.2.2 hr (ix_tn (by omega)) (by omega) (by omega) (by omega) ?_)
  intro h' M' m1 m2 C9 F9
  refine ⟨?_, ?_⟩
  · intro i e h1 h2
    rcases i with _ | i
    · have h2 : some "java/lang/IndexOutOfBoundsException" = some e := h2
      cases h2
      refine cont_x (wx_catch_n (j := 3) [] (0, 9, 12, 19) [] rfl ps_nil (by decide) (by decide) kl_L_19 ca_395 dL_size_12 rfl (by decide) (hj_cons ⟨by decide, rfl⟩ (hj_cons ⟨by decide, rfl⟩ (hj_cons ⟨by decide, rfl⟩ hj_nil))) ?_)
      refine wp_iconst (nI 1) dL_size_13 (by decide) ?_
      refine wp_ireturn dL_size_14 rfl ?_
      exact hq.thr h1 (by decide) m1 m2 (C.ofV F9 C9) F9.fk O
    · have h2 : (none : Option String) = some e := h2
      cases h2
  · intro h0
    refine cont_ret ?_
    have O2 := FK.out F9.fk O
    refine wp_i2l dL_size_7 ?_
    refine wp_lastoreN 1 dL_size_8 O2.1 O2.2 (by decide) (by decide) ?_
    refine wp_goto 15 dL_size_9 (by decide) ?_
    refine wp_iconst (nI 0) dL_size_15 (by decide) ?_
    refine wp_ireturn dL_size_16 rfl ?_
    exact hq.ret h0 m1 m2 (C.ofV F9 C9) F9.fk O
set_option maxRecDepth 100000 in
set_option maxHeartbeats 4000000 in
theorem g_nodes {G : GG} {d bc bs c M n : Nat} {h : Hp} {Q : Pst} {V : SV} {x : Nat → QIS} {R : RS} {u : Int32} (B : PUR c V M n x R) (hc : c < 512) (C : CLS h V M n x R) (O : h_k h (nm 70 0) = 104 ∧ h_n h (nm 70 0) = 1)  (hd : 20 ≤ d) (hbc : 30 ≤ bc) (hbs : 900 ≤ bs) (hq : HQ Q h (o_nodes V u (tn u)).1 (o_nodes V u (tn u)).2.1.toInt64 M (o_nodes V u (tn u)).2.2 n x R) : WP G m_L_nodes d 0 (aargs 0 [vr (some (nm 40 0)), vi u, vr (some (nm 70 0))]) [] h bc bs Q := by
  obtain ⟨hS, hW, hmd, hMc, hX, hRB, hLF⟩ := B
  have hr : sMd V < 700000 := by omega
  have hb1 := hRB.1
  have hnv := hS.1
  have hn12 := hX.1.2.1
  refine wp_sub [(0, vr (some (nm 40 0))), (1, vi u), (2, vr (some (nm 70 0)))] (fun _ hz => hz) ?_
  refine wp_aload_n (i := 2) dL_nodes_0 rfl rfl ?_
  refine wp_iconst (nI 0) dL_nodes_1 (by decide) ?_
  refine wp_aload_n (i := 0) dL_nodes_2 rfl rfl ?_
  refine wp_iload_n (i := 1) dL_nodes_3 rfl rfl ?_
  refine wp_cV (y' := m_X11_nodes) 12 [vi u] [vi (nI 0), vr (some (nm 70 0))] 30 900 dL_nodes_4 ml_L_75 im_X11_nodes se_X11_nodes (by decide) C.hk ok_X11_nodes rfl (Nat.le_of_ble_eq_true rfl) rfl (Nat.le_of_ble_eq_true rfl) (d' := d - 1) (by omega) (by omega) (by omega) (c_X11_nodes hS C.2.2 hr (ix_tn (by omega)) (by omega) (by omega) (by omega) ?_)
  intro h' M' m1 m2 C9 F9
  refine ⟨?_, ?_⟩
  · intro i e h1 h2
    rcases i with _ | i
    · have h2 : some "java/lang/IndexOutOfBoundsException" = some e := h2
      cases h2
      refine cont_x (wx_catch_n (j := 3) [] (0, 9, 12, 19) [] rfl ps_nil (by decide) (by decide) kl_L_19 ca_395 dL_nodes_12 rfl (by decide) (hj_cons ⟨by decide, rfl⟩ (hj_cons ⟨by decide, rfl⟩ (hj_cons ⟨by decide, rfl⟩ hj_nil))) ?_)
      refine wp_iconst (nI 1) dL_nodes_13 (by decide) ?_
      refine wp_ireturn dL_nodes_14 rfl ?_
      exact hq.thr h1 (by decide) m1 m2 (C.ofV F9 C9) F9.fk O
    · have h2 : (none : Option String) = some e := h2
      cases h2
  · intro h0
    refine cont_ret ?_
    have O2 := FK.out F9.fk O
    refine wp_i2l dL_nodes_7 ?_
    refine wp_lastoreN 1 dL_nodes_8 O2.1 O2.2 (by decide) (by decide) ?_
    refine wp_goto 15 dL_nodes_9 (by decide) ?_
    refine wp_iconst (nI 0) dL_nodes_15 (by decide) ?_
    refine wp_ireturn dL_nodes_16 rfl ?_
    exact hq.ret h0 m1 m2 (C.ofV F9 C9) F9.fk O
set_option maxRecDepth 100000 in
set_option maxHeartbeats 4000000 in
theorem g_shared {G : GG} {d bc bs c M n : Nat} {h : Hp} {Q : Pst} {V : SV} {x : Nat → QIS} {R : RS} {u : Int32} {u2 : Int32} (B : PUR c V M n x R) (hc : c < 512) (C : CLS h V M n x R) (O : h_k h (nm 70 0) = 104 ∧ h_n h (nm 70 0) = 1)  (hd : 20 ≤ d) (hbc : 30 ≤ bc) (hbs : 900 ≤ bs) (hq : HQ Q h (o_shared V u (tn u) u2 (tn u2)).1 (o_shared V u (tn u) u2 (tn u2)).2.1.toInt64 M (o_shared V u (tn u) u2 (tn u2)).2.2 n x R) : WP G m_L_shared d 0 (aargs 0 [vr (some (nm 40 0)), vi u, vi u2, vr (some (nm 70 0))]) [] h bc bs Q := by
  obtain ⟨hS, hW, hmd, hMc, hX, hRB, hLF⟩ := B
  have hr : sMd V < 700000 := by omega
  have hb1 := hRB.1
  have hnv := hS.1
  have hn12 := hX.1.2.1
  refine wp_sub [(0, vr (some (nm 40 0))), (1, vi u), (2, vi u2), (3, vr (some (nm 70 0)))] (fun _ hz => hz) ?_
  refine wp_aload_n (i := 3) dL_shared_0 rfl rfl ?_
  refine wp_iconst (nI 0) dL_shared_1 (by decide) ?_
  refine wp_aload_n (i := 0) dL_shared_2 rfl rfl ?_
  refine wp_iload_n (i := 1) dL_shared_3 rfl rfl ?_
  refine wp_iload_n (i := 2) dL_shared_4 rfl rfl ?_
  refine wp_cV (y' := m_X11_shared) 12 [vi u, vi u2] [vi (nI 0), vr (some (nm 70 0))] 30 900 dL_shared_5 ml_L_78 im_X11_shared se_X11_shared (by decide) C.hk ok_X11_shared rfl (Nat.le_of_ble_eq_true rfl) rfl (Nat.le_of_ble_eq_true rfl) (d' := d - 1) (by omega) (by omega) (by omega) (c_X11_shared hS C.2.2 hr (ix_tn (by omega)) (ix_tn (by omega)) (by omega) (by omega) (by omega) (by omega) ?_)
  intro h' M' m1 m2 C9 F9
  refine ⟨?_, ?_⟩
  · intro i e h1 h2
    rcases i with _ | i
    · have h2 : some "java/lang/IndexOutOfBoundsException" = some e := h2
      cases h2
      refine cont_x (wx_catch (j := 4) [] (0, 10, 13, 19) [] rfl ps_nil (by decide) (by decide) kl_L_19 ca_395 dL_shared_13 (by decide) (hj_cons ⟨by decide, rfl⟩ (hj_cons ⟨by decide, rfl⟩ (hj_cons ⟨by decide, rfl⟩ (hj_cons ⟨by decide, rfl⟩ hj_nil)))) ?_)
      refine wp_iconst (nI 1) dL_shared_15 (by decide) ?_
      refine wp_ireturn dL_shared_16 rfl ?_
      exact hq.thr h1 (by decide) m1 m2 (C.ofV F9 C9) F9.fk O
    · have h2 : (none : Option String) = some e := h2
      cases h2
  · intro h0
    refine cont_ret ?_
    have O2 := FK.out F9.fk O
    refine wp_i2l dL_shared_8 ?_
    refine wp_lastoreN 1 dL_shared_9 O2.1 O2.2 (by decide) (by decide) ?_
    refine wp_goto 17 dL_shared_10 (by decide) ?_
    refine wp_iconst (nI 0) dL_shared_17 (by decide) ?_
    refine wp_ireturn dL_shared_18 rfl ?_
    exact hq.ret h0 m1 m2 (C.ofV F9 C9) F9.fk O
set_option maxRecDepth 100000 in
set_option maxHeartbeats 4000000 in
theorem g_areSame {G : GG} {d bc bs c M n : Nat} {h : Hp} {Q : Pst} {V : SV} {x : Nat → QIS} {R : RS} {u : Int32} {u2 : Int32} (B : PUR c V M n x R) (hc : c < 512) (C : CLS h V M n x R) (O : h_k h (nm 70 0) = 104 ∧ h_n h (nm 70 0) = 1)  (hd : 20 ≤ d) (hbc : 30 ≤ bc) (hbs : 900 ≤ bs) (hq : HQ Q h (o_areSame V u (tn u) u2 (tn u2)).1 (zL (o_areSame V u (tn u) u2 (tn u2)).2.1) M (o_areSame V u (tn u) u2 (tn u2)).2.2 n x R) : WP G m_L_areSame d 0 (aargs 0 [vr (some (nm 40 0)), vi u, vi u2, vr (some (nm 70 0))]) [] h bc bs Q := by
  obtain ⟨hS, hW, hmd, hMc, hX, hRB, hLF⟩ := B
  have hr : sMd V < 700000 := by omega
  have hb1 := hRB.1
  have hnv := hS.1
  have hn12 := hX.1.2.1
  refine wp_sub [(0, vr (some (nm 40 0))), (1, vi u), (2, vi u2), (3, vr (some (nm 70 0)))] (fun _ hz => hz) ?_
  refine wp_aload_n (i := 3) dL_areSame_0 rfl rfl ?_
  refine wp_iconst (nI 0) dL_areSame_1 (by decide) ?_
  refine wp_aload_n (i := 0) dL_areSame_2 rfl rfl ?_
  refine wp_iload_n (i := 1) dL_areSame_3 rfl rfl ?_
  refine wp_iload_n (i := 2) dL_areSame_4 rfl rfl ?_
  refine wp_cV (y' := m_X11_areSame) 12 [vi u, vi u2] [vi (nI 0), vr (some (nm 70 0))] 30 900 dL_areSame_5 ml_L_81 im_X11_areSame se_X11_areSame (by decide) C.hk ok_X11_areSame rfl (Nat.le_of_ble_eq_true rfl) rfl (Nat.le_of_ble_eq_true rfl) (d' := d - 1) (by omega) (by omega) (by omega) (c_X11_areSame hS C.2.2 hr (ix_tn (by omega)) (ix_tn (by omega)) (by omega) (by omega) (by omega) ?_)
  intro h' M' m1 m2 C9 F9
  refine ⟨?_, ?_⟩
  · intro i e h1 h2
    rcases i with _ | _ | i
    · have h2 : some "java/lang/IndexOutOfBoundsException" = some e := h2
      cases h2
      refine cont_x (wx_catch (j := 4) [] (0, 17, 20, 19) [(0, 17, 24, 29)] rfl ps_nil (by decide) (by decide) kl_L_19 ca_395 dL_areSame_20 (by decide) (hj_cons ⟨by decide, rfl⟩ (hj_cons ⟨by decide, rfl⟩ (hj_cons ⟨by decide, rfl⟩ (hj_cons ⟨by decide, rfl⟩ hj_nil)))) ?_)
      refine wp_iconst (nI 1) dL_areSame_22 (by decide) ?_
      refine wp_ireturn dL_areSame_23 rfl ?_
      exact hq.thr h1 (by decide) m1 m2 (C.ofV F9 C9) F9.fk O
    · have h2 : some "java/util/NoSuchElementException" = some e := h2
      cases h2
      refine cont_x (wx_catch (j := 4) [(0, 17, 20, 19)] (0, 17, 24, 29) [] rfl (ps_cons (by decide) kl_L_19 (by decide +kernel) ps_nil) (by decide) (by decide) kl_L_29 ca_527 dL_areSame_24 (by decide) (hj_cons ⟨by decide, rfl⟩ (hj_cons ⟨by decide, rfl⟩ (hj_cons ⟨by decide, rfl⟩ (hj_cons ⟨by decide, rfl⟩ hj_nil)))) ?_)
      refine wp_iconst (nI 2) dL_areSame_26 (by decide) ?_
      refine wp_ireturn dL_areSame_27 rfl ?_
      exact hq.thr h1 (by decide) m1 m2 (C.ofV F9 C9) F9.fk O
    · have h2 : (none : Option String) = some e := h2
      cases h2
  · intro h0
    refine cont_ret ?_
    have O2 := FK.out F9.fk O
    refine wp_if_eq 15 dL_areSame_8 (by decide) (fun c_e => ?_) (fun c_e => ?_)
    · refine wp_lconst (zL (o_areSame V u (tn u) u2 (tn u2)).2.1) dL_areSame_15 (by rw [zL, if_pos c_e]; rfl) ?_
      refine wp_lastoreN 1 dL_areSame_16 O2.1 O2.2 (by decide) (by decide) ?_
      refine wp_goto 28 dL_areSame_17 (by decide) ?_
      refine wp_iconst (nI 0) dL_areSame_28 (by decide) ?_
      refine wp_ireturn dL_areSame_29 rfl ?_
      exact hq.ret h0 m1 m2 (C.ofV F9 C9) F9.fk O
    · refine wp_lconst (zL (o_areSame V u (tn u) u2 (tn u2)).2.1) dL_areSame_11 (by rw [zL, if_neg c_e]; rfl) ?_
      refine wp_goto 16 dL_areSame_12 (by decide) ?_
      refine wp_lastoreN 1 dL_areSame_16 O2.1 O2.2 (by decide) (by decide) ?_
      refine wp_goto 28 dL_areSame_17 (by decide) ?_
      refine wp_iconst (nI 0) dL_areSame_28 (by decide) ?_
      refine wp_ireturn dL_areSame_29 rfl ?_
      exact hq.ret h0 m1 m2 (C.ofV F9 C9) F9.fk O
