/-! The class: its calls about sequences. -/
/-- what a call about sequences is held to -/
def KOQ (Q : Pst) (h : Hp) (E : List String) (o : Int32 × Int32 × Nat × (Nat → QIS)) : Prop := (∀ i e, o.1 = nI (i + 1) → E[i]? = some e → CQR h o.2.2.1 o.2.2.2 → Q (oThr e) h) ∧ (o.1 = nI 0 → ∀ h', CQR h' o.2.2.1 o.2.2.2 → FRKQ h h' → Q (oRet (vi o.2.1)) h')
theorem num_no {q : QIS} (h : q_w q = nI 114) : numQ q = nI 0 := if_pos h
theorem num_so {q : QIS} (h : ¬ q_w q = nI 114) : numQ q = OF_num (q_o q) := if_neg h
theorem kq_rng {a b : Int32} {m : Nat} : kqx (rngQ a b m) = ksx none (nI 114) (nI 0) (rngF a b m) [] false 0 := by
  show ksx (srcQ (rngQ a b m)) _ (numQ (rngQ a b m)) _ _ _ _ = _
  rw [src_no (show q_w (rngQ a b m) = nI 114 from rfl), num_no (show q_w (rngQ a b m) = nI 114 from rfl)]; rfl
theorem kq_ovT {x : Nat → QIS} {s : Nat} (hs : s < 2 ^ 31) {m : Int32} : kqx (ovQ x s 116 m) = ksx (some (nm 50 s)) (nI 116) m (tkF (q_F (x s)) m.toNatClampNeg) [] (q_B (x s) && decide (tot (q_F (x s)) < m.toNatClampNeg)) 0 := by
  have e : ovQ x s 116 m = ((nI 116, nI s, m, nI 0, nI 0), tkF (q_F (x s)) m.toNatClampNeg, q_B (x s) && decide (tot (q_F (x s)) < m.toNatClampNeg), 0, 0) := if_pos rfl
  rw [e]
  show ksx (srcQ _) _ (numQ _) _ _ _ _ = _
  rw [src_so (show ¬ nI 116 = nI 114 by decide), num_so (show ¬ nI 116 = nI 114 by decide), show sN ((nI 116, nI s, m, nI 0, nI 0), tkF (q_F (x s)) m.toNatClampNeg, q_B (x s) && decide (tot (q_F (x s)) < m.toNatClampNeg), 0, 0) = s from nI_clamp hs]
theorem kq_ovC {x : Nat → QIS} {s wn : Nat} (hs : s < 2 ^ 31) {m : Int32} (h1 : ¬ wn = 116) (h2 : ¬ nI wn = nI 114) : kqx (ovQ x s wn m) = ksx (some (nm 50 s)) (nI wn) m (ovL (nI wn) m (q_F (x s)) (q_B (x s))).1 [] (ovL (nI wn) m (q_F (x s)) (q_B (x s))).2 0 := by
  have e : ovQ x s wn m = ((nI wn, nI s, m, nI 0, nI 0), (ovL (nI wn) m (q_F (x s)) (q_B (x s))).1, (ovL (nI wn) m (q_F (x s)) (q_B (x s))).2, 0, 0) := if_neg h1
  rw [e]
  show ksx (srcQ _) _ (numQ _) _ _ _ _ = _
  rw [src_so (show ¬ nI wn = nI 114 from h2), num_so (show ¬ nI wn = nI 114 from h2), show sN ((nI wn, nI s, m, nI 0, nI 0), (ovL (nI wn) m (q_F (x s)) (q_B (x s))).1, (ovL (nI wn) m (q_F (x s)) (q_B (x s))).2, 0, 0) = s from nI_clamp hs]
theorem CQR.add {h h1 : Hp} {n : Nat} {x : Nat → QIS} {q : QIS} (H : CQR h n x) (hF : Fr h h1 (CQs n)) (K : KQ h1 n (kqx q)) : CQR (wI (wR h1 (nm 40 4) n (some (nm 50 n))) (nm 40 0) 5 (nI (n + 1))) (n + 1) (va_up x n q) ∧ FRKQ h (wI (wR h1 (nm 40 4) n (some (nm 50 n))) (nm 40 0) 5 (nI (n + 1))) := by
  have e : ∀ a, a ≠ nm 40 0 → a ≠ nm 40 4 → ce (wI (wR h1 (nm 40 4) n (some (nm 50 n))) (nm 40 0) 5 (nI (n + 1))) a = ce h1 a := fun a h1 h2 => (ce_wI h1).trans (ce_wR h2)
  have ep : ce h1 (nm 40 0) = ce h (nm 40 0) := hF _ (CQs_n (by omega) (by decide))
  have ea : ce h1 (nm 40 4) = ce h (nm 40 4) := hF _ (CQs_n (by omega) (by decide))
  have n4 : (nm 40 4 : Nat) ≠ nm 40 0 := by unfold nm; omega
  obtain ⟨⟨a1, a2, a3, a4, a5⟩, b, c, g1, g2, g3⟩ := H
  have er : ∀ r i, 50 ≤ r → r ≤ 52 → i ≠ n → ce (wI (wR h1 (nm 40 4) n (some (nm 50 n))) (nm 40 0) 5 (nI (n + 1))) (nm r i) = ce h (nm r i) := fun r i h1 h2 h3 => (e _ (by unfold nm; omega) (by unfold nm; omega)).trans (hF _ (CQs_n (by omega) (by omega)))
  refine ⟨⟨⟨by rw [gk_wI, gk_wR, ce_k ep]; exact a1, by rw [gR_wI, gR_wR, if_neg (fun z => n4 z.1.symm), ce_R ep]; exact a2, by rw [gI_wI, if_pos ⟨rfl, rfl⟩], by rw [gk_wI, gk_wR, ce_k ea]; exact a4, by rw [gn_wI, gn_wR, ce_n ea]; exact a5⟩, fun s hs => ?_, fun s hs => ?_, fun i hi => ?_, fun i hi => ?_, fun i hi => ?_⟩, ?_⟩
  · rw [gR_wI, gR_wR]
    by_cases z : s = n
    · rw [if_pos ⟨rfl, z⟩, z]
    · rw [if_neg (fun y => z y.2), ce_R ea]; exact b s (by omega)
  · show KQ _ s (kqx (va_up x n q s))
    rw [va_up_app]
    by_cases z : s = n
    · rw [if_pos z, z]; exact K.frm (e _ (by unfold nm; omega) (by unfold nm; omega)) (e _ (by unfold nm; omega) (by unfold nm; omega)) (e _ (by unfold nm; omega) (by unfold nm; omega))
    · rw [if_neg z]; exact (c s (by omega)).frm (er _ _ (by decide) (by decide) z) (er _ _ (by decide) (by decide) z) (er _ _ (by decide) (by decide) z)
  · exact (ce_k (er 50 i (by decide) (by decide) (by omega))).trans (g1 i (by omega))
  · exact (ce_k (er 51 i (by decide) (by decide) (by omega))).trans (g2 i (by omega))
  · exact (ce_k (er 52 i (by decide) (by decide) (by omega))).trans (g3 i (by omega))
  · refine ⟨fun a ha => (e a (fun z => ha (Or.inl z)) (fun z => ha (Or.inr (Or.inl z)))).trans (hF a (fun z => ha (Or.inr (Or.inr (by unfold CQs at z; omega))))), ⟨by rw [gk_wI, gk_wR, ce_k ep], by rw [gn_wI, gn_wR, ce_n ep], ?_, (show h_L h1 (nm 40 0) = h_L h (nm 40 0) from ce_L ep), (show h_F h1 (nm 40 0) = h_F h (nm 40 0) from ce_F ep)⟩, fun j h5 => by rw [gI_wI, if_neg (fun z => h5 z.2), gI_wR, ce_I ep]⟩
    funext j; rw [gR_wI, gR_wR, if_neg (fun z => n4 z.1.symm), ce_R ep]
set_option maxRecDepth 100000 in
set_option maxHeartbeats 4000000 in
theorem c_X11_sequenceNumbered {G : GG} {d bc bs : Nat} {h : Hp} {Q : Pst} {n : Nat} {x : Nat → QIS} (hC : CQR h n x) (hn : n ≤ 12) {v : Int32} {t : Nat} (hv : ixB v n = true → v = nI t ∧ t < n) (hd : 6 ≤ d) (hbc : 1 ≤ bc) (hbs : 6 ≤ bs) (hqe : ixB v n = false → Q (oThr "java/lang/IndexOutOfBoundsException") h) (hq : ixB v n = true → v = nI t → t < n → Q (oRet (vr (some (nm 50 t)))) h) : WP G m_X11_sequenceNumbered d 0 (aargs 0 [vr (some (nm 40 0)), vi v]) [] h bc bs Q := by
  refine wp_sub [(0, vr (some (nm 40 0))), (1, vi v)] (fun _ hz => hz) ?_
  refine wp_iload_n (i := 1) dX11_sequenceNumbered_0 rfl rfl ?_
  refine wp_if_lt 12 dX11_sequenceNumbered_1 (by decide) (fun c_1 => ?_) (fun c_1 => ?_)
  · skip
    refine wp_null dX11_sequenceNumbered_12 ?_
    refine wp_goto 22 dX11_sequenceNumbered_13 (by decide) ?_
    refine wp_astore_n (i := 2) (lv' := [(2, vr none), (0, vr (some (nm 40 0))), (1, vi v)]) dX11_sequenceNumbered_22 rfl (by decide) rfl ?_
    refine wp_aload_n (i := 2) dX11_sequenceNumbered_23 rfl rfl ?_
    refine wp_ifnonnull 38 dX11_sequenceNumbered_24 (by decide) (fun a_24 c_24 => absurd c_24 (fun z => nomatch z)) (fun c_24 => ?_)
    refine wp_throw dX11_sequenceNumbered_27 dX11_sequenceNumbered_30 dX11_sequenceNumbered_31 dX11_sequenceNumbered_34 dX11_sequenceNumbered_37 th_434 sr_X11_528 rfl (by omega) (by omega) (by omega) ?_
    exact hqe (by first | exact ixB_a c_1 | exact ixB_b (by omega) c_9)
  · skip
    refine wp_iload_n (i := 1) dX11_sequenceNumbered_4 rfl rfl ?_
    refine wp_aload_n (i := 0) dX11_sequenceNumbered_5 rfl rfl ?_
    refine wp_get 12 5 (vi (nI n)) dX11_sequenceNumbered_6 hC.1.1 (by decide) (by decide) fl_X11_35 (congrArg (fun z => toV (vi z)) (hC.1.2.2.1)) ?_
    refine wp_icmp_lt 16 dX11_sequenceNumbered_9 (by decide) (fun c_9 => ?_) (fun c_9 => ?_)
    · have hb : ixB v n = true := ixB_c (by omega) c_1 c_9
      obtain ⟨ev, ht⟩ := hv hb
      subst ev
      refine wp_aload_n (i := 0) dX11_sequenceNumbered_16 rfl rfl ?_
      refine wp_get 12 4 (vr (some (nm 40 4))) dX11_sequenceNumbered_17 hC.1.1 (by decide) (by decide) fl_X11_31 (congrArg (fun z => toV (vr z)) (hC.1.2.1)) ?_
      refine wp_iload_n (i := 1) dX11_sequenceNumbered_20 rfl rfl ?_
      refine wp_aaloadN 12 (some (nm 50 t)) dX11_sequenceNumbered_21 (arTy_111 hC.1.2.2.2.1) hC.1.2.2.2.2 (by omega) (by decide) (hC.2.1 t ht) ?_
      refine wp_astore_n (i := 2) (lv' := [(2, vr (some (nm 50 t))), (0, vr (some (nm 40 0))), (1, vi (nI t))]) dX11_sequenceNumbered_22 rfl (by decide) rfl ?_
      refine wp_aload_n (i := 2) dX11_sequenceNumbered_23 rfl rfl ?_
      refine wp_ifnonnull 38 dX11_sequenceNumbered_24 (by decide) (fun a_24 c_24 => ?_) (fun c_24 => absurd c_24 (fun z => nomatch z))
      refine wp_aload_n (i := 2) dX11_sequenceNumbered_38 rfl rfl ?_
      refine wp_areturn dX11_sequenceNumbered_39 rfl (Or.inl ⟨_, rfl⟩) ?_
      exact hq hb rfl ht
    · skip
      refine wp_null dX11_sequenceNumbered_12 ?_
      refine wp_goto 22 dX11_sequenceNumbered_13 (by decide) ?_
      refine wp_astore_n (i := 2) (lv' := [(2, vr none), (0, vr (some (nm 40 0))), (1, vi v)]) dX11_sequenceNumbered_22 rfl (by decide) rfl ?_
      refine wp_aload_n (i := 2) dX11_sequenceNumbered_23 rfl rfl ?_
      refine wp_ifnonnull 38 dX11_sequenceNumbered_24 (by decide) (fun a_24 c_24 => absurd c_24 (fun z => nomatch z)) (fun c_24 => ?_)
      refine wp_throw dX11_sequenceNumbered_27 dX11_sequenceNumbered_30 dX11_sequenceNumbered_31 dX11_sequenceNumbered_34 dX11_sequenceNumbered_37 th_434 sr_X11_528 rfl (by omega) (by omega) (by omega) ?_
      exact hqe (by first | exact ixB_a c_1 | exact ixB_b (by omega) c_9)
set_option maxRecDepth 100000 in
set_option maxHeartbeats 4000000 in
theorem c_X11_refuseMoreSequences {G : GG} {d bc bs : Nat} {h : Hp} {Q : Pst} {n : Nat} {x : Nat → QIS} (hC : CQR h n x) (hn : n ≤ 12) (hd : 6 ≤ d) (hbc : 1 ≤ bc) (hbs : 6 ≤ bs) (hqe : n = 12 → Q (oThr "java/lang/IllegalStateException") h) (hq : n < 12 → Q oVoid h) : WP G m_X11_refuseMoreSequences d 0 (aargs 0 [vr (some (nm 40 0))]) [] h bc bs Q := by
  refine wp_sub [(0, vr (some (nm 40 0)))] (fun _ hz => hz) ?_
  refine wp_aload_n (i := 0) dX11_refuseMoreSequences_0 rfl rfl ?_
  refine wp_get 12 5 (vi (nI n)) dX11_refuseMoreSequences_1 hC.1.1 (by decide) (by decide) fl_X11_35 (congrArg (fun z => toV (vi z)) (hC.1.2.2.1)) ?_
  refine wp_bipush (nI 12) dX11_refuseMoreSequences_4 (by decide) ?_
  refine wp_icmp_ltN 20 dX11_refuseMoreSequences_6 (by decide) (by omega) (by decide) (fun c_6 => ?_) (fun c_6 => ?_)
  · skip
    refine wp_return dX11_refuseMoreSequences_20 rfl ?_
    exact hq (by omega)
  · skip
    refine wp_throw dX11_refuseMoreSequences_9 dX11_refuseMoreSequences_12 dX11_refuseMoreSequences_13 dX11_refuseMoreSequences_16 dX11_refuseMoreSequences_19 th_320 sr_X11_530 rfl (by omega) (by omega) (by omega) ?_
    exact hqe (by omega)
set_option maxRecDepth 100000 in
set_option maxHeartbeats 4000000 in
theorem c_X11_refuseBroken {G : GG} {d bc bs : Nat} {h : Hp} {Q : Pst} {s : Nat} {y : KQS} (hO : KQ h s y) (hd : 6 ≤ d) (hbc : 1 ≤ bc) (hbs : 6 ≤ bs) (hqe : KQ_brk y = true → Q (oThr "java/lang/UnsupportedOperationException") h) (hq : KQ_brk y = false → Q oVoid h) : WP G m_X11_refuseBroken d 0 (aargs 0 [vr (some (nm 50 s))]) [] h bc bs Q := by
  refine wp_sub [(0, vr (some (nm 50 s)))] (fun _ hz => hz) ?_
  refine wp_aload_n (i := 0) dX11_refuseBroken_0 rfl rfl ?_
  refine wp_get 8 7 (vi (bI (KQ_brk y))) dX11_refuseBroken_1 hO.k0 (by decide) (by decide) fl_X11_532 (congrArg (fun z => toV (vi z)) (hO.f_brk)) ?_
  refine wp_if_eqB 18 dX11_refuseBroken_4 (by decide) (fun c_4 => ?_) (fun c_4 => ?_)
  · skip
    refine wp_return dX11_refuseBroken_18 rfl ?_
    exact hq c_4
  · skip
    refine wp_throw dX11_refuseBroken_7 dX11_refuseBroken_10 dX11_refuseBroken_11 dX11_refuseBroken_14 dX11_refuseBroken_17 th_152 sr_X11_535 rfl (by omega) (by omega) (by omega) ?_
    exact hqe c_4
set_option maxRecDepth 100000 in
set_option maxHeartbeats 4000000 in
theorem c_X11_keepSequence {G : GG} {d bc bs : Nat} {h : Hp} {Q : Pst} {h0 : Hp} {n : Nat} {x : Nat → QIS} {q : QIS} (hC : CQR h0 n x) (hn : n < 12) (hF : Fr h0 h (CQs n)) (K : KQ h n (kqx q)) (hq : ∀ h', CQR h' (n + 1) (va_up x n q) → FRKQ h0 h' → Q (oRet (vi (nI n))) h') : WP G m_X11_keepSequence d 0 (aargs 0 [vr (some (nm 40 0)), vr (some (nm 50 n))]) [] h bc bs Q := by
  have ep : ce h (nm 40 0) = ce h0 (nm 40 0) := hF _ (CQs_n (by omega) (by decide))
  have ea : ce h (nm 40 4) = ce h0 (nm 40 4) := hF _ (CQs_n (by omega) (by decide))
  refine wp_sub [(0, vr (some (nm 40 0))), (1, vr (some (nm 50 n)))] (fun _ hz => hz) ?_
  refine wp_aload_n (i := 0) dX11_keepSequence_0 rfl rfl ?_
  refine wp_get 12 4 (vr (some (nm 40 4))) dX11_keepSequence_1 ((ce_k ep).trans hC.1.1) (by decide) (by decide) fl_X11_31 (congrArg (fun z => toV (vr z)) ((congrFun (ce_R ep) 4).trans hC.1.2.1)) ?_
  refine wp_aload_n (i := 0) dX11_keepSequence_4 rfl rfl ?_
  refine wp_get 12 5 (vi (nI n)) dX11_keepSequence_5 ((ce_k ep).trans hC.1.1) (by decide) (by decide) fl_X11_35 (congrArg (fun z => toV (vi z)) ((congrFun (ce_I ep) 5).trans hC.1.2.2.1)) ?_
  refine wp_aload_n (i := 1) dX11_keepSequence_8 rfl rfl ?_
  refine wp_aastoreN 8 12 dX11_keepSequence_9 ((arTy_111 ((ce_k ea).trans hC.1.2.2.2.1))) (by decide) ((ce_n ea).trans hC.1.2.2.2.2) (by omega) (by decide) (fun v hv => by cases hv; exact K.k0) ?_
  refine wp_aload_n (i := 0) dX11_keepSequence_10 rfl rfl ?_
  refine wp_dup dX11_keepSequence_11 ?_
  refine wp_get 12 5 (vi (nI n)) dX11_keepSequence_12 ((ce_k ep).trans hC.1.1) (by decide) (by decide) fl_X11_35 (congrArg (fun z => toV (vi z)) ((congrFun (ce_I ep) 5).trans hC.1.2.2.1)) ?_
  refine wp_iconst (nI 1) dX11_keepSequence_15 (by decide) ?_
  refine wp_iaddN dX11_keepSequence_16 ?_
  refine wp_putI 12 5 dX11_keepSequence_17 ((ce_k ep).trans hC.1.1) (by decide) (by decide) (by decide) fl_X11_35 rfl (fun _ _ => rfl) rfl rfl ?_
  refine wp_aload_n (i := 0) dX11_keepSequence_20 rfl rfl ?_
  refine wp_get 12 5 (vi (nI (n + 1))) dX11_keepSequence_21 ((ce_k ep).trans hC.1.1) (by decide) (by decide) fl_X11_35 (congrArg (fun z => toV (vi z)) (by rw [gI_wI, if_pos ⟨rfl, rfl⟩])) ?_
  refine wp_iconst (nI 1) dX11_keepSequence_24 (by decide) ?_
  refine wp_isubN dX11_keepSequence_25 (by omega) ?_
  refine wp_ireturn dX11_keepSequence_26 rfl ?_
  rw [show n + 1 - 1 = n from rfl]
  exact hq _ (hC.add hF K).1 (hC.add hF K).2
set_option maxRecDepth 100000 in
set_option maxHeartbeats 4000000 in
theorem c_X11_range {G : GG} {d bc bs : Nat} {h : Hp} {Q : Pst} {n : Nat} {x : Nat → QIS} (hX : QX n x) (hC : CQR h n x) {a b c : Int32} {m : Nat} (hm : inB c (nI 0) (nI 24) = true → c = nI m ∧ m ≤ 24) (hd : 9 ≤ d) (hbc : 6 ≤ bc) (hbs : 80 ≤ bs) (hq : KOQ Q h ["java/lang/IllegalArgumentException", "java/lang/IllegalStateException"] (o_range n x a b c m)) : WP G m_X11_range d 0 (aargs 0 [vr (some (nm 40 0)), vi a, vi b, vi c]) [] h bc bs Q := by
  have q8 : clN 8 = 9 := rfl
  have hn12 := hX.1.2.1
  have hG := FRKQ.rf (h := h)
  refine wp_sub [(0, vr (some (nm 40 0))), (1, vi a), (2, vi b), (3, vi c)] (fun _ hz => hz) ?_
  refine wp_iload_n (i := 1) dX11_range_0 rfl rfl ?_
  refine wp_bipush (-99) dX11_range_1 (by decide) ?_
  refine wp_bipush (nI 99) dX11_range_3 (by decide) ?_
  refine wp_cS (y' := m_X11_isWithin) [vi a, vi (-99), vi (nI 99)] [] 0 0 dX11_range_5 ml_X11_256 st_X11_isWithin ok_X11_isWithin rfl (Nat.le_of_ble_eq_true rfl) rfl (Nat.le_of_ble_eq_true rfl) (d' := d - 1) (by omega) (Nat.zero_le _) (Nat.zero_le _) (c_X11_isWithin a (-99) (nI 99) (cont_ret ?_))
  refine wp_if_eqB 32 dX11_range_8 (by decide) (fun c_8 => ?_) (fun c_8 => ?_)
  · skip
    refine wp_throw dX11_range_32 dX11_range_35 dX11_range_36 dX11_range_39 dX11_range_42 th_189 sr_X11_260 rfl (by omega) (by omega) (by omega) ?_
    rw [show o_range n x a b c m = (nI 1, nI 0, n, x) from by unfold o_range; rw [if_pos (by first | (rw [c_8]; rfl) | (rw [c_8, c_19]; rfl) | (rw [c_8, c_19, c_29]; rfl))]] at hq
    exact hq.1 0 _ rfl rfl (hC)
  · skip
    refine wp_iload_n (i := 2) dX11_range_11 rfl rfl ?_
    refine wp_bipush (-9) dX11_range_12 (by decide) ?_
    refine wp_bipush (nI 9) dX11_range_14 (by decide) ?_
    refine wp_cS (y' := m_X11_isWithin) [vi b, vi (-9), vi (nI 9)] [] 0 0 dX11_range_16 ml_X11_256 st_X11_isWithin ok_X11_isWithin rfl (Nat.le_of_ble_eq_true rfl) rfl (Nat.le_of_ble_eq_true rfl) (d' := d - 1) (by omega) (Nat.zero_le _) (Nat.zero_le _) (c_X11_isWithin b (-9) (nI 9) (cont_ret ?_))
    refine wp_if_eqB 32 dX11_range_19 (by decide) (fun c_19 => ?_) (fun c_19 => ?_)
    · skip
      refine wp_throw dX11_range_32 dX11_range_35 dX11_range_36 dX11_range_39 dX11_range_42 th_189 sr_X11_260 rfl (by omega) (by omega) (by omega) ?_
      rw [show o_range n x a b c m = (nI 1, nI 0, n, x) from by unfold o_range; rw [if_pos (by first | (rw [c_8]; rfl) | (rw [c_8, c_19]; rfl) | (rw [c_8, c_19, c_29]; rfl))]] at hq
      exact hq.1 0 _ rfl rfl (hC)
    · skip
      refine wp_iload_n (i := 3) dX11_range_22 rfl rfl ?_
      refine wp_iconst (nI 0) dX11_range_23 (by decide) ?_
      refine wp_bipush (nI 24) dX11_range_24 (by decide) ?_
      refine wp_cS (y' := m_X11_isWithin) [vi c, vi (nI 0), vi (nI 24)] [] 0 0 dX11_range_26 ml_X11_256 st_X11_isWithin ok_X11_isWithin rfl (Nat.le_of_ble_eq_true rfl) rfl (Nat.le_of_ble_eq_true rfl) (d' := d - 1) (by omega) (Nat.zero_le _) (Nat.zero_le _) (c_X11_isWithin c (nI 0) (nI 24) (cont_ret ?_))
      refine wp_if_neB 43 dX11_range_29 (by decide) (fun c_29 => ?_) (fun c_29 => ?_)
      · obtain ⟨ec, hm24⟩ := hm c_29
        subst ec
        refine wp_aload_n (i := 0) dX11_range_43 rfl rfl ?_
        refine wp_cV (y' := m_X11_refuseMoreSequences) 12 [] [] 1 6 dX11_range_44 ml_X11_262 im_X11_refuseMoreSequences se_X11_refuseMoreSequences (by decide) hC.1.1 ok_X11_refuseMoreSequences rfl (Nat.le_of_ble_eq_true rfl) rfl (Nat.le_of_ble_eq_true rfl) (d' := d - 1) (by omega) (by omega) (by omega) (c_X11_refuseMoreSequences hC (by omega) (by omega) (by omega) (by omega) (fun g_m => cont_thr rfl ?_) (fun b_m => cont_void ?_))
        · rw [show o_range n x a b (nI m) m = (nI 2, nI 0, n, x) from by unfold o_range; rw [if_neg (by rw [c_8, c_19, c_29]; decide), if_pos (by omega)]] at hq
          exact hq.1 1 _ rfl rfl (hC)
        · skip
          refine wp_new 8 dX11_range_47 (by decide) kl_X11_29 ins_X6 ini_X6 (by omega) (by show 9 ≤ _; omega) (nm 50 n) (hC.2.2.2.1 _ (Nat.le_refl _)) ?_
          refine wp_dup dX11_range_50 ?_
          refine wp_null dX11_range_51 ?_
          refine wp_bipush (nI 114) dX11_range_52 (by decide) ?_
          refine wp_iconst (nI 0) dX11_range_54 (by decide) ?_
          refine wp_cI (y' := m_X6_init) [vr none, vi (nI 114), vi (nI 0)] [vr (some (nm 50 n))] 2 50 dX11_range_55 ml_X11_265 im_X6_init rfl rfl ok_X6_init rfl (Nat.le_of_ble_eq_true rfl) rfl (Nat.le_of_ble_eq_true rfl) (d' := d - 1) (by omega) (by omega) (by omega) (c_X6_init (s := n) (hC.2.2.2.2.1 _ (Nat.le_refl _)) (hC.2.2.2.2.2 _ (Nat.le_refl _)) (src := none) (wn := 114) rfl rfl (m := (nI 0)) (by omega) (by omega) (by omega) (fun h1 K1 F1 => cont_void ?_))
          have kn : h_k h1 (nm 50 n) = 9 := K1.k0
          refine wp_astore (i := 4) (lv' := [(4, vr (some (nm 50 n))), (0, vr (some (nm 40 0))), (1, vi a), (2, vi b), (3, vi (nI m))]) dX11_range_58 (by decide) rfl ?_
          refine wp_aload (i := 4) dX11_range_60 rfl ?_
          refine wp_iload_n (i := 1) dX11_range_62 rfl rfl ?_
          refine wp_iload_n (i := 2) dX11_range_63 rfl rfl ?_
          refine wp_iload_n (i := 3) dX11_range_64 rfl rfl ?_
          refine wp_cV (y' := m_X6_fillRange) 8 [vi a, vi b, vi (nI m)] [] 0 0 dX11_range_65 ml_X11_268 im_X6_fillRange se_X6_fillRange (by decide) kn ok_X6_fillRange rfl (Nat.le_of_ble_eq_true rfl) rfl (Nat.le_of_ble_eq_true rfl) (d' := d - 1) (by omega) (Nat.zero_le _) (Nat.zero_le _) (c_X6_fillRange (a := a) (b := b) K1 hm24 (by omega) (fun h2 K2 F2 => cont_void ?_))
          have hF9 := F1.tr F2
          have hK9 : KQ h2 n (kqx (rngQ a b m)) := by rw [kq_rng]; exact K2
          have ep : ce h2 (nm 40 0) = ce h (nm 40 0) := hF9 _ (CQs_n (by omega) (by decide))
          refine wp_aload_n (i := 0) dX11_range_68 rfl rfl ?_
          refine wp_aload (i := 4) dX11_range_69 rfl ?_
          refine wp_cV (y' := m_X11_keepSequence) 12 [vr (some (nm 50 n))] [] 0 0 dX11_range_71 ml_X11_271 im_X11_keepSequence se_X11_keepSequence (by decide) ((ce_k ep).trans hC.1.1) ok_X11_keepSequence rfl (Nat.le_of_ble_eq_true rfl) rfl (Nat.le_of_ble_eq_true rfl) (d' := d - 1) (by omega) (Nat.zero_le _) (Nat.zero_le _) (c_X11_keepSequence hC (by omega) (hF9) (hK9) (fun h9 C9 G9 => cont_ret ?_))
          refine wp_ireturn dX11_range_74 rfl ?_
          rw [show o_range n x a b (nI m) m = (nI 0, nI n, n + 1, va_up x n (rngQ a b m)) from by unfold o_range; rw [if_neg (by rw [c_8, c_19, c_29]; decide), if_neg (by omega)]] at hq
          exact hq.2 rfl _ (C9) (G9)
      · skip
        refine wp_throw dX11_range_32 dX11_range_35 dX11_range_36 dX11_range_39 dX11_range_42 th_189 sr_X11_260 rfl (by omega) (by omega) (by omega) ?_
        rw [show o_range n x a b c m = (nI 1, nI 0, n, x) from by unfold o_range; rw [if_pos (by first | (rw [c_8]; rfl) | (rw [c_8, c_19]; rfl) | (rw [c_8, c_19, c_29]; rfl))]] at hq
        exact hq.1 0 _ rfl rfl (hC)
set_option maxRecDepth 100000 in
set_option maxHeartbeats 4000000 in
theorem c_X11_over {G : GG} {d bc bs : Nat} {h : Hp} {Q : Pst} {n : Nat} {x : Nat → QIS} (hX : QX n x) (hC : CQR h n x) {u : Int32} {s : Nat} (hu : ixB u n = true → u = nI s ∧ s < n) {wn : Nat} (hwn : wn < 65536) {m : Int32} (hd : 9 ≤ d) (hbc : 6 ≤ bc) (hbs : 80 ≤ bs) (hq : KOQ Q h ["java/lang/IndexOutOfBoundsException", "java/lang/IllegalArgumentException", "java/lang/IllegalStateException"] (o_over n x u s wn m)) : WP G m_X11_over d 0 (aargs 0 [vr (some (nm 40 0)), vi u, vi (nI wn), vi m]) [] h bc bs Q := by
  have q8 : clN 8 = 9 := rfl
  have hn12 := hX.1.2.1
  have hG := FRKQ.rf (h := h)
  refine wp_sub [(0, vr (some (nm 40 0))), (1, vi u), (2, vi (nI wn)), (3, vi m)] (fun _ hz => hz) ?_
  refine wp_aload_n (i := 0) dX11_over_0 rfl rfl ?_
  refine wp_iload_n (i := 1) dX11_over_1 rfl rfl ?_
  refine wp_cV (y' := m_X11_sequenceNumbered) 12 [vi u] [] 1 6 dX11_over_2 ml_X11_275 im_X11_sequenceNumbered se_X11_sequenceNumbered (by decide) hC.1.1 ok_X11_sequenceNumbered rfl (Nat.le_of_ble_eq_true rfl) rfl (Nat.le_of_ble_eq_true rfl) (d' := d - 1) (by omega) (by omega) (by omega) (c_X11_sequenceNumbered hC (by omega) (v := u) (t := s) hu (by omega) (by omega) (by omega) (fun g_s => cont_thr rfl ?_) (fun b_s eu hs => cont_ret ?_))
  · rw [show o_over n x u s wn m = (nI 1, nI 0, n, x) from by unfold o_over; rw [if_pos (by rw [g_s]; rfl)]] at hq
    exact hq.1 0 _ rfl rfl (hC)
  · subst eu
    have hWs := hX.1.1 s hs
    refine wp_astore (i := 4) (lv' := [(4, vr (some (nm 50 s))), (0, vr (some (nm 40 0))), (1, vi (nI s)), (2, vi (nI wn)), (3, vi m)]) dX11_over_5 (by decide) rfl ?_
    refine wp_iload_n (i := 2) dX11_over_7 rfl rfl ?_
    refine wp_bipush (nI 97) dX11_over_8 (by decide) ?_
    refine wp_icmp_eqN 42 dX11_over_10 (by decide) (by omega) (by decide) (fun c_10 => ?_) (fun c_10 => ?_)
    · subst c_10
      refine wp_iload_n (i := 2) dX11_over_42 rfl rfl ?_
      refine wp_bipush (nI 107) dX11_over_43 (by decide) ?_
      refine wp_icmp_neN 52 dX11_over_45 (by decide) (by decide) (by decide) (fun c_45 => ?_) (fun c_45 => absurd c_45 (by decide))
      refine wp_iload_n (i := 2) dX11_over_52 rfl rfl ?_
      refine wp_bipush (nI 116) dX11_over_53 (by decide) ?_
      refine wp_icmp_neN 62 dX11_over_55 (by decide) (by decide) (by decide) (fun c_55 => ?_) (fun c_55 => absurd c_55 (by decide))
      refine wp_bipush (-99) dX11_over_62 (by decide) ?_
      refine wp_istore (i := 5) (lv' := [(5, vi (-99)), (4, vr (some (nm 50 s))), (0, vr (some (nm 40 0))), (1, vi (nI s)), (2, vi (nI 97)), (3, vi m)]) dX11_over_64 (by decide) rfl ?_
      refine wp_iload_n (i := 3) dX11_over_66 rfl rfl ?_
      refine wp_iload (i := 5) dX11_over_67 rfl ?_
      refine wp_bipush (nI 99) dX11_over_69 (by decide) ?_
      refine wp_cS (y' := m_X11_isWithin) [vi m, vi (-99), vi (nI 99)] [] 0 0 dX11_over_71 ml_X11_256 st_X11_isWithin ok_X11_isWithin rfl (Nat.le_of_ble_eq_true rfl) rfl (Nat.le_of_ble_eq_true rfl) (d' := d - 1) (by omega) (Nat.zero_le _) (Nat.zero_le _) (c_X11_isWithin m (-99) (nI 99) (cont_ret ?_))
      refine wp_if_neB 88 dX11_over_74 (by decide) (fun c_74 => ?_) (fun c_74 => ?_)
      · skip
        refine wp_aload_n (i := 0) dX11_over_88 rfl rfl ?_
        refine wp_cV (y' := m_X11_refuseMoreSequences) 12 [] [] 1 6 dX11_over_89 ml_X11_262 im_X11_refuseMoreSequences se_X11_refuseMoreSequences (by decide) hC.1.1 ok_X11_refuseMoreSequences rfl (Nat.le_of_ble_eq_true rfl) rfl (Nat.le_of_ble_eq_true rfl) (d' := d - 1) (by omega) (by omega) (by omega) (c_X11_refuseMoreSequences hC (by omega) (by omega) (by omega) (by omega) (fun g_m => cont_thr rfl ?_) (fun b_m => cont_void ?_))
        · rw [show o_over n x (nI s) s 97 m = (nI 3, nI 0, n, x) from by unfold o_over; rw [if_neg (by rw [b_s]; decide), if_neg (show ¬ (isW 97 && inB m (lowQ 97) (nI 99)) = false by rw [show lowQ 97 = (-99) from rfl, c_74, show isW 97 = true from rfl]; decide), if_pos (by omega)]] at hq
          exact hq.1 2 _ rfl rfl (hC)
        · skip
          refine wp_new 8 dX11_over_92 (by decide) kl_X11_29 ins_X6 ini_X6 (by omega) (by show 9 ≤ _; omega) (nm 50 n) (hC.2.2.2.1 _ (Nat.le_refl _)) ?_
          refine wp_dup dX11_over_95 ?_
          refine wp_aload (i := 4) dX11_over_96 rfl ?_
          refine wp_iload_n (i := 2) dX11_over_98 rfl rfl ?_
          refine wp_iload_n (i := 3) dX11_over_99 rfl rfl ?_
          refine wp_cI (y' := m_X6_init) [vr (some (nm 50 s)), vi (nI 97), vi m] [vr (some (nm 50 n))] 2 50 dX11_over_100 ml_X11_265 im_X6_init rfl rfl ok_X6_init rfl (Nat.le_of_ble_eq_true rfl) rfl (Nat.le_of_ble_eq_true rfl) (d' := d - 1) (by omega) (by omega) (by omega) (c_X6_init (s := n) (hC.2.2.2.2.1 _ (Nat.le_refl _)) (hC.2.2.2.2.2 _ (Nat.le_refl _)) (src := some (nm 50 s)) (wn := 97) rfl rfl (m := m) (by omega) (by omega) (by omega) (fun h1 K1 F1 => cont_void ?_))
          have kn : h_k h1 (nm 50 n) = 9 := K1.k0
          refine wp_astore (i := 6) (lv' := [(6, vr (some (nm 50 n))), (5, vi (-99)), (4, vr (some (nm 50 s))), (0, vr (some (nm 40 0))), (1, vi (nI s)), (2, vi (nI 97)), (3, vi m)]) dX11_over_103 (by decide) rfl ?_
          refine wp_iload_n (i := 2) dX11_over_105 rfl rfl ?_
          refine wp_bipush (nI 116) dX11_over_106 (by decide) ?_
          refine wp_icmp_neN 119 dX11_over_108 (by decide) (by decide) (by decide) (fun c_108 => ?_) (fun c_108 => absurd c_108 (by decide))
          refine wp_aload (i := 6) dX11_over_119 rfl ?_
          refine wp_cV (y' := m_X6_fillByChunks) 8 [] [] 0 0 dX11_over_121 ml_X11_286 im_X6_fillByChunks se_X6_fillByChunks (by decide) kn ok_X6_fillByChunks rfl (Nat.le_of_ble_eq_true rfl) rfl (Nat.le_of_ble_eq_true rfl) (d' := d - 1) (by omega) (Nat.zero_le _) (Nat.zero_le _) (c_X6_fillByChunks (u := s) (E := q_F (x s)) hWs.F (by omega) (Or.inl rfl) (fun z => absurd z (by decide)) (by omega) ((hC.s hs).frm (F1 _ (CQs_n (by omega) (by decide))) (F1 _ (CQs_n (by omega) (by decide))) (F1 _ (CQs_n (by omega) (by decide)))) K1 (fun h2 K2 F2 => cont_void ?_))
          have hF9 := F1.tr F2
          have hK9 : KQ h2 n (kqx (ovQ x s 97 m)) := by rw [kq_ovC (by omega) (by decide) (by decide)]; exact K2
          have ep : ce h2 (nm 40 0) = ce h (nm 40 0) := hF9 _ (CQs_n (by omega) (by decide))
          refine wp_aload_n (i := 0) dX11_over_124 rfl rfl ?_
          refine wp_aload (i := 6) dX11_over_125 rfl ?_
          refine wp_cV (y' := m_X11_keepSequence) 12 [vr (some (nm 50 n))] [] 0 0 dX11_over_127 ml_X11_271 im_X11_keepSequence se_X11_keepSequence (by decide) ((ce_k ep).trans hC.1.1) ok_X11_keepSequence rfl (Nat.le_of_ble_eq_true rfl) rfl (Nat.le_of_ble_eq_true rfl) (d' := d - 1) (by omega) (Nat.zero_le _) (Nat.zero_le _) (c_X11_keepSequence hC (by omega) (hF9) (hK9) (fun h9 C9 G9 => cont_ret ?_))
          refine wp_ireturn dX11_over_130 rfl ?_
          rw [show o_over n x (nI s) s 97 m = (nI 0, nI n, n + 1, va_up x n (ovQ x s 97 m)) from by unfold o_over; rw [if_neg (by rw [b_s]; decide), if_neg (show ¬ (isW 97 && inB m (lowQ 97) (nI 99)) = false by rw [show lowQ 97 = (-99) from rfl, c_74, show isW 97 = true from rfl]; decide), if_neg (by omega)]] at hq
          exact hq.2 rfl _ (C9) (G9)
      · skip
        refine wp_throw dX11_over_77 dX11_over_80 dX11_over_81 dX11_over_84 dX11_over_87 th_189 sr_X11_281 rfl (by omega) (by omega) (by omega) ?_
        rw [show o_over n x (nI s) s 97 m = (nI 2, nI 0, n, x) from by unfold o_over; rw [if_neg (by rw [b_s]; decide), if_pos (show (isW 97 && inB m (lowQ 97) (nI 99)) = false by rw [show lowQ 97 = (-99) from rfl, c_74, Bool.and_false])]] at hq
        exact hq.1 1 _ rfl rfl (hC)
    · skip
      refine wp_iload_n (i := 2) dX11_over_13 rfl rfl ?_
      refine wp_bipush (nI 100) dX11_over_14 (by decide) ?_
      refine wp_icmp_eqN 42 dX11_over_16 (by decide) (by omega) (by decide) (fun c_16 => ?_) (fun c_16 => ?_)
      · subst c_16
        refine wp_iload_n (i := 2) dX11_over_42 rfl rfl ?_
        refine wp_bipush (nI 107) dX11_over_43 (by decide) ?_
        refine wp_icmp_neN 52 dX11_over_45 (by decide) (by decide) (by decide) (fun c_45 => ?_) (fun c_45 => absurd c_45 (by decide))
        refine wp_iload_n (i := 2) dX11_over_52 rfl rfl ?_
        refine wp_bipush (nI 116) dX11_over_53 (by decide) ?_
        refine wp_icmp_neN 62 dX11_over_55 (by decide) (by decide) (by decide) (fun c_55 => ?_) (fun c_55 => absurd c_55 (by decide))
        refine wp_bipush (-99) dX11_over_62 (by decide) ?_
        refine wp_istore (i := 5) (lv' := [(5, vi (-99)), (4, vr (some (nm 50 s))), (0, vr (some (nm 40 0))), (1, vi (nI s)), (2, vi (nI 100)), (3, vi m)]) dX11_over_64 (by decide) rfl ?_
        refine wp_iload_n (i := 3) dX11_over_66 rfl rfl ?_
        refine wp_iload (i := 5) dX11_over_67 rfl ?_
        refine wp_bipush (nI 99) dX11_over_69 (by decide) ?_
        refine wp_cS (y' := m_X11_isWithin) [vi m, vi (-99), vi (nI 99)] [] 0 0 dX11_over_71 ml_X11_256 st_X11_isWithin ok_X11_isWithin rfl (Nat.le_of_ble_eq_true rfl) rfl (Nat.le_of_ble_eq_true rfl) (d' := d - 1) (by omega) (Nat.zero_le _) (Nat.zero_le _) (c_X11_isWithin m (-99) (nI 99) (cont_ret ?_))
        refine wp_if_neB 88 dX11_over_74 (by decide) (fun c_74 => ?_) (fun c_74 => ?_)
        · skip
          refine wp_aload_n (i := 0) dX11_over_88 rfl rfl ?_
          refine wp_cV (y' := m_X11_refuseMoreSequences) 12 [] [] 1 6 dX11_over_89 ml_X11_262 im_X11_refuseMoreSequences se_X11_refuseMoreSequences (by decide) hC.1.1 ok_X11_refuseMoreSequences rfl (Nat.le_of_ble_eq_true rfl) rfl (Nat.le_of_ble_eq_true rfl) (d' := d - 1) (by omega) (by omega) (by omega) (c_X11_refuseMoreSequences hC (by omega) (by omega) (by omega) (by omega) (fun g_m => cont_thr rfl ?_) (fun b_m => cont_void ?_))
          · rw [show o_over n x (nI s) s 100 m = (nI 3, nI 0, n, x) from by unfold o_over; rw [if_neg (by rw [b_s]; decide), if_neg (show ¬ (isW 100 && inB m (lowQ 100) (nI 99)) = false by rw [show lowQ 100 = (-99) from rfl, c_74, show isW 100 = true from rfl]; decide), if_pos (by omega)]] at hq
            exact hq.1 2 _ rfl rfl (hC)
          · skip
            refine wp_new 8 dX11_over_92 (by decide) kl_X11_29 ins_X6 ini_X6 (by omega) (by show 9 ≤ _; omega) (nm 50 n) (hC.2.2.2.1 _ (Nat.le_refl _)) ?_
            refine wp_dup dX11_over_95 ?_
            refine wp_aload (i := 4) dX11_over_96 rfl ?_
            refine wp_iload_n (i := 2) dX11_over_98 rfl rfl ?_
            refine wp_iload_n (i := 3) dX11_over_99 rfl rfl ?_
            refine wp_cI (y' := m_X6_init) [vr (some (nm 50 s)), vi (nI 100), vi m] [vr (some (nm 50 n))] 2 50 dX11_over_100 ml_X11_265 im_X6_init rfl rfl ok_X6_init rfl (Nat.le_of_ble_eq_true rfl) rfl (Nat.le_of_ble_eq_true rfl) (d' := d - 1) (by omega) (by omega) (by omega) (c_X6_init (s := n) (hC.2.2.2.2.1 _ (Nat.le_refl _)) (hC.2.2.2.2.2 _ (Nat.le_refl _)) (src := some (nm 50 s)) (wn := 100) rfl rfl (m := m) (by omega) (by omega) (by omega) (fun h1 K1 F1 => cont_void ?_))
            have kn : h_k h1 (nm 50 n) = 9 := K1.k0
            refine wp_astore (i := 6) (lv' := [(6, vr (some (nm 50 n))), (5, vi (-99)), (4, vr (some (nm 50 s))), (0, vr (some (nm 40 0))), (1, vi (nI s)), (2, vi (nI 100)), (3, vi m)]) dX11_over_103 (by decide) rfl ?_
            refine wp_iload_n (i := 2) dX11_over_105 rfl rfl ?_
            refine wp_bipush (nI 116) dX11_over_106 (by decide) ?_
            refine wp_icmp_neN 119 dX11_over_108 (by decide) (by decide) (by decide) (fun c_108 => ?_) (fun c_108 => absurd c_108 (by decide))
            refine wp_aload (i := 6) dX11_over_119 rfl ?_
            refine wp_cV (y' := m_X6_fillByChunks) 8 [] [] 0 0 dX11_over_121 ml_X11_286 im_X6_fillByChunks se_X6_fillByChunks (by decide) kn ok_X6_fillByChunks rfl (Nat.le_of_ble_eq_true rfl) rfl (Nat.le_of_ble_eq_true rfl) (d' := d - 1) (by omega) (Nat.zero_le _) (Nat.zero_le _) (c_X6_fillByChunks (u := s) (E := q_F (x s)) hWs.F (by omega) (Or.inr (Or.inl rfl)) (fun z => absurd z (by decide)) (by omega) ((hC.s hs).frm (F1 _ (CQs_n (by omega) (by decide))) (F1 _ (CQs_n (by omega) (by decide))) (F1 _ (CQs_n (by omega) (by decide)))) K1 (fun h2 K2 F2 => cont_void ?_))
            have hF9 := F1.tr F2
            have hK9 : KQ h2 n (kqx (ovQ x s 100 m)) := by rw [kq_ovC (by omega) (by decide) (by decide)]; exact K2
            have ep : ce h2 (nm 40 0) = ce h (nm 40 0) := hF9 _ (CQs_n (by omega) (by decide))
            refine wp_aload_n (i := 0) dX11_over_124 rfl rfl ?_
            refine wp_aload (i := 6) dX11_over_125 rfl ?_
            refine wp_cV (y' := m_X11_keepSequence) 12 [vr (some (nm 50 n))] [] 0 0 dX11_over_127 ml_X11_271 im_X11_keepSequence se_X11_keepSequence (by decide) ((ce_k ep).trans hC.1.1) ok_X11_keepSequence rfl (Nat.le_of_ble_eq_true rfl) rfl (Nat.le_of_ble_eq_true rfl) (d' := d - 1) (by omega) (Nat.zero_le _) (Nat.zero_le _) (c_X11_keepSequence hC (by omega) (hF9) (hK9) (fun h9 C9 G9 => cont_ret ?_))
            refine wp_ireturn dX11_over_130 rfl ?_
            rw [show o_over n x (nI s) s 100 m = (nI 0, nI n, n + 1, va_up x n (ovQ x s 100 m)) from by unfold o_over; rw [if_neg (by rw [b_s]; decide), if_neg (show ¬ (isW 100 && inB m (lowQ 100) (nI 99)) = false by rw [show lowQ 100 = (-99) from rfl, c_74, show isW 100 = true from rfl]; decide), if_neg (by omega)]] at hq
            exact hq.2 rfl _ (C9) (G9)
        · skip
          refine wp_throw dX11_over_77 dX11_over_80 dX11_over_81 dX11_over_84 dX11_over_87 th_189 sr_X11_281 rfl (by omega) (by omega) (by omega) ?_
          rw [show o_over n x (nI s) s 100 m = (nI 2, nI 0, n, x) from by unfold o_over; rw [if_neg (by rw [b_s]; decide), if_pos (show (isW 100 && inB m (lowQ 100) (nI 99)) = false by rw [show lowQ 100 = (-99) from rfl, c_74, Bool.and_false])]] at hq
          exact hq.1 1 _ rfl rfl (hC)
      · skip
        refine wp_iload_n (i := 2) dX11_over_19 rfl rfl ?_
        refine wp_bipush (nI 107) dX11_over_20 (by decide) ?_
        refine wp_icmp_eqN 42 dX11_over_22 (by decide) (by omega) (by decide) (fun c_22 => ?_) (fun c_22 => ?_)
        · subst c_22
          refine wp_iload_n (i := 2) dX11_over_42 rfl rfl ?_
          refine wp_bipush (nI 107) dX11_over_43 (by decide) ?_
          refine wp_icmp_neN 52 dX11_over_45 (by decide) (by decide) (by decide) (fun c_45 => absurd c_45 (by decide)) (fun c_45 => ?_)
          refine wp_iconst (nI 1) dX11_over_48 (by decide) ?_
          refine wp_goto 64 dX11_over_49 (by decide) ?_
          refine wp_istore (i := 5) (lv' := [(5, vi (nI 1)), (4, vr (some (nm 50 s))), (0, vr (some (nm 40 0))), (1, vi (nI s)), (2, vi (nI 107)), (3, vi m)]) dX11_over_64 (by decide) rfl ?_
          refine wp_iload_n (i := 3) dX11_over_66 rfl rfl ?_
          refine wp_iload (i := 5) dX11_over_67 rfl ?_
          refine wp_bipush (nI 99) dX11_over_69 (by decide) ?_
          refine wp_cS (y' := m_X11_isWithin) [vi m, vi (nI 1), vi (nI 99)] [] 0 0 dX11_over_71 ml_X11_256 st_X11_isWithin ok_X11_isWithin rfl (Nat.le_of_ble_eq_true rfl) rfl (Nat.le_of_ble_eq_true rfl) (d' := d - 1) (by omega) (Nat.zero_le _) (Nat.zero_le _) (c_X11_isWithin m (nI 1) (nI 99) (cont_ret ?_))
          refine wp_if_neB 88 dX11_over_74 (by decide) (fun c_74 => ?_) (fun c_74 => ?_)
          · skip
            refine wp_aload_n (i := 0) dX11_over_88 rfl rfl ?_
            refine wp_cV (y' := m_X11_refuseMoreSequences) 12 [] [] 1 6 dX11_over_89 ml_X11_262 im_X11_refuseMoreSequences se_X11_refuseMoreSequences (by decide) hC.1.1 ok_X11_refuseMoreSequences rfl (Nat.le_of_ble_eq_true rfl) rfl (Nat.le_of_ble_eq_true rfl) (d' := d - 1) (by omega) (by omega) (by omega) (c_X11_refuseMoreSequences hC (by omega) (by omega) (by omega) (by omega) (fun g_m => cont_thr rfl ?_) (fun b_m => cont_void ?_))
            · rw [show o_over n x (nI s) s 107 m = (nI 3, nI 0, n, x) from by unfold o_over; rw [if_neg (by rw [b_s]; decide), if_neg (show ¬ (isW 107 && inB m (lowQ 107) (nI 99)) = false by rw [show lowQ 107 = (nI 1) from rfl, c_74, show isW 107 = true from rfl]; decide), if_pos (by omega)]] at hq
              exact hq.1 2 _ rfl rfl (hC)
            · skip
              refine wp_new 8 dX11_over_92 (by decide) kl_X11_29 ins_X6 ini_X6 (by omega) (by show 9 ≤ _; omega) (nm 50 n) (hC.2.2.2.1 _ (Nat.le_refl _)) ?_
              refine wp_dup dX11_over_95 ?_
              refine wp_aload (i := 4) dX11_over_96 rfl ?_
              refine wp_iload_n (i := 2) dX11_over_98 rfl rfl ?_
              refine wp_iload_n (i := 3) dX11_over_99 rfl rfl ?_
              refine wp_cI (y' := m_X6_init) [vr (some (nm 50 s)), vi (nI 107), vi m] [vr (some (nm 50 n))] 2 50 dX11_over_100 ml_X11_265 im_X6_init rfl rfl ok_X6_init rfl (Nat.le_of_ble_eq_true rfl) rfl (Nat.le_of_ble_eq_true rfl) (d' := d - 1) (by omega) (by omega) (by omega) (c_X6_init (s := n) (hC.2.2.2.2.1 _ (Nat.le_refl _)) (hC.2.2.2.2.2 _ (Nat.le_refl _)) (src := some (nm 50 s)) (wn := 107) rfl rfl (m := m) (by omega) (by omega) (by omega) (fun h1 K1 F1 => cont_void ?_))
              have kn : h_k h1 (nm 50 n) = 9 := K1.k0
              refine wp_astore (i := 6) (lv' := [(6, vr (some (nm 50 n))), (5, vi (nI 1)), (4, vr (some (nm 50 s))), (0, vr (some (nm 40 0))), (1, vi (nI s)), (2, vi (nI 107)), (3, vi m)]) dX11_over_103 (by decide) rfl ?_
              refine wp_iload_n (i := 2) dX11_over_105 rfl rfl ?_
              refine wp_bipush (nI 116) dX11_over_106 (by decide) ?_
              refine wp_icmp_neN 119 dX11_over_108 (by decide) (by decide) (by decide) (fun c_108 => ?_) (fun c_108 => absurd c_108 (by decide))
              refine wp_aload (i := 6) dX11_over_119 rfl ?_
              refine wp_cV (y' := m_X6_fillByChunks) 8 [] [] 0 0 dX11_over_121 ml_X11_286 im_X6_fillByChunks se_X6_fillByChunks (by decide) kn ok_X6_fillByChunks rfl (Nat.le_of_ble_eq_true rfl) rfl (Nat.le_of_ble_eq_true rfl) (d' := d - 1) (by omega) (Nat.zero_le _) (Nat.zero_le _) (c_X6_fillByChunks (u := s) (E := q_F (x s)) hWs.F (by omega) (Or.inr (Or.inr rfl)) (fun _ e => by rw [e] at c_74; exact absurd c_74 (by decide)) (by omega) ((hC.s hs).frm (F1 _ (CQs_n (by omega) (by decide))) (F1 _ (CQs_n (by omega) (by decide))) (F1 _ (CQs_n (by omega) (by decide)))) K1 (fun h2 K2 F2 => cont_void ?_))
              have hF9 := F1.tr F2
              have hK9 : KQ h2 n (kqx (ovQ x s 107 m)) := by rw [kq_ovC (by omega) (by decide) (by decide)]; exact K2
              have ep : ce h2 (nm 40 0) = ce h (nm 40 0) := hF9 _ (CQs_n (by omega) (by decide))
              refine wp_aload_n (i := 0) dX11_over_124 rfl rfl ?_
              refine wp_aload (i := 6) dX11_over_125 rfl ?_
              refine wp_cV (y' := m_X11_keepSequence) 12 [vr (some (nm 50 n))] [] 0 0 dX11_over_127 ml_X11_271 im_X11_keepSequence se_X11_keepSequence (by decide) ((ce_k ep).trans hC.1.1) ok_X11_keepSequence rfl (Nat.le_of_ble_eq_true rfl) rfl (Nat.le_of_ble_eq_true rfl) (d' := d - 1) (by omega) (Nat.zero_le _) (Nat.zero_le _) (c_X11_keepSequence hC (by omega) (hF9) (hK9) (fun h9 C9 G9 => cont_ret ?_))
              refine wp_ireturn dX11_over_130 rfl ?_
              rw [show o_over n x (nI s) s 107 m = (nI 0, nI n, n + 1, va_up x n (ovQ x s 107 m)) from by unfold o_over; rw [if_neg (by rw [b_s]; decide), if_neg (show ¬ (isW 107 && inB m (lowQ 107) (nI 99)) = false by rw [show lowQ 107 = (nI 1) from rfl, c_74, show isW 107 = true from rfl]; decide), if_neg (by omega)]] at hq
              exact hq.2 rfl _ (C9) (G9)
          · skip
            refine wp_throw dX11_over_77 dX11_over_80 dX11_over_81 dX11_over_84 dX11_over_87 th_189 sr_X11_281 rfl (by omega) (by omega) (by omega) ?_
            rw [show o_over n x (nI s) s 107 m = (nI 2, nI 0, n, x) from by unfold o_over; rw [if_neg (by rw [b_s]; decide), if_pos (show (isW 107 && inB m (lowQ 107) (nI 99)) = false by rw [show lowQ 107 = (nI 1) from rfl, c_74, Bool.and_false])]] at hq
            exact hq.1 1 _ rfl rfl (hC)
        · skip
          refine wp_iload_n (i := 2) dX11_over_25 rfl rfl ?_
          refine wp_bipush (nI 116) dX11_over_26 (by decide) ?_
          refine wp_icmp_eqN 42 dX11_over_28 (by decide) (by omega) (by decide) (fun c_28 => ?_) (fun c_28 => ?_)
          · subst c_28
            refine wp_iload_n (i := 2) dX11_over_42 rfl rfl ?_
            refine wp_bipush (nI 107) dX11_over_43 (by decide) ?_
            refine wp_icmp_neN 52 dX11_over_45 (by decide) (by decide) (by decide) (fun c_45 => ?_) (fun c_45 => absurd c_45 (by decide))
            refine wp_iload_n (i := 2) dX11_over_52 rfl rfl ?_
            refine wp_bipush (nI 116) dX11_over_53 (by decide) ?_
            refine wp_icmp_neN 62 dX11_over_55 (by decide) (by decide) (by decide) (fun c_55 => absurd c_55 (by decide)) (fun c_55 => ?_)
            refine wp_iconst (nI 0) dX11_over_58 (by decide) ?_
            refine wp_goto 64 dX11_over_59 (by decide) ?_
            refine wp_istore (i := 5) (lv' := [(5, vi (nI 0)), (4, vr (some (nm 50 s))), (0, vr (some (nm 40 0))), (1, vi (nI s)), (2, vi (nI 116)), (3, vi m)]) dX11_over_64 (by decide) rfl ?_
            refine wp_iload_n (i := 3) dX11_over_66 rfl rfl ?_
            refine wp_iload (i := 5) dX11_over_67 rfl ?_
            refine wp_bipush (nI 99) dX11_over_69 (by decide) ?_
            refine wp_cS (y' := m_X11_isWithin) [vi m, vi (nI 0), vi (nI 99)] [] 0 0 dX11_over_71 ml_X11_256 st_X11_isWithin ok_X11_isWithin rfl (Nat.le_of_ble_eq_true rfl) rfl (Nat.le_of_ble_eq_true rfl) (d' := d - 1) (by omega) (Nat.zero_le _) (Nat.zero_le _) (c_X11_isWithin m (nI 0) (nI 99) (cont_ret ?_))
            refine wp_if_neB 88 dX11_over_74 (by decide) (fun c_74 => ?_) (fun c_74 => ?_)
            · skip
              obtain ⟨em, hm99⟩ := ixB_100 c_74
              refine wp_aload_n (i := 0) dX11_over_88 rfl rfl ?_
              refine wp_cV (y' := m_X11_refuseMoreSequences) 12 [] [] 1 6 dX11_over_89 ml_X11_262 im_X11_refuseMoreSequences se_X11_refuseMoreSequences (by decide) hC.1.1 ok_X11_refuseMoreSequences rfl (Nat.le_of_ble_eq_true rfl) rfl (Nat.le_of_ble_eq_true rfl) (d' := d - 1) (by omega) (by omega) (by omega) (c_X11_refuseMoreSequences hC (by omega) (by omega) (by omega) (by omega) (fun g_m => cont_thr rfl ?_) (fun b_m => cont_void ?_))
              · rw [show o_over n x (nI s) s 116 m = (nI 3, nI 0, n, x) from by unfold o_over; rw [if_neg (by rw [b_s]; decide), if_neg (show ¬ (isW 116 && inB m (lowQ 116) (nI 99)) = false by rw [show lowQ 116 = (nI 0) from rfl, c_74, show isW 116 = true from rfl]; decide), if_pos (by omega)]] at hq
                exact hq.1 2 _ rfl rfl (hC)
              · skip
                refine wp_new 8 dX11_over_92 (by decide) kl_X11_29 ins_X6 ini_X6 (by omega) (by show 9 ≤ _; omega) (nm 50 n) (hC.2.2.2.1 _ (Nat.le_refl _)) ?_
                refine wp_dup dX11_over_95 ?_
                refine wp_aload (i := 4) dX11_over_96 rfl ?_
                refine wp_iload_n (i := 2) dX11_over_98 rfl rfl ?_
                refine wp_iload_n (i := 3) dX11_over_99 rfl rfl ?_
                refine wp_cI (y' := m_X6_init) [vr (some (nm 50 s)), vi (nI 116), vi m] [vr (some (nm 50 n))] 2 50 dX11_over_100 ml_X11_265 im_X6_init rfl rfl ok_X6_init rfl (Nat.le_of_ble_eq_true rfl) rfl (Nat.le_of_ble_eq_true rfl) (d' := d - 1) (by omega) (by omega) (by omega) (c_X6_init (s := n) (hC.2.2.2.2.1 _ (Nat.le_refl _)) (hC.2.2.2.2.2 _ (Nat.le_refl _)) (src := some (nm 50 s)) (wn := 116) rfl rfl (m := m) (by omega) (by omega) (by omega) (fun h1 K1 F1 => cont_void ?_))
                have kn : h_k h1 (nm 50 n) = 9 := K1.k0
                refine wp_astore (i := 6) (lv' := [(6, vr (some (nm 50 n))), (5, vi (nI 0)), (4, vr (some (nm 50 s))), (0, vr (some (nm 40 0))), (1, vi (nI s)), (2, vi (nI 116)), (3, vi m)]) dX11_over_103 (by decide) rfl ?_
                refine wp_iload_n (i := 2) dX11_over_105 rfl rfl ?_
                refine wp_bipush (nI 116) dX11_over_106 (by decide) ?_
                refine wp_icmp_neN 119 dX11_over_108 (by decide) (by decide) (by decide) (fun c_108 => absurd c_108 (by decide)) (fun c_108 => ?_)
                refine wp_aload (i := 6) dX11_over_111 rfl ?_
                refine wp_cV (y' := m_X6_fillFirst) 8 [] [] 0 0 dX11_over_113 ml_X11_283 im_X6_fillFirst se_X6_fillFirst (by decide) kn ok_X6_fillFirst rfl (Nat.le_of_ble_eq_true rfl) rfl (Nat.le_of_ble_eq_true rfl) (d' := d - 1) (by omega) (Nat.zero_le _) (Nat.zero_le _) (c_X6_fillFirst (u := s) (m := m.toNatClampNeg) (E := q_F (x s)) hWs.F (by omega) hm99 (by omega) ((hC.s hs).frm (F1 _ (CQs_n (by omega) (by decide))) (F1 _ (CQs_n (by omega) (by decide))) (F1 _ (CQs_n (by omega) (by decide)))) (by rw [← em]; exact K1) (fun h2 K2 F2 => cont_void ?_))
                rw [← em] at K2
                have hF9 := F1.tr F2
                have hK9 : KQ h2 n (kqx (ovQ x s 116 m)) := by rw [kq_ovT (by omega)]; exact K2
                have ep : ce h2 (nm 40 0) = ce h (nm 40 0) := hF9 _ (CQs_n (by omega) (by decide))
                refine wp_goto 124 dX11_over_116 (by decide) ?_
                refine wp_aload_n (i := 0) dX11_over_124 rfl rfl ?_
                refine wp_aload (i := 6) dX11_over_125 rfl ?_
                refine wp_cV (y' := m_X11_keepSequence) 12 [vr (some (nm 50 n))] [] 0 0 dX11_over_127 ml_X11_271 im_X11_keepSequence se_X11_keepSequence (by decide) ((ce_k ep).trans hC.1.1) ok_X11_keepSequence rfl (Nat.le_of_ble_eq_true rfl) rfl (Nat.le_of_ble_eq_true rfl) (d' := d - 1) (by omega) (Nat.zero_le _) (Nat.zero_le _) (c_X11_keepSequence hC (by omega) (hF9) (hK9) (fun h9 C9 G9 => cont_ret ?_))
                refine wp_ireturn dX11_over_130 rfl ?_
                rw [show o_over n x (nI s) s 116 m = (nI 0, nI n, n + 1, va_up x n (ovQ x s 116 m)) from by unfold o_over; rw [if_neg (by rw [b_s]; decide), if_neg (show ¬ (isW 116 && inB m (lowQ 116) (nI 99)) = false by rw [show lowQ 116 = (nI 0) from rfl, c_74, show isW 116 = true from rfl]; decide), if_neg (by omega)]] at hq
                exact hq.2 rfl _ (C9) (G9)
            · skip
              refine wp_throw dX11_over_77 dX11_over_80 dX11_over_81 dX11_over_84 dX11_over_87 th_189 sr_X11_281 rfl (by omega) (by omega) (by omega) ?_
              rw [show o_over n x (nI s) s 116 m = (nI 2, nI 0, n, x) from by unfold o_over; rw [if_neg (by rw [b_s]; decide), if_pos (show (isW 116 && inB m (lowQ 116) (nI 99)) = false by rw [show lowQ 116 = (nI 0) from rfl, c_74, Bool.and_false])]] at hq
              exact hq.1 1 _ rfl rfl (hC)
          · skip
            refine wp_throw dX11_over_31 dX11_over_34 dX11_over_35 dX11_over_38 dX11_over_41 th_189 sr_X11_279 rfl (by omega) (by omega) (by omega) ?_
            rw [show o_over n x (nI s) s wn m = (nI 2, nI 0, n, x) from by unfold o_over; rw [if_neg (by rw [b_s]; decide), if_pos (by rw [show isW wn = false from by unfold isW; rw [decide_eq_false c_10, decide_eq_false c_16, decide_eq_false c_22, decide_eq_false c_28]; rfl]; rfl)]] at hq
            exact hq.1 1 _ rfl rfl (hC)
set_option maxRecDepth 100000 in
set_option maxHeartbeats 4000000 in
theorem c_X11_at {G : GG} {d bc bs : Nat} {h : Hp} {Q : Pst} {n : Nat} {x : Nat → QIS} (hX : QX n x) (hC : CQR h n x) {u : Int32} {s : Nat} (hu : ixB u n = true → u = nI s ∧ s < n) {v : Int32} {p : Nat} (hv : ¬ v < 0 → v = nI p ∧ p < 2 ^ 31) (hd : 9 ≤ d) (hbc : 6 ≤ bc) (hbs : 80 ≤ bs) (hq : KOQ Q h ["java/lang/IndexOutOfBoundsException", "java/lang/UnsupportedOperationException", "java/util/NoSuchElementException"] (o_at n x u s v p)) : WP G m_X11_at d 0 (aargs 0 [vr (some (nm 40 0)), vi u, vi v]) [] h bc bs Q := by
  have q8 : clN 8 = 9 := rfl
  have hn12 := hX.1.2.1
  have hG := FRKQ.rf (h := h)
  refine wp_sub [(0, vr (some (nm 40 0))), (1, vi u), (2, vi v)] (fun _ hz => hz) ?_
  refine wp_aload_n (i := 0) dX11_at_0 rfl rfl ?_
  refine wp_iload_n (i := 1) dX11_at_1 rfl rfl ?_
  refine wp_cV (y' := m_X11_sequenceNumbered) 12 [vi u] [] 1 6 dX11_at_2 ml_X11_275 im_X11_sequenceNumbered se_X11_sequenceNumbered (by decide) hC.1.1 ok_X11_sequenceNumbered rfl (Nat.le_of_ble_eq_true rfl) rfl (Nat.le_of_ble_eq_true rfl) (d' := d - 1) (by omega) (by omega) (by omega) (c_X11_sequenceNumbered hC (by omega) (v := u) (t := s) hu (by omega) (by omega) (by omega) (fun g_s => cont_thr rfl ?_) (fun b_s eu hs => cont_ret ?_))
  · rw [show o_at n x u s v p = (nI 1, nI 0, n, x) from by unfold o_at; rw [if_pos (by rw [g_s]; rfl)]] at hq
    exact hq.1 0 _ rfl rfl (hC)
  · subst eu
    have hWs := hX.1.1 s hs
    refine wp_astore_n (i := 3) (lv' := [(3, vr (some (nm 50 s))), (0, vr (some (nm 40 0))), (1, vi (nI s)), (2, vi v)]) dX11_at_5 rfl (by decide) rfl ?_
    refine wp_iload_n (i := 2) dX11_at_6 rfl rfl ?_
    refine wp_if_lt 18 dX11_at_7 (by decide) (fun c_7 => ?_) (fun c_7 => ?_)
    · skip
      refine wp_aload_n (i := 3) dX11_at_18 rfl rfl ?_
      refine wp_cS (y' := m_X11_refuseBroken) [vr (some (nm 50 s))] [] 1 6 dX11_at_19 ml_X11_291 st_X11_refuseBroken ok_X11_refuseBroken rfl (Nat.le_of_ble_eq_true rfl) rfl (Nat.le_of_ble_eq_true rfl) (d' := d - 1) (by omega) (by omega) (by omega) (c_X11_refuseBroken (hC.s hs) (by omega) (by omega) (by omega) (fun g_b => cont_thr rfl ?_) (fun b_b => cont_void ?_))
      · rw [show o_at n x (nI s) s v p = (nI 2, nI 0, n, gst x (rcx x) (capR x (enR x s (rcx x)))) from by unfold o_at; rw [if_neg (by rw [b_s]; decide), if_pos (Or.inl c_7), if_pos g_b]] at hq
        exact hq.1 1 _ rfl rfl (hC.g (fun _ _ => rfl))
      · have b_b : q_B (x s) = false := b_b
        refine wp_throwN dX11_at_22 dX11_at_25 dX11_at_26 dX11_at_29 dX11_at_32 rfl sr_X11_295 rfl (by omega) (by omega) (by omega) ?_
        rw [show o_at n x (nI s) s v p = (nI 3, nI 0, n, gst x (rcx x) (capR x (enR x s (rcx x)))) from by unfold o_at; rw [if_neg (by rw [b_s]; decide), if_pos (Or.inl c_7), if_neg (by rw [b_b]; decide)]] at hq
        exact hq.1 2 _ rfl rfl (hC.g (fun _ _ => rfl))
    · obtain ⟨ev, hp⟩ := hv c_7
      subst ev
      have ht24 := hWs.2.1
      have hn0 : ¬ nI p < 0 := c_7
      refine wp_iload_n (i := 2) dX11_at_10 rfl rfl ?_
      refine wp_aload_n (i := 3) dX11_at_11 rfl rfl ?_
      refine wp_get 8 4 (vi (nI (tot (q_F (x s))))) dX11_at_12 (hC.s hs).k0 (by decide) (by decide) fl_X11_289 (congrArg (fun z => toV (vi z)) ((hC.s hs).f_cnt)) ?_
      refine wp_icmp_ltN 33 dX11_at_15 (by decide) (by omega) (by omega) (fun c_15 => ?_) (fun c_15 => ?_)
      · skip
        refine wp_aload_n (i := 3) dX11_at_33 rfl rfl ?_
        refine wp_aload_n (i := 3) dX11_at_34 rfl rfl ?_
        refine wp_iload_n (i := 2) dX11_at_35 rfl rfl ?_
        refine wp_cV (y' := m_X6_chunksFor) 8 [vi (nI p)] [vr (some (nm 50 s))] 0 0 dX11_at_36 ml_X11_297 im_X6_chunksFor se_X6_chunksFor (by decide) (hC.s hs).k0 ok_X6_chunksFor rfl (Nat.le_of_ble_eq_true rfl) rfl (Nat.le_of_ble_eq_true rfl) (d' := d - 1) (by omega) (Nat.zero_le _) (Nat.zero_le _) (c_X6_chunksFor hWs.F (hC.s hs) (q := p) (by omega) (by omega) (cont_ret ?_))
        refine wp_iconst (nI 0) dX11_at_39 (by decide) ?_
        refine wp_cS (y' := m_X11_realise) [vr (some (nm 50 s)), vi (nI (cf (q_F (x s)) p)), vi (nI 0)] [] 0 0 dX11_at_40 ml_X11_300 st_X11_realise ok_X11_realise rfl (Nat.le_of_ble_eq_true rfl) rfl (Nat.le_of_ble_eq_true rfl) (d' := d - 1) (by omega) (Nat.zero_le _) (Nat.zero_le _) (c_X11_realise0 (r := rcx x) (κ := capR x (rs0 x (s + 1) s (cf (q_F (x s)) p) (rcx x))) hX.1.1 hn12 hs hX.2.1.l (hC.g (fun _ _ => rfl)) (by omega) (cf_le (by omega)) (fun h2 C2 G2 => cont_void ?_))
        refine wp_aload_n (i := 3) dX11_at_43 rfl rfl ?_
        refine wp_iload_n (i := 2) dX11_at_44 rfl rfl ?_
        refine wp_cV (y' := m_X6_elementAt) 8 [vi (nI p)] [] 0 0 dX11_at_45 ml_X11_304 im_X6_elementAt se_X6_elementAt (by decide) (C2.s hs).k0 ok_X6_elementAt rfl (Nat.le_of_ble_eq_true rfl) rfl (Nat.le_of_ble_eq_true rfl) (d' := d - 1) (by omega) (Nat.zero_le _) (Nat.zero_le _) (c_X6_elementAt (C2.s hs) (i := p) (by omega) (congrFun atF_nl p) (cont_ret ?_))
        refine wp_ireturn dX11_at_48 rfl ?_
        rw [show o_at n x (nI s) s (nI p) p = (nI 0, atF (q_F (x s)) p, n, setR x (rs0 x (s + 1) s (cf (q_F (x s)) p) (rcx x))) from by unfold o_at; rw [if_neg (by rw [b_s]; decide), if_neg (fun z => z.elim hn0 (fun z => by omega))]] at hq
        exact hq.2 rfl _ (C2) (G2)
      · skip
        refine wp_aload_n (i := 3) dX11_at_18 rfl rfl ?_
        refine wp_cS (y' := m_X11_refuseBroken) [vr (some (nm 50 s))] [] 1 6 dX11_at_19 ml_X11_291 st_X11_refuseBroken ok_X11_refuseBroken rfl (Nat.le_of_ble_eq_true rfl) rfl (Nat.le_of_ble_eq_true rfl) (d' := d - 1) (by omega) (by omega) (by omega) (c_X11_refuseBroken (hC.s hs) (by omega) (by omega) (by omega) (fun g_b => cont_thr rfl ?_) (fun b_b => cont_void ?_))
        · rw [show o_at n x (nI s) s (nI p) p = (nI 2, nI 0, n, gst x (rcx x) (capR x (enR x s (rcx x)))) from by unfold o_at; rw [if_neg (by rw [b_s]; decide), if_pos (Or.inr (by omega)), if_pos g_b]] at hq
          exact hq.1 1 _ rfl rfl (hC.g (fun _ _ => rfl))
        · have b_b : q_B (x s) = false := b_b
          refine wp_throwN dX11_at_22 dX11_at_25 dX11_at_26 dX11_at_29 dX11_at_32 rfl sr_X11_295 rfl (by omega) (by omega) (by omega) ?_
          rw [show o_at n x (nI s) s (nI p) p = (nI 3, nI 0, n, gst x (rcx x) (capR x (enR x s (rcx x)))) from by unfold o_at; rw [if_neg (by rw [b_s]; decide), if_pos (Or.inr (by omega)), if_neg (by rw [b_b]; decide)]] at hq
          exact hq.1 2 _ rfl rfl (hC.g (fun _ _ => rfl))
set_option maxRecDepth 100000 in
set_option maxHeartbeats 4000000 in
theorem c_X11_all {G : GG} {d bc bs : Nat} {h : Hp} {Q : Pst} {n : Nat} {x : Nat → QIS} (hX : QX n x) (hC : CQR h n x) {u : Int32} {s : Nat} (hu : ixB u n = true → u = nI s ∧ s < n) (hd : 9 ≤ d) (hbc : 6 ≤ bc) (hbs : 80 ≤ bs) (hq : KOQ Q h ["java/lang/IndexOutOfBoundsException", "java/lang/UnsupportedOperationException"] (o_all n x u s)) : WP G m_X11_all d 0 (aargs 0 [vr (some (nm 40 0)), vi u]) [] h bc bs Q := by
  have q8 : clN 8 = 9 := rfl
  have hn12 := hX.1.2.1
  have hG := FRKQ.rf (h := h)
  refine wp_sub [(0, vr (some (nm 40 0))), (1, vi u)] (fun _ hz => hz) ?_
  refine wp_aload_n (i := 0) dX11_all_0 rfl rfl ?_
  refine wp_iload_n (i := 1) dX11_all_1 rfl rfl ?_
  refine wp_cV (y' := m_X11_sequenceNumbered) 12 [vi u] [] 1 6 dX11_all_2 ml_X11_275 im_X11_sequenceNumbered se_X11_sequenceNumbered (by decide) hC.1.1 ok_X11_sequenceNumbered rfl (Nat.le_of_ble_eq_true rfl) rfl (Nat.le_of_ble_eq_true rfl) (d' := d - 1) (by omega) (by omega) (by omega) (c_X11_sequenceNumbered hC (by omega) (v := u) (t := s) hu (by omega) (by omega) (by omega) (fun g_s => cont_thr rfl ?_) (fun b_s eu hs => cont_ret ?_))
  · rw [show o_all n x u s = (nI 1, nI 0, n, x) from by unfold o_all; rw [if_pos (by rw [g_s]; rfl)]] at hq
    exact hq.1 0 _ rfl rfl (hC)
  · subst eu
    have hWs := hX.1.1 s hs
    refine wp_astore_n (i := 2) (lv' := [(2, vr (some (nm 50 s))), (0, vr (some (nm 40 0))), (1, vi (nI s))]) dX11_all_5 rfl (by decide) rfl ?_
    refine wp_aload_n (i := 2) dX11_all_6 rfl rfl ?_
    refine wp_cS (y' := m_X11_refuseBroken) [vr (some (nm 50 s))] [] 1 6 dX11_all_7 ml_X11_291 st_X11_refuseBroken ok_X11_refuseBroken rfl (Nat.le_of_ble_eq_true rfl) rfl (Nat.le_of_ble_eq_true rfl) (d' := d - 1) (by omega) (by omega) (by omega) (c_X11_refuseBroken (hC.s hs) (by omega) (by omega) (by omega) (fun g_b => cont_thr rfl ?_) (fun b_b => cont_void ?_))
    · rw [show o_all n x (nI s) s = (nI 2, nI 0, n, gst x (rcx x) (capR x (enR x s (rcx x)))) from by unfold o_all; rw [if_neg (by rw [b_s]; decide), if_pos g_b]] at hq
      exact hq.1 1 _ rfl rfl (hC.g (fun _ _ => rfl))
    · have b_b : q_B (x s) = false := b_b
      refine wp_aload_n (i := 2) dX11_all_10 rfl rfl ?_
      refine wp_aload_n (i := 2) dX11_all_11 rfl rfl ?_
      refine wp_get 8 6 (vi (nI (q_F (x s)).length)) dX11_all_12 (hC.s hs).k0 (by decide) (by decide) fl_X11_305 (congrArg (fun z => toV (vi z)) ((hC.s hs).f_cc)) ?_
      refine wp_iconst (nI 1) dX11_all_15 (by decide) ?_
      refine wp_cS (y' := m_X11_realise) [vr (some (nm 50 s)), vi (nI (q_F (x s)).length), vi (nI 1)] [] 0 0 dX11_all_16 ml_X11_300 st_X11_realise ok_X11_realise rfl (Nat.le_of_ble_eq_true rfl) rfl (Nat.le_of_ble_eq_true rfl) (d' := d - 1) (by omega) (Nat.zero_le _) (Nat.zero_le _) (c_X11_realise1 (r := rcx x) (κ := capR x (enR x s (rcx x))) hX.1.1 hn12 hs hX.2.1.l (hC.g (fun _ _ => rfl)) (by omega) (fun h2 C2 G2 => cont_void ?_))
      have e9 : enR x s (rcx x) = rs1 x (s + 1) s (rcx x) := if_neg (by rw [b_b]; decide)
      refine wp_aload_n (i := 2) dX11_all_19 rfl rfl ?_
      refine wp_get 8 4 (vi (nI (tot (q_F (x s))))) dX11_all_20 (C2.s hs).k0 (by decide) (by decide) fl_X11_289 (congrArg (fun z => toV (vi z)) ((C2.s hs).f_cnt)) ?_
      refine wp_ireturn dX11_all_23 rfl ?_
      rw [show o_all n x (nI s) s = (nI 0, nI (tot (q_F (x s))), n, setR x (enR x s (rcx x))) from by unfold o_all; rw [if_neg (by rw [b_s]; decide), if_neg (by rw [b_b]; decide)]] at hq
      exact hq.2 rfl _ ((show CQR h2 n (gst x (enR x s (rcx x)) (capR x (enR x s (rcx x)))) by rw [e9]; rw [e9] at C2; exact C2)) (G2)
set_option maxRecDepth 100000 in
set_option maxHeartbeats 4000000 in
theorem c_X11_realised {G : GG} {d bc bs : Nat} {h : Hp} {Q : Pst} {n : Nat} {x : Nat → QIS} (hX : QX n x) (hC : CQR h n x) {u : Int32} {s : Nat} (hu : ixB u n = true → u = nI s ∧ s < n) (hd : 9 ≤ d) (hbc : 6 ≤ bc) (hbs : 80 ≤ bs) (hq : KOQ Q h ["java/lang/IndexOutOfBoundsException"] (o_realised n x u s)) : WP G m_X11_realised d 0 (aargs 0 [vr (some (nm 40 0)), vi u]) [] h bc bs Q := by
  have q8 : clN 8 = 9 := rfl
  have hn12 := hX.1.2.1
  have hG := FRKQ.rf (h := h)
  refine wp_sub [(0, vr (some (nm 40 0))), (1, vi u)] (fun _ hz => hz) ?_
  refine wp_aload_n (i := 0) dX11_realised_0 rfl rfl ?_
  refine wp_iload_n (i := 1) dX11_realised_1 rfl rfl ?_
  refine wp_cV (y' := m_X11_sequenceNumbered) 12 [vi u] [] 1 6 dX11_realised_2 ml_X11_275 im_X11_sequenceNumbered se_X11_sequenceNumbered (by decide) hC.1.1 ok_X11_sequenceNumbered rfl (Nat.le_of_ble_eq_true rfl) rfl (Nat.le_of_ble_eq_true rfl) (d' := d - 1) (by omega) (by omega) (by omega) (c_X11_sequenceNumbered hC (by omega) (v := u) (t := s) hu (by omega) (by omega) (by omega) (fun g_s => cont_thr rfl ?_) (fun b_s eu hs => cont_ret ?_))
  · rw [show o_realised n x u s = (nI 1, nI 0, n, x) from by unfold o_realised; rw [if_pos (by rw [g_s]; rfl)]] at hq
    exact hq.1 0 _ rfl rfl (hC)
  · subst eu
    have hWs := hX.1.1 s hs
    have hrl : q_rc (x s) ≤ (q_F (x s)).length := (hX.2.1 s hs).1
    have h24 := hWs.1
    refine wp_astore_n (i := 2) (lv' := [(2, vr (some (nm 50 s))), (0, vr (some (nm 40 0))), (1, vi (nI s))]) dX11_realised_5 rfl (by decide) rfl ?_
    refine wp_aload_n (i := 2) dX11_realised_6 rfl rfl ?_
    refine wp_aload_n (i := 2) dX11_realised_7 rfl rfl ?_
    refine wp_get 8 8 (vi (nI (q_rc (x s)))) dX11_realised_8 (hC.s hs).k0 (by decide) (by decide) fl_X11_308 (congrArg (fun z => toV (vi z)) ((hC.s hs).f_rc)) ?_
    refine wp_cV (y' := m_X6_elementsIn) 8 [vi (nI (q_rc (x s)))] [] 0 0 dX11_realised_11 ml_X11_311 im_X6_elementsIn se_X6_elementsIn (by decide) (hC.s hs).k0 ok_X6_elementsIn rfl (Nat.le_of_ble_eq_true rfl) rfl (Nat.le_of_ble_eq_true rfl) (d' := d - 1) (by omega) (Nat.zero_le _) (Nat.zero_le _) (c_X6_elementsIn (hC.s hs) hWs.1 (k := q_rc (x s)) (by omega) (cont_ret ?_))
    rw [show kein (kqx (x s)) (q_rc (x s)) = pre (q_F (x s)) (q_rc (x s)) from hWs.F.ein hrl]
    refine wp_ireturn dX11_realised_14 rfl ?_
    rw [show o_realised n x (nI s) s = (nI 0, nI (pre (q_F (x s)) (q_rc (x s))), n, x) from by unfold o_realised; rw [if_neg (by rw [b_s]; decide)]] at hq
    exact hq.2 rfl _ (hC) (hG)
set_option maxRecDepth 100000 in
set_option maxHeartbeats 4000000 in
theorem c_X11_chunks {G : GG} {d bc bs : Nat} {h : Hp} {Q : Pst} {n : Nat} {x : Nat → QIS} (hX : QX n x) (hC : CQR h n x) {u : Int32} {s : Nat} (hu : ixB u n = true → u = nI s ∧ s < n) (hd : 9 ≤ d) (hbc : 6 ≤ bc) (hbs : 80 ≤ bs) (hq : KOQ Q h ["java/lang/IndexOutOfBoundsException"] (o_chunks n x u s)) : WP G m_X11_chunks d 0 (aargs 0 [vr (some (nm 40 0)), vi u]) [] h bc bs Q := by
  have q8 : clN 8 = 9 := rfl
  have hn12 := hX.1.2.1
  have hG := FRKQ.rf (h := h)
  refine wp_sub [(0, vr (some (nm 40 0))), (1, vi u)] (fun _ hz => hz) ?_
  refine wp_aload_n (i := 0) dX11_chunks_0 rfl rfl ?_
  refine wp_iload_n (i := 1) dX11_chunks_1 rfl rfl ?_
  refine wp_cV (y' := m_X11_sequenceNumbered) 12 [vi u] [] 1 6 dX11_chunks_2 ml_X11_275 im_X11_sequenceNumbered se_X11_sequenceNumbered (by decide) hC.1.1 ok_X11_sequenceNumbered rfl (Nat.le_of_ble_eq_true rfl) rfl (Nat.le_of_ble_eq_true rfl) (d' := d - 1) (by omega) (by omega) (by omega) (c_X11_sequenceNumbered hC (by omega) (v := u) (t := s) hu (by omega) (by omega) (by omega) (fun g_s => cont_thr rfl ?_) (fun b_s eu hs => cont_ret ?_))
  · rw [show o_chunks n x u s = (nI 1, nI 0, n, x) from by unfold o_chunks; rw [if_pos (by rw [g_s]; rfl)]] at hq
    exact hq.1 0 _ rfl rfl (hC)
  · subst eu
    have hWs := hX.1.1 s hs
    refine wp_get 8 8 (vi (nI (q_rc (x s)))) dX11_chunks_5 (hC.s hs).k0 (by decide) (by decide) fl_X11_308 (congrArg (fun z => toV (vi z)) ((hC.s hs).f_rc)) ?_
    refine wp_ireturn dX11_chunks_8 rfl ?_
    rw [show o_chunks n x (nI s) s = (nI 0, nI (q_rc (x s)), n, x) from by unfold o_chunks; rw [if_neg (by rw [b_s]; decide)]] at hq
    exact hq.2 rfl _ (hC) (hG)
