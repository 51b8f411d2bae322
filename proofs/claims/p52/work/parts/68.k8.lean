/-! The class: add, read. -/
set_option maxRecDepth 100000 in
set_option maxHeartbeats 4000000 in
theorem c_X11_add {G : GG} {d bc bs : Nat} {h : Hp} {Q : Pst} {X : CS} {S : RS} (hR : CR h X) (hs : SIM X S) {n : Nat} (hB : RB n S) {v : Int32} {t : Nat} (hv : ixB v 3 = true → v = nI t ∧ t < 3) {u : Int32} {r : Nat} (hu : ixB u (RS_rn S) = true → u = nI r ∧ r < RS_rn S) {y : Int32} (hd : 12 ≤ d) (hbc : 6 ≤ bc) (hbs : 40 ≤ bs) (hq : KO Q h ["java/lang/IllegalArgumentException", "java/lang/IndexOutOfBoundsException", "java/lang/IllegalStateException", "java/lang/UnsupportedOperationException"] (o_add S v t u r y)) : WP G m_X11_add d 0 (aargs 0 [vr (some (nm 40 0)), vi v, vi u, vi y]) [] h bc bs Q := by
  have hG := FRK.rf (h := h)
  have hrn : CS_rn X = RS_rn S := hs.1.1
  have han : CS_an X = RS_an S := hs.1.2.1
  have hbi : CS_bi X = RS_bg S := hs.1.2.2.1
  have hpr : CS_pr X = RS_mo S := hs.1.2.2.2.1
  have hlg : CS_lg X = RS_lg S := hs.1.2.2.2.2
  have hb0 := hB.1
  refine wp_sub [(0, vr (some (nm 40 0))), (1, vi v), (2, vi u), (3, vi y)] (fun _ hz => hz) ?_
  refine wp_aload_n (i := 0) dX11_add_0 rfl rfl ?_
  refine wp_iload_n (i := 1) dX11_add_1 rfl rfl ?_
  refine wp_cV (y' := m_X11_transactionNumbered) 12 [vi v] [] 1 6 dX11_add_2 ml_X11_327 im_X11_transactionNumbered se_X11_transactionNumbered (by decide) hR.mk ok_X11_transactionNumbered rfl (Nat.le_of_ble_eq_true rfl) rfl (Nat.le_of_ble_eq_true rfl) (d' := d - 1) (by omega) (by omega) (by omega) (c_X11_transactionNumbered hR hv (by omega) (by omega) (by omega) (fun g_t => cont_thr rfl ?_) (fun b_t ev ht => cont_ret ?_))
  · exact hq.1 0 _ (congrArg (fun z => z.1) (show o_add S v t u r y = (nI 1, nI 0, S) from by unfold o_add; rw [if_pos (by rw [g_t]; rfl)])) rfl
  · subst ev
    have hst := hs.2.2.2.1 t ht
    have hb2 := hB.2.1 t ht
    refine wp_astore (i := 4) (lv' := [(4, vr (some (nm 56 t))), (0, vr (some (nm 40 0))), (1, vi (nI t)), (2, vi u), (3, vi y)]) dX11_add_5 (by decide) rfl ?_
    refine wp_aload_n (i := 0) dX11_add_7 rfl rfl ?_
    refine wp_iload_n (i := 2) dX11_add_8 rfl rfl ?_
    refine wp_cV (y' := m_X11_referenceNumbered) 12 [vi u] [] 1 6 dX11_add_9 ml_X11_340 im_X11_referenceNumbered se_X11_referenceNumbered (by decide) hR.mk ok_X11_referenceNumbered rfl (Nat.le_of_ble_eq_true rfl) rfl (Nat.le_of_ble_eq_true rfl) (d' := d - 1) (by omega) (by omega) (by omega) (c_X11_referenceNumbered hR (by omega) (v := u) (t := r) (fun z => by rw [hrn] at z ⊢; exact hu z) (by omega) (by omega) (by omega) (fun g_r => cont_thr rfl ?_) (fun b_r eu hr => cont_ret ?_))
    · rw [hrn] at g_r
      exact hq.1 1 _ (congrArg (fun z => z.1) (show o_add S (nI t) t u r y = (nI 2, nI 0, S) from by unfold o_add; rw [if_neg (by rw [b_t]; decide), if_pos (by rw [g_r]; rfl)])) rfl
    · subst eu
      rw [hrn] at b_r
      have hr0 : r < RS_rn S := by omega
      have hsr := hs.2.1 r hr0
      have hb1 := hB.2.2.1 r hr0
      refine wp_pop dX11_add_12 ?_
      refine wp_aload (i := 4) dX11_add_13 rfl ?_
      refine wp_cS (y' := m_X11_refuseEnded) [vr (some (nm 56 t))] [] 1 6 dX11_add_15 ml_X11_344 st_X11_refuseEnded ok_X11_refuseEnded rfl (Nat.le_of_ble_eq_true rfl) rfl (Nat.le_of_ble_eq_true rfl) (d' := d - 1) (by omega) (by omega) (by omega) (c_X11_refuseEnded (hR.t ht) (by omega) (by omega) (by omega) (fun g_e => cont_thr rfl ?_) (fun e_e => cont_void ?_))
      · exact hq.1 2 _ (congrArg (fun z => z.1) (show o_add S (nI t) t (nI r) r y = (nI 3, nI 0, S) from by unfold o_add; rw [if_neg (by rw [b_t]; decide), if_neg (by rw [b_r]; decide), if_pos (by rw [← hst.1, g_e]; rfl)])) rfl
      · have hop : OT_op (RS_tt S t) = true := by rw [← hst.1, e_e]
        have hr6 : r < 6 := by omega
        have hsq := hst.2.2.2.2.1 r hr6
        refine wp_iload_n (i := 3) dX11_add_18 rfl rfl ?_
        refine wp_bipush (-99) dX11_add_19 (by decide) ?_
        refine wp_bipush (nI 99) dX11_add_21 (by decide) ?_
        refine wp_cS (y' := m_X11_isWithin) [vi y, vi (-99), vi (nI 99)] [] 0 0 dX11_add_23 ml_X11_256 st_X11_isWithin ok_X11_isWithin rfl (Nat.le_of_ble_eq_true rfl) rfl (Nat.le_of_ble_eq_true rfl) (d' := d - 1) (by omega) (Nat.zero_le _) (Nat.zero_le _) (c_X11_isWithin y (-99) (nI 99) (cont_ret ?_))
        refine wp_if_neB 40 dX11_add_26 (by decide) (fun c_26 => ?_) (fun c_26 => ?_)
        · skip
          refine wp_aload (i := 4) dX11_add_40 rfl ?_
          refine wp_get 9 4 (vr (some (nm 57 t))) dX11_add_42 (hR.t (r := t) ht).k0 (by decide) (by decide) fl_X11_348 (congrArg (fun z => toV (vr z)) ((hR.t (r := t) ht).r5_4)) ?_
          refine wp_iload_n (i := 2) dX11_add_45 rfl rfl ?_
          refine wp_zaloadN 6 (bI (KT_wr (CS_tt X t) r)) dX11_add_46 (hR.t (r := t) ht).k11 (hR.t (r := t) ht).n11 (by omega) (by decide) ((hR.t (r := t) ht).a_wr r) ?_
          refine wp_istore (i := 5) (lv' := [(5, vi (bI (KT_wr (CS_tt X t) r))), (4, vr (some (nm 56 t))), (0, vr (some (nm 40 0))), (1, vi (nI t)), (2, vi (nI r)), (3, vi y)]) dX11_add_47 (by decide) rfl ?_
          refine wp_iload (i := 5) dX11_add_49 rfl ?_
          refine wp_if_eqB 64 dX11_add_51 (by decide) (fun c_51 => ?_) (fun c_51 => ?_)
          · skip
            refine wp_aload (i := 4) dX11_add_64 rfl ?_
            refine wp_get 9 8 (vr (some (nm 61 t))) dX11_add_66 (hR.t (r := t) ht).k0 (by decide) (by decide) fl_X11_370 (congrArg (fun z => toV (vr z)) ((hR.t (r := t) ht).r9_8)) ?_
            refine wp_iload_n (i := 2) dX11_add_69 rfl rfl ?_
            refine wp_ialoadN 6 (OT_sm (RS_tt S t) r) dX11_add_70 (hR.t (r := t) ht).k19 (hR.t (r := t) ht).n19 (by omega) (by decide) (((hR.t (r := t) ht).a_sm r).trans hsq.2.2.2.2) ?_
            refine wp_iload_n (i := 3) dX11_add_71 rfl rfl ?_
            refine wp_iadd dX11_add_72 ?_
            refine wp_topi (fun x_73 e_73 => ?_)
            refine wp_istore (i := 6) (lv' := [(6, vi x_73), (5, vi (bI (KT_wr (CS_tt X t) r))), (4, vr (some (nm 56 t))), (0, vr (some (nm 40 0))), (1, vi (nI t)), (2, vi (nI r)), (3, vi y)]) dX11_add_73 (by decide) rfl ?_
            refine wp_iload (i := 6) dX11_add_75 rfl ?_
            refine wp_sipush (-999) dX11_add_77 (by decide) ?_
            refine wp_sipush (nI 999) dX11_add_80 (by decide) ?_
            refine wp_cS (y' := m_X11_isWithin) [vi x_73, vi (-999), vi (nI 999)] [] 0 0 dX11_add_83 ml_X11_256 st_X11_isWithin ok_X11_isWithin rfl (Nat.le_of_ble_eq_true rfl) rfl (Nat.le_of_ble_eq_true rfl) (d' := d - 1) (by omega) (Nat.zero_le _) (Nat.zero_le _) (c_X11_isWithin x_73 (-999) (nI 999) (cont_ret ?_))
            refine wp_if_neB 100 dX11_add_86 (by decide) (fun c_86 => ?_) (fun c_86 => ?_)
            · skip
              refine wp_iload (i := 5) dX11_add_100 rfl ?_
              refine wp_if_eqB 117 dX11_add_102 (by decide) (fun c_102 => ?_) (fun c_102 => absurd c_102 (fun z => Bool.false_ne_true (c_51.symm.trans z)))
              refine wp_aload (i := 4) dX11_add_117 rfl ?_
              refine wp_get 9 7 (vr (some (nm 60 t))) dX11_add_119 (hR.t (r := t) ht).k0 (by decide) (by decide) fl_X11_373 (congrArg (fun z => toV (vr z)) ((hR.t (r := t) ht).r8_7)) ?_
              refine wp_iload_n (i := 2) dX11_add_122 rfl rfl ?_
              refine wp_iconst (nI 1) dX11_add_123 (by decide) ?_
              refine wp_zastoreN 6 dX11_add_124 (hR.t (r := t) ht).k17 (hR.t (r := t) ht).n17 (by omega) (by decide) (by decide) ?_
              have hO1 := (hR.t (r := t) ht)
              have hF2 := hO1.rfT
              have hO3 := hO1.wad (j := r) (v := true)
              have hF4 := hF2.wI (b := nm 60 t) (k := r) (x := bI (true)) (by unfold CT nm; omega)
              refine wp_aload (i := 4) dX11_add_125 rfl ?_
              refine wp_get 9 8 (vr (some (nm 61 t))) dX11_add_127 hO3.k0 (by decide) (by decide) fl_X11_370 (congrArg (fun z => toV (vr z)) (hO3.r9_8)) ?_
              refine wp_iload_n (i := 2) dX11_add_130 rfl rfl ?_
              refine wp_iload (i := 6) dX11_add_131 rfl ?_
              refine wp_iastoreN 6 dX11_add_133 hO3.k19 hO3.n19 (by omega) (by decide) ?_
              have hO5 := hO3.wsm (j := r) (v := x_73)
              have hF6 := hF4.wI (b := nm 61 t) (k := r) (x := x_73) (by unfold CT nm; omega)
              refine wp_iconst (nI 1) dX11_add_134 (by decide) ?_
              refine wp_zreturn dX11_add_135 rfl (by first | rfl | assumption) ?_
              have hwr : OT_wr (RS_tt S t) r = false := hsq.1.symm.trans c_51
              have hz : adz (RS_tt S t) r y = x_73 := by unfold adz; rw [if_neg (by rw [hwr]; decide), if_pos c_26]; exact e_73.symm
              have hR7 := hR.upT ht hF6 hO5
              have hG8 := hG.tr (FRK.oT hF6)
              rw [show o_add S (nI t) t (nI r) r y = (nI 0, nI 1, RS_utt1 S t (OT_usm (OT_uad (RS_tt S t) r true) r x_73)) from by unfold o_add; rw [if_neg (by rw [b_t]; decide), if_neg (by rw [b_r]; decide), if_neg (by rw [← hst.1, e_e]; decide), if_neg (fun z => z.elim (fun y1 => Bool.false_ne_true (y1.symm.trans c_26)) (fun y1 => absurd y1 (by rw [hz]; show ¬ (!inB x_73 (-999) (nI 999)) = true; rw [c_86]; decide))), if_neg (by rw [hwr]; decide), hz]] at hq
              exact hq.2 rfl _ _ hR7 (hs.upT ht (ST.usm hst hop) rfl) hG8
            · skip
              refine wp_throw dX11_add_89 dX11_add_92 dX11_add_93 dX11_add_96 dX11_add_99 th_152 sr_X11_389 rfl (by omega) (by omega) (by omega) ?_
              have hwr : OT_wr (RS_tt S t) r = false := hsq.1.symm.trans c_51
              have hz : adz (RS_tt S t) r y = x_73 := by unfold adz; rw [if_neg (by rw [hwr]; decide), if_pos c_26]; exact e_73.symm
              exact hq.1 3 _ (congrArg (fun z => z.1) (show o_add S (nI t) t (nI r) r y = (nI 4, nI 0, S) from by unfold o_add; rw [if_neg (by rw [b_t]; decide), if_neg (by rw [b_r]; decide), if_neg (by rw [← hst.1, e_e]; decide), if_pos (Or.inr (by rw [hz]; show (!inB x_73 (-999) (nI 999)) = true; rw [c_86]; rfl))])) rfl
          · skip
            refine wp_aload (i := 4) dX11_add_54 rfl ?_
            refine wp_get 9 5 (vr (some (nm 58 t))) dX11_add_56 (hR.t (r := t) ht).k0 (by decide) (by decide) fl_X11_352 (congrArg (fun z => toV (vr z)) ((hR.t (r := t) ht).r6_5)) ?_
            refine wp_iload_n (i := 2) dX11_add_59 rfl rfl ?_
            refine wp_ialoadN 6 (OT_wn (RS_tt S t) r) dX11_add_60 (hR.t (r := t) ht).k13 (hR.t (r := t) ht).n13 (by omega) (by decide) (((hR.t (r := t) ht).a_own r).trans (hsq.2.1 (hsq.1.symm.trans c_51))) ?_
            refine wp_goto 71 dX11_add_61 (by decide) ?_
            refine wp_iload_n (i := 3) dX11_add_71 rfl rfl ?_
            refine wp_iadd dX11_add_72 ?_
            refine wp_topi (fun x_73 e_73 => ?_)
            refine wp_istore (i := 6) (lv' := [(6, vi x_73), (5, vi (bI (KT_wr (CS_tt X t) r))), (4, vr (some (nm 56 t))), (0, vr (some (nm 40 0))), (1, vi (nI t)), (2, vi (nI r)), (3, vi y)]) dX11_add_73 (by decide) rfl ?_
            refine wp_iload (i := 6) dX11_add_75 rfl ?_
            refine wp_sipush (-999) dX11_add_77 (by decide) ?_
            refine wp_sipush (nI 999) dX11_add_80 (by decide) ?_
            refine wp_cS (y' := m_X11_isWithin) [vi x_73, vi (-999), vi (nI 999)] [] 0 0 dX11_add_83 ml_X11_256 st_X11_isWithin ok_X11_isWithin rfl (Nat.le_of_ble_eq_true rfl) rfl (Nat.le_of_ble_eq_true rfl) (d' := d - 1) (by omega) (Nat.zero_le _) (Nat.zero_le _) (c_X11_isWithin x_73 (-999) (nI 999) (cont_ret ?_))
            refine wp_if_neB 100 dX11_add_86 (by decide) (fun c_86 => ?_) (fun c_86 => ?_)
            · skip
              refine wp_iload (i := 5) dX11_add_100 rfl ?_
              refine wp_if_eqB 117 dX11_add_102 (by decide) (fun c_102 => absurd c_102 (fun z => Bool.false_ne_true (z.symm.trans c_51))) (fun c_102 => ?_)
              refine wp_aload (i := 4) dX11_add_105 rfl ?_
              refine wp_get 9 5 (vr (some (nm 58 t))) dX11_add_107 (hR.t (r := t) ht).k0 (by decide) (by decide) fl_X11_352 (congrArg (fun z => toV (vr z)) ((hR.t (r := t) ht).r6_5)) ?_
              refine wp_iload_n (i := 2) dX11_add_110 rfl rfl ?_
              refine wp_iload (i := 6) dX11_add_111 rfl ?_
              refine wp_iastoreN 6 dX11_add_113 (hR.t (r := t) ht).k13 (hR.t (r := t) ht).n13 (by omega) (by decide) ?_
              have hO9 := (hR.t (r := t) ht)
              have hF10 := hO9.rfT
              have hO11 := hO9.wown (j := r) (v := x_73)
              have hF12 := hF10.wI (b := nm 58 t) (k := r) (x := x_73) (by unfold CT nm; omega)
              refine wp_goto 134 dX11_add_114 (by decide) ?_
              refine wp_iconst (nI 1) dX11_add_134 (by decide) ?_
              refine wp_zreturn dX11_add_135 rfl (by first | rfl | assumption) ?_
              have hwr : OT_wr (RS_tt S t) r = true := hsq.1.symm.trans c_51
              have hz : adz (RS_tt S t) r y = x_73 := by unfold adz; rw [if_pos hwr, if_pos c_26]; exact e_73.symm
              have hR13 := hR.upT ht hF12 hO11
              have hG14 := hG.tr (FRK.oT hF12)
              rw [show o_add S (nI t) t (nI r) r y = (nI 0, nI 1, RS_utt1 S t (OT_uwn (RS_tt S t) r x_73)) from by unfold o_add; rw [if_neg (by rw [b_t]; decide), if_neg (by rw [b_r]; decide), if_neg (by rw [← hst.1, e_e]; decide), if_neg (fun z => z.elim (fun y1 => Bool.false_ne_true (y1.symm.trans c_26)) (fun y1 => absurd y1 (by rw [hz]; show ¬ (!inB x_73 (-999) (nI 999)) = true; rw [c_86]; decide))), if_pos hwr, hz]] at hq
              exact hq.2 rfl _ _ hR13 (hs.upT ht (ST.uown hst hop) rfl) hG14
            · skip
              refine wp_throw dX11_add_89 dX11_add_92 dX11_add_93 dX11_add_96 dX11_add_99 th_152 sr_X11_389 rfl (by omega) (by omega) (by omega) ?_
              have hwr : OT_wr (RS_tt S t) r = true := hsq.1.symm.trans c_51
              have hz : adz (RS_tt S t) r y = x_73 := by unfold adz; rw [if_pos hwr, if_pos c_26]; exact e_73.symm
              exact hq.1 3 _ (congrArg (fun z => z.1) (show o_add S (nI t) t (nI r) r y = (nI 4, nI 0, S) from by unfold o_add; rw [if_neg (by rw [b_t]; decide), if_neg (by rw [b_r]; decide), if_neg (by rw [← hst.1, e_e]; decide), if_pos (Or.inr (by rw [hz]; show (!inB x_73 (-999) (nI 999)) = true; rw [c_86]; rfl))])) rfl
        · skip
          refine wp_throw dX11_add_29 dX11_add_32 dX11_add_33 dX11_add_36 dX11_add_39 th_152 sr_X11_281 rfl (by omega) (by omega) (by omega) ?_
          exact hq.1 3 _ (congrArg (fun z => z.1) (show o_add S (nI t) t (nI r) r y = (nI 4, nI 0, S) from by unfold o_add; rw [if_neg (by rw [b_t]; decide), if_neg (by rw [b_r]; decide), if_neg (by rw [← hst.1, e_e]; decide), if_pos (Or.inl c_26)])) rfl
theorem rdF_app {p : Nat} {l : List (Nat × Int32)} {q : Nat × Int32} : ∀ {a : Bool × Int32}, rdF p (l ++ [q]) a = if q.1 ≤ p then (true, q.2) else rdF p l a := by
  induction l with
  | nil => intro a; rfl
  | cons z l ih => intro a; exact ih
theorem rdF_enB {p : Nat} {l : List (Nat × Int32)} {a : Bool × Int32} : ∀ k, k ≤ l.length → rdF p (l.take k) a = match enB (fun j => (l.getD j (0, 0)).1) p k with | none => a | some i => (true, (l.getD i (0, 0)).2) := by
  intro k
  induction k with
  | zero => intro _; rfl
  | succ k ih =>
    intro hk
    have e : l.take (k + 1) = l.take k ++ [l.getD k (0, 0)] := by
      rw [List.getD_eq_getElem?_getD, List.getElem?_eq_getElem (by omega)]
      exact (List.take_append_getElem (by omega)).symm
    rw [e, rdF_app, enB]
    split
    · rfl
    · exact ih (by omega)
theorem rdF_all {p : Nat} {l : List (Nat × Int32)} {a : Bool × Int32} : rdF p l a = match enB (fun j => (l.getD j (0, 0)).1) p l.length with | none => a | some i => (true, (l.getD i (0, 0)).2) := by
  have h := rdF_enB (p := p) (l := l) (a := a) l.length (Nat.le_refl _)
  rwa [List.take_length] at h
theorem getD_le {x : ORS} {n j : Nat} (hj : j < (OR_hs x).length) (h : ∀ q, q ∈ OR_hs x → q.1 ≤ n) : ((OR_hs x).getD j (0, 0)).1 ≤ n := by
  rw [List.getD_eq_getElem?_getD, List.getElem?_eq_getElem hj]
  exact h _ (List.getElem_mem _)
theorem SIM.upR {X : CS} {S : RS} (H : SIM X S) {r : Nat} {x : KRS} {y : ORS} (h1 : SR x y) : SIM (CS_urr1 X r x) (RS_urr1 S r y) := by
  obtain ⟨a1, a2, a3, a4, a5⟩ := H
  refine ⟨a1, fun u hu => ?_, a3, a4, a5⟩
  show SR (va_up (CS_rr X) r x u) (va_up (RS_rr S) r y u)
  rw [va_up_app, va_up_app]
  by_cases e : u = r
  · rw [if_pos e, if_pos e]; exact h1
  · rw [if_neg e, if_neg e]; exact a2 u hu
theorem nI_nm1 {i : Nat} (hi : i < 2 ^ 31) : ¬ nI i = -1 := fun e => by
  have h := congrArg Int32.toInt e
  rw [nI_toInt hi, show (-1 : Int32).toInt = -1 by decide] at h
  omega
set_option maxRecDepth 100000 in
set_option maxHeartbeats 4000000 in
theorem c_X11_read {G : GG} {d bc bs : Nat} {h : Hp} {Q : Pst} {X : CS} {S : RS} (hR : CR h X) (hs : SIM X S) {n : Nat} (hB : RB n S) {v : Int32} {t : Nat} (hv : ixB v 3 = true → v = nI t ∧ t < 3) {u : Int32} {r : Nat} (hu : ixB u (RS_rn S) = true → u = nI r ∧ r < RS_rn S) (hd : 12 ≤ d) (hbc : 6 ≤ bc) (hbs : 40 ≤ bs) (hq : KO Q h ["java/lang/IllegalArgumentException", "java/lang/IndexOutOfBoundsException", "java/lang/IllegalStateException"] (o_read S v t u r)) : WP G m_X11_read d 0 (aargs 0 [vr (some (nm 40 0)), vi v, vi u]) [] h bc bs Q := by
  have hG := FRK.rf (h := h)
  have hrn : CS_rn X = RS_rn S := hs.1.1
  have han : CS_an X = RS_an S := hs.1.2.1
  have hbi : CS_bi X = RS_bg S := hs.1.2.2.1
  have hpr : CS_pr X = RS_mo S := hs.1.2.2.2.1
  have hlg : CS_lg X = RS_lg S := hs.1.2.2.2.2
  have hb0 := hB.1
  refine wp_sub [(0, vr (some (nm 40 0))), (1, vi v), (2, vi u)] (fun _ hz => hz) ?_
  refine wp_aload_n (i := 0) dX11_read_0 rfl rfl ?_
  refine wp_iload_n (i := 1) dX11_read_1 rfl rfl ?_
  refine wp_cV (y' := m_X11_transactionNumbered) 12 [vi v] [] 1 6 dX11_read_2 ml_X11_327 im_X11_transactionNumbered se_X11_transactionNumbered (by decide) hR.mk ok_X11_transactionNumbered rfl (Nat.le_of_ble_eq_true rfl) rfl (Nat.le_of_ble_eq_true rfl) (d' := d - 1) (by omega) (by omega) (by omega) (c_X11_transactionNumbered hR hv (by omega) (by omega) (by omega) (fun g_t => cont_thr rfl ?_) (fun b_t ev ht => cont_ret ?_))
  · exact hq.1 0 _ (congrArg (fun z => z.1) (show o_read S v t u r = (nI 1, nI 0, S) from by unfold o_read; rw [if_pos (by rw [g_t]; rfl)])) rfl
  · subst ev
    have hst := hs.2.2.2.1 t ht
    have hb2 := hB.2.1 t ht
    refine wp_astore_n (i := 3) (lv' := [(3, vr (some (nm 56 t))), (0, vr (some (nm 40 0))), (1, vi (nI t)), (2, vi u)]) dX11_read_5 rfl (by decide) rfl ?_
    refine wp_aload_n (i := 0) dX11_read_6 rfl rfl ?_
    refine wp_iload_n (i := 2) dX11_read_7 rfl rfl ?_
    refine wp_cV (y' := m_X11_referenceNumbered) 12 [vi u] [] 1 6 dX11_read_8 ml_X11_340 im_X11_referenceNumbered se_X11_referenceNumbered (by decide) hR.mk ok_X11_referenceNumbered rfl (Nat.le_of_ble_eq_true rfl) rfl (Nat.le_of_ble_eq_true rfl) (d' := d - 1) (by omega) (by omega) (by omega) (c_X11_referenceNumbered hR (by omega) (v := u) (t := r) (fun z => by rw [hrn] at z ⊢; exact hu z) (by omega) (by omega) (by omega) (fun g_r => cont_thr rfl ?_) (fun b_r eu hr => cont_ret ?_))
    · rw [hrn] at g_r
      exact hq.1 1 _ (congrArg (fun z => z.1) (show o_read S (nI t) t u r = (nI 2, nI 0, S) from by unfold o_read; rw [if_neg (by rw [b_t]; decide), if_pos (by rw [g_r]; rfl)])) rfl
    · subst eu
      rw [hrn] at b_r
      have hr0 : r < RS_rn S := by omega
      have hsr := hs.2.1 r hr0
      have hb1 := hB.2.2.1 r hr0
      refine wp_astore (i := 4) (lv' := [(4, vr (some (nm 53 r))), (3, vr (some (nm 56 t))), (0, vr (some (nm 40 0))), (1, vi (nI t)), (2, vi (nI r))]) dX11_read_11 (by decide) rfl ?_
      refine wp_aload_n (i := 3) dX11_read_13 rfl rfl ?_
      refine wp_cS (y' := m_X11_refuseEnded) [vr (some (nm 56 t))] [] 1 6 dX11_read_14 ml_X11_344 st_X11_refuseEnded ok_X11_refuseEnded rfl (Nat.le_of_ble_eq_true rfl) rfl (Nat.le_of_ble_eq_true rfl) (d' := d - 1) (by omega) (by omega) (by omega) (c_X11_refuseEnded (hR.t ht) (by omega) (by omega) (by omega) (fun g_e => cont_thr rfl ?_) (fun e_e => cont_void ?_))
      · exact hq.1 2 _ (congrArg (fun z => z.1) (show o_read S (nI t) t (nI r) r = (nI 3, nI 0, S) from by unfold o_read; rw [if_neg (by rw [b_t]; decide), if_neg (by rw [b_r]; decide), if_pos (by rw [← hst.1, g_e]; rfl)])) rfl
      · have hop : OT_op (RS_tt S t) = true := by rw [← hst.1, e_e]
        have hr6 : r < 6 := by omega
        have hsq := hst.2.2.2.2.1 r hr6
        refine wp_aload_n (i := 3) dX11_read_17 rfl rfl ?_
        refine wp_get 9 4 (vr (some (nm 57 t))) dX11_read_18 (hR.t (r := t) ht).k0 (by decide) (by decide) fl_X11_348 (congrArg (fun z => toV (vr z)) ((hR.t (r := t) ht).r5_4)) ?_
        refine wp_iload_n (i := 2) dX11_read_21 rfl rfl ?_
        refine wp_zaloadN 6 (bI (KT_wr (CS_tt X t) r)) dX11_read_22 (hR.t (r := t) ht).k11 (hR.t (r := t) ht).n11 (by omega) (by decide) ((hR.t (r := t) ht).a_wr r) ?_
        refine wp_if_eqB 33 dX11_read_23 (by decide) (fun c_23 => ?_) (fun c_23 => ?_)
        · skip
          refine wp_aload (i := 4) dX11_read_33 rfl ?_
          refine wp_aload_n (i := 3) dX11_read_35 rfl rfl ?_
          refine wp_get 9 2 (vi (nI (OT_pt (RS_tt S t)))) dX11_read_36 (hR.t (r := t) ht).k0 (by decide) (by decide) fl_X11_355 (congrArg (fun z => toV (vi z)) ((hR.t (r := t) ht).f_pt.trans (congrArg nI hst.2.2.1))) ?_
          refine wp_cV (y' := m_X5_entryNotBehind) 7 [vi (nI (OT_pt (RS_tt S t)))] [] 0 0 dX11_read_39 ml_X11_358 im_X5_entryNotBehind se_X5_entryNotBehind (by decide) (hR.r (r := r) hr).k0 ok_X5_entryNotBehind rfl (Nat.le_of_ble_eq_true rfl) rfl (Nat.le_of_ble_eq_true rfl) (d' := d - 1) (by omega) (Nat.zero_le _) (Nat.zero_le _) (c_X5_entryNotBehind (hR.r (r := r) hr) (mm := fun j => ((OR_hs (RS_rr S r)).getD j (0, 0)).1) (fun j hj => ⟨(hsr.2.2.2.2.2 j (by rw [← hsr.2.2.2.1]; exact hj)).2, Nat.le_trans (getD_le (by rw [← hsr.2.2.2.1]; exact hj) hb1.2.2.2) (by omega)⟩) (by rw [hsr.2.2.2.1]; omega) (pt := OT_pt (RS_tt S t)) (by omega) (by omega) (by rw [hsr.2.2.2.1]; omega) (fun en => cont_ret ?_) (fun i en => cont_ret ?_))
          · rw [hsr.2.2.2.1] at en
            have hrd : rdF (OT_pt (RS_tt S t)) (OR_hs (RS_rr S r)) (false, nI 0) = (false, nI 0) := by rw [rdF_all, en]
            refine wp_istore (i := 5) (lv' := [(5, vi (-1)), (4, vr (some (nm 53 r))), (3, vr (some (nm 56 t))), (0, vr (some (nm 40 0))), (1, vi (nI t)), (2, vi (nI r))]) dX11_read_42 (by decide) rfl ?_
            refine wp_iload (i := 5) dX11_read_44 rfl ?_
            refine wp_iconst (-1) dX11_read_46 (by decide) ?_
            refine wp_icmp_ne 67 dX11_read_47 (by decide) (fun c_47 => absurd c_47 (fun z => z rfl)) (fun c_47 => ?_)
            refine wp_aload (i := 4) dX11_read_50 rfl ?_
            refine wp_cV (y' := m_X5_raiseLimit) 7 [] [] 0 0 dX11_read_52 ml_X11_361 im_X5_raiseLimit se_X5_raiseLimit (by decide) (hR.r (r := r) hr).k0 ok_X5_raiseLimit rfl (Nat.le_of_ble_eq_true rfl) rfl (Nat.le_of_ble_eq_true rfl) (d' := d - 1) (by omega) (Nat.zero_le _) (Nat.zero_le _) (c_X5_raiseLimit (hR.r (r := r) hr) (by rw [hsr.2.2.2.2.1]; omega) (by omega) (fun h_hR1 O_hR1 F_hR1 => cont_void ?_))
            have hR1 := hR.upR hr F_hR1 O_hR1
            have hG2 := hG.tr (FRK.oR F_hR1)
            refine wp_aload_n (i := 3) dX11_read_55 rfl rfl ?_
            refine wp_aload_n (i := 0) dX11_read_56 rfl rfl ?_
            refine wp_get 12 10 (vi (nI (RS_mo S))) dX11_read_57 hR1.mk (by decide) (by decide) fl_X11_56 (congrArg (fun z => toV (vi z)) (hR1.i10.trans (congrArg nI hpr))) ?_
            refine wp_cV (y' := m_X7_goBack) 9 [vi (nI (RS_mo S))] [] 0 0 dX11_read_60 ml_X11_364 im_X7_goBack se_X7_goBack (by decide) (hR1.t (r := t) ht).k0 ok_X7_goBack rfl (Nat.le_of_ble_eq_true rfl) rfl (Nat.le_of_ble_eq_true rfl) (d' := d - 1) (by omega) (Nat.zero_le _) (Nat.zero_le _) (c_X7_goBack hR1 ht (by omega) (fun h_hR3 hR3 F_hR3 => cont_void ?_))
            have hG4 := hG2.tr F_hR3
            refine wp_sipush (-10000) dX11_read_63 (by decide) ?_
            refine wp_ireturn dX11_read_66 rfl ?_
            have hsr2 : SR (KR_ulim (CS_rr X r) (min (KR_lim (CS_rr X r) + 1) 8)) (OR_ulim (RS_rr S r) (OR_lim (RS_rr S r) + if OR_lim (RS_rr S r) < 8 then 1 else 0)) := ⟨hsr.1, hsr.2.1, hsr.2.2.1, hsr.2.2.2.1, by show min (KR_lim (CS_rr X r) + 1) 8 = OR_lim (RS_rr S r) + _; rw [hsr.2.2.2.2.1]; split <;> omega, hsr.2.2.2.2.2⟩
            rw [show o_read S (nI t) t (nI r) r = (nI 0, (-10000), RS_utt1 (RS_urr1 S r (OR_ulim (RS_rr S r) (OR_lim (RS_rr S r) + if OR_lim (RS_rr S r) < 8 then 1 else 0))) t (sbk (RS_tt S t) (RS_mo S))) from by unfold o_read; rw [if_neg (by rw [b_t]; decide), if_neg (by rw [b_r]; decide), if_neg (by rw [← hst.1, e_e]; decide), if_neg (by rw [← hsq.1, c_23]; decide), hrd]; rfl] at hq
            exact hq.2 rfl _ _ hR3 ((hs.upR hsr2).back ht) hG4
          · rw [hsr.2.2.2.1] at en
            have hi := (enB_lt en).1
            have hrd : rdF (OT_pt (RS_tt S t)) (OR_hs (RS_rr S r)) (false, nI 0) = (true, ((OR_hs (RS_rr S r)).getD i (0, 0)).2) := by rw [rdF_all, en]
            refine wp_istore (i := 5) (lv' := [(5, vi (nI i)), (4, vr (some (nm 53 r))), (3, vr (some (nm 56 t))), (0, vr (some (nm 40 0))), (1, vi (nI t)), (2, vi (nI r))]) dX11_read_42 (by decide) rfl ?_
            refine wp_iload (i := 5) dX11_read_44 rfl ?_
            refine wp_iconst (-1) dX11_read_46 (by decide) ?_
            refine wp_icmp_ne 67 dX11_read_47 (by decide) (fun c_47 => ?_) (fun c_47 => absurd c_47 (nI_nm1 (by omega)))
            refine wp_aload (i := 4) dX11_read_67 rfl ?_
            refine wp_iload (i := 5) dX11_read_69 rfl ?_
            refine wp_cV (y' := m_X5_valueAt) 7 [vi (nI i)] [] 0 0 dX11_read_71 ml_X11_367 im_X5_valueAt se_X5_valueAt (by decide) (hR.r (r := r) hr).k0 ok_X5_valueAt rfl (Nat.le_of_ble_eq_true rfl) rfl (Nat.le_of_ble_eq_true rfl) (d' := d - 1) (by omega) (Nat.zero_le _) (Nat.zero_le _) (c_X5_valueAt (hR.r (r := r) hr) (i := i) (by omega) (cont_ret ?_))
            rw [(hsr.2.2.2.2.2 i hi).1]
            refine wp_aload_n (i := 3) dX11_read_74 rfl rfl ?_
            refine wp_get 9 8 (vr (some (nm 61 t))) dX11_read_75 (hR.t (r := t) ht).k0 (by decide) (by decide) fl_X11_370 (congrArg (fun z => toV (vr z)) ((hR.t (r := t) ht).r9_8)) ?_
            refine wp_iload_n (i := 2) dX11_read_78 rfl rfl ?_
            refine wp_ialoadN 6 (OT_sm (RS_tt S t) r) dX11_read_79 (hR.t (r := t) ht).k19 (hR.t (r := t) ht).n19 (by omega) (by decide) (((hR.t (r := t) ht).a_sm r).trans hsq.2.2.2.2) ?_
            refine wp_iadd dX11_read_80 ?_
            refine wp_ireturn dX11_read_81 rfl ?_
            rw [show o_read S (nI t) t (nI r) r = (nI 0, ((OR_hs (RS_rr S r)).getD i (0, 0)).2 + OT_sm (RS_tt S t) r, S) from by unfold o_read; rw [if_neg (by rw [b_t]; decide), if_neg (by rw [b_r]; decide), if_neg (by rw [← hst.1, e_e]; decide), if_neg (by rw [← hsq.1, c_23]; decide), hrd]; rfl] at hq
            exact hq.2 rfl _ _ hR hs hG
        · skip
          refine wp_aload_n (i := 3) dX11_read_26 rfl rfl ?_
          refine wp_get 9 5 (vr (some (nm 58 t))) dX11_read_27 (hR.t (r := t) ht).k0 (by decide) (by decide) fl_X11_352 (congrArg (fun z => toV (vr z)) ((hR.t (r := t) ht).r6_5)) ?_
          refine wp_iload_n (i := 2) dX11_read_30 rfl rfl ?_
          refine wp_ialoadN 6 (OT_wn (RS_tt S t) r) dX11_read_31 (hR.t (r := t) ht).k13 (hR.t (r := t) ht).n13 (by omega) (by decide) (((hR.t (r := t) ht).a_own r).trans (hsq.2.1 (hsq.1.symm.trans c_23))) ?_
          refine wp_ireturn dX11_read_32 rfl ?_
          rw [show o_read S (nI t) t (nI r) r = (nI 0, OT_wn (RS_tt S t) r, S) from by unfold o_read; rw [if_neg (by rw [b_t]; decide), if_neg (by rw [b_r]; decide), if_neg (by rw [← hst.1, e_e]; decide), if_pos (hsq.1.symm.trans c_23)]] at hq
          exact hq.2 rfl _ _ hR hs hG
