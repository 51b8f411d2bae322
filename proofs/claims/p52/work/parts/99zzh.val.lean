/-! value: its roads, open vectors, maps, and what is away. -/
theorem nI_m1' {a : Nat} (h : 0 < a) : nI a + -1 = nI (a - 1) := by
  have e : nI a = nI (a - 1) + nI 1 := by rw [nI_add]; congr 1; omega
  rw [e, Int32.add_assoc, show nI 1 + -1 = (0 : Int32) from by decide, Int32.add_zero]
theorem sumN_lt {f : Nat → Nat} (h : ∀ j, f j ≤ 1) {q : Nat} (hq : f q = 0) : ∀ n, q < n → sumN f n < n := by
  intro n
  induction n with
  | zero => intro hn; omega
  | succ n ih =>
    intro hn
    have h1 := h n
    show sumN f n + f n < n + 1
    by_cases e : q = n
    · subst e
      have := sumN_01 h q
      omega
    · have := ih (by omega)
      omega
theorem ct_0 (hs : Nat → Bool) : ct hs 0 0 = sumN (fun k => if hs k = true then 1 else 0) 1000 := sumN_c 1000 (fun j _ => by
  show (if hs j = true ∧ btN j 0 = 0 then 1 else 0) = _
  have e : btN j 0 = 0 := Nat.mod_one (cdN j)
  by_cases h : hs j = true
  · rw [if_pos ⟨h, e⟩, if_pos h]
  · rw [if_neg (fun z => h z.1), if_neg h])
theorem map_pos {V : SV} {k j : Nat} (H : SVI V) (hk : k < sNv V) (ht : sTy V k = 109) (hh : hsv V k j = true) : 0 < sSz V k := by
  have e : sSz V k = ct (hsv V k) 0 0 := ((H.2.1 k hk).2.2.2.1 ht).1
  have hj : j < 1000 := Decidable.byContradiction (fun z => by rw [show hsv V k j = false from if_neg z] at hh; cases hh)
  have := ct_pos (l := 0) (b := 0) hj hh (Nat.mod_one (cdN j))
  omega
/-- a map with only the law's keys, one of them wanting, has room -/
theorem map_room {V : SV} {k j : Nat} {f : Nat → Int32} (H : SVI V) (hk : k < sNv V) (ht : sTy V k = 109) (hP : RowP (vp V k) f) (hj : j < 40) (hh : hsv V k (25 * j) = false) : sSz V k < 40 := by
  have R := row_map hP ht
  have e : sSz V k = ct (hsv V k) 0 0 := ((H.2.1 k hk).2.2.2.1 ht).1
  rw [e, ct_0, sum_pts (p := fun i => 25 * i) 40 1000 (fun i hi => by show 25 * i < 1000; omega) (fun a b h1 h2 => by show 25 * a < 25 * b; omega) (fun s hs hne => if_neg (fun z => ?_))]
  · exact sumN_lt (fun i => by show (if _ then 1 else 0) ≤ 1; split <;> omega) (q := j) (if_neg (by rw [hh]; decide)) 40 hj
  · by_cases q : s % 25 = 0
    · exact hne (s / 25) (by omega) (by show s = 25 * (s / 25); omega)
    · rw [R.2.1 s q] at z
      cases z
set_option maxRecDepth 100000 in
set_option maxHeartbeats 4000000 in
theorem l_val_last {G : GG} {d c n : Nat} {Q : Pst} {V : SV} {x : Nat → QIS} {R : RS} {k K J : Nat} {ro : Nat → Nat} {rf : Nat → Nat → Int32} {op : Nat → Bool} (B : PU c V n x R) (hc : c + 4 ≤ 512) (h60 : sNv V < 60) (hP : ∀ v, v < sNv V → RowP (vp V v) (rf v)) (hI0 : IN0 V) (hd : 40 ≤ d) (hL : slen G < 2 ^ 31) {h : Hp} {M bc bs : Nat} (hk : k < sNv V) (ht : sTy V k = 111) (C : CLS h V M n x R) (hM : M + 30 < 900000) (H : LWH h (sNv V) n (RS_rn R) ro rf (K + 1) J op) (hKn : ∀ v, v < sNv V → ro v ≠ K) (W : RWl h (nm 71 K) (rf k)) {e : Int32} (he : smE e) {pl : Nat} (hpl : pl < 20) {w i : Nat} (hw : w < 16) (hi : i + 100 < 2 ^ 31) (hbc : 120 ≤ bc) (hbs : 3000 ≤ bs) (hq : ∀ h' M' V' c' ro' rf', c' ≤ c + 4 → PU c' V' n x R → CLS h' V' M' n x R → M ≤ M' → M' ≤ M + 16 → LWH h' (sNv V') n (RS_rn R) ro' rf' (K + 1) J op → (∀ v, v < sNv V' → RowP (vp V' v) (rf' v)) → IN0 V' → Q (oRet (vi (nI 1))) h') (hw12 : 12 < w) : WP G m_L_value d 290 [(13, vi (nI pl)), (12, vi (nI (sSz V k))), (11, vr (some (nm 71 K))), (10, vi (nI (sNv V))), (8, vl (nI (sMd V)).toInt64), (7, vi e), (6, vi (nI w)), (5, vi (nI k)), (4, vr (some (nm 70 1))), (3, vr (some (nm 70 0))), (2, vi (nI i)), (1, vr (some nS)), (0, vr (some (nm 40 0)))] [] h bc bs Q := by
  have hn60 := B.1.1
  have hk1 : k < 2 ^ 31 := by omega
  have hz : sSz V k ≤ 64 := (B.1.2.1 k hk).2.1
  have hPk := hP k hk
  have f0 : rf k 0 = nI 111 := hPk.1.trans (congrArg nI ht)
  have f1 : rf k 1 = nI (sSz V k) := hPk.2.1
  have hmd := B.2.2.1
  have hm25 : sMd V + 25 ≤ 1000000 := by omega
  refine wp_aload (i := 11) dL_value_290 rfl ?_
  refine wp_iconst (nI 0) dL_value_292 (by decide) ?_
  refine wp_ialoadN 70 (nI 111) dL_value_293 W.1 W.2.1 (by decide) (by decide) ((W.2.2 0 (by decide)).trans (f0)) ?_
  refine wp_bipush (nI 118) dL_value_294 (by decide) ?_
  refine wp_icmp_neN 535 dL_value_296 (by decide) (by decide) (by decide) (fun c_296 => ?_) (fun c_296 => absurd c_296 (by decide))
  refine wp_aload (i := 11) dL_value_535 rfl ?_
  refine wp_iconst (nI 0) dL_value_537 (by decide) ?_
  refine wp_ialoadN 70 (nI 111) dL_value_538 W.1 W.2.1 (by decide) (by decide) ((W.2.2 0 (by decide)).trans (f0)) ?_
  refine wp_bipush (nI 118) dL_value_539 (by decide) ?_
  refine wp_icmp_neN 583 dL_value_541 (by decide) (by decide) (by decide) (fun c_541 => ?_) (fun c_541 => absurd c_541 (by decide))
  refine wp_aload (i := 11) dL_value_583 rfl ?_
  refine wp_iconst (nI 0) dL_value_585 (by decide) ?_
  refine wp_ialoadN 70 (nI 111) dL_value_586 W.1 W.2.1 (by decide) (by decide) ((W.2.2 0 (by decide)).trans (f0)) ?_
  refine wp_bipush (nI 111) dL_value_587 (by decide) ?_
  refine wp_icmp_neN 867 dL_value_589 (by decide) (by decide) (by decide) (fun c_589 => absurd c_589 (by decide)) (fun c_589 => ?_)
  refine wp_iload (i := 6) dL_value_592 rfl ?_
  refine wp_bipush (nI 12) dL_value_594 (by decide) ?_
  refine wp_icmp_leN 698 dL_value_596 (by decide) (by omega) (by decide) (fun c_596 => absurd c_596 (by omega)) (fun c_596 => ?_)
  refine wp_aload_n (i := 0) dL_value_599 rfl rfl ?_
  refine wp_bipush (nI 7) dL_value_600 (by decide) ?_
  refine wp_iload (i := 5) dL_value_602 rfl ?_
  refine wp_iconst (nI 0) dL_value_604 (by decide) ?_
  refine wp_iconst (nI 0) dL_value_605 (by decide) ?_
  refine wp_cSH (y' := m_L_deed) [vr (some (nm 40 0)), vi (nI 7), vi (nI k), vi (nI 0), vi (nI 0)] [] 20 400 dL_value_606 ml_L_191 st_L_deed okH_L_deed rfl (Nat.le_of_ble_eq_true rfl) rfl (Nat.le_of_ble_eq_true rfl) (d' := d - 1) (by omega) (by omega) (by omega) (e_makeLasting (k := k) hk1 B (by omega) C (by omega) (by omega) (by omega) (fun h1 M1 ma1 mb1 C1 F1 => cont_ret ?_))
  obtain ⟨V', eo, mo, em, rp, rp2, tk9⟩ := pv_lasting B.1 hk ht h60 hPk
  have k9 : VK V (o_lasting V (nI k) k).2.2 := k_lasting B.1 (ixk hk1 (by omega))
  have b9 : WB (o_lasting V (nI k) k).2.2 := b_lasting B.2.1 hm25
  rw [eo] at k9 b9
  have B' : PU (c + 1) V' n x R := B.v k9 b9 (by omega)
  rw [eo] at C1
  rw [show dA [-20001, -20004, -20003] (o_lasting V (nI k) k) = nI (sNv V) from by rw [eo]; rfl]
  have hmo := mo.1
  have H1 := H.fk F1
  have W1 := RWl.fk W F1 (by unfold nm; omega)
  refine wp_istore (i := 14) (lv' := [(14, vi (nI (sNv V))), (13, vi (nI pl)), (12, vi (nI (sSz V k))), (11, vr (some (nm 71 K))), (10, vi (nI (sNv V))), (8, vl (nI (sMd V)).toInt64), (7, vi e), (6, vi (nI w)), (5, vi (nI k)), (4, vr (some (nm 70 1))), (3, vr (some (nm 70 0))), (2, vi (nI i)), (1, vr (some nS)), (0, vr (some (nm 40 0)))]) dL_value_609 (by decide) rfl ?_
  refine wp_aload (i := 11) dL_value_611 rfl ?_
  refine wp_iconst (nI 0) dL_value_613 (by decide) ?_
  refine wp_bipush (nI 118) dL_value_614 (by decide) ?_
  refine wp_iastoreN 70 dL_value_616 W1.1 W1.2.1 (by decide) (by decide) ?_
  have W2w := RWn.w (n := 70) (k := 0) (z := (nI 118)) W1
  have H2w := H1.wr (k := 0) (z := (nI 118)) hKn (by omega)
  have C2w := C1.law (fun a ha => ce_w71 (h := _) (k := 0) (z := (nI 118)) (show a ≠ nm 71 K by unfold nm; omega))
  refine wp_aload_n (i := 3) dL_value_617 rfl rfl ?_
  refine wp_iload (i := 5) dL_value_618 rfl ?_
  refine wp_aaloadAN 60 (some (nm 71 (ro k))) dL_value_620 H2w.1.1 H2w.1.2 (by omega) (by decide) ((H2w.2.1 k hk).1) ?_
  refine wp_iconst (nI 0) dL_value_621 (by decide) ?_
  refine wp_bipush (nI 120) dL_value_622 (by decide) ?_
  refine wp_iastoreN 70 dL_value_624 (H2w.2.1 k hk).2.2.1 (H2w.2.1 k hk).2.2.2.1 (by decide) (by decide) ?_
  have H3w := H2w.wv (w := k) (k := 0) (z := (nI 120)) hk
  have C3w := C2w.law (fun a ha => ce_w71 (h := _) (k := 0) (z := (nI 120)) (show a ≠ nm 71 (ro k) by unfold nm; omega))
  have W3w := RWn.ce (n := 70) W2w (ce_w71 (k := 0) (z := (nI 120)) (show nm 71 K ≠ nm 71 (ro k) by have := hKn k hk; unfold nm; omega))
  refine wp_aload_n (i := 3) dL_value_625 rfl rfl ?_
  refine wp_iload (i := 5) dL_value_626 rfl ?_
  refine wp_aaloadAN 60 (some (nm 71 (ro k))) dL_value_628 H3w.1.1 H3w.1.2 (by omega) (by decide) ((H3w.2.1 k hk).1) ?_
  refine wp_iconst (nI 1) dL_value_629 (by decide) ?_
  refine wp_iconst (nI 0) dL_value_630 (by decide) ?_
  refine wp_iastoreN 70 dL_value_631 (H3w.2.1 k hk).2.2.1 (H3w.2.1 k hk).2.2.2.1 (by decide) (by decide) ?_
  have H4w := H3w.wv (w := k) (k := 1) (z := (nI 0)) hk
  have C4w := C3w.law (fun a ha => ce_w71 (h := _) (k := 1) (z := (nI 0)) (show a ≠ nm 71 (ro k) by unfold nm; omega))
  have W4w := RWn.ce (n := 70) W3w (ce_w71 (k := 1) (z := (nI 0)) (show nm 71 K ≠ nm 71 (ro k) by have := hKn k hk; unfold nm; omega))
  refine wp_aload_n (i := 3) dL_value_632 rfl rfl ?_
  refine wp_iload (i := 10) dL_value_633 rfl ?_
  refine wp_aload (i := 11) dL_value_635 rfl ?_
  refine wp_aastoreAN 60 dL_value_637 H4w.1.1 H4w.1.2 (by omega) (by decide) (W4w.1) ?_
  have H5p := H4w.put (r := some (nm 71 K))
  have C5p := C4w.law (fun a ha => ce_wR (k := sNv V) (r := some (nm 71 K)) (show a ≠ nm 70 0 by unfold nm; omega))
  have W5p := RWn.ce (n := 70) W4w (ce_wR (k := sNv V) (r := some (nm 71 K)) (show nm 71 K ≠ nm 70 0 by unfold nm; omega))
  refine wp_aload (i := 4) dL_value_638 rfl ?_
  refine wp_iconst (nI 0) dL_value_640 (by decide) ?_
  refine wp_dup2 dL_value_641 ?_
  refine wp_ialoadN 3 (nI (sNv V)) dL_value_642 H5p.2.2.2.1.1 H5p.2.2.2.1.2.1 (by decide) (by decide) (H5p.2.2.2.1.2.2.1) ?_
  refine wp_iconst (nI 1) dL_value_643 (by decide) ?_
  refine wp_iaddN dL_value_644 ?_
  refine wp_iastoreN 3 dL_value_645 H5p.2.2.2.1.1 H5p.2.2.2.1.2.1 (by decide) (by decide) ?_
  have H6w := H5p.inc (i := K) hKn (by omega) put_at W5p
  have C6w := C5p.law (fun a ha => ce_w70 (i := 1) (k := 0) (z := (nI ((sNv V) + 1))) (show a ≠ nm 70 1 by unfold nm; omega))
  have W6w := RWn.ce (n := 70) W5p (ce_w70 (i := 1) (k := 0) (z := (nI ((sNv V) + 1))) (show nm 71 K ≠ nm 70 1 by unfold nm; omega))
  refine wp_iload (i := 14) dL_value_646 rfl ?_
  refine wp_iload (i := 10) dL_value_648 rfl ?_
  refine wp_icmp_neN 696 dL_value_650 (by decide) (by omega) (by omega) (fun c_650 => absurd c_650 (by omega)) (fun c_650 => ?_)
  refine wp_aload_n (i := 0) dL_value_653 rfl rfl ?_
  refine wp_cV (y' := m_X11_made) 12 [] [] 0 0 dL_value_654 ml_L_187 im_X11_made se_X11_made (by decide) C6w.hk ok_X11_made rfl (Nat.le_of_ble_eq_true rfl) rfl (Nat.le_of_ble_eq_true rfl) (d' := d - 1) (by omega) (Nat.zero_le _) (Nat.zero_le _) (c_X11_made C6w.2.2 (cont_ret ?_))
  refine wp_lload (i := 8) dL_value_657 rfl ?_
  rw [em]
  refine wp_lcmp dL_value_659 ?_
  rw [lg_same]
  refine wp_if_ne 696 dL_value_660 (by decide) (fun c_660 => absurd c_660 (fun z => z rfl)) (fun c_660 => ?_)
  refine wp_aload_n (i := 0) dL_value_663 rfl rfl ?_
  refine wp_bipush (nI 7) dL_value_664 (by decide) ?_
  refine wp_iload (i := 5) dL_value_666 rfl ?_
  refine wp_iload (i := 10) dL_value_668 rfl ?_
  refine wp_cSH (y' := m_L_ask) [vr (some (nm 40 0)), vi (nI 7), vi (nI k), vi (nI (sNv V))] [] 6 40 dL_value_670 ml_L_184 st_L_ask okH_L_ask rfl (Nat.le_of_ble_eq_true rfl) rfl (Nat.le_of_ble_eq_true rfl) (d' := d - 1) (by omega) (by omega) (by omega) (q_areSame (k := k) hk1 (k2 := sNv V) (by omega) B' (by omega) C6w (by omega) (by omega) (by omega) (fun h7 M7 ma7 mb7 C7 F7 => cont_ret ?_))
  rw [r_areSame] at C7
  rw [(pv_lastX (V := V') (w := sNv V) tk9 (by omega) (by omega) B'.1.1).1]
  have H7 := H6w.fk F7
  have W7 := RWl.fk W6w F7 (by unfold nm; omega)
  refine wp_sipush (-20005) dL_value_673 (by decide) ?_
  refine wp_icmp_ne 696 dL_value_676 (by decide) (fun c_676 => absurd c_676 (fun z => z rfl)) (fun c_676 => ?_)
  refine wp_aload_n (i := 0) dL_value_679 rfl rfl ?_
  refine wp_bipush (nI 6) dL_value_680 (by decide) ?_
  refine wp_iload (i := 5) dL_value_682 rfl ?_
  refine wp_iload (i := 10) dL_value_684 rfl ?_
  refine wp_cSH (y' := m_L_ask) [vr (some (nm 40 0)), vi (nI 6), vi (nI k), vi (nI (sNv V))] [] 6 40 dL_value_686 ml_L_184 st_L_ask okH_L_ask rfl (Nat.le_of_ble_eq_true rfl) rfl (Nat.le_of_ble_eq_true rfl) (d' := d - 1) (by omega) (by omega) (by omega) (q_shared (k := k) hk1 (k2 := sNv V) (by omega) B' (by omega) C7 (by omega) (by omega) (by omega) (by omega) (fun h8 M8 ma8 mb8 C8 F8 => cont_ret ?_))
  rw [r_shared] at C8
  rw [an_shared (V := V') (by omega) (by omega) (by omega), (pv_lastX (V := V') (w := sNv V) tk9 (by omega) (by omega) B'.1.1).2]
  have H8 := H7.fk F8
  have W8 := RWl.fk W7 F8 (by unfold nm; omega)
  refine wp_if_neN 696 dL_value_689 (by decide) (by decide) (fun c_689 => absurd c_689 (by decide)) (fun c_689 => ?_)
  refine wp_iconst (nI 1) dL_value_692 (by decide) ?_
  refine wp_goto 697 dL_value_693 (by decide) ?_
  refine wp_zreturn dL_value_697 rfl (by decide) ?_
  refine hq _ _ V' (c + 1) _ _ (by omega) B' C8 (by omega) (by omega) (by rw [hmo]; exact H8) (fun v hv => ?_) (IN0.but hI0 hk ht mo.2)
  rw [va_up_app]
  by_cases e : v = sNv V
  · rw [if_pos e, e]; exact rp
  · rw [if_neg e, va_up_app]
    by_cases e2 : v = k
    · rw [if_pos e2, e2, va_up_self]; exact rp2
    · rw [if_neg e2, va_up_ne _ _ e2, mo.2 v (by omega) e2]; exact hP v (by omega)
set_option maxRecDepth 100000 in
set_option maxHeartbeats 4000000 in
theorem l_val_appO1 {G : GG} {d c n : Nat} {Q : Pst} {V : SV} {x : Nat → QIS} {R : RS} {k K J : Nat} {ro : Nat → Nat} {rf : Nat → Nat → Int32} {op : Nat → Bool} (B : PU c V n x R) (hc : c + 4 ≤ 512) (h60 : sNv V < 60) (hP : ∀ v, v < sNv V → RowP (vp V v) (rf v)) (hI0 : IN0 V) (hd : 40 ≤ d) (hL : slen G < 2 ^ 31) {h : Hp} {M bc bs : Nat} (hk : k < sNv V) (ht : sTy V k = 111) (C : CLS h V M n x R) (hM : M + 30 < 900000) (H : LWH h (sNv V) n (RS_rn R) ro rf (K + 1) J op) (hKn : ∀ v, v < sNv V → ro v ≠ K) (W : RWl h (nm 71 K) (rf k)) {e : Int32} (he : smE e) {pl : Nat} (hpl : pl < 20) {w i : Nat} (hw : w < 16) (hi : i + 100 < 2 ^ 31) (hbc : 120 ≤ bc) (hbs : 3000 ≤ bs) (hq : ∀ h' M' V' c' ro' rf', c' ≤ c + 4 → PU c' V' n x R → CLS h' V' M' n x R → M ≤ M' → M' ≤ M + 16 → LWH h' (sNv V') n (RS_rn R) ro' rf' (K + 1) J op → (∀ v, v < sNv V' → RowP (vp V' v) (rf' v)) → IN0 V' → Q (oRet (vi (nI 1))) h') (hw12 : w ≤ 12) (hw8 : w < 8) (hs : sSz V k < 64) : WP G m_L_value d 290 [(13, vi (nI pl)), (12, vi (nI (sSz V k))), (11, vr (some (nm 71 K))), (10, vi (nI (sNv V))), (8, vl (nI (sMd V)).toInt64), (7, vi e), (6, vi (nI w)), (5, vi (nI k)), (4, vr (some (nm 70 1))), (3, vr (some (nm 70 0))), (2, vi (nI i)), (1, vr (some nS)), (0, vr (some (nm 40 0)))] [] h bc bs Q := by
  have hn60 := B.1.1
  have hk1 : k < 2 ^ 31 := by omega
  have hz : sSz V k ≤ 64 := (B.1.2.1 k hk).2.1
  have hPk := hP k hk
  have f0 : rf k 0 = nI 111 := hPk.1.trans (congrArg nI ht)
  have f1 : rf k 1 = nI (sSz V k) := hPk.2.1
  have hmd := B.2.2.1
  have hm25 : sMd V + 25 ≤ 1000000 := by omega
  refine wp_aload (i := 11) dL_value_290 rfl ?_
  refine wp_iconst (nI 0) dL_value_292 (by decide) ?_
  refine wp_ialoadN 70 (nI 111) dL_value_293 W.1 W.2.1 (by decide) (by decide) ((W.2.2 0 (by decide)).trans (f0)) ?_
  refine wp_bipush (nI 118) dL_value_294 (by decide) ?_
  refine wp_icmp_neN 535 dL_value_296 (by decide) (by decide) (by decide) (fun c_296 => ?_) (fun c_296 => absurd c_296 (by decide))
  refine wp_aload (i := 11) dL_value_535 rfl ?_
  refine wp_iconst (nI 0) dL_value_537 (by decide) ?_
  refine wp_ialoadN 70 (nI 111) dL_value_538 W.1 W.2.1 (by decide) (by decide) ((W.2.2 0 (by decide)).trans (f0)) ?_
  refine wp_bipush (nI 118) dL_value_539 (by decide) ?_
  refine wp_icmp_neN 583 dL_value_541 (by decide) (by decide) (by decide) (fun c_541 => ?_) (fun c_541 => absurd c_541 (by decide))
  refine wp_aload (i := 11) dL_value_583 rfl ?_
  refine wp_iconst (nI 0) dL_value_585 (by decide) ?_
  refine wp_ialoadN 70 (nI 111) dL_value_586 W.1 W.2.1 (by decide) (by decide) ((W.2.2 0 (by decide)).trans (f0)) ?_
  refine wp_bipush (nI 111) dL_value_587 (by decide) ?_
  refine wp_icmp_neN 867 dL_value_589 (by decide) (by decide) (by decide) (fun c_589 => absurd c_589 (by decide)) (fun c_589 => ?_)
  refine wp_iload (i := 6) dL_value_592 rfl ?_
  refine wp_bipush (nI 12) dL_value_594 (by decide) ?_
  refine wp_icmp_leN 698 dL_value_596 (by decide) (by omega) (by decide) (fun c_596 => ?_) (fun c_596 => absurd c_596 (by omega))
  refine wp_iload (i := 6) dL_value_698 rfl ?_
  refine wp_bipush (nI 8) dL_value_700 (by decide) ?_
  refine wp_icmp_ltN 710 dL_value_702 (by decide) (by omega) (by decide) (fun c_702 => ?_) (fun c_702 => absurd c_702 (by omega))
  refine wp_iconst (nI 1) dL_value_710 (by decide) ?_
  refine wp_goto 715 dL_value_711 (by decide) ?_
  refine wp_istore (i := 16) (lv' := [(16, vi (nI 1)), (13, vi (nI pl)), (12, vi (nI (sSz V k))), (11, vr (some (nm 71 K))), (10, vi (nI (sNv V))), (8, vl (nI (sMd V)).toInt64), (7, vi e), (6, vi (nI w)), (5, vi (nI k)), (4, vr (some (nm 70 1))), (3, vr (some (nm 70 0))), (2, vi (nI i)), (1, vr (some nS)), (0, vr (some (nm 40 0)))]) dL_value_715 (by decide) rfl ?_
  refine wp_iload (i := 16) dL_value_717 rfl ?_
  refine wp_if_eqN 735 dL_value_719 (by decide) (by decide) (fun c_719 => absurd c_719 (by decide)) (fun c_719 => ?_)
  refine wp_aload_n (i := 0) dL_value_722 rfl rfl ?_
  refine wp_iconst (nI 5) dL_value_723 (by decide) ?_
  refine wp_iload (i := 5) dL_value_724 rfl ?_
  refine wp_iload (i := 7) dL_value_726 rfl ?_
  refine wp_iconst (nI 0) dL_value_728 (by decide) ?_
  refine wp_cSH (y' := m_L_deed) [vr (some (nm 40 0)), vi (nI 5), vi (nI k), vi e, vi (nI 0)] [] 20 400 dL_value_729 ml_L_191 st_L_deed okH_L_deed rfl (Nat.le_of_ble_eq_true rfl) rfl (Nat.le_of_ble_eq_true rfl) (d' := d - 1) (by omega) (by omega) (by omega) (e_appendTo (k := k) hk1 B (by omega) C (by omega) (by omega) (by omega) (fun h1 M1 ma1 mb1 C1 F1 => cont_ret ?_))
  obtain ⟨V', m9, eo, hm3, em, mo, tk9, rp⟩ := pv_appendTo B.1 hk ht hs he hPk
  have k9 : VK V (o_appendTo V (nI k) k e).2.2 := k_appendTo B.1 (ixk hk1 (by omega))
  have b9 : WB (o_appendTo V (nI k) k e).2.2 := b_appendTo B.2.1 hm25
  rw [eo] at k9 b9
  have B' : PU (c + 1) V' n x R := B.v k9 b9 (by omega)
  rw [eo] at C1
  rw [show dA [-20001, -20002, -20004] (o_appendTo V (nI k) k e) = nI m9 from by rw [eo]; rfl]
  have H1 := H.fk F1
  have W1 := RWl.fk W F1 (by unfold nm; omega)
  refine wp_goto 750 dL_value_732 (by decide) ?_
  refine wp_istore (i := 14) (lv' := [(14, vi (nI m9)), (16, vi (nI 1)), (13, vi (nI pl)), (12, vi (nI (sSz V k))), (11, vr (some (nm 71 K))), (10, vi (nI (sNv V))), (8, vl (nI (sMd V)).toInt64), (7, vi e), (6, vi (nI w)), (5, vi (nI k)), (4, vr (some (nm 70 1))), (3, vr (some (nm 70 0))), (2, vi (nI i)), (1, vr (some nS)), (0, vr (some (nm 40 0)))]) dL_value_750 (by decide) rfl ?_
  refine wp_iload (i := 16) dL_value_752 rfl ?_
  refine wp_if_eqN 778 dL_value_754 (by decide) (by decide) (fun c_754 => absurd c_754 (by decide)) (fun c_754 => ?_)
  refine wp_iload (i := 12) dL_value_757 rfl ?_
  refine wp_bipush (nI 64) dL_value_759 (by decide) ?_
  refine wp_icmp_neN 778 dL_value_761 (by decide) (by omega) (by decide) (fun c_761 => ?_) (fun c_761 => absurd c_761 (by omega))
  refine wp_aload_n (i := 3) dL_value_778 rfl rfl ?_
  refine wp_iload (i := 5) dL_value_779 rfl ?_
  refine wp_aaloadAN 60 (some (nm 71 (ro k))) dL_value_781 H1.1.1 H1.1.2 (by omega) (by decide) ((H1.2.1 k hk).1) ?_
  refine wp_iconst (nI 2) dL_value_782 (by decide) ?_
  refine wp_iload (i := 16) dL_value_783 rfl ?_
  refine wp_if_eqN 793 dL_value_785 (by decide) (by decide) (fun c_785 => absurd c_785 (by decide)) (fun c_785 => ?_)
  refine wp_iload (i := 12) dL_value_788 rfl ?_
  refine wp_goto 798 dL_value_790 (by decide) ?_
  refine wp_iaddN dL_value_798 ?_
  refine wp_iload (i := 7) dL_value_799 rfl ?_
  refine wp_iastoreN 70 dL_value_801 (H1.2.1 k hk).2.2.1 (H1.2.1 k hk).2.2.2.1 (by omega) (by decide) ?_
  have H2w := H1.wv (w := k) (k := 2 + (sSz V k)) (z := e) hk
  have C2w := C1.law (fun a ha => ce_w71 (h := _) (k := 2 + (sSz V k)) (z := e) (show a ≠ nm 71 (ro k) by unfold nm; omega))
  have W2w := RWn.ce (n := 70) W1 (ce_w71 (k := 2 + (sSz V k)) (z := e) (show nm 71 K ≠ nm 71 (ro k) by have := hKn k hk; unfold nm; omega))
  refine wp_aload_n (i := 3) dL_value_802 rfl rfl ?_
  refine wp_iload (i := 5) dL_value_803 rfl ?_
  refine wp_aaloadAN 60 (some (nm 71 (ro k))) dL_value_805 H2w.1.1 H2w.1.2 (by omega) (by decide) ((H2w.2.1 k hk).1) ?_
  refine wp_iconst (nI 1) dL_value_806 (by decide) ?_
  refine wp_dup2 dL_value_807 ?_
  refine wp_ialoadN 70 (nI (sSz V k)) dL_value_808 (H2w.2.1 k hk).2.2.1 (H2w.2.1 k hk).2.2.2.1 (by decide) (by decide) (((H2w.2.1 k hk).2.2.2.2 1 (by decide)).trans (by rw [va_up_self, el_up, if_neg (by omega)]; exact f1)) ?_
  refine wp_iload (i := 16) dL_value_809 rfl ?_
  refine wp_if_eqN 818 dL_value_811 (by decide) (by decide) (fun c_811 => absurd c_811 (by decide)) (fun c_811 => ?_)
  refine wp_iconst (nI 1) dL_value_814 (by decide) ?_
  refine wp_goto 819 dL_value_815 (by decide) ?_
  refine wp_iaddN dL_value_819 ?_
  refine wp_iastoreN 70 dL_value_820 (H2w.2.1 k hk).2.2.1 (H2w.2.1 k hk).2.2.2.1 (by decide) (by decide) ?_
  have H3w := H2w.wv (w := k) (k := 1) (z := (nI ((sSz V k) + 1))) hk
  have C3w := C2w.law (fun a ha => ce_w71 (h := _) (k := 1) (z := (nI ((sSz V k) + 1))) (show a ≠ nm 71 (ro k) by unfold nm; omega))
  have W3w := RWn.ce (n := 70) W2w (ce_w71 (k := 1) (z := (nI ((sSz V k) + 1))) (show nm 71 K ≠ nm 71 (ro k) by have := hKn k hk; unfold nm; omega))
  refine wp_iload (i := 14) dL_value_821 rfl ?_
  refine wp_if_ltN 865 dL_value_823 (by decide) (by omega) (fun c_823 => absurd c_823 (id)) (fun c_823 => ?_)
  refine wp_iload (i := 14) dL_value_826 rfl ?_
  refine wp_iconst (nI 3) dL_value_828 (by decide) ?_
  refine wp_icmp_gtN 865 dL_value_829 (by decide) (by omega) (by decide) (fun c_829 => absurd c_829 (by omega)) (fun c_829 => ?_)
  refine wp_aload_n (i := 0) dL_value_832 rfl rfl ?_
  refine wp_cV (y' := m_X11_made) 12 [] [] 0 0 dL_value_833 ml_L_187 im_X11_made se_X11_made (by decide) C3w.hk ok_X11_made rfl (Nat.le_of_ble_eq_true rfl) rfl (Nat.le_of_ble_eq_true rfl) (d' := d - 1) (by omega) (Nat.zero_le _) (Nat.zero_le _) (c_X11_made C3w.2.2 (cont_ret ?_))
  refine wp_lload (i := 8) dL_value_836 rfl ?_
  refine wp_iload (i := 14) dL_value_838 rfl ?_
  refine wp_i2l dL_value_840 ?_
  refine wp_ladd dL_value_841 ?_
  rw [l64_add (by omega), em]
  refine wp_lcmp dL_value_842 ?_
  rw [lg_same]
  refine wp_if_ne 865 dL_value_843 (by decide) (fun c_843 => absurd c_843 (fun z => z rfl)) (fun c_843 => ?_)
  refine wp_aload_n (i := 0) dL_value_846 rfl rfl ?_
  refine wp_iconst (nI 1) dL_value_847 (by decide) ?_
  refine wp_iload (i := 5) dL_value_848 rfl ?_
  refine wp_iconst (nI 0) dL_value_850 (by decide) ?_
  refine wp_iconst (nI 0) dL_value_851 (by decide) ?_
  refine wp_cSH (y' := m_L_deed) [vr (some (nm 40 0)), vi (nI 1), vi (nI k), vi (nI 0), vi (nI 0)] [] 20 400 dL_value_852 ml_L_191 st_L_deed okH_L_deed rfl (Nat.le_of_ble_eq_true rfl) rfl (Nat.le_of_ble_eq_true rfl) (d' := d - 1) (by omega) (by omega) (by omega) (e_append (k := k) hk1 B' (by omega) C3w (by omega) (by omega) (by omega) (fun h4 M4 ma4 mb4 C4 F4 => cont_ret ?_))
  rw [pv_appendD (V := V') (k := k) (by rw [mo.1]; exact hk) B'.1.1 tk9] at C4
  rw [show dA [-20001, -20002, -20004, -20003] (o_append V' (nI k) k (nI 0)) = -20004 from by rw [pv_appendD (V := V') (k := k) (by rw [mo.1]; exact hk) B'.1.1 tk9]; rfl]
  have H4 := H3w.fk F4
  have W4 := RWl.fk W3w F4 (by unfold nm; omega)
  refine wp_sipush (-20004) dL_value_855 (by decide) ?_
  refine wp_icmp_ne 865 dL_value_858 (by decide) (fun c_858 => absurd c_858 (fun z => z rfl)) (fun c_858 => ?_)
  refine wp_iconst (nI 1) dL_value_861 (by decide) ?_
  refine wp_goto 866 dL_value_862 (by decide) ?_
  refine wp_zreturn dL_value_866 rfl (by decide) ?_
  refine hq _ _ V' (c + 1) ro _ (by omega) B' C4 (by omega) (by omega) (by rw [mo.1]; exact H4) (fun v hv => ?_) (IN0.but hI0 hk ht (fun v _ e => mo.2 v e))
  rw [va_up_app]
  by_cases e2 : v = k
  · rw [if_pos e2, e2, va_up_self]; exact rp
  · rw [if_neg e2, va_up_ne _ _ e2, mo.2 v e2]; exact hP v (by rw [← mo.1]; exact hv)
set_option maxRecDepth 100000 in
set_option maxHeartbeats 4000000 in
theorem l_val_appO2 {G : GG} {d c n : Nat} {Q : Pst} {V : SV} {x : Nat → QIS} {R : RS} {k K J : Nat} {ro : Nat → Nat} {rf : Nat → Nat → Int32} {op : Nat → Bool} (B : PU c V n x R) (hc : c + 4 ≤ 512) (h60 : sNv V < 60) (hP : ∀ v, v < sNv V → RowP (vp V v) (rf v)) (hI0 : IN0 V) (hd : 40 ≤ d) (hL : slen G < 2 ^ 31) {h : Hp} {M bc bs : Nat} (hk : k < sNv V) (ht : sTy V k = 111) (C : CLS h V M n x R) (hM : M + 30 < 900000) (H : LWH h (sNv V) n (RS_rn R) ro rf (K + 1) J op) (hKn : ∀ v, v < sNv V → ro v ≠ K) (W : RWl h (nm 71 K) (rf k)) {e : Int32} (he : smE e) {pl : Nat} (hpl : pl < 20) {w i : Nat} (hw : w < 16) (hi : i + 100 < 2 ^ 31) (hbc : 120 ≤ bc) (hbs : 3000 ≤ bs) (hq : ∀ h' M' V' c' ro' rf', c' ≤ c + 4 → PU c' V' n x R → CLS h' V' M' n x R → M ≤ M' → M' ≤ M + 16 → LWH h' (sNv V') n (RS_rn R) ro' rf' (K + 1) J op → (∀ v, v < sNv V' → RowP (vp V' v) (rf' v)) → IN0 V' → Q (oRet (vi (nI 1))) h') (hw12 : w ≤ 12) (hw8 : 8 ≤ w) (hs0 : sSz V k = 0) (hs : sSz V k < 64) : WP G m_L_value d 290 [(13, vi (nI pl)), (12, vi (nI (sSz V k))), (11, vr (some (nm 71 K))), (10, vi (nI (sNv V))), (8, vl (nI (sMd V)).toInt64), (7, vi e), (6, vi (nI w)), (5, vi (nI k)), (4, vr (some (nm 70 1))), (3, vr (some (nm 70 0))), (2, vi (nI i)), (1, vr (some nS)), (0, vr (some (nm 40 0)))] [] h bc bs Q := by
  have hn60 := B.1.1
  have hk1 : k < 2 ^ 31 := by omega
  have hz : sSz V k ≤ 64 := (B.1.2.1 k hk).2.1
  have hPk := hP k hk
  have f0 : rf k 0 = nI 111 := hPk.1.trans (congrArg nI ht)
  have f1 : rf k 1 = nI (sSz V k) := hPk.2.1
  have hmd := B.2.2.1
  have hm25 : sMd V + 25 ≤ 1000000 := by omega
  refine wp_aload (i := 11) dL_value_290 rfl ?_
  refine wp_iconst (nI 0) dL_value_292 (by decide) ?_
  refine wp_ialoadN 70 (nI 111) dL_value_293 W.1 W.2.1 (by decide) (by decide) ((W.2.2 0 (by decide)).trans (f0)) ?_
  refine wp_bipush (nI 118) dL_value_294 (by decide) ?_
  refine wp_icmp_neN 535 dL_value_296 (by decide) (by decide) (by decide) (fun c_296 => ?_) (fun c_296 => absurd c_296 (by decide))
  refine wp_aload (i := 11) dL_value_535 rfl ?_
  refine wp_iconst (nI 0) dL_value_537 (by decide) ?_
  refine wp_ialoadN 70 (nI 111) dL_value_538 W.1 W.2.1 (by decide) (by decide) ((W.2.2 0 (by decide)).trans (f0)) ?_
  refine wp_bipush (nI 118) dL_value_539 (by decide) ?_
  refine wp_icmp_neN 583 dL_value_541 (by decide) (by decide) (by decide) (fun c_541 => ?_) (fun c_541 => absurd c_541 (by decide))
  refine wp_aload (i := 11) dL_value_583 rfl ?_
  refine wp_iconst (nI 0) dL_value_585 (by decide) ?_
  refine wp_ialoadN 70 (nI 111) dL_value_586 W.1 W.2.1 (by decide) (by decide) ((W.2.2 0 (by decide)).trans (f0)) ?_
  refine wp_bipush (nI 111) dL_value_587 (by decide) ?_
  refine wp_icmp_neN 867 dL_value_589 (by decide) (by decide) (by decide) (fun c_589 => absurd c_589 (by decide)) (fun c_589 => ?_)
  refine wp_iload (i := 6) dL_value_592 rfl ?_
  refine wp_bipush (nI 12) dL_value_594 (by decide) ?_
  refine wp_icmp_leN 698 dL_value_596 (by decide) (by omega) (by decide) (fun c_596 => ?_) (fun c_596 => absurd c_596 (by omega))
  refine wp_iload (i := 6) dL_value_698 rfl ?_
  refine wp_bipush (nI 8) dL_value_700 (by decide) ?_
  refine wp_icmp_ltN 710 dL_value_702 (by decide) (by omega) (by decide) (fun c_702 => absurd c_702 (by omega)) (fun c_702 => ?_)
  refine wp_iload (i := 12) dL_value_705 rfl ?_
  refine wp_if_neN 714 dL_value_707 (by decide) (by omega) (fun c_707 => absurd c_707 (by omega)) (fun c_707 => ?_)
  refine wp_iconst (nI 1) dL_value_710 (by decide) ?_
  refine wp_goto 715 dL_value_711 (by decide) ?_
  refine wp_istore (i := 16) (lv' := [(16, vi (nI 1)), (13, vi (nI pl)), (12, vi (nI (sSz V k))), (11, vr (some (nm 71 K))), (10, vi (nI (sNv V))), (8, vl (nI (sMd V)).toInt64), (7, vi e), (6, vi (nI w)), (5, vi (nI k)), (4, vr (some (nm 70 1))), (3, vr (some (nm 70 0))), (2, vi (nI i)), (1, vr (some nS)), (0, vr (some (nm 40 0)))]) dL_value_715 (by decide) rfl ?_
  refine wp_iload (i := 16) dL_value_717 rfl ?_
  refine wp_if_eqN 735 dL_value_719 (by decide) (by decide) (fun c_719 => absurd c_719 (by decide)) (fun c_719 => ?_)
  refine wp_aload_n (i := 0) dL_value_722 rfl rfl ?_
  refine wp_iconst (nI 5) dL_value_723 (by decide) ?_
  refine wp_iload (i := 5) dL_value_724 rfl ?_
  refine wp_iload (i := 7) dL_value_726 rfl ?_
  refine wp_iconst (nI 0) dL_value_728 (by decide) ?_
  refine wp_cSH (y' := m_L_deed) [vr (some (nm 40 0)), vi (nI 5), vi (nI k), vi e, vi (nI 0)] [] 20 400 dL_value_729 ml_L_191 st_L_deed okH_L_deed rfl (Nat.le_of_ble_eq_true rfl) rfl (Nat.le_of_ble_eq_true rfl) (d' := d - 1) (by omega) (by omega) (by omega) (e_appendTo (k := k) hk1 B (by omega) C (by omega) (by omega) (by omega) (fun h1 M1 ma1 mb1 C1 F1 => cont_ret ?_))
  obtain ⟨V', m9, eo, hm3, em, mo, tk9, rp⟩ := pv_appendTo B.1 hk ht hs he hPk
  have k9 : VK V (o_appendTo V (nI k) k e).2.2 := k_appendTo B.1 (ixk hk1 (by omega))
  have b9 : WB (o_appendTo V (nI k) k e).2.2 := b_appendTo B.2.1 hm25
  rw [eo] at k9 b9
  have B' : PU (c + 1) V' n x R := B.v k9 b9 (by omega)
  rw [eo] at C1
  rw [show dA [-20001, -20002, -20004] (o_appendTo V (nI k) k e) = nI m9 from by rw [eo]; rfl]
  have H1 := H.fk F1
  have W1 := RWl.fk W F1 (by unfold nm; omega)
  refine wp_goto 750 dL_value_732 (by decide) ?_
  refine wp_istore (i := 14) (lv' := [(14, vi (nI m9)), (16, vi (nI 1)), (13, vi (nI pl)), (12, vi (nI (sSz V k))), (11, vr (some (nm 71 K))), (10, vi (nI (sNv V))), (8, vl (nI (sMd V)).toInt64), (7, vi e), (6, vi (nI w)), (5, vi (nI k)), (4, vr (some (nm 70 1))), (3, vr (some (nm 70 0))), (2, vi (nI i)), (1, vr (some nS)), (0, vr (some (nm 40 0)))]) dL_value_750 (by decide) rfl ?_
  refine wp_iload (i := 16) dL_value_752 rfl ?_
  refine wp_if_eqN 778 dL_value_754 (by decide) (by decide) (fun c_754 => absurd c_754 (by decide)) (fun c_754 => ?_)
  refine wp_iload (i := 12) dL_value_757 rfl ?_
  refine wp_bipush (nI 64) dL_value_759 (by decide) ?_
  refine wp_icmp_neN 778 dL_value_761 (by decide) (by omega) (by decide) (fun c_761 => ?_) (fun c_761 => absurd c_761 (by omega))
  refine wp_aload_n (i := 3) dL_value_778 rfl rfl ?_
  refine wp_iload (i := 5) dL_value_779 rfl ?_
  refine wp_aaloadAN 60 (some (nm 71 (ro k))) dL_value_781 H1.1.1 H1.1.2 (by omega) (by decide) ((H1.2.1 k hk).1) ?_
  refine wp_iconst (nI 2) dL_value_782 (by decide) ?_
  refine wp_iload (i := 16) dL_value_783 rfl ?_
  refine wp_if_eqN 793 dL_value_785 (by decide) (by decide) (fun c_785 => absurd c_785 (by decide)) (fun c_785 => ?_)
  refine wp_iload (i := 12) dL_value_788 rfl ?_
  refine wp_goto 798 dL_value_790 (by decide) ?_
  refine wp_iaddN dL_value_798 ?_
  refine wp_iload (i := 7) dL_value_799 rfl ?_
  refine wp_iastoreN 70 dL_value_801 (H1.2.1 k hk).2.2.1 (H1.2.1 k hk).2.2.2.1 (by omega) (by decide) ?_
  have H2w := H1.wv (w := k) (k := 2 + (sSz V k)) (z := e) hk
  have C2w := C1.law (fun a ha => ce_w71 (h := _) (k := 2 + (sSz V k)) (z := e) (show a ≠ nm 71 (ro k) by unfold nm; omega))
  have W2w := RWn.ce (n := 70) W1 (ce_w71 (k := 2 + (sSz V k)) (z := e) (show nm 71 K ≠ nm 71 (ro k) by have := hKn k hk; unfold nm; omega))
  refine wp_aload_n (i := 3) dL_value_802 rfl rfl ?_
  refine wp_iload (i := 5) dL_value_803 rfl ?_
  refine wp_aaloadAN 60 (some (nm 71 (ro k))) dL_value_805 H2w.1.1 H2w.1.2 (by omega) (by decide) ((H2w.2.1 k hk).1) ?_
  refine wp_iconst (nI 1) dL_value_806 (by decide) ?_
  refine wp_dup2 dL_value_807 ?_
  refine wp_ialoadN 70 (nI (sSz V k)) dL_value_808 (H2w.2.1 k hk).2.2.1 (H2w.2.1 k hk).2.2.2.1 (by decide) (by decide) (((H2w.2.1 k hk).2.2.2.2 1 (by decide)).trans (by rw [va_up_self, el_up, if_neg (by omega)]; exact f1)) ?_
  refine wp_iload (i := 16) dL_value_809 rfl ?_
  refine wp_if_eqN 818 dL_value_811 (by decide) (by decide) (fun c_811 => absurd c_811 (by decide)) (fun c_811 => ?_)
  refine wp_iconst (nI 1) dL_value_814 (by decide) ?_
  refine wp_goto 819 dL_value_815 (by decide) ?_
  refine wp_iaddN dL_value_819 ?_
  refine wp_iastoreN 70 dL_value_820 (H2w.2.1 k hk).2.2.1 (H2w.2.1 k hk).2.2.2.1 (by decide) (by decide) ?_
  have H3w := H2w.wv (w := k) (k := 1) (z := (nI ((sSz V k) + 1))) hk
  have C3w := C2w.law (fun a ha => ce_w71 (h := _) (k := 1) (z := (nI ((sSz V k) + 1))) (show a ≠ nm 71 (ro k) by unfold nm; omega))
  have W3w := RWn.ce (n := 70) W2w (ce_w71 (k := 1) (z := (nI ((sSz V k) + 1))) (show nm 71 K ≠ nm 71 (ro k) by have := hKn k hk; unfold nm; omega))
  refine wp_iload (i := 14) dL_value_821 rfl ?_
  refine wp_if_ltN 865 dL_value_823 (by decide) (by omega) (fun c_823 => absurd c_823 (id)) (fun c_823 => ?_)
  refine wp_iload (i := 14) dL_value_826 rfl ?_
  refine wp_iconst (nI 3) dL_value_828 (by decide) ?_
  refine wp_icmp_gtN 865 dL_value_829 (by decide) (by omega) (by decide) (fun c_829 => absurd c_829 (by omega)) (fun c_829 => ?_)
  refine wp_aload_n (i := 0) dL_value_832 rfl rfl ?_
  refine wp_cV (y' := m_X11_made) 12 [] [] 0 0 dL_value_833 ml_L_187 im_X11_made se_X11_made (by decide) C3w.hk ok_X11_made rfl (Nat.le_of_ble_eq_true rfl) rfl (Nat.le_of_ble_eq_true rfl) (d' := d - 1) (by omega) (Nat.zero_le _) (Nat.zero_le _) (c_X11_made C3w.2.2 (cont_ret ?_))
  refine wp_lload (i := 8) dL_value_836 rfl ?_
  refine wp_iload (i := 14) dL_value_838 rfl ?_
  refine wp_i2l dL_value_840 ?_
  refine wp_ladd dL_value_841 ?_
  rw [l64_add (by omega), em]
  refine wp_lcmp dL_value_842 ?_
  rw [lg_same]
  refine wp_if_ne 865 dL_value_843 (by decide) (fun c_843 => absurd c_843 (fun z => z rfl)) (fun c_843 => ?_)
  refine wp_aload_n (i := 0) dL_value_846 rfl rfl ?_
  refine wp_iconst (nI 1) dL_value_847 (by decide) ?_
  refine wp_iload (i := 5) dL_value_848 rfl ?_
  refine wp_iconst (nI 0) dL_value_850 (by decide) ?_
  refine wp_iconst (nI 0) dL_value_851 (by decide) ?_
  refine wp_cSH (y' := m_L_deed) [vr (some (nm 40 0)), vi (nI 1), vi (nI k), vi (nI 0), vi (nI 0)] [] 20 400 dL_value_852 ml_L_191 st_L_deed okH_L_deed rfl (Nat.le_of_ble_eq_true rfl) rfl (Nat.le_of_ble_eq_true rfl) (d' := d - 1) (by omega) (by omega) (by omega) (e_append (k := k) hk1 B' (by omega) C3w (by omega) (by omega) (by omega) (fun h4 M4 ma4 mb4 C4 F4 => cont_ret ?_))
  rw [pv_appendD (V := V') (k := k) (by rw [mo.1]; exact hk) B'.1.1 tk9] at C4
  rw [show dA [-20001, -20002, -20004, -20003] (o_append V' (nI k) k (nI 0)) = -20004 from by rw [pv_appendD (V := V') (k := k) (by rw [mo.1]; exact hk) B'.1.1 tk9]; rfl]
  have H4 := H3w.fk F4
  have W4 := RWl.fk W3w F4 (by unfold nm; omega)
  refine wp_sipush (-20004) dL_value_855 (by decide) ?_
  refine wp_icmp_ne 865 dL_value_858 (by decide) (fun c_858 => absurd c_858 (fun z => z rfl)) (fun c_858 => ?_)
  refine wp_iconst (nI 1) dL_value_861 (by decide) ?_
  refine wp_goto 866 dL_value_862 (by decide) ?_
  refine wp_zreturn dL_value_866 rfl (by decide) ?_
  refine hq _ _ V' (c + 1) ro _ (by omega) B' C4 (by omega) (by omega) (by rw [mo.1]; exact H4) (fun v hv => ?_) (IN0.but hI0 hk ht (fun v _ e => mo.2 v e))
  rw [va_up_app]
  by_cases e2 : v = k
  · rw [if_pos e2, e2, va_up_self]; exact rp
  · rw [if_neg e2, va_up_ne _ _ e2, mo.2 v e2]; exact hP v (by rw [← mo.1]; exact hv)
set_option maxRecDepth 100000 in
set_option maxHeartbeats 4000000 in
theorem l_val_appON {G : GG} {d c n : Nat} {Q : Pst} {V : SV} {x : Nat → QIS} {R : RS} {k K J : Nat} {ro : Nat → Nat} {rf : Nat → Nat → Int32} {op : Nat → Bool} (B : PU c V n x R) (hc : c + 4 ≤ 512) (h60 : sNv V < 60) (hP : ∀ v, v < sNv V → RowP (vp V v) (rf v)) (hI0 : IN0 V) (hd : 40 ≤ d) (hL : slen G < 2 ^ 31) {h : Hp} {M bc bs : Nat} (hk : k < sNv V) (ht : sTy V k = 111) (C : CLS h V M n x R) (hM : M + 30 < 900000) (H : LWH h (sNv V) n (RS_rn R) ro rf (K + 1) J op) (hKn : ∀ v, v < sNv V → ro v ≠ K) (W : RWl h (nm 71 K) (rf k)) {e : Int32} (he : smE e) {pl : Nat} (hpl : pl < 20) {w i : Nat} (hw : w < 16) (hi : i + 100 < 2 ^ 31) (hbc : 120 ≤ bc) (hbs : 3000 ≤ bs) (hq : ∀ h' M' V' c' ro' rf', c' ≤ c + 4 → PU c' V' n x R → CLS h' V' M' n x R → M ≤ M' → M' ≤ M + 16 → LWH h' (sNv V') n (RS_rn R) ro' rf' (K + 1) J op → (∀ v, v < sNv V' → RowP (vp V' v) (rf' v)) → IN0 V' → Q (oRet (vi (nI 1))) h') (hw12 : w ≤ 12) (hw8 : w < 8) (hs : sSz V k = 64) : WP G m_L_value d 290 [(13, vi (nI pl)), (12, vi (nI (sSz V k))), (11, vr (some (nm 71 K))), (10, vi (nI (sNv V))), (8, vl (nI (sMd V)).toInt64), (7, vi e), (6, vi (nI w)), (5, vi (nI k)), (4, vr (some (nm 70 1))), (3, vr (some (nm 70 0))), (2, vi (nI i)), (1, vr (some nS)), (0, vr (some (nm 40 0)))] [] h bc bs Q := by
  have hn60 := B.1.1
  have hk1 : k < 2 ^ 31 := by omega
  have hz : sSz V k ≤ 64 := (B.1.2.1 k hk).2.1
  have hPk := hP k hk
  have f0 : rf k 0 = nI 111 := hPk.1.trans (congrArg nI ht)
  have f1 : rf k 1 = nI (sSz V k) := hPk.2.1
  have hmd := B.2.2.1
  have hm25 : sMd V + 25 ≤ 1000000 := by omega
  refine wp_aload (i := 11) dL_value_290 rfl ?_
  refine wp_iconst (nI 0) dL_value_292 (by decide) ?_
  refine wp_ialoadN 70 (nI 111) dL_value_293 W.1 W.2.1 (by decide) (by decide) ((W.2.2 0 (by decide)).trans (f0)) ?_
  refine wp_bipush (nI 118) dL_value_294 (by decide) ?_
  refine wp_icmp_neN 535 dL_value_296 (by decide) (by decide) (by decide) (fun c_296 => ?_) (fun c_296 => absurd c_296 (by decide))
  refine wp_aload (i := 11) dL_value_535 rfl ?_
  refine wp_iconst (nI 0) dL_value_537 (by decide) ?_
  refine wp_ialoadN 70 (nI 111) dL_value_538 W.1 W.2.1 (by decide) (by decide) ((W.2.2 0 (by decide)).trans (f0)) ?_
  refine wp_bipush (nI 118) dL_value_539 (by decide) ?_
  refine wp_icmp_neN 583 dL_value_541 (by decide) (by decide) (by decide) (fun c_541 => ?_) (fun c_541 => absurd c_541 (by decide))
  refine wp_aload (i := 11) dL_value_583 rfl ?_
  refine wp_iconst (nI 0) dL_value_585 (by decide) ?_
  refine wp_ialoadN 70 (nI 111) dL_value_586 W.1 W.2.1 (by decide) (by decide) ((W.2.2 0 (by decide)).trans (f0)) ?_
  refine wp_bipush (nI 111) dL_value_587 (by decide) ?_
  refine wp_icmp_neN 867 dL_value_589 (by decide) (by decide) (by decide) (fun c_589 => absurd c_589 (by decide)) (fun c_589 => ?_)
  refine wp_iload (i := 6) dL_value_592 rfl ?_
  refine wp_bipush (nI 12) dL_value_594 (by decide) ?_
  refine wp_icmp_leN 698 dL_value_596 (by decide) (by omega) (by decide) (fun c_596 => ?_) (fun c_596 => absurd c_596 (by omega))
  refine wp_iload (i := 6) dL_value_698 rfl ?_
  refine wp_bipush (nI 8) dL_value_700 (by decide) ?_
  refine wp_icmp_ltN 710 dL_value_702 (by decide) (by omega) (by decide) (fun c_702 => ?_) (fun c_702 => absurd c_702 (by omega))
  refine wp_iconst (nI 1) dL_value_710 (by decide) ?_
  refine wp_goto 715 dL_value_711 (by decide) ?_
  refine wp_istore (i := 16) (lv' := [(16, vi (nI 1)), (13, vi (nI pl)), (12, vi (nI (sSz V k))), (11, vr (some (nm 71 K))), (10, vi (nI (sNv V))), (8, vl (nI (sMd V)).toInt64), (7, vi e), (6, vi (nI w)), (5, vi (nI k)), (4, vr (some (nm 70 1))), (3, vr (some (nm 70 0))), (2, vi (nI i)), (1, vr (some nS)), (0, vr (some (nm 40 0)))]) dL_value_715 (by decide) rfl ?_
  refine wp_iload (i := 16) dL_value_717 rfl ?_
  refine wp_if_eqN 735 dL_value_719 (by decide) (by decide) (fun c_719 => absurd c_719 (by decide)) (fun c_719 => ?_)
  refine wp_aload_n (i := 0) dL_value_722 rfl rfl ?_
  refine wp_iconst (nI 5) dL_value_723 (by decide) ?_
  refine wp_iload (i := 5) dL_value_724 rfl ?_
  refine wp_iload (i := 7) dL_value_726 rfl ?_
  refine wp_iconst (nI 0) dL_value_728 (by decide) ?_
  refine wp_cSH (y' := m_L_deed) [vr (some (nm 40 0)), vi (nI 5), vi (nI k), vi e, vi (nI 0)] [] 20 400 dL_value_729 ml_L_191 st_L_deed okH_L_deed rfl (Nat.le_of_ble_eq_true rfl) rfl (Nat.le_of_ble_eq_true rfl) (d' := d - 1) (by omega) (by omega) (by omega) (e_appendTo (k := k) hk1 B (by omega) C (by omega) (by omega) (by omega) (fun h1 M1 ma1 mb1 C1 F1 => cont_ret ?_))
  rw [pv_appendToN hk (by omega) hs he] at C1
  rw [show dA [-20001, -20002, -20004] (o_appendTo V (nI k) k e) = -20004 from by rw [pv_appendToN hk (by omega) hs he]; rfl]
  have H1 := H.fk F1
  have W1 := RWl.fk W F1 (by unfold nm; omega)
  refine wp_goto 750 dL_value_732 (by decide) ?_
  refine wp_istore (i := 14) (lv' := [(14, vi (-20004)), (16, vi (nI 1)), (13, vi (nI pl)), (12, vi (nI (sSz V k))), (11, vr (some (nm 71 K))), (10, vi (nI (sNv V))), (8, vl (nI (sMd V)).toInt64), (7, vi e), (6, vi (nI w)), (5, vi (nI k)), (4, vr (some (nm 70 1))), (3, vr (some (nm 70 0))), (2, vi (nI i)), (1, vr (some nS)), (0, vr (some (nm 40 0)))]) dL_value_750 (by decide) rfl ?_
  refine wp_iload (i := 16) dL_value_752 rfl ?_
  refine wp_if_eqN 778 dL_value_754 (by decide) (by decide) (fun c_754 => absurd c_754 (by decide)) (fun c_754 => ?_)
  refine wp_iload (i := 12) dL_value_757 rfl ?_
  refine wp_bipush (nI 64) dL_value_759 (by decide) ?_
  refine wp_icmp_neN 778 dL_value_761 (by decide) (by omega) (by decide) (fun c_761 => absurd c_761 (by omega)) (fun c_761 => ?_)
  refine wp_iload (i := 14) dL_value_764 rfl ?_
  refine wp_sipush (-20004) dL_value_766 (by decide) ?_
  refine wp_icmp_ne 776 dL_value_769 (by decide) (fun c_769 => absurd c_769 (fun z => z rfl)) (fun c_769 => ?_)
  refine wp_iconst (nI 1) dL_value_772 (by decide) ?_
  refine wp_goto 777 dL_value_773 (by decide) ?_
  refine wp_zreturn dL_value_777 rfl (by decide) ?_
  exact hq _ _ V c ro rf (by omega) B C1 (by omega) (by omega) H1 hP hI0
set_option maxRecDepth 100000 in
set_option maxHeartbeats 4000000 in
theorem l_val_setO {G : GG} {d c n : Nat} {Q : Pst} {V : SV} {x : Nat → QIS} {R : RS} {k K J : Nat} {ro : Nat → Nat} {rf : Nat → Nat → Int32} {op : Nat → Bool} (B : PU c V n x R) (hc : c + 4 ≤ 512) (h60 : sNv V < 60) (hP : ∀ v, v < sNv V → RowP (vp V v) (rf v)) (hI0 : IN0 V) (hd : 40 ≤ d) (hL : slen G < 2 ^ 31) {h : Hp} {M bc bs : Nat} (hk : k < sNv V) (ht : sTy V k = 111) (C : CLS h V M n x R) (hM : M + 30 < 900000) (H : LWH h (sNv V) n (RS_rn R) ro rf (K + 1) J op) (hKn : ∀ v, v < sNv V → ro v ≠ K) (W : RWl h (nm 71 K) (rf k)) {e : Int32} (he : smE e) {pl : Nat} (hpl : pl < 20) {w i : Nat} (hw : w < 16) (hi : i + 100 < 2 ^ 31) (hbc : 120 ≤ bc) (hbs : 3000 ≤ bs) (hq : ∀ h' M' V' c' ro' rf', c' ≤ c + 4 → PU c' V' n x R → CLS h' V' M' n x R → M ≤ M' → M' ≤ M + 16 → LWH h' (sNv V') n (RS_rn R) ro' rf' (K + 1) J op → (∀ v, v < sNv V' → RowP (vp V' v) (rf' v)) → IN0 V' → Q (oRet (vi (nI 1))) h') (hw12 : w ≤ 12) (hw8 : 8 ≤ w) (hs : 0 < sSz V k) : WP G m_L_value d 290 [(13, vi (nI pl)), (12, vi (nI (sSz V k))), (11, vr (some (nm 71 K))), (10, vi (nI (sNv V))), (8, vl (nI (sMd V)).toInt64), (7, vi e), (6, vi (nI w)), (5, vi (nI k)), (4, vr (some (nm 70 1))), (3, vr (some (nm 70 0))), (2, vi (nI i)), (1, vr (some nS)), (0, vr (some (nm 40 0)))] [] h bc bs Q := by
  have hn60 := B.1.1
  have hk1 : k < 2 ^ 31 := by omega
  have hz : sSz V k ≤ 64 := (B.1.2.1 k hk).2.1
  have hPk := hP k hk
  have f0 : rf k 0 = nI 111 := hPk.1.trans (congrArg nI ht)
  have f1 : rf k 1 = nI (sSz V k) := hPk.2.1
  have hmd := B.2.2.1
  have hm25 : sMd V + 25 ≤ 1000000 := by omega
  have hml : pl % sSz V k < sSz V k := Nat.mod_lt _ hs
  refine wp_aload (i := 11) dL_value_290 rfl ?_
  refine wp_iconst (nI 0) dL_value_292 (by decide) ?_
  refine wp_ialoadN 70 (nI 111) dL_value_293 W.1 W.2.1 (by decide) (by decide) ((W.2.2 0 (by decide)).trans (f0)) ?_
  refine wp_bipush (nI 118) dL_value_294 (by decide) ?_
  refine wp_icmp_neN 535 dL_value_296 (by decide) (by decide) (by decide) (fun c_296 => ?_) (fun c_296 => absurd c_296 (by decide))
  refine wp_aload (i := 11) dL_value_535 rfl ?_
  refine wp_iconst (nI 0) dL_value_537 (by decide) ?_
  refine wp_ialoadN 70 (nI 111) dL_value_538 W.1 W.2.1 (by decide) (by decide) ((W.2.2 0 (by decide)).trans (f0)) ?_
  refine wp_bipush (nI 118) dL_value_539 (by decide) ?_
  refine wp_icmp_neN 583 dL_value_541 (by decide) (by decide) (by decide) (fun c_541 => ?_) (fun c_541 => absurd c_541 (by decide))
  refine wp_aload (i := 11) dL_value_583 rfl ?_
  refine wp_iconst (nI 0) dL_value_585 (by decide) ?_
  refine wp_ialoadN 70 (nI 111) dL_value_586 W.1 W.2.1 (by decide) (by decide) ((W.2.2 0 (by decide)).trans (f0)) ?_
  refine wp_bipush (nI 111) dL_value_587 (by decide) ?_
  refine wp_icmp_neN 867 dL_value_589 (by decide) (by decide) (by decide) (fun c_589 => absurd c_589 (by decide)) (fun c_589 => ?_)
  refine wp_iload (i := 6) dL_value_592 rfl ?_
  refine wp_bipush (nI 12) dL_value_594 (by decide) ?_
  refine wp_icmp_leN 698 dL_value_596 (by decide) (by omega) (by decide) (fun c_596 => ?_) (fun c_596 => absurd c_596 (by omega))
  refine wp_iload (i := 6) dL_value_698 rfl ?_
  refine wp_bipush (nI 8) dL_value_700 (by decide) ?_
  refine wp_icmp_ltN 710 dL_value_702 (by decide) (by omega) (by decide) (fun c_702 => absurd c_702 (by omega)) (fun c_702 => ?_)
  refine wp_iload (i := 12) dL_value_705 rfl ?_
  refine wp_if_neN 714 dL_value_707 (by decide) (by omega) (fun c_707 => ?_) (fun c_707 => absurd c_707 (by omega))
  refine wp_iconst (nI 0) dL_value_714 (by decide) ?_
  refine wp_istore (i := 16) (lv' := [(16, vi (nI 0)), (13, vi (nI pl)), (12, vi (nI (sSz V k))), (11, vr (some (nm 71 K))), (10, vi (nI (sNv V))), (8, vl (nI (sMd V)).toInt64), (7, vi e), (6, vi (nI w)), (5, vi (nI k)), (4, vr (some (nm 70 1))), (3, vr (some (nm 70 0))), (2, vi (nI i)), (1, vr (some nS)), (0, vr (some (nm 40 0)))]) dL_value_715 (by decide) rfl ?_
  refine wp_iload (i := 16) dL_value_717 rfl ?_
  refine wp_if_eqN 735 dL_value_719 (by decide) (by decide) (fun c_719 => ?_) (fun c_719 => absurd c_719 (by decide))
  refine wp_aload_n (i := 0) dL_value_735 rfl rfl ?_
  refine wp_bipush (nI 6) dL_value_736 (by decide) ?_
  refine wp_iload (i := 5) dL_value_738 rfl ?_
  refine wp_iload (i := 13) dL_value_740 rfl ?_
  refine wp_iload (i := 12) dL_value_742 rfl ?_
  refine wp_iremN dL_value_744 (by omega) (by omega) (by omega) ?_
  refine wp_iload (i := 7) dL_value_745 rfl ?_
  refine wp_cSH (y' := m_L_deed) [vr (some (nm 40 0)), vi (nI 6), vi (nI k), vi (nI (pl % (sSz V k))), vi e] [] 20 400 dL_value_747 ml_L_191 st_L_deed okH_L_deed rfl (Nat.le_of_ble_eq_true rfl) rfl (Nat.le_of_ble_eq_true rfl) (d' := d - 1) (by omega) (by omega) (by omega) (e_setIn (k := k) hk1 (j := (pl % sSz V k)) (by omega) B (by omega) C (by omega) (by omega) (by omega) (fun h1 M1 ma1 mb1 C1 F1 => cont_ret ?_))
  obtain ⟨V', m9, eo, hm3, em, mo, tk9, rp⟩ := pv_setIn (j := pl % sSz V k) B.1 hk ht (Nat.mod_lt _ hs) he hPk
  have k9 : VK V (o_setIn V (nI k) k (nI (pl % (sSz V k))) (pl % (sSz V k)) e).2.2 := k_setIn B.1 (ixk hk1 (by omega)) (fun z => ixk (by omega) (by omega) z)
  have b9 : WB (o_setIn V (nI k) k (nI (pl % (sSz V k))) (pl % (sSz V k)) e).2.2 := b_setIn B.2.1 hm25 (fun z => ixk (by omega) (by omega) z)
  rw [eo] at k9 b9
  have B' : PU (c + 1) V' n x R := B.v k9 b9 (by omega)
  rw [eo] at C1
  rw [show dA [-20001, -20002, -20004, -20005] (o_setIn V (nI k) k (nI (pl % (sSz V k))) (pl % (sSz V k)) e) = nI m9 from by rw [eo]; rfl]
  have H1 := H.fk F1
  have W1 := RWl.fk W F1 (by unfold nm; omega)
  refine wp_istore (i := 14) (lv' := [(14, vi (nI m9)), (16, vi (nI 0)), (13, vi (nI pl)), (12, vi (nI (sSz V k))), (11, vr (some (nm 71 K))), (10, vi (nI (sNv V))), (8, vl (nI (sMd V)).toInt64), (7, vi e), (6, vi (nI w)), (5, vi (nI k)), (4, vr (some (nm 70 1))), (3, vr (some (nm 70 0))), (2, vi (nI i)), (1, vr (some nS)), (0, vr (some (nm 40 0)))]) dL_value_750 (by decide) rfl ?_
  refine wp_iload (i := 16) dL_value_752 rfl ?_
  refine wp_if_eqN 778 dL_value_754 (by decide) (by decide) (fun c_754 => ?_) (fun c_754 => absurd c_754 (by decide))
  refine wp_aload_n (i := 3) dL_value_778 rfl rfl ?_
  refine wp_iload (i := 5) dL_value_779 rfl ?_
  refine wp_aaloadAN 60 (some (nm 71 (ro k))) dL_value_781 H1.1.1 H1.1.2 (by omega) (by decide) ((H1.2.1 k hk).1) ?_
  refine wp_iconst (nI 2) dL_value_782 (by decide) ?_
  refine wp_iload (i := 16) dL_value_783 rfl ?_
  refine wp_if_eqN 793 dL_value_785 (by decide) (by decide) (fun c_785 => ?_) (fun c_785 => absurd c_785 (by decide))
  refine wp_iload (i := 13) dL_value_793 rfl ?_
  refine wp_iload (i := 12) dL_value_795 rfl ?_
  refine wp_iremN dL_value_797 (by omega) (by omega) (by omega) ?_
  refine wp_iaddN dL_value_798 ?_
  refine wp_iload (i := 7) dL_value_799 rfl ?_
  refine wp_iastoreN 70 dL_value_801 (H1.2.1 k hk).2.2.1 (H1.2.1 k hk).2.2.2.1 (by omega) (by decide) ?_
  have H2w := H1.wv (w := k) (k := 2 + (pl % (sSz V k))) (z := e) hk
  have C2w := C1.law (fun a ha => ce_w71 (h := _) (k := 2 + (pl % (sSz V k))) (z := e) (show a ≠ nm 71 (ro k) by unfold nm; omega))
  have W2w := RWn.ce (n := 70) W1 (ce_w71 (k := 2 + (pl % (sSz V k))) (z := e) (show nm 71 K ≠ nm 71 (ro k) by have := hKn k hk; unfold nm; omega))
  refine wp_aload_n (i := 3) dL_value_802 rfl rfl ?_
  refine wp_iload (i := 5) dL_value_803 rfl ?_
  refine wp_aaloadAN 60 (some (nm 71 (ro k))) dL_value_805 H2w.1.1 H2w.1.2 (by omega) (by decide) ((H2w.2.1 k hk).1) ?_
  refine wp_iconst (nI 1) dL_value_806 (by decide) ?_
  refine wp_dup2 dL_value_807 ?_
  refine wp_ialoadN 70 (nI (sSz V k)) dL_value_808 (H2w.2.1 k hk).2.2.1 (H2w.2.1 k hk).2.2.2.1 (by decide) (by decide) (((H2w.2.1 k hk).2.2.2.2 1 (by decide)).trans (by rw [va_up_self, el_up, if_neg (by omega)]; exact f1)) ?_
  refine wp_iload (i := 16) dL_value_809 rfl ?_
  refine wp_if_eqN 818 dL_value_811 (by decide) (by decide) (fun c_811 => ?_) (fun c_811 => absurd c_811 (by decide))
  refine wp_iconst (nI 0) dL_value_818 (by decide) ?_
  refine wp_iaddN dL_value_819 ?_
  refine wp_iastoreN 70 dL_value_820 (H2w.2.1 k hk).2.2.1 (H2w.2.1 k hk).2.2.2.1 (by decide) (by decide) ?_
  have H3w := H2w.wv (w := k) (k := 1) (z := (nI ((sSz V k) + 0))) hk
  have C3w := C2w.law (fun a ha => ce_w71 (h := _) (k := 1) (z := (nI ((sSz V k) + 0))) (show a ≠ nm 71 (ro k) by unfold nm; omega))
  have W3w := RWn.ce (n := 70) W2w (ce_w71 (k := 1) (z := (nI ((sSz V k) + 0))) (show nm 71 K ≠ nm 71 (ro k) by have := hKn k hk; unfold nm; omega))
  refine wp_iload (i := 14) dL_value_821 rfl ?_
  refine wp_if_ltN 865 dL_value_823 (by decide) (by omega) (fun c_823 => absurd c_823 (id)) (fun c_823 => ?_)
  refine wp_iload (i := 14) dL_value_826 rfl ?_
  refine wp_iconst (nI 3) dL_value_828 (by decide) ?_
  refine wp_icmp_gtN 865 dL_value_829 (by decide) (by omega) (by decide) (fun c_829 => absurd c_829 (by omega)) (fun c_829 => ?_)
  refine wp_aload_n (i := 0) dL_value_832 rfl rfl ?_
  refine wp_cV (y' := m_X11_made) 12 [] [] 0 0 dL_value_833 ml_L_187 im_X11_made se_X11_made (by decide) C3w.hk ok_X11_made rfl (Nat.le_of_ble_eq_true rfl) rfl (Nat.le_of_ble_eq_true rfl) (d' := d - 1) (by omega) (Nat.zero_le _) (Nat.zero_le _) (c_X11_made C3w.2.2 (cont_ret ?_))
  refine wp_lload (i := 8) dL_value_836 rfl ?_
  refine wp_iload (i := 14) dL_value_838 rfl ?_
  refine wp_i2l dL_value_840 ?_
  refine wp_ladd dL_value_841 ?_
  rw [l64_add (by omega), em]
  refine wp_lcmp dL_value_842 ?_
  rw [lg_same]
  refine wp_if_ne 865 dL_value_843 (by decide) (fun c_843 => absurd c_843 (fun z => z rfl)) (fun c_843 => ?_)
  refine wp_aload_n (i := 0) dL_value_846 rfl rfl ?_
  refine wp_iconst (nI 1) dL_value_847 (by decide) ?_
  refine wp_iload (i := 5) dL_value_848 rfl ?_
  refine wp_iconst (nI 0) dL_value_850 (by decide) ?_
  refine wp_iconst (nI 0) dL_value_851 (by decide) ?_
  refine wp_cSH (y' := m_L_deed) [vr (some (nm 40 0)), vi (nI 1), vi (nI k), vi (nI 0), vi (nI 0)] [] 20 400 dL_value_852 ml_L_191 st_L_deed okH_L_deed rfl (Nat.le_of_ble_eq_true rfl) rfl (Nat.le_of_ble_eq_true rfl) (d' := d - 1) (by omega) (by omega) (by omega) (e_append (k := k) hk1 B' (by omega) C3w (by omega) (by omega) (by omega) (fun h4 M4 ma4 mb4 C4 F4 => cont_ret ?_))
  rw [pv_appendD (V := V') (k := k) (by rw [mo.1]; exact hk) B'.1.1 tk9] at C4
  rw [show dA [-20001, -20002, -20004, -20003] (o_append V' (nI k) k (nI 0)) = -20004 from by rw [pv_appendD (V := V') (k := k) (by rw [mo.1]; exact hk) B'.1.1 tk9]; rfl]
  have H4 := H3w.fk F4
  have W4 := RWl.fk W3w F4 (by unfold nm; omega)
  refine wp_sipush (-20004) dL_value_855 (by decide) ?_
  refine wp_icmp_ne 865 dL_value_858 (by decide) (fun c_858 => absurd c_858 (fun z => z rfl)) (fun c_858 => ?_)
  refine wp_iconst (nI 1) dL_value_861 (by decide) ?_
  refine wp_goto 866 dL_value_862 (by decide) ?_
  refine wp_zreturn dL_value_866 rfl (by decide) ?_
  refine hq _ _ V' (c + 1) ro _ (by omega) B' C4 (by omega) (by omega) (by rw [mo.1]; exact H4) (fun v hv => ?_) (IN0.but hI0 hk ht (fun v _ e => mo.2 v e))
  rw [va_up_app]
  by_cases e2 : v = k
  · rw [if_pos e2, e2, va_up_self]; exact rp
  · rw [if_neg e2, va_up_ne _ _ e2, mo.2 v e2]; exact hP v (by rw [← mo.1]; exact hv)
set_option maxRecDepth 100000 in
set_option maxHeartbeats 4000000 in
theorem l_val_putT {G : GG} {d c n : Nat} {Q : Pst} {V : SV} {x : Nat → QIS} {R : RS} {k K J : Nat} {ro : Nat → Nat} {rf : Nat → Nat → Int32} {op : Nat → Bool} (B : PU c V n x R) (hc : c + 4 ≤ 512) (h60 : sNv V < 60) (hP : ∀ v, v < sNv V → RowP (vp V v) (rf v)) (hI0 : IN0 V) (hd : 40 ≤ d) (hL : slen G < 2 ^ 31) {h : Hp} {M bc bs : Nat} (hk : k < sNv V) (ht : sTy V k = 109) (C : CLS h V M n x R) (hM : M + 30 < 900000) (H : LWH h (sNv V) n (RS_rn R) ro rf (K + 1) J op) (hKn : ∀ v, v < sNv V → ro v ≠ K) (W : RWl h (nm 71 K) (rf k)) {e : Int32} (he : smE e) {pl : Nat} (hpl : pl < 20) {w i : Nat} (hw : w < 16) (hi : i + 100 < 2 ^ 31) (hbc : 120 ≤ bc) (hbs : 3000 ≤ bs) (hq : ∀ h' M' V' c' ro' rf', c' ≤ c + 4 → PU c' V' n x R → CLS h' V' M' n x R → M ≤ M' → M' ≤ M + 16 → LWH h' (sNv V') n (RS_rn R) ro' rf' (K + 1) J op → (∀ v, v < sNv V' → RowP (vp V' v) (rf' v)) → IN0 V' → Q (oRet (vi (nI 1))) h') {j : Nat} (hjp : pkV G (i + 3) 40 = j) (hj : j < 40) (hh : hsv V k (25 * j) = true) (hw11 : w < 11) : WP G m_L_value d 290 [(13, vi (nI pl)), (12, vi (nI (sSz V k))), (11, vr (some (nm 71 K))), (10, vi (nI (sNv V))), (8, vl (nI (sMd V)).toInt64), (7, vi e), (6, vi (nI w)), (5, vi (nI k)), (4, vr (some (nm 70 1))), (3, vr (some (nm 70 0))), (2, vi (nI i)), (1, vr (some nS)), (0, vr (some (nm 40 0)))] [] h bc bs Q := by
  have hn60 := B.1.1
  have hk1 : k < 2 ^ 31 := by omega
  have hz : sSz V k ≤ 64 := (B.1.2.1 k hk).2.1
  have hPk := hP k hk
  have f0 : rf k 0 = nI 109 := hPk.1.trans (congrArg nI ht)
  have f1 : rf k 1 = nI (sSz V k) := hPk.2.1
  have hmd := B.2.2.1
  have hm25 : sMd V + 25 ≤ 1000000 := by omega
  have R9 := row_map hPk ht
  have fj : rf k (2 + j) = ofv V k (25 * j) := (R9.1 j hj).trans (by rw [hh]; rfl)
  have sn := smE_ne (R9.2.2 _ hh)
  refine wp_aload (i := 11) dL_value_290 rfl ?_
  refine wp_iconst (nI 0) dL_value_292 (by decide) ?_
  refine wp_ialoadN 70 (nI 109) dL_value_293 W.1 W.2.1 (by decide) (by decide) ((W.2.2 0 (by decide)).trans (f0)) ?_
  refine wp_bipush (nI 118) dL_value_294 (by decide) ?_
  refine wp_icmp_neN 535 dL_value_296 (by decide) (by decide) (by decide) (fun c_296 => ?_) (fun c_296 => absurd c_296 (by decide))
  refine wp_aload (i := 11) dL_value_535 rfl ?_
  refine wp_iconst (nI 0) dL_value_537 (by decide) ?_
  refine wp_ialoadN 70 (nI 109) dL_value_538 W.1 W.2.1 (by decide) (by decide) ((W.2.2 0 (by decide)).trans (f0)) ?_
  refine wp_bipush (nI 118) dL_value_539 (by decide) ?_
  refine wp_icmp_neN 583 dL_value_541 (by decide) (by decide) (by decide) (fun c_541 => ?_) (fun c_541 => absurd c_541 (by decide))
  refine wp_aload (i := 11) dL_value_583 rfl ?_
  refine wp_iconst (nI 0) dL_value_585 (by decide) ?_
  refine wp_ialoadN 70 (nI 109) dL_value_586 W.1 W.2.1 (by decide) (by decide) ((W.2.2 0 (by decide)).trans (f0)) ?_
  refine wp_bipush (nI 111) dL_value_587 (by decide) ?_
  refine wp_icmp_neN 867 dL_value_589 (by decide) (by decide) (by decide) (fun c_589 => ?_) (fun c_589 => absurd c_589 (by decide))
  refine wp_aload (i := 11) dL_value_867 rfl ?_
  refine wp_iconst (nI 0) dL_value_869 (by decide) ?_
  refine wp_ialoadN 70 (nI 109) dL_value_870 W.1 W.2.1 (by decide) (by decide) ((W.2.2 0 (by decide)).trans (f0)) ?_
  refine wp_bipush (nI 109) dL_value_871 (by decide) ?_
  refine wp_icmp_neN 1020 dL_value_873 (by decide) (by decide) (by decide) (fun c_873 => absurd c_873 (by decide)) (fun c_873 => ?_)
  refine wp_aload_n (i := 1) dL_value_876 rfl rfl ?_
  refine wp_iload_n (i := 2) dL_value_877 rfl rfl ?_
  refine wp_iconst (nI 3) dL_value_878 (by decide) ?_
  refine wp_iaddN dL_value_879 ?_
  refine wp_bipush (nI 40) dL_value_880 (by decide) ?_
  refine wp_cS (y' := m_L_pick) [vr (some nS), vi (nI (i + 3)), vi (nI 40)] [] 0 0 dL_value_882 ml_L_199 st_L_pick ok_L_pick rfl (Nat.le_of_ble_eq_true rfl) rfl (Nat.le_of_ble_eq_true rfl) (d' := d - 1) (by omega) (Nat.zero_le _) (Nat.zero_le _) (c_L_pick (by omega) (by decide) (by omega) hL (by omega) (cont_ret ?_))
  rw [hjp]
  refine wp_istore (i := 16) (lv' := [(16, vi (nI j)), (13, vi (nI pl)), (12, vi (nI (sSz V k))), (11, vr (some (nm 71 K))), (10, vi (nI (sNv V))), (8, vl (nI (sMd V)).toInt64), (7, vi e), (6, vi (nI w)), (5, vi (nI k)), (4, vr (some (nm 70 1))), (3, vr (some (nm 70 0))), (2, vi (nI i)), (1, vr (some nS)), (0, vr (some (nm 40 0)))]) dL_value_885 (by decide) rfl ?_
  refine wp_aload (i := 11) dL_value_887 rfl ?_
  refine wp_iconst (nI 2) dL_value_889 (by decide) ?_
  refine wp_iload (i := 16) dL_value_890 rfl ?_
  refine wp_iaddN dL_value_892 ?_
  refine wp_ialoadN 70 (ofv V k (25 * j)) dL_value_893 W.1 W.2.1 (by omega) (by decide) ((W.2.2 (2 + j) (by omega)).trans (fj)) ?_
  refine wp_sipush (nI 2000) dL_value_894 (by decide) ?_
  refine wp_icmp_eq 904 dL_value_897 (by decide) (fun c_897 => absurd c_897 (fun z => sn.1 z)) (fun c_897 => ?_)
  refine wp_iconst (nI 1) dL_value_900 (by decide) ?_
  refine wp_goto 905 dL_value_901 (by decide) ?_
  refine wp_istore (i := 17) (lv' := [(17, vi (nI 1)), (16, vi (nI j)), (13, vi (nI pl)), (12, vi (nI (sSz V k))), (11, vr (some (nm 71 K))), (10, vi (nI (sNv V))), (8, vl (nI (sMd V)).toInt64), (7, vi e), (6, vi (nI w)), (5, vi (nI k)), (4, vr (some (nm 70 1))), (3, vr (some (nm 70 0))), (2, vi (nI i)), (1, vr (some nS)), (0, vr (some (nm 40 0)))]) dL_value_905 (by decide) rfl ?_
  refine wp_iload (i := 6) dL_value_907 rfl ?_
  refine wp_bipush (nI 11) dL_value_909 (by decide) ?_
  refine wp_icmp_ltN 919 dL_value_911 (by decide) (by omega) (by decide) (fun c_911 => ?_) (fun c_911 => absurd c_911 (by omega))
  refine wp_iconst (nI 1) dL_value_919 (by decide) ?_
  refine wp_goto 924 dL_value_920 (by decide) ?_
  refine wp_istore (i := 18) (lv' := [(18, vi (nI 1)), (17, vi (nI 1)), (16, vi (nI j)), (13, vi (nI pl)), (12, vi (nI (sSz V k))), (11, vr (some (nm 71 K))), (10, vi (nI (sNv V))), (8, vl (nI (sMd V)).toInt64), (7, vi e), (6, vi (nI w)), (5, vi (nI k)), (4, vr (some (nm 70 1))), (3, vr (some (nm 70 0))), (2, vi (nI i)), (1, vr (some nS)), (0, vr (some (nm 40 0)))]) dL_value_924 (by decide) rfl ?_
  refine wp_iload (i := 18) dL_value_926 rfl ?_
  refine wp_if_eqN 949 dL_value_928 (by decide) (by decide) (fun c_928 => absurd c_928 (by decide)) (fun c_928 => ?_)
  refine wp_aload_n (i := 0) dL_value_931 rfl rfl ?_
  refine wp_bipush (nI 9) dL_value_932 (by decide) ?_
  refine wp_iload (i := 5) dL_value_934 rfl ?_
  refine wp_bipush (nI 25) dL_value_936 (by decide) ?_
  refine wp_iload (i := 16) dL_value_938 rfl ?_
  refine wp_imulN dL_value_940 ?_
  refine wp_iload (i := 7) dL_value_941 rfl ?_
  refine wp_cSH (y' := m_L_deed) [vr (some (nm 40 0)), vi (nI 9), vi (nI k), vi (nI (25 * j)), vi e] [] 30 900 dL_value_943 ml_L_191 st_L_deed okH_L_deed rfl (Nat.le_of_ble_eq_true rfl) rfl (Nat.le_of_ble_eq_true rfl) (d' := d - 1) (by omega) (by omega) (by omega) (e_put (k := k) hk1 (j := (25 * j)) (by omega) B (by omega) C (by omega) (by omega) (by omega) (fun h1 M1 ma1 mb1 C1 F1 => cont_ret ?_))
  obtain ⟨V', eo, mo, mk9, rp⟩ := pv_put B.1 hk ht hj (fun z => by rw [hh] at z; cases z) h60 he hPk
  have k9 : VK V (o_put V (nI k) k (nI (25 * j)) (25 * j) e).2.2 := k_put B.1 (ixk hk1 (by omega)) (hwn (by omega) _ (by decide))
  have b9 : WB (o_put V (nI k) k (nI (25 * j)) (25 * j) e).2.2 := b_put B.2.1 hm25 (fun _ t9 => (B.1.2.1 k hk).2.2.2.1 t9 |>.2.1)
  rw [eo] at k9 b9
  have B' : PU (c + 1) V' n x R := B.v k9 b9 (by omega)
  rw [eo] at C1
  rw [show dA [-20001, -20002, -20004, -20003] (o_put V (nI k) k (nI (25 * j)) (25 * j) e) = nI (sNv V) from by rw [eo]; rfl]
  rw [if_pos hh] at rp
  have H1 := H.fk F1
  have W1 := RWl.fk W F1 (by unfold nm; omega)
  refine wp_goto 963 dL_value_946 (by decide) ?_
  refine wp_istore (i := 14) (lv' := [(14, vi (nI (sNv V))), (18, vi (nI 1)), (17, vi (nI 1)), (16, vi (nI j)), (13, vi (nI pl)), (12, vi (nI (sSz V k))), (11, vr (some (nm 71 K))), (10, vi (nI (sNv V))), (8, vl (nI (sMd V)).toInt64), (7, vi e), (6, vi (nI w)), (5, vi (nI k)), (4, vr (some (nm 70 1))), (3, vr (some (nm 70 0))), (2, vi (nI i)), (1, vr (some nS)), (0, vr (some (nm 40 0)))]) dL_value_963 (by decide) rfl ?_
  refine wp_iconst (nI 1) dL_value_965 (by decide) ?_
  refine wp_istore (i := 15) (lv' := [(15, vi (nI 1)), (14, vi (nI (sNv V))), (18, vi (nI 1)), (17, vi (nI 1)), (16, vi (nI j)), (13, vi (nI pl)), (12, vi (nI (sSz V k))), (11, vr (some (nm 71 K))), (10, vi (nI (sNv V))), (8, vl (nI (sMd V)).toInt64), (7, vi e), (6, vi (nI w)), (5, vi (nI k)), (4, vr (some (nm 70 1))), (3, vr (some (nm 70 0))), (2, vi (nI i)), (1, vr (some nS)), (0, vr (some (nm 40 0)))]) dL_value_966 (by decide) rfl ?_
  refine wp_aload (i := 11) dL_value_968 rfl ?_
  refine wp_iconst (nI 1) dL_value_970 (by decide) ?_
  refine wp_dup2 dL_value_971 ?_
  refine wp_ialoadN 70 (nI (sSz V k)) dL_value_972 W1.1 W1.2.1 (by decide) (by decide) ((W1.2.2 1 (by decide)).trans (f1)) ?_
  refine wp_iload (i := 18) dL_value_973 rfl ?_
  refine wp_if_eqN 994 dL_value_975 (by decide) (by decide) (fun c_975 => absurd c_975 (by decide)) (fun c_975 => ?_)
  refine wp_iload (i := 17) dL_value_978 rfl ?_
  refine wp_if_neN 987 dL_value_980 (by decide) (by decide) (fun c_980 => ?_) (fun c_980 => absurd c_980 (by decide))
  refine wp_iconst (nI 0) dL_value_987 (by decide) ?_
  refine wp_cS (y' := m_L_told) [vi (bI false)] [vi (nI (sSz V k)), vi (nI 1), vr (some (nm 71 K))] 0 0 dL_value_988 ml_L_83 st_L_told ok_L_told rfl (Nat.le_of_ble_eq_true rfl) rfl (Nat.le_of_ble_eq_true rfl) (d' := d - 1) (by omega) (Nat.zero_le _) (Nat.zero_le _) (c_L_told (b := false) (cont_ret ?_))
  refine wp_goto 995 dL_value_991 (by decide) ?_
  refine wp_iaddN dL_value_995 ?_
  refine wp_iastoreN 70 dL_value_996 W1.1 W1.2.1 (by decide) (by decide) ?_
  have W2w := RWn.w (n := 70) (k := 1) (z := (nI ((sSz V k) + 0))) W1
  have H2w := H1.wr (k := 1) (z := (nI ((sSz V k) + 0))) hKn (by omega)
  have C2w := C1.law (fun a ha => ce_w71 (h := _) (k := 1) (z := (nI ((sSz V k) + 0))) (show a ≠ nm 71 K by unfold nm; omega))
  refine wp_aload (i := 11) dL_value_997 rfl ?_
  refine wp_iconst (nI 2) dL_value_999 (by decide) ?_
  refine wp_iload (i := 16) dL_value_1000 rfl ?_
  refine wp_iaddN dL_value_1002 ?_
  refine wp_iload (i := 18) dL_value_1003 rfl ?_
  refine wp_if_eqN 1013 dL_value_1005 (by decide) (by decide) (fun c_1005 => absurd c_1005 (by decide)) (fun c_1005 => ?_)
  refine wp_iload (i := 7) dL_value_1008 rfl ?_
  refine wp_goto 1016 dL_value_1010 (by decide) ?_
  refine wp_iastoreN 70 dL_value_1016 W2w.1 W2w.2.1 (by omega) (by decide) ?_
  have W3w := RWn.w (n := 70) (k := 2 + j) (z := e) W2w
  have H3w := H2w.wr (k := 2 + j) (z := e) hKn (by omega)
  have C3w := C2w.law (fun a ha => ce_w71 (h := _) (k := 2 + j) (z := e) (show a ≠ nm 71 K by unfold nm; omega))
  refine wp_goto 1072 dL_value_1017 (by decide) ?_
  refine wp_sub [(15, vi (nI 1)), (14, vi (nI (sNv V))), (11, vr (some (nm 71 K))), (10, vi (nI (sNv V))), (8, vl (nI (sMd V)).toInt64), (5, vi (nI k)), (4, vr (some (nm 70 1))), (3, vr (some (nm 70 0))), (0, vr (some (nm 40 0)))] (sb_cons (.head _) (sb_cons (.tail _ (.head _)) (sb_cons (.tail _ (.tail _ (.tail _ (.tail _ (.tail _ (.tail _ (.tail _ (.head _)))))))) (sb_cons (.tail _ (.tail _ (.tail _ (.tail _ (.tail _ (.tail _ (.tail _ (.tail _ (.head _))))))))) (sb_cons (.tail _ (.tail _ (.tail _ (.tail _ (.tail _ (.tail _ (.tail _ (.tail _ (.tail _ (.head _)))))))))) (sb_cons (.tail _ (.tail _ (.tail _ (.tail _ (.tail _ (.tail _ (.tail _ (.tail _ (.tail _ (.tail _ (.tail _ (.tail _ (.head _))))))))))))) (sb_cons (.tail _ (.tail _ (.tail _ (.tail _ (.tail _ (.tail _ (.tail _ (.tail _ (.tail _ (.tail _ (.tail _ (.tail _ (.tail _ (.head _)))))))))))))) (sb_cons (.tail _ (.tail _ (.tail _ (.tail _ (.tail _ (.tail _ (.tail _ (.tail _ (.tail _ (.tail _ (.tail _ (.tail _ (.tail _ (.tail _ (.head _))))))))))))))) (sb_cons (.tail _ (.tail _ (.tail _ (.tail _ (.tail _ (.tail _ (.tail _ (.tail _ (.tail _ (.tail _ (.tail _ (.tail _ (.tail _ (.tail _ (.tail _ (.tail _ (.tail _ (.head _)))))))))))))))))) sb_nil))))))))) ?_
  exact l_val_keep B hc h60 hP hI0 hd hL hk (c' := c + 1) (by omega) B' mo mk9 rp C3w (by omega) H3w hKn W3w (by omega) (by omega) (fun h9 M9 V9 c9 r9 f9 a b e m1 m2 g1 g2 g3 => hq h9 M9 V9 c9 r9 f9 a b e (by omega) (by omega) g1 g2 g3)
set_option maxRecDepth 100000 in
set_option maxHeartbeats 4000000 in
theorem l_val_putF1 {G : GG} {d c n : Nat} {Q : Pst} {V : SV} {x : Nat → QIS} {R : RS} {k K J : Nat} {ro : Nat → Nat} {rf : Nat → Nat → Int32} {op : Nat → Bool} (B : PU c V n x R) (hc : c + 4 ≤ 512) (h60 : sNv V < 60) (hP : ∀ v, v < sNv V → RowP (vp V v) (rf v)) (hI0 : IN0 V) (hd : 40 ≤ d) (hL : slen G < 2 ^ 31) {h : Hp} {M bc bs : Nat} (hk : k < sNv V) (ht : sTy V k = 109) (C : CLS h V M n x R) (hM : M + 30 < 900000) (H : LWH h (sNv V) n (RS_rn R) ro rf (K + 1) J op) (hKn : ∀ v, v < sNv V → ro v ≠ K) (W : RWl h (nm 71 K) (rf k)) {e : Int32} (he : smE e) {pl : Nat} (hpl : pl < 20) {w i : Nat} (hw : w < 16) (hi : i + 100 < 2 ^ 31) (hbc : 120 ≤ bc) (hbs : 3000 ≤ bs) (hq : ∀ h' M' V' c' ro' rf', c' ≤ c + 4 → PU c' V' n x R → CLS h' V' M' n x R → M ≤ M' → M' ≤ M + 16 → LWH h' (sNv V') n (RS_rn R) ro' rf' (K + 1) J op → (∀ v, v < sNv V' → RowP (vp V' v) (rf' v)) → IN0 V' → Q (oRet (vi (nI 1))) h') {j : Nat} (hjp : pkV G (i + 3) 40 = j) (hj : j < 40) (hh : hsv V k (25 * j) = false) (hw11 : w < 11) : WP G m_L_value d 290 [(13, vi (nI pl)), (12, vi (nI (sSz V k))), (11, vr (some (nm 71 K))), (10, vi (nI (sNv V))), (8, vl (nI (sMd V)).toInt64), (7, vi e), (6, vi (nI w)), (5, vi (nI k)), (4, vr (some (nm 70 1))), (3, vr (some (nm 70 0))), (2, vi (nI i)), (1, vr (some nS)), (0, vr (some (nm 40 0)))] [] h bc bs Q := by
  have hn60 := B.1.1
  have hk1 : k < 2 ^ 31 := by omega
  have hz : sSz V k ≤ 64 := (B.1.2.1 k hk).2.1
  have hPk := hP k hk
  have f0 : rf k 0 = nI 109 := hPk.1.trans (congrArg nI ht)
  have f1 : rf k 1 = nI (sSz V k) := hPk.2.1
  have hmd := B.2.2.1
  have hm25 : sMd V + 25 ≤ 1000000 := by omega
  have R9 := row_map hPk ht
  have fj : rf k (2 + j) = nI 2000 := (R9.1 j hj).trans (by rw [hh]; rfl)
  refine wp_aload (i := 11) dL_value_290 rfl ?_
  refine wp_iconst (nI 0) dL_value_292 (by decide) ?_
  refine wp_ialoadN 70 (nI 109) dL_value_293 W.1 W.2.1 (by decide) (by decide) ((W.2.2 0 (by decide)).trans (f0)) ?_
  refine wp_bipush (nI 118) dL_value_294 (by decide) ?_
  refine wp_icmp_neN 535 dL_value_296 (by decide) (by decide) (by decide) (fun c_296 => ?_) (fun c_296 => absurd c_296 (by decide))
  refine wp_aload (i := 11) dL_value_535 rfl ?_
  refine wp_iconst (nI 0) dL_value_537 (by decide) ?_
  refine wp_ialoadN 70 (nI 109) dL_value_538 W.1 W.2.1 (by decide) (by decide) ((W.2.2 0 (by decide)).trans (f0)) ?_
  refine wp_bipush (nI 118) dL_value_539 (by decide) ?_
  refine wp_icmp_neN 583 dL_value_541 (by decide) (by decide) (by decide) (fun c_541 => ?_) (fun c_541 => absurd c_541 (by decide))
  refine wp_aload (i := 11) dL_value_583 rfl ?_
  refine wp_iconst (nI 0) dL_value_585 (by decide) ?_
  refine wp_ialoadN 70 (nI 109) dL_value_586 W.1 W.2.1 (by decide) (by decide) ((W.2.2 0 (by decide)).trans (f0)) ?_
  refine wp_bipush (nI 111) dL_value_587 (by decide) ?_
  refine wp_icmp_neN 867 dL_value_589 (by decide) (by decide) (by decide) (fun c_589 => ?_) (fun c_589 => absurd c_589 (by decide))
  refine wp_aload (i := 11) dL_value_867 rfl ?_
  refine wp_iconst (nI 0) dL_value_869 (by decide) ?_
  refine wp_ialoadN 70 (nI 109) dL_value_870 W.1 W.2.1 (by decide) (by decide) ((W.2.2 0 (by decide)).trans (f0)) ?_
  refine wp_bipush (nI 109) dL_value_871 (by decide) ?_
  refine wp_icmp_neN 1020 dL_value_873 (by decide) (by decide) (by decide) (fun c_873 => absurd c_873 (by decide)) (fun c_873 => ?_)
  refine wp_aload_n (i := 1) dL_value_876 rfl rfl ?_
  refine wp_iload_n (i := 2) dL_value_877 rfl rfl ?_
  refine wp_iconst (nI 3) dL_value_878 (by decide) ?_
  refine wp_iaddN dL_value_879 ?_
  refine wp_bipush (nI 40) dL_value_880 (by decide) ?_
  refine wp_cS (y' := m_L_pick) [vr (some nS), vi (nI (i + 3)), vi (nI 40)] [] 0 0 dL_value_882 ml_L_199 st_L_pick ok_L_pick rfl (Nat.le_of_ble_eq_true rfl) rfl (Nat.le_of_ble_eq_true rfl) (d' := d - 1) (by omega) (Nat.zero_le _) (Nat.zero_le _) (c_L_pick (by omega) (by decide) (by omega) hL (by omega) (cont_ret ?_))
  rw [hjp]
  refine wp_istore (i := 16) (lv' := [(16, vi (nI j)), (13, vi (nI pl)), (12, vi (nI (sSz V k))), (11, vr (some (nm 71 K))), (10, vi (nI (sNv V))), (8, vl (nI (sMd V)).toInt64), (7, vi e), (6, vi (nI w)), (5, vi (nI k)), (4, vr (some (nm 70 1))), (3, vr (some (nm 70 0))), (2, vi (nI i)), (1, vr (some nS)), (0, vr (some (nm 40 0)))]) dL_value_885 (by decide) rfl ?_
  refine wp_aload (i := 11) dL_value_887 rfl ?_
  refine wp_iconst (nI 2) dL_value_889 (by decide) ?_
  refine wp_iload (i := 16) dL_value_890 rfl ?_
  refine wp_iaddN dL_value_892 ?_
  refine wp_ialoadN 70 (nI 2000) dL_value_893 W.1 W.2.1 (by omega) (by decide) ((W.2.2 (2 + j) (by omega)).trans (fj)) ?_
  refine wp_sipush (nI 2000) dL_value_894 (by decide) ?_
  refine wp_icmp_eqN 904 dL_value_897 (by decide) (by decide) (by decide) (fun c_897 => ?_) (fun c_897 => absurd c_897 (fun z => z rfl))
  refine wp_iconst (nI 0) dL_value_904 (by decide) ?_
  refine wp_istore (i := 17) (lv' := [(17, vi (nI 0)), (16, vi (nI j)), (13, vi (nI pl)), (12, vi (nI (sSz V k))), (11, vr (some (nm 71 K))), (10, vi (nI (sNv V))), (8, vl (nI (sMd V)).toInt64), (7, vi e), (6, vi (nI w)), (5, vi (nI k)), (4, vr (some (nm 70 1))), (3, vr (some (nm 70 0))), (2, vi (nI i)), (1, vr (some nS)), (0, vr (some (nm 40 0)))]) dL_value_905 (by decide) rfl ?_
  refine wp_iload (i := 6) dL_value_907 rfl ?_
  refine wp_bipush (nI 11) dL_value_909 (by decide) ?_
  refine wp_icmp_ltN 919 dL_value_911 (by decide) (by omega) (by decide) (fun c_911 => ?_) (fun c_911 => absurd c_911 (by omega))
  refine wp_iconst (nI 1) dL_value_919 (by decide) ?_
  refine wp_goto 924 dL_value_920 (by decide) ?_
  refine wp_istore (i := 18) (lv' := [(18, vi (nI 1)), (17, vi (nI 0)), (16, vi (nI j)), (13, vi (nI pl)), (12, vi (nI (sSz V k))), (11, vr (some (nm 71 K))), (10, vi (nI (sNv V))), (8, vl (nI (sMd V)).toInt64), (7, vi e), (6, vi (nI w)), (5, vi (nI k)), (4, vr (some (nm 70 1))), (3, vr (some (nm 70 0))), (2, vi (nI i)), (1, vr (some nS)), (0, vr (some (nm 40 0)))]) dL_value_924 (by decide) rfl ?_
  refine wp_iload (i := 18) dL_value_926 rfl ?_
  refine wp_if_eqN 949 dL_value_928 (by decide) (by decide) (fun c_928 => absurd c_928 (by decide)) (fun c_928 => ?_)
  refine wp_aload_n (i := 0) dL_value_931 rfl rfl ?_
  refine wp_bipush (nI 9) dL_value_932 (by decide) ?_
  refine wp_iload (i := 5) dL_value_934 rfl ?_
  refine wp_bipush (nI 25) dL_value_936 (by decide) ?_
  refine wp_iload (i := 16) dL_value_938 rfl ?_
  refine wp_imulN dL_value_940 ?_
  refine wp_iload (i := 7) dL_value_941 rfl ?_
  refine wp_cSH (y' := m_L_deed) [vr (some (nm 40 0)), vi (nI 9), vi (nI k), vi (nI (25 * j)), vi e] [] 30 900 dL_value_943 ml_L_191 st_L_deed okH_L_deed rfl (Nat.le_of_ble_eq_true rfl) rfl (Nat.le_of_ble_eq_true rfl) (d' := d - 1) (by omega) (by omega) (by omega) (e_put (k := k) hk1 (j := (25 * j)) (by omega) B (by omega) C (by omega) (by omega) (by omega) (fun h1 M1 ma1 mb1 C1 F1 => cont_ret ?_))
  obtain ⟨V', eo, mo, mk9, rp⟩ := pv_put B.1 hk ht hj (fun z => map_room B.1 hk ht hPk hj z) h60 he hPk
  have k9 : VK V (o_put V (nI k) k (nI (25 * j)) (25 * j) e).2.2 := k_put B.1 (ixk hk1 (by omega)) (hwn (by omega) _ (by decide))
  have b9 : WB (o_put V (nI k) k (nI (25 * j)) (25 * j) e).2.2 := b_put B.2.1 hm25 (fun _ t9 => (B.1.2.1 k hk).2.2.2.1 t9 |>.2.1)
  rw [eo] at k9 b9
  have B' : PU (c + 1) V' n x R := B.v k9 b9 (by omega)
  rw [eo] at C1
  rw [show dA [-20001, -20002, -20004, -20003] (o_put V (nI k) k (nI (25 * j)) (25 * j) e) = nI (sNv V) from by rw [eo]; rfl]
  rw [if_neg (by rw [hh]; decide)] at rp
  have H1 := H.fk F1
  have W1 := RWl.fk W F1 (by unfold nm; omega)
  refine wp_goto 963 dL_value_946 (by decide) ?_
  refine wp_istore (i := 14) (lv' := [(14, vi (nI (sNv V))), (18, vi (nI 1)), (17, vi (nI 0)), (16, vi (nI j)), (13, vi (nI pl)), (12, vi (nI (sSz V k))), (11, vr (some (nm 71 K))), (10, vi (nI (sNv V))), (8, vl (nI (sMd V)).toInt64), (7, vi e), (6, vi (nI w)), (5, vi (nI k)), (4, vr (some (nm 70 1))), (3, vr (some (nm 70 0))), (2, vi (nI i)), (1, vr (some nS)), (0, vr (some (nm 40 0)))]) dL_value_963 (by decide) rfl ?_
  refine wp_iconst (nI 1) dL_value_965 (by decide) ?_
  refine wp_istore (i := 15) (lv' := [(15, vi (nI 1)), (14, vi (nI (sNv V))), (18, vi (nI 1)), (17, vi (nI 0)), (16, vi (nI j)), (13, vi (nI pl)), (12, vi (nI (sSz V k))), (11, vr (some (nm 71 K))), (10, vi (nI (sNv V))), (8, vl (nI (sMd V)).toInt64), (7, vi e), (6, vi (nI w)), (5, vi (nI k)), (4, vr (some (nm 70 1))), (3, vr (some (nm 70 0))), (2, vi (nI i)), (1, vr (some nS)), (0, vr (some (nm 40 0)))]) dL_value_966 (by decide) rfl ?_
  refine wp_aload (i := 11) dL_value_968 rfl ?_
  refine wp_iconst (nI 1) dL_value_970 (by decide) ?_
  refine wp_dup2 dL_value_971 ?_
  refine wp_ialoadN 70 (nI (sSz V k)) dL_value_972 W1.1 W1.2.1 (by decide) (by decide) ((W1.2.2 1 (by decide)).trans (f1)) ?_
  refine wp_iload (i := 18) dL_value_973 rfl ?_
  refine wp_if_eqN 994 dL_value_975 (by decide) (by decide) (fun c_975 => absurd c_975 (by decide)) (fun c_975 => ?_)
  refine wp_iload (i := 17) dL_value_978 rfl ?_
  refine wp_if_neN 987 dL_value_980 (by decide) (by decide) (fun c_980 => absurd c_980 (by decide)) (fun c_980 => ?_)
  refine wp_iconst (nI 1) dL_value_983 (by decide) ?_
  refine wp_goto 988 dL_value_984 (by decide) ?_
  refine wp_cS (y' := m_L_told) [vi (bI true)] [vi (nI (sSz V k)), vi (nI 1), vr (some (nm 71 K))] 0 0 dL_value_988 ml_L_83 st_L_told ok_L_told rfl (Nat.le_of_ble_eq_true rfl) rfl (Nat.le_of_ble_eq_true rfl) (d' := d - 1) (by omega) (Nat.zero_le _) (Nat.zero_le _) (c_L_told (b := true) (cont_ret ?_))
  refine wp_goto 995 dL_value_991 (by decide) ?_
  refine wp_iaddN dL_value_995 ?_
  refine wp_iastoreN 70 dL_value_996 W1.1 W1.2.1 (by decide) (by decide) ?_
  have W2w := RWn.w (n := 70) (k := 1) (z := (nI ((sSz V k) + 1))) W1
  have H2w := H1.wr (k := 1) (z := (nI ((sSz V k) + 1))) hKn (by omega)
  have C2w := C1.law (fun a ha => ce_w71 (h := _) (k := 1) (z := (nI ((sSz V k) + 1))) (show a ≠ nm 71 K by unfold nm; omega))
  refine wp_aload (i := 11) dL_value_997 rfl ?_
  refine wp_iconst (nI 2) dL_value_999 (by decide) ?_
  refine wp_iload (i := 16) dL_value_1000 rfl ?_
  refine wp_iaddN dL_value_1002 ?_
  refine wp_iload (i := 18) dL_value_1003 rfl ?_
  refine wp_if_eqN 1013 dL_value_1005 (by decide) (by decide) (fun c_1005 => absurd c_1005 (by decide)) (fun c_1005 => ?_)
  refine wp_iload (i := 7) dL_value_1008 rfl ?_
  refine wp_goto 1016 dL_value_1010 (by decide) ?_
  refine wp_iastoreN 70 dL_value_1016 W2w.1 W2w.2.1 (by omega) (by decide) ?_
  have W3w := RWn.w (n := 70) (k := 2 + j) (z := e) W2w
  have H3w := H2w.wr (k := 2 + j) (z := e) hKn (by omega)
  have C3w := C2w.law (fun a ha => ce_w71 (h := _) (k := 2 + j) (z := e) (show a ≠ nm 71 K by unfold nm; omega))
  refine wp_goto 1072 dL_value_1017 (by decide) ?_
  refine wp_sub [(15, vi (nI 1)), (14, vi (nI (sNv V))), (11, vr (some (nm 71 K))), (10, vi (nI (sNv V))), (8, vl (nI (sMd V)).toInt64), (5, vi (nI k)), (4, vr (some (nm 70 1))), (3, vr (some (nm 70 0))), (0, vr (some (nm 40 0)))] (sb_cons (.head _) (sb_cons (.tail _ (.head _)) (sb_cons (.tail _ (.tail _ (.tail _ (.tail _ (.tail _ (.tail _ (.tail _ (.head _)))))))) (sb_cons (.tail _ (.tail _ (.tail _ (.tail _ (.tail _ (.tail _ (.tail _ (.tail _ (.head _))))))))) (sb_cons (.tail _ (.tail _ (.tail _ (.tail _ (.tail _ (.tail _ (.tail _ (.tail _ (.tail _ (.head _)))))))))) (sb_cons (.tail _ (.tail _ (.tail _ (.tail _ (.tail _ (.tail _ (.tail _ (.tail _ (.tail _ (.tail _ (.tail _ (.tail _ (.head _))))))))))))) (sb_cons (.tail _ (.tail _ (.tail _ (.tail _ (.tail _ (.tail _ (.tail _ (.tail _ (.tail _ (.tail _ (.tail _ (.tail _ (.tail _ (.head _)))))))))))))) (sb_cons (.tail _ (.tail _ (.tail _ (.tail _ (.tail _ (.tail _ (.tail _ (.tail _ (.tail _ (.tail _ (.tail _ (.tail _ (.tail _ (.tail _ (.head _))))))))))))))) (sb_cons (.tail _ (.tail _ (.tail _ (.tail _ (.tail _ (.tail _ (.tail _ (.tail _ (.tail _ (.tail _ (.tail _ (.tail _ (.tail _ (.tail _ (.tail _ (.tail _ (.tail _ (.head _)))))))))))))))))) sb_nil))))))))) ?_
  exact l_val_keep B hc h60 hP hI0 hd hL hk (c' := c + 1) (by omega) B' mo mk9 rp C3w (by omega) H3w hKn W3w (by omega) (by omega) (fun h9 M9 V9 c9 r9 f9 a b e m1 m2 g1 g2 g3 => hq h9 M9 V9 c9 r9 f9 a b e (by omega) (by omega) g1 g2 g3)
set_option maxRecDepth 100000 in
set_option maxHeartbeats 4000000 in
theorem l_val_putF2 {G : GG} {d c n : Nat} {Q : Pst} {V : SV} {x : Nat → QIS} {R : RS} {k K J : Nat} {ro : Nat → Nat} {rf : Nat → Nat → Int32} {op : Nat → Bool} (B : PU c V n x R) (hc : c + 4 ≤ 512) (h60 : sNv V < 60) (hP : ∀ v, v < sNv V → RowP (vp V v) (rf v)) (hI0 : IN0 V) (hd : 40 ≤ d) (hL : slen G < 2 ^ 31) {h : Hp} {M bc bs : Nat} (hk : k < sNv V) (ht : sTy V k = 109) (C : CLS h V M n x R) (hM : M + 30 < 900000) (H : LWH h (sNv V) n (RS_rn R) ro rf (K + 1) J op) (hKn : ∀ v, v < sNv V → ro v ≠ K) (W : RWl h (nm 71 K) (rf k)) {e : Int32} (he : smE e) {pl : Nat} (hpl : pl < 20) {w i : Nat} (hw : w < 16) (hi : i + 100 < 2 ^ 31) (hbc : 120 ≤ bc) (hbs : 3000 ≤ bs) (hq : ∀ h' M' V' c' ro' rf', c' ≤ c + 4 → PU c' V' n x R → CLS h' V' M' n x R → M ≤ M' → M' ≤ M + 16 → LWH h' (sNv V') n (RS_rn R) ro' rf' (K + 1) J op → (∀ v, v < sNv V' → RowP (vp V' v) (rf' v)) → IN0 V' → Q (oRet (vi (nI 1))) h') {j : Nat} (hjp : pkV G (i + 3) 40 = j) (hj : j < 40) (hh : hsv V k (25 * j) = false) (hw11 : 11 ≤ w) : WP G m_L_value d 290 [(13, vi (nI pl)), (12, vi (nI (sSz V k))), (11, vr (some (nm 71 K))), (10, vi (nI (sNv V))), (8, vl (nI (sMd V)).toInt64), (7, vi e), (6, vi (nI w)), (5, vi (nI k)), (4, vr (some (nm 70 1))), (3, vr (some (nm 70 0))), (2, vi (nI i)), (1, vr (some nS)), (0, vr (some (nm 40 0)))] [] h bc bs Q := by
  have hn60 := B.1.1
  have hk1 : k < 2 ^ 31 := by omega
  have hz : sSz V k ≤ 64 := (B.1.2.1 k hk).2.1
  have hPk := hP k hk
  have f0 : rf k 0 = nI 109 := hPk.1.trans (congrArg nI ht)
  have f1 : rf k 1 = nI (sSz V k) := hPk.2.1
  have hmd := B.2.2.1
  have hm25 : sMd V + 25 ≤ 1000000 := by omega
  have R9 := row_map hPk ht
  have fj : rf k (2 + j) = nI 2000 := (R9.1 j hj).trans (by rw [hh]; rfl)
  refine wp_aload (i := 11) dL_value_290 rfl ?_
  refine wp_iconst (nI 0) dL_value_292 (by decide) ?_
  refine wp_ialoadN 70 (nI 109) dL_value_293 W.1 W.2.1 (by decide) (by decide) ((W.2.2 0 (by decide)).trans (f0)) ?_
  refine wp_bipush (nI 118) dL_value_294 (by decide) ?_
  refine wp_icmp_neN 535 dL_value_296 (by decide) (by decide) (by decide) (fun c_296 => ?_) (fun c_296 => absurd c_296 (by decide))
  refine wp_aload (i := 11) dL_value_535 rfl ?_
  refine wp_iconst (nI 0) dL_value_537 (by decide) ?_
  refine wp_ialoadN 70 (nI 109) dL_value_538 W.1 W.2.1 (by decide) (by decide) ((W.2.2 0 (by decide)).trans (f0)) ?_
  refine wp_bipush (nI 118) dL_value_539 (by decide) ?_
  refine wp_icmp_neN 583 dL_value_541 (by decide) (by decide) (by decide) (fun c_541 => ?_) (fun c_541 => absurd c_541 (by decide))
  refine wp_aload (i := 11) dL_value_583 rfl ?_
  refine wp_iconst (nI 0) dL_value_585 (by decide) ?_
  refine wp_ialoadN 70 (nI 109) dL_value_586 W.1 W.2.1 (by decide) (by decide) ((W.2.2 0 (by decide)).trans (f0)) ?_
  refine wp_bipush (nI 111) dL_value_587 (by decide) ?_
  refine wp_icmp_neN 867 dL_value_589 (by decide) (by decide) (by decide) (fun c_589 => ?_) (fun c_589 => absurd c_589 (by decide))
  refine wp_aload (i := 11) dL_value_867 rfl ?_
  refine wp_iconst (nI 0) dL_value_869 (by decide) ?_
  refine wp_ialoadN 70 (nI 109) dL_value_870 W.1 W.2.1 (by decide) (by decide) ((W.2.2 0 (by decide)).trans (f0)) ?_
  refine wp_bipush (nI 109) dL_value_871 (by decide) ?_
  refine wp_icmp_neN 1020 dL_value_873 (by decide) (by decide) (by decide) (fun c_873 => absurd c_873 (by decide)) (fun c_873 => ?_)
  refine wp_aload_n (i := 1) dL_value_876 rfl rfl ?_
  refine wp_iload_n (i := 2) dL_value_877 rfl rfl ?_
  refine wp_iconst (nI 3) dL_value_878 (by decide) ?_
  refine wp_iaddN dL_value_879 ?_
  refine wp_bipush (nI 40) dL_value_880 (by decide) ?_
  refine wp_cS (y' := m_L_pick) [vr (some nS), vi (nI (i + 3)), vi (nI 40)] [] 0 0 dL_value_882 ml_L_199 st_L_pick ok_L_pick rfl (Nat.le_of_ble_eq_true rfl) rfl (Nat.le_of_ble_eq_true rfl) (d' := d - 1) (by omega) (Nat.zero_le _) (Nat.zero_le _) (c_L_pick (by omega) (by decide) (by omega) hL (by omega) (cont_ret ?_))
  rw [hjp]
  refine wp_istore (i := 16) (lv' := [(16, vi (nI j)), (13, vi (nI pl)), (12, vi (nI (sSz V k))), (11, vr (some (nm 71 K))), (10, vi (nI (sNv V))), (8, vl (nI (sMd V)).toInt64), (7, vi e), (6, vi (nI w)), (5, vi (nI k)), (4, vr (some (nm 70 1))), (3, vr (some (nm 70 0))), (2, vi (nI i)), (1, vr (some nS)), (0, vr (some (nm 40 0)))]) dL_value_885 (by decide) rfl ?_
  refine wp_aload (i := 11) dL_value_887 rfl ?_
  refine wp_iconst (nI 2) dL_value_889 (by decide) ?_
  refine wp_iload (i := 16) dL_value_890 rfl ?_
  refine wp_iaddN dL_value_892 ?_
  refine wp_ialoadN 70 (nI 2000) dL_value_893 W.1 W.2.1 (by omega) (by decide) ((W.2.2 (2 + j) (by omega)).trans (fj)) ?_
  refine wp_sipush (nI 2000) dL_value_894 (by decide) ?_
  refine wp_icmp_eqN 904 dL_value_897 (by decide) (by decide) (by decide) (fun c_897 => ?_) (fun c_897 => absurd c_897 (fun z => z rfl))
  refine wp_iconst (nI 0) dL_value_904 (by decide) ?_
  refine wp_istore (i := 17) (lv' := [(17, vi (nI 0)), (16, vi (nI j)), (13, vi (nI pl)), (12, vi (nI (sSz V k))), (11, vr (some (nm 71 K))), (10, vi (nI (sNv V))), (8, vl (nI (sMd V)).toInt64), (7, vi e), (6, vi (nI w)), (5, vi (nI k)), (4, vr (some (nm 70 1))), (3, vr (some (nm 70 0))), (2, vi (nI i)), (1, vr (some nS)), (0, vr (some (nm 40 0)))]) dL_value_905 (by decide) rfl ?_
  refine wp_iload (i := 6) dL_value_907 rfl ?_
  refine wp_bipush (nI 11) dL_value_909 (by decide) ?_
  refine wp_icmp_ltN 919 dL_value_911 (by decide) (by omega) (by decide) (fun c_911 => absurd c_911 (by omega)) (fun c_911 => ?_)
  refine wp_iload (i := 17) dL_value_914 rfl ?_
  refine wp_if_neN 923 dL_value_916 (by decide) (by decide) (fun c_916 => absurd c_916 (by decide)) (fun c_916 => ?_)
  refine wp_iconst (nI 1) dL_value_919 (by decide) ?_
  refine wp_goto 924 dL_value_920 (by decide) ?_
  refine wp_istore (i := 18) (lv' := [(18, vi (nI 1)), (17, vi (nI 0)), (16, vi (nI j)), (13, vi (nI pl)), (12, vi (nI (sSz V k))), (11, vr (some (nm 71 K))), (10, vi (nI (sNv V))), (8, vl (nI (sMd V)).toInt64), (7, vi e), (6, vi (nI w)), (5, vi (nI k)), (4, vr (some (nm 70 1))), (3, vr (some (nm 70 0))), (2, vi (nI i)), (1, vr (some nS)), (0, vr (some (nm 40 0)))]) dL_value_924 (by decide) rfl ?_
  refine wp_iload (i := 18) dL_value_926 rfl ?_
  refine wp_if_eqN 949 dL_value_928 (by decide) (by decide) (fun c_928 => absurd c_928 (by decide)) (fun c_928 => ?_)
  refine wp_aload_n (i := 0) dL_value_931 rfl rfl ?_
  refine wp_bipush (nI 9) dL_value_932 (by decide) ?_
  refine wp_iload (i := 5) dL_value_934 rfl ?_
  refine wp_bipush (nI 25) dL_value_936 (by decide) ?_
  refine wp_iload (i := 16) dL_value_938 rfl ?_
  refine wp_imulN dL_value_940 ?_
  refine wp_iload (i := 7) dL_value_941 rfl ?_
  refine wp_cSH (y' := m_L_deed) [vr (some (nm 40 0)), vi (nI 9), vi (nI k), vi (nI (25 * j)), vi e] [] 30 900 dL_value_943 ml_L_191 st_L_deed okH_L_deed rfl (Nat.le_of_ble_eq_true rfl) rfl (Nat.le_of_ble_eq_true rfl) (d' := d - 1) (by omega) (by omega) (by omega) (e_put (k := k) hk1 (j := (25 * j)) (by omega) B (by omega) C (by omega) (by omega) (by omega) (fun h1 M1 ma1 mb1 C1 F1 => cont_ret ?_))
  obtain ⟨V', eo, mo, mk9, rp⟩ := pv_put B.1 hk ht hj (fun z => map_room B.1 hk ht hPk hj z) h60 he hPk
  have k9 : VK V (o_put V (nI k) k (nI (25 * j)) (25 * j) e).2.2 := k_put B.1 (ixk hk1 (by omega)) (hwn (by omega) _ (by decide))
  have b9 : WB (o_put V (nI k) k (nI (25 * j)) (25 * j) e).2.2 := b_put B.2.1 hm25 (fun _ t9 => (B.1.2.1 k hk).2.2.2.1 t9 |>.2.1)
  rw [eo] at k9 b9
  have B' : PU (c + 1) V' n x R := B.v k9 b9 (by omega)
  rw [eo] at C1
  rw [show dA [-20001, -20002, -20004, -20003] (o_put V (nI k) k (nI (25 * j)) (25 * j) e) = nI (sNv V) from by rw [eo]; rfl]
  rw [if_neg (by rw [hh]; decide)] at rp
  have H1 := H.fk F1
  have W1 := RWl.fk W F1 (by unfold nm; omega)
  refine wp_goto 963 dL_value_946 (by decide) ?_
  refine wp_istore (i := 14) (lv' := [(14, vi (nI (sNv V))), (18, vi (nI 1)), (17, vi (nI 0)), (16, vi (nI j)), (13, vi (nI pl)), (12, vi (nI (sSz V k))), (11, vr (some (nm 71 K))), (10, vi (nI (sNv V))), (8, vl (nI (sMd V)).toInt64), (7, vi e), (6, vi (nI w)), (5, vi (nI k)), (4, vr (some (nm 70 1))), (3, vr (some (nm 70 0))), (2, vi (nI i)), (1, vr (some nS)), (0, vr (some (nm 40 0)))]) dL_value_963 (by decide) rfl ?_
  refine wp_iconst (nI 1) dL_value_965 (by decide) ?_
  refine wp_istore (i := 15) (lv' := [(15, vi (nI 1)), (14, vi (nI (sNv V))), (18, vi (nI 1)), (17, vi (nI 0)), (16, vi (nI j)), (13, vi (nI pl)), (12, vi (nI (sSz V k))), (11, vr (some (nm 71 K))), (10, vi (nI (sNv V))), (8, vl (nI (sMd V)).toInt64), (7, vi e), (6, vi (nI w)), (5, vi (nI k)), (4, vr (some (nm 70 1))), (3, vr (some (nm 70 0))), (2, vi (nI i)), (1, vr (some nS)), (0, vr (some (nm 40 0)))]) dL_value_966 (by decide) rfl ?_
  refine wp_aload (i := 11) dL_value_968 rfl ?_
  refine wp_iconst (nI 1) dL_value_970 (by decide) ?_
  refine wp_dup2 dL_value_971 ?_
  refine wp_ialoadN 70 (nI (sSz V k)) dL_value_972 W1.1 W1.2.1 (by decide) (by decide) ((W1.2.2 1 (by decide)).trans (f1)) ?_
  refine wp_iload (i := 18) dL_value_973 rfl ?_
  refine wp_if_eqN 994 dL_value_975 (by decide) (by decide) (fun c_975 => absurd c_975 (by decide)) (fun c_975 => ?_)
  refine wp_iload (i := 17) dL_value_978 rfl ?_
  refine wp_if_neN 987 dL_value_980 (by decide) (by decide) (fun c_980 => absurd c_980 (by decide)) (fun c_980 => ?_)
  refine wp_iconst (nI 1) dL_value_983 (by decide) ?_
  refine wp_goto 988 dL_value_984 (by decide) ?_
  refine wp_cS (y' := m_L_told) [vi (bI true)] [vi (nI (sSz V k)), vi (nI 1), vr (some (nm 71 K))] 0 0 dL_value_988 ml_L_83 st_L_told ok_L_told rfl (Nat.le_of_ble_eq_true rfl) rfl (Nat.le_of_ble_eq_true rfl) (d' := d - 1) (by omega) (Nat.zero_le _) (Nat.zero_le _) (c_L_told (b := true) (cont_ret ?_))
  refine wp_goto 995 dL_value_991 (by decide) ?_
  refine wp_iaddN dL_value_995 ?_
  refine wp_iastoreN 70 dL_value_996 W1.1 W1.2.1 (by decide) (by decide) ?_
  have W2w := RWn.w (n := 70) (k := 1) (z := (nI ((sSz V k) + 1))) W1
  have H2w := H1.wr (k := 1) (z := (nI ((sSz V k) + 1))) hKn (by omega)
  have C2w := C1.law (fun a ha => ce_w71 (h := _) (k := 1) (z := (nI ((sSz V k) + 1))) (show a ≠ nm 71 K by unfold nm; omega))
  refine wp_aload (i := 11) dL_value_997 rfl ?_
  refine wp_iconst (nI 2) dL_value_999 (by decide) ?_
  refine wp_iload (i := 16) dL_value_1000 rfl ?_
  refine wp_iaddN dL_value_1002 ?_
  refine wp_iload (i := 18) dL_value_1003 rfl ?_
  refine wp_if_eqN 1013 dL_value_1005 (by decide) (by decide) (fun c_1005 => absurd c_1005 (by decide)) (fun c_1005 => ?_)
  refine wp_iload (i := 7) dL_value_1008 rfl ?_
  refine wp_goto 1016 dL_value_1010 (by decide) ?_
  refine wp_iastoreN 70 dL_value_1016 W2w.1 W2w.2.1 (by omega) (by decide) ?_
  have W3w := RWn.w (n := 70) (k := 2 + j) (z := e) W2w
  have H3w := H2w.wr (k := 2 + j) (z := e) hKn (by omega)
  have C3w := C2w.law (fun a ha => ce_w71 (h := _) (k := 2 + j) (z := e) (show a ≠ nm 71 K by unfold nm; omega))
  refine wp_goto 1072 dL_value_1017 (by decide) ?_
  refine wp_sub [(15, vi (nI 1)), (14, vi (nI (sNv V))), (11, vr (some (nm 71 K))), (10, vi (nI (sNv V))), (8, vl (nI (sMd V)).toInt64), (5, vi (nI k)), (4, vr (some (nm 70 1))), (3, vr (some (nm 70 0))), (0, vr (some (nm 40 0)))] (sb_cons (.head _) (sb_cons (.tail _ (.head _)) (sb_cons (.tail _ (.tail _ (.tail _ (.tail _ (.tail _ (.tail _ (.tail _ (.head _)))))))) (sb_cons (.tail _ (.tail _ (.tail _ (.tail _ (.tail _ (.tail _ (.tail _ (.tail _ (.head _))))))))) (sb_cons (.tail _ (.tail _ (.tail _ (.tail _ (.tail _ (.tail _ (.tail _ (.tail _ (.tail _ (.head _)))))))))) (sb_cons (.tail _ (.tail _ (.tail _ (.tail _ (.tail _ (.tail _ (.tail _ (.tail _ (.tail _ (.tail _ (.tail _ (.tail _ (.head _))))))))))))) (sb_cons (.tail _ (.tail _ (.tail _ (.tail _ (.tail _ (.tail _ (.tail _ (.tail _ (.tail _ (.tail _ (.tail _ (.tail _ (.tail _ (.head _)))))))))))))) (sb_cons (.tail _ (.tail _ (.tail _ (.tail _ (.tail _ (.tail _ (.tail _ (.tail _ (.tail _ (.tail _ (.tail _ (.tail _ (.tail _ (.tail _ (.head _))))))))))))))) (sb_cons (.tail _ (.tail _ (.tail _ (.tail _ (.tail _ (.tail _ (.tail _ (.tail _ (.tail _ (.tail _ (.tail _ (.tail _ (.tail _ (.tail _ (.tail _ (.tail _ (.tail _ (.head _)))))))))))))))))) sb_nil))))))))) ?_
  exact l_val_keep B hc h60 hP hI0 hd hL hk (c' := c + 1) (by omega) B' mo mk9 rp C3w (by omega) H3w hKn W3w (by omega) (by omega) (fun h9 M9 V9 c9 r9 f9 a b e m1 m2 g1 g2 g3 => hq h9 M9 V9 c9 r9 f9 a b e (by omega) (by omega) g1 g2 g3)
set_option maxRecDepth 100000 in
set_option maxHeartbeats 4000000 in
theorem l_val_wout {G : GG} {d c n : Nat} {Q : Pst} {V : SV} {x : Nat → QIS} {R : RS} {k K J : Nat} {ro : Nat → Nat} {rf : Nat → Nat → Int32} {op : Nat → Bool} (B : PU c V n x R) (hc : c + 4 ≤ 512) (h60 : sNv V < 60) (hP : ∀ v, v < sNv V → RowP (vp V v) (rf v)) (hI0 : IN0 V) (hd : 40 ≤ d) (hL : slen G < 2 ^ 31) {h : Hp} {M bc bs : Nat} (hk : k < sNv V) (ht : sTy V k = 109) (C : CLS h V M n x R) (hM : M + 30 < 900000) (H : LWH h (sNv V) n (RS_rn R) ro rf (K + 1) J op) (hKn : ∀ v, v < sNv V → ro v ≠ K) (W : RWl h (nm 71 K) (rf k)) {e : Int32} (he : smE e) {pl : Nat} (hpl : pl < 20) {w i : Nat} (hw : w < 16) (hi : i + 100 < 2 ^ 31) (hbc : 120 ≤ bc) (hbs : 3000 ≤ bs) (hq : ∀ h' M' V' c' ro' rf', c' ≤ c + 4 → PU c' V' n x R → CLS h' V' M' n x R → M ≤ M' → M' ≤ M + 16 → LWH h' (sNv V') n (RS_rn R) ro' rf' (K + 1) J op → (∀ v, v < sNv V' → RowP (vp V' v) (rf' v)) → IN0 V' → Q (oRet (vi (nI 1))) h') {j : Nat} (hjp : pkV G (i + 3) 40 = j) (hj : j < 40) (hh : hsv V k (25 * j) = true) (hw11 : 11 ≤ w) : WP G m_L_value d 290 [(13, vi (nI pl)), (12, vi (nI (sSz V k))), (11, vr (some (nm 71 K))), (10, vi (nI (sNv V))), (8, vl (nI (sMd V)).toInt64), (7, vi e), (6, vi (nI w)), (5, vi (nI k)), (4, vr (some (nm 70 1))), (3, vr (some (nm 70 0))), (2, vi (nI i)), (1, vr (some nS)), (0, vr (some (nm 40 0)))] [] h bc bs Q := by
  have hn60 := B.1.1
  have hk1 : k < 2 ^ 31 := by omega
  have hz : sSz V k ≤ 64 := (B.1.2.1 k hk).2.1
  have hPk := hP k hk
  have f0 : rf k 0 = nI 109 := hPk.1.trans (congrArg nI ht)
  have f1 : rf k 1 = nI (sSz V k) := hPk.2.1
  have hmd := B.2.2.1
  have hm25 : sMd V + 25 ≤ 1000000 := by omega
  have R9 := row_map hPk ht
  have fj : rf k (2 + j) = ofv V k (25 * j) := (R9.1 j hj).trans (by rw [hh]; rfl)
  have sn := smE_ne (R9.2.2 _ hh)
  have hs0 : 0 < sSz V k := map_pos B.1 hk ht hh
  refine wp_aload (i := 11) dL_value_290 rfl ?_
  refine wp_iconst (nI 0) dL_value_292 (by decide) ?_
  refine wp_ialoadN 70 (nI 109) dL_value_293 W.1 W.2.1 (by decide) (by decide) ((W.2.2 0 (by decide)).trans (f0)) ?_
  refine wp_bipush (nI 118) dL_value_294 (by decide) ?_
  refine wp_icmp_neN 535 dL_value_296 (by decide) (by decide) (by decide) (fun c_296 => ?_) (fun c_296 => absurd c_296 (by decide))
  refine wp_aload (i := 11) dL_value_535 rfl ?_
  refine wp_iconst (nI 0) dL_value_537 (by decide) ?_
  refine wp_ialoadN 70 (nI 109) dL_value_538 W.1 W.2.1 (by decide) (by decide) ((W.2.2 0 (by decide)).trans (f0)) ?_
  refine wp_bipush (nI 118) dL_value_539 (by decide) ?_
  refine wp_icmp_neN 583 dL_value_541 (by decide) (by decide) (by decide) (fun c_541 => ?_) (fun c_541 => absurd c_541 (by decide))
  refine wp_aload (i := 11) dL_value_583 rfl ?_
  refine wp_iconst (nI 0) dL_value_585 (by decide) ?_
  refine wp_ialoadN 70 (nI 109) dL_value_586 W.1 W.2.1 (by decide) (by decide) ((W.2.2 0 (by decide)).trans (f0)) ?_
  refine wp_bipush (nI 111) dL_value_587 (by decide) ?_
  refine wp_icmp_neN 867 dL_value_589 (by decide) (by decide) (by decide) (fun c_589 => ?_) (fun c_589 => absurd c_589 (by decide))
  refine wp_aload (i := 11) dL_value_867 rfl ?_
  refine wp_iconst (nI 0) dL_value_869 (by decide) ?_
  refine wp_ialoadN 70 (nI 109) dL_value_870 W.1 W.2.1 (by decide) (by decide) ((W.2.2 0 (by decide)).trans (f0)) ?_
  refine wp_bipush (nI 109) dL_value_871 (by decide) ?_
  refine wp_icmp_neN 1020 dL_value_873 (by decide) (by decide) (by decide) (fun c_873 => absurd c_873 (by decide)) (fun c_873 => ?_)
  refine wp_aload_n (i := 1) dL_value_876 rfl rfl ?_
  refine wp_iload_n (i := 2) dL_value_877 rfl rfl ?_
  refine wp_iconst (nI 3) dL_value_878 (by decide) ?_
  refine wp_iaddN dL_value_879 ?_
  refine wp_bipush (nI 40) dL_value_880 (by decide) ?_
  refine wp_cS (y' := m_L_pick) [vr (some nS), vi (nI (i + 3)), vi (nI 40)] [] 0 0 dL_value_882 ml_L_199 st_L_pick ok_L_pick rfl (Nat.le_of_ble_eq_true rfl) rfl (Nat.le_of_ble_eq_true rfl) (d' := d - 1) (by omega) (Nat.zero_le _) (Nat.zero_le _) (c_L_pick (by omega) (by decide) (by omega) hL (by omega) (cont_ret ?_))
  rw [hjp]
  refine wp_istore (i := 16) (lv' := [(16, vi (nI j)), (13, vi (nI pl)), (12, vi (nI (sSz V k))), (11, vr (some (nm 71 K))), (10, vi (nI (sNv V))), (8, vl (nI (sMd V)).toInt64), (7, vi e), (6, vi (nI w)), (5, vi (nI k)), (4, vr (some (nm 70 1))), (3, vr (some (nm 70 0))), (2, vi (nI i)), (1, vr (some nS)), (0, vr (some (nm 40 0)))]) dL_value_885 (by decide) rfl ?_
  refine wp_aload (i := 11) dL_value_887 rfl ?_
  refine wp_iconst (nI 2) dL_value_889 (by decide) ?_
  refine wp_iload (i := 16) dL_value_890 rfl ?_
  refine wp_iaddN dL_value_892 ?_
  refine wp_ialoadN 70 (ofv V k (25 * j)) dL_value_893 W.1 W.2.1 (by omega) (by decide) ((W.2.2 (2 + j) (by omega)).trans (fj)) ?_
  refine wp_sipush (nI 2000) dL_value_894 (by decide) ?_
  refine wp_icmp_eq 904 dL_value_897 (by decide) (fun c_897 => absurd c_897 (fun z => sn.1 z)) (fun c_897 => ?_)
  refine wp_iconst (nI 1) dL_value_900 (by decide) ?_
  refine wp_goto 905 dL_value_901 (by decide) ?_
  refine wp_istore (i := 17) (lv' := [(17, vi (nI 1)), (16, vi (nI j)), (13, vi (nI pl)), (12, vi (nI (sSz V k))), (11, vr (some (nm 71 K))), (10, vi (nI (sNv V))), (8, vl (nI (sMd V)).toInt64), (7, vi e), (6, vi (nI w)), (5, vi (nI k)), (4, vr (some (nm 70 1))), (3, vr (some (nm 70 0))), (2, vi (nI i)), (1, vr (some nS)), (0, vr (some (nm 40 0)))]) dL_value_905 (by decide) rfl ?_
  refine wp_iload (i := 6) dL_value_907 rfl ?_
  refine wp_bipush (nI 11) dL_value_909 (by decide) ?_
  refine wp_icmp_ltN 919 dL_value_911 (by decide) (by omega) (by decide) (fun c_911 => absurd c_911 (by omega)) (fun c_911 => ?_)
  refine wp_iload (i := 17) dL_value_914 rfl ?_
  refine wp_if_neN 923 dL_value_916 (by decide) (by decide) (fun c_916 => ?_) (fun c_916 => absurd c_916 (by decide))
  refine wp_iconst (nI 0) dL_value_923 (by decide) ?_
  refine wp_istore (i := 18) (lv' := [(18, vi (nI 0)), (17, vi (nI 1)), (16, vi (nI j)), (13, vi (nI pl)), (12, vi (nI (sSz V k))), (11, vr (some (nm 71 K))), (10, vi (nI (sNv V))), (8, vl (nI (sMd V)).toInt64), (7, vi e), (6, vi (nI w)), (5, vi (nI k)), (4, vr (some (nm 70 1))), (3, vr (some (nm 70 0))), (2, vi (nI i)), (1, vr (some nS)), (0, vr (some (nm 40 0)))]) dL_value_924 (by decide) rfl ?_
  refine wp_iload (i := 18) dL_value_926 rfl ?_
  refine wp_if_eqN 949 dL_value_928 (by decide) (by decide) (fun c_928 => ?_) (fun c_928 => absurd c_928 (by decide))
  refine wp_aload_n (i := 0) dL_value_949 rfl rfl ?_
  refine wp_bipush (nI 10) dL_value_950 (by decide) ?_
  refine wp_iload (i := 5) dL_value_952 rfl ?_
  refine wp_bipush (nI 25) dL_value_954 (by decide) ?_
  refine wp_iload (i := 16) dL_value_956 rfl ?_
  refine wp_imulN dL_value_958 ?_
  refine wp_iconst (nI 0) dL_value_959 (by decide) ?_
  refine wp_cSH (y' := m_L_deed) [vr (some (nm 40 0)), vi (nI 10), vi (nI k), vi (nI (25 * j)), vi (nI 0)] [] 30 800 dL_value_960 ml_L_191 st_L_deed okH_L_deed rfl (Nat.le_of_ble_eq_true rfl) rfl (Nat.le_of_ble_eq_true rfl) (d' := d - 1) (by omega) (by omega) (by omega) (e_without (k := k) hk1 (j := (25 * j)) (by omega) B (by omega) C (by omega) (by omega) (by omega) (fun h1 M1 ma1 mb1 C1 F1 => cont_ret ?_))
  obtain ⟨V', eo, mo, mk9, rp⟩ := pv_without B.1 hk ht hj hh h60 hPk
  have k9 : VK V (o_without V (nI k) k (nI (25 * j)) (25 * j)).2.2 := k_without B.1 (ixk hk1 (by omega)) (hwn (by omega) _ (by decide))
  have b9 : WB (o_without V (nI k) k (nI (25 * j)) (25 * j)).2.2 := b_without B.2.1 hm25
  rw [eo] at k9 b9
  have B' : PU (c + 1) V' n x R := B.v k9 b9 (by omega)
  rw [eo] at C1
  rw [show dA [-20001, -20004, -20005, -20003] (o_without V (nI k) k (nI (25 * j)) (25 * j)) = nI (sNv V) from by rw [eo]; rfl]
  have H1 := H.fk F1
  have W1 := RWl.fk W F1 (by unfold nm; omega)
  refine wp_istore (i := 14) (lv' := [(14, vi (nI (sNv V))), (18, vi (nI 0)), (17, vi (nI 1)), (16, vi (nI j)), (13, vi (nI pl)), (12, vi (nI (sSz V k))), (11, vr (some (nm 71 K))), (10, vi (nI (sNv V))), (8, vl (nI (sMd V)).toInt64), (7, vi e), (6, vi (nI w)), (5, vi (nI k)), (4, vr (some (nm 70 1))), (3, vr (some (nm 70 0))), (2, vi (nI i)), (1, vr (some nS)), (0, vr (some (nm 40 0)))]) dL_value_963 (by decide) rfl ?_
  refine wp_iconst (nI 1) dL_value_965 (by decide) ?_
  refine wp_istore (i := 15) (lv' := [(15, vi (nI 1)), (14, vi (nI (sNv V))), (18, vi (nI 0)), (17, vi (nI 1)), (16, vi (nI j)), (13, vi (nI pl)), (12, vi (nI (sSz V k))), (11, vr (some (nm 71 K))), (10, vi (nI (sNv V))), (8, vl (nI (sMd V)).toInt64), (7, vi e), (6, vi (nI w)), (5, vi (nI k)), (4, vr (some (nm 70 1))), (3, vr (some (nm 70 0))), (2, vi (nI i)), (1, vr (some nS)), (0, vr (some (nm 40 0)))]) dL_value_966 (by decide) rfl ?_
  refine wp_aload (i := 11) dL_value_968 rfl ?_
  refine wp_iconst (nI 1) dL_value_970 (by decide) ?_
  refine wp_dup2 dL_value_971 ?_
  refine wp_ialoadN 70 (nI (sSz V k)) dL_value_972 W1.1 W1.2.1 (by decide) (by decide) ((W1.2.2 1 (by decide)).trans (f1)) ?_
  refine wp_iload (i := 18) dL_value_973 rfl ?_
  refine wp_if_eqN 994 dL_value_975 (by decide) (by decide) (fun c_975 => ?_) (fun c_975 => absurd c_975 (by decide))
  refine wp_iconst (-1) dL_value_994 (by decide) ?_
  refine wp_iadd dL_value_995 ?_
  rw [nI_m1' hs0]
  refine wp_iastoreN 70 dL_value_996 W1.1 W1.2.1 (by decide) (by decide) ?_
  have W2w := RWn.w (n := 70) (k := 1) (z := (nI (sSz V k - 1))) W1
  have H2w := H1.wr (k := 1) (z := (nI (sSz V k - 1))) hKn (by omega)
  have C2w := C1.law (fun a ha => ce_w71 (h := _) (k := 1) (z := (nI (sSz V k - 1))) (show a ≠ nm 71 K by unfold nm; omega))
  refine wp_aload (i := 11) dL_value_997 rfl ?_
  refine wp_iconst (nI 2) dL_value_999 (by decide) ?_
  refine wp_iload (i := 16) dL_value_1000 rfl ?_
  refine wp_iaddN dL_value_1002 ?_
  refine wp_iload (i := 18) dL_value_1003 rfl ?_
  refine wp_if_eqN 1013 dL_value_1005 (by decide) (by decide) (fun c_1005 => ?_) (fun c_1005 => absurd c_1005 (by decide))
  refine wp_sipush (nI 2000) dL_value_1013 (by decide) ?_
  refine wp_iastoreN 70 dL_value_1016 W2w.1 W2w.2.1 (by omega) (by decide) ?_
  have W3w := RWn.w (n := 70) (k := 2 + j) (z := (nI 2000)) W2w
  have H3w := H2w.wr (k := 2 + j) (z := (nI 2000)) hKn (by omega)
  have C3w := C2w.law (fun a ha => ce_w71 (h := _) (k := 2 + j) (z := (nI 2000)) (show a ≠ nm 71 K by unfold nm; omega))
  refine wp_goto 1072 dL_value_1017 (by decide) ?_
  refine wp_sub [(15, vi (nI 1)), (14, vi (nI (sNv V))), (11, vr (some (nm 71 K))), (10, vi (nI (sNv V))), (8, vl (nI (sMd V)).toInt64), (5, vi (nI k)), (4, vr (some (nm 70 1))), (3, vr (some (nm 70 0))), (0, vr (some (nm 40 0)))] (sb_cons (.head _) (sb_cons (.tail _ (.head _)) (sb_cons (.tail _ (.tail _ (.tail _ (.tail _ (.tail _ (.tail _ (.tail _ (.head _)))))))) (sb_cons (.tail _ (.tail _ (.tail _ (.tail _ (.tail _ (.tail _ (.tail _ (.tail _ (.head _))))))))) (sb_cons (.tail _ (.tail _ (.tail _ (.tail _ (.tail _ (.tail _ (.tail _ (.tail _ (.tail _ (.head _)))))))))) (sb_cons (.tail _ (.tail _ (.tail _ (.tail _ (.tail _ (.tail _ (.tail _ (.tail _ (.tail _ (.tail _ (.tail _ (.tail _ (.head _))))))))))))) (sb_cons (.tail _ (.tail _ (.tail _ (.tail _ (.tail _ (.tail _ (.tail _ (.tail _ (.tail _ (.tail _ (.tail _ (.tail _ (.tail _ (.head _)))))))))))))) (sb_cons (.tail _ (.tail _ (.tail _ (.tail _ (.tail _ (.tail _ (.tail _ (.tail _ (.tail _ (.tail _ (.tail _ (.tail _ (.tail _ (.tail _ (.head _))))))))))))))) (sb_cons (.tail _ (.tail _ (.tail _ (.tail _ (.tail _ (.tail _ (.tail _ (.tail _ (.tail _ (.tail _ (.tail _ (.tail _ (.tail _ (.tail _ (.tail _ (.tail _ (.tail _ (.head _)))))))))))))))))) sb_nil))))))))) ?_
  exact l_val_keep B hc h60 hP hI0 hd hL hk (c' := c + 1) (by omega) B' mo mk9 rp C3w (by omega) H3w hKn W3w (by omega) (by omega) (fun h9 M9 V9 c9 r9 f9 a b e m1 m2 g1 g2 g3 => hq h9 M9 V9 c9 r9 f9 a b e (by omega) (by omega) g1 g2 g3)
set_option maxRecDepth 100000 in
set_option maxHeartbeats 4000000 in
theorem l_val_away {G : GG} {d c n : Nat} {Q : Pst} {V : SV} {x : Nat → QIS} {R : RS} {k K J : Nat} {ro : Nat → Nat} {rf : Nat → Nat → Int32} {op : Nat → Bool} (B : PU c V n x R) (hc : c + 4 ≤ 512) (h60 : sNv V < 60) (hP : ∀ v, v < sNv V → RowP (vp V v) (rf v)) (hI0 : IN0 V) (hd : 40 ≤ d) (hL : slen G < 2 ^ 31) {h : Hp} {M bc bs : Nat} (hk : k < sNv V) (ht : sTy V k = 120) (C : CLS h V M n x R) (hM : M + 30 < 900000) (H : LWH h (sNv V) n (RS_rn R) ro rf (K + 1) J op) (hKn : ∀ v, v < sNv V → ro v ≠ K) (W : RWl h (nm 71 K) (rf k)) {e : Int32} (he : smE e) {pl : Nat} (hpl : pl < 20) {w i : Nat} (hw : w < 16) (hi : i + 100 < 2 ^ 31) (hbc : 120 ≤ bc) (hbs : 3000 ≤ bs) (hq : ∀ h' M' V' c' ro' rf', c' ≤ c + 4 → PU c' V' n x R → CLS h' V' M' n x R → M ≤ M' → M' ≤ M + 16 → LWH h' (sNv V') n (RS_rn R) ro' rf' (K + 1) J op → (∀ v, v < sNv V' → RowP (vp V' v) (rf' v)) → IN0 V' → Q (oRet (vi (nI 1))) h') : WP G m_L_value d 290 [(13, vi (nI pl)), (12, vi (nI (sSz V k))), (11, vr (some (nm 71 K))), (10, vi (nI (sNv V))), (8, vl (nI (sMd V)).toInt64), (7, vi e), (6, vi (nI w)), (5, vi (nI k)), (4, vr (some (nm 70 1))), (3, vr (some (nm 70 0))), (2, vi (nI i)), (1, vr (some nS)), (0, vr (some (nm 40 0)))] [] h bc bs Q := by
  have hn60 := B.1.1
  have hk1 : k < 2 ^ 31 := by omega
  have hz : sSz V k ≤ 64 := (B.1.2.1 k hk).2.1
  have hPk := hP k hk
  have f0 : rf k 0 = nI 120 := hPk.1.trans (congrArg nI ht)
  have f1 : rf k 1 = nI (sSz V k) := hPk.2.1
  have hmd := B.2.2.1
  have hm25 : sMd V + 25 ≤ 1000000 := by omega
  refine wp_aload (i := 11) dL_value_290 rfl ?_
  refine wp_iconst (nI 0) dL_value_292 (by decide) ?_
  refine wp_ialoadN 70 (nI 120) dL_value_293 W.1 W.2.1 (by decide) (by decide) ((W.2.2 0 (by decide)).trans (f0)) ?_
  refine wp_bipush (nI 118) dL_value_294 (by decide) ?_
  refine wp_icmp_neN 535 dL_value_296 (by decide) (by decide) (by decide) (fun c_296 => ?_) (fun c_296 => absurd c_296 (by decide))
  refine wp_aload (i := 11) dL_value_535 rfl ?_
  refine wp_iconst (nI 0) dL_value_537 (by decide) ?_
  refine wp_ialoadN 70 (nI 120) dL_value_538 W.1 W.2.1 (by decide) (by decide) ((W.2.2 0 (by decide)).trans (f0)) ?_
  refine wp_bipush (nI 118) dL_value_539 (by decide) ?_
  refine wp_icmp_neN 583 dL_value_541 (by decide) (by decide) (by decide) (fun c_541 => ?_) (fun c_541 => absurd c_541 (by decide))
  refine wp_aload (i := 11) dL_value_583 rfl ?_
  refine wp_iconst (nI 0) dL_value_585 (by decide) ?_
  refine wp_ialoadN 70 (nI 120) dL_value_586 W.1 W.2.1 (by decide) (by decide) ((W.2.2 0 (by decide)).trans (f0)) ?_
  refine wp_bipush (nI 111) dL_value_587 (by decide) ?_
  refine wp_icmp_neN 867 dL_value_589 (by decide) (by decide) (by decide) (fun c_589 => ?_) (fun c_589 => absurd c_589 (by decide))
  refine wp_aload (i := 11) dL_value_867 rfl ?_
  refine wp_iconst (nI 0) dL_value_869 (by decide) ?_
  refine wp_ialoadN 70 (nI 120) dL_value_870 W.1 W.2.1 (by decide) (by decide) ((W.2.2 0 (by decide)).trans (f0)) ?_
  refine wp_bipush (nI 109) dL_value_871 (by decide) ?_
  refine wp_icmp_neN 1020 dL_value_873 (by decide) (by decide) (by decide) (fun c_873 => ?_) (fun c_873 => absurd c_873 (by decide))
  refine wp_aload_n (i := 0) dL_value_1020 rfl rfl ?_
  refine wp_iconst (nI 5) dL_value_1021 (by decide) ?_
  refine wp_iload (i := 5) dL_value_1022 rfl ?_
  refine wp_iconst (nI 0) dL_value_1024 (by decide) ?_
  refine wp_iconst (nI 0) dL_value_1025 (by decide) ?_
  refine wp_cSH (y' := m_L_deed) [vr (some (nm 40 0)), vi (nI 5), vi (nI k), vi (nI 0), vi (nI 0)] [] 20 400 dL_value_1026 ml_L_191 st_L_deed okH_L_deed rfl (Nat.le_of_ble_eq_true rfl) rfl (Nat.le_of_ble_eq_true rfl) (d' := d - 1) (by omega) (by omega) (by omega) (e_appendTo (k := k) hk1 B (by omega) C (by omega) (by omega) (by omega) (fun h1 M1 ma1 mb1 C1 F1 => cont_ret ?_))
  rw [(pv_x hk (by omega) (by omega) (by omega)).2.2] at C1
  rw [show dA [-20001, -20002, -20004] (o_appendTo V (nI k) k (nI 0)) = -20004 from by rw [(pv_x hk (by omega) (by omega) (by omega)).2.2]; rfl]
  have H1 := H.fk F1
  have W1 := RWl.fk W F1 (by unfold nm; omega)
  refine wp_sipush (-20004) dL_value_1029 (by decide) ?_
  refine wp_icmp_ne 1070 dL_value_1032 (by decide) (fun c_1032 => absurd c_1032 (fun z => z rfl)) (fun c_1032 => ?_)
  refine wp_aload_n (i := 0) dL_value_1035 rfl rfl ?_
  refine wp_bipush (nI 7) dL_value_1036 (by decide) ?_
  refine wp_iload (i := 5) dL_value_1038 rfl ?_
  refine wp_iconst (nI 0) dL_value_1040 (by decide) ?_
  refine wp_iconst (nI 0) dL_value_1041 (by decide) ?_
  refine wp_cSH (y' := m_L_deed) [vr (some (nm 40 0)), vi (nI 7), vi (nI k), vi (nI 0), vi (nI 0)] [] 20 400 dL_value_1042 ml_L_191 st_L_deed okH_L_deed rfl (Nat.le_of_ble_eq_true rfl) rfl (Nat.le_of_ble_eq_true rfl) (d' := d - 1) (by omega) (by omega) (by omega) (e_makeLasting (k := k) hk1 B (by omega) C1 (by omega) (by omega) (by omega) (fun h2 M2 ma2 mb2 C2 F2 => cont_ret ?_))
  rw [(pv_x hk (by omega) (by omega) (by omega)).2.1] at C2
  rw [show dA [-20001, -20004, -20003] (o_lasting V (nI k) k) = -20004 from by rw [(pv_x hk (by omega) (by omega) (by omega)).2.1]; rfl]
  have H2 := H1.fk F2
  have W2 := RWl.fk W1 F2 (by unfold nm; omega)
  refine wp_sipush (-20004) dL_value_1045 (by decide) ?_
  refine wp_icmp_ne 1070 dL_value_1048 (by decide) (fun c_1048 => absurd c_1048 (fun z => z rfl)) (fun c_1048 => ?_)
  refine wp_aload_n (i := 0) dL_value_1051 rfl rfl ?_
  refine wp_iconst (nI 4) dL_value_1052 (by decide) ?_
  refine wp_iload (i := 5) dL_value_1053 rfl ?_
  refine wp_iconst (nI 0) dL_value_1055 (by decide) ?_
  refine wp_iconst (nI 0) dL_value_1056 (by decide) ?_
  refine wp_cSH (y' := m_L_deed) [vr (some (nm 40 0)), vi (nI 4), vi (nI k), vi (nI 0), vi (nI 0)] [] 20 400 dL_value_1057 ml_L_191 st_L_deed okH_L_deed rfl (Nat.le_of_ble_eq_true rfl) rfl (Nat.le_of_ble_eq_true rfl) (d' := d - 1) (by omega) (by omega) (by omega) (e_open (k := k) hk1 B (by omega) C2 (by omega) (by omega) (by omega) (fun h3 M3 ma3 mb3 C3 F3 => cont_ret ?_))
  rw [(pv_x hk (by omega) (by omega) (by omega)).1] at C3
  rw [show dA [-20001, -20004, -20003] (o_open V (nI k) k) = -20004 from by rw [(pv_x hk (by omega) (by omega) (by omega)).1]; rfl]
  have H3 := H2.fk F3
  have W3 := RWl.fk W2 F3 (by unfold nm; omega)
  refine wp_sipush (-20004) dL_value_1060 (by decide) ?_
  refine wp_icmp_ne 1070 dL_value_1063 (by decide) (fun c_1063 => absurd c_1063 (fun z => z rfl)) (fun c_1063 => ?_)
  refine wp_iconst (nI 1) dL_value_1066 (by decide) ?_
  refine wp_goto 1071 dL_value_1067 (by decide) ?_
  refine wp_zreturn dL_value_1071 rfl (by decide) ?_
  exact hq _ _ V c ro rf (by omega) B C3 (by omega) (by omega) H3 hP hI0
