/-! value: the ends of its roads. -/
set_option maxRecDepth 100000 in
set_option maxHeartbeats 4000000 in
theorem l_val_keep {G : GG} {d c n : Nat} {Q : Pst} {V : SV} {x : Nat → QIS} {R : RS} {k K J : Nat} {ro : Nat → Nat} {rf : Nat → Nat → Int32} {op : Nat → Bool} (B : PU c V n x R) (hc : c + 4 ≤ 512) (h60 : sNv V < 60) (hP : ∀ v, v < sNv V → RowP (vp V v) (rf v)) (hI0 : IN0 V) (hd : 40 ≤ d) (hL : slen G < 2 ^ 31) {h : Hp} {M bc bs : Nat} {V' : SV} {c' : Nat} {g : Nat → Int32} (hk : k < sNv V) (hc' : c' ≤ c + 4) (B' : PU c' V' n x R) (mo : More V V') (mk9 : mdI V V' k) (rp : RowP (vp V' (sNv V)) g) (C : CLS h V' M n x R) (hM : M + 10 < 900000) (H : LWH h (sNv V) n (RS_rn R) ro rf (K + 1) J op) (hKn : ∀ v, v < sNv V → ro v ≠ K) (W : RWl h (nm 71 K) g) (hbc : 24 ≤ bc) (hbs : 160 ≤ bs) (hq : ∀ h' M' V' c' ro' rf', c' ≤ c + 4 → PU c' V' n x R → CLS h' V' M' n x R → M ≤ M' → M' ≤ M + 6 → LWH h' (sNv V') n (RS_rn R) ro' rf' (K + 1) J op → (∀ v, v < sNv V' → RowP (vp V' v) (rf' v)) → IN0 V' → Q (oRet (vi (nI 1))) h') : WP G m_L_value d 1072 [(15, vi (nI 1)), (14, vi (nI (sNv V))), (11, vr (some (nm 71 K))), (10, vi (nI (sNv V))), (8, vl (nI (sMd V)).toInt64), (5, vi (nI k)), (4, vr (some (nm 70 1))), (3, vr (some (nm 70 0))), (0, vr (some (nm 40 0)))] [] h bc bs Q := by
  have hmo := mo.1
  have hn60 : sNv V' ≤ 60 := B'.1.1
  refine wp_iload (i := 15) dL_value_1072 rfl ?_
  refine wp_if_neN 1089 dL_value_1074 (by decide) (by decide) (fun c_1074 => ?_) (fun c_1074 => absurd c_1074 (by decide))
  refine wp_aload_n (i := 3) dL_value_1089 rfl rfl ?_
  refine wp_iload (i := 10) dL_value_1090 rfl ?_
  refine wp_aload (i := 11) dL_value_1092 rfl ?_
  refine wp_aastoreAN 60 dL_value_1094 H.1.1 H.1.2 (by omega) (by decide) (W.1) ?_
  have H1p := H.put (r := some (nm 71 K))
  have C1p := C.law (fun a ha => ce_wR (k := sNv V) (r := some (nm 71 K)) (show a ≠ nm 70 0 by unfold nm; omega))
  have W1p := RWn.ce (n := 70) W (ce_wR (k := sNv V) (r := some (nm 71 K)) (show nm 71 K ≠ nm 70 0 by unfold nm; omega))
  refine wp_aload (i := 4) dL_value_1095 rfl ?_
  refine wp_iconst (nI 0) dL_value_1097 (by decide) ?_
  refine wp_dup2 dL_value_1098 ?_
  refine wp_ialoadN 3 (nI (sNv V)) dL_value_1099 H1p.2.2.2.1.1 H1p.2.2.2.1.2.1 (by decide) (by decide) (H1p.2.2.2.1.2.2.1) ?_
  refine wp_iconst (nI 1) dL_value_1100 (by decide) ?_
  refine wp_iaddN dL_value_1101 ?_
  refine wp_iastoreN 3 dL_value_1102 H1p.2.2.2.1.1 H1p.2.2.2.1.2.1 (by decide) (by decide) ?_
  have H2w := H1p.inc (i := K) hKn (by omega) put_at W1p
  have C2w := C1p.law (fun a ha => ce_w70 (i := 1) (k := 0) (z := (nI ((sNv V) + 1))) (show a ≠ nm 70 1 by unfold nm; omega))
  have W2w := RWn.ce (n := 70) W1p (ce_w70 (i := 1) (k := 0) (z := (nI ((sNv V) + 1))) (show nm 71 K ≠ nm 70 1 by unfold nm; omega))
  refine wp_iload (i := 14) dL_value_1103 rfl ?_
  refine wp_iload (i := 10) dL_value_1105 rfl ?_
  refine wp_icmp_neN 1127 dL_value_1107 (by decide) (by omega) (by omega) (fun c_1107 => absurd c_1107 (by omega)) (fun c_1107 => ?_)
  refine wp_aload_n (i := 0) dL_value_1110 rfl rfl ?_
  refine wp_iload (i := 10) dL_value_1111 rfl ?_
  refine wp_iload (i := 5) dL_value_1113 rfl ?_
  refine wp_lload (i := 8) dL_value_1115 rfl ?_
  refine wp_cS (y' := m_L_isMade) [vr (some (nm 40 0)), vi (nI (sNv V)), vi (nI k), vl (nI (sMd V)).toInt64] [] 24 160 dL_value_1117 ml_L_203 st_L_isMade ok_L_isMade rfl (Nat.le_of_ble_eq_true rfl) rfl (Nat.le_of_ble_eq_true rfl) (d' := d - 1) (by omega) (by omega) (by omega) (c_L_isMade B' (by omega) (v := sNv V) (u := k) (by omega) (by omega) mk9 (by omega) C2w (by omega) (by omega) (by omega) (fun h3 M3 ma3 mb3 C3 F3 => cont_ret ?_))
  have H3 := H2w.fk F3
  have W3 := RWl.fk W2w F3 (by unfold nm; omega)
  refine wp_if_eqN 1127 dL_value_1120 (by decide) (by decide) (fun c_1120 => absurd c_1120 (by decide)) (fun c_1120 => ?_)
  refine wp_iconst (nI 1) dL_value_1123 (by decide) ?_
  refine wp_goto 1128 dL_value_1124 (by decide) ?_
  refine wp_zreturn dL_value_1128 rfl (by decide) ?_
  refine hq _ _ V' c' (va_up ro (sNv V) K) (va_up rf (sNv V) g) hc' B' C3 (by omega) (by omega) (by rw [hmo]; exact H3) (fun v hv => ?_) (IN0.more hI0 mo.2 (by omega))
  rw [va_up_app]
  by_cases e : v = sNv V
  · rw [if_pos e, e]; exact rp
  · rw [if_neg e, mo.2 v (by omega)]; exact hP v (by omega)
set_option maxRecDepth 100000 in
set_option maxHeartbeats 4000000 in
theorem l_val_no {G : GG} {d c n : Nat} {Q : Pst} {V : SV} {x : Nat → QIS} {R : RS} {k K J : Nat} {ro : Nat → Nat} {rf : Nat → Nat → Int32} {op : Nat → Bool} (B : PU c V n x R) (hc : c + 4 ≤ 512) (h60 : sNv V < 60) (hP : ∀ v, v < sNv V → RowP (vp V v) (rf v)) (hI0 : IN0 V) (hd : 40 ≤ d) (hL : slen G < 2 ^ 31) {h : Hp} {M bc bs : Nat} (C : CLS h V M n x R) (H : LWH h (sNv V) n (RS_rn R) ro rf (K + 1) J op) (hKn : ∀ v, v < sNv V → ro v ≠ K) (hq : ∀ h' M' V' c' ro' rf', c' ≤ c + 4 → PU c' V' n x R → CLS h' V' M' n x R → M ≤ M' → M' ≤ M + 6 → LWH h' (sNv V') n (RS_rn R) ro' rf' (K + 1) J op → (∀ v, v < sNv V' → RowP (vp V' v) (rf' v)) → IN0 V' → Q (oRet (vi (nI 1))) h') : WP G m_L_value d 1072 [(15, vi (nI 0)), (14, vi (-1)), (11, vr (some (nm 71 K))), (10, vi (nI (sNv V))), (8, vl (nI (sMd V)).toInt64), (5, vi (nI k)), (4, vr (some (nm 70 1))), (3, vr (some (nm 70 0))), (0, vr (some (nm 40 0)))] [] h bc bs Q := by
  refine wp_iload (i := 15) dL_value_1072 rfl ?_
  refine wp_if_neN 1089 dL_value_1074 (by decide) (by decide) (fun c_1074 => absurd c_1074 (by decide)) (fun c_1074 => ?_)
  refine wp_iload (i := 14) dL_value_1077 rfl ?_
  refine wp_iconst (-1) dL_value_1079 (by decide) ?_
  refine wp_icmp_ne 1087 dL_value_1080 (by decide) (fun c_1080 => absurd c_1080 (fun z => z rfl)) (fun c_1080 => ?_)
  refine wp_iconst (nI 1) dL_value_1083 (by decide) ?_
  refine wp_goto 1088 dL_value_1084 (by decide) ?_
  refine wp_zreturn dL_value_1088 rfl (by decide) ?_
  exact hq _ _ V c ro rf (by omega) B C (by omega) (by omega) H hP hI0
