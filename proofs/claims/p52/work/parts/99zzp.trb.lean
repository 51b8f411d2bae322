/-! transact, from its beginning. -/
set_option maxRecDepth 100000 in
set_option maxHeartbeats 4000000 in
theorem l_tr_ref {G : GG} {d c n k : Nat} {Q : Pst} {V : SV} {x : Nat → QIS} {R : RS} {K J i w t r : Nat} {ro : Nat → Nat} {rf : Nat → Nat → Int32} {op : Nat → Bool} (B : PU c V n x R) (hc : c + 4 ≤ 512) (hk : k < 110) (HI : RI k R) (HO : OPI op R) (ht : t < 3) (hr : r < 6) (hw : w < 9) (hd : 40 ≤ d) (hL : slen G < 2 ^ 31) (hi : i + 200 < 2 ^ 31) {h : Hp} {M bc bs : Nat} (C : CLS h V M n x R) (H : LWH h (sNv V) n (RS_rn R) ro rf K J op) (hbc : 150 ≤ bc) (hbs : 1500 + 1100 * czN w t R ≤ bs) (hq : ∀ h' c' R' op', c' ≤ c + 4 → CLS h' V M n x R' → PU c' V n x R' → RI (k + 1) R' → OPI op' R' → flg R' + czN w t R ≤ flg R + 2 → LWH h' (sNv V) n (RS_rn R') ro rf K J op' → Q (oRet (vi (nI 1))) h') (hw2 : w = 0) (hn6 : RS_rn R < 6) : WP G m_L_transact d 30 [(7, vi (nI w)), (6, vi (nI r)), (5, vi (nI t)), (0, vr (some (nm 40 0))), (1, vr (some nS)), (2, vi (nI i)), (3, vr (some (nm 70 1))), (4, vr (some (nm 70 2)))] [] h bc bs Q := by
  have h6 : RS_rn R ≤ 6 := B.2.2.2.2.1.1.2.1
  have hmo : RS_mo R ≤ c := B.2.2.2.2.1.1.2.2.2.1
  have hlg : (RS_lg R).length ≤ 6 * c := B.2.2.2.2.1.1.2.2.2.2.2.1
  obtain ⟨zb, ezb⟩ : ∃ z, nI (OT_bk (RS_tt R t)) = z := ⟨_, rfl⟩
  have hbk := (HI.1 t ht).1.1
  obtain ⟨S', eo, ri, st, srn, slg, smo⟩ := rx_addRef hr hn6 HI
  have q9 : RB (c + 1) (o_addReference R (nI r - nI 3) (-5 - nI r) (nI (5 + r))).2.2 := RB_addReference B.2.2.2.2.1 (by omega)
  have l9 : LFS R (o_addReference R (nI r - nI 3) (-5 - nI r) (nI (5 + r))).2.2 := f_addReference
  rw [eo] at q9 l9
  have B' : PU (c + 1) V n x S' := B.r q9 l9
  have fl9 : flg S' ≤ flg R + 1 := l9.2
  refine wp_iload (i := 7) dL_transact_30 rfl ?_
  refine wp_if_neN 83 dL_transact_32 (by decide) (by omega) (fun c_32 => absurd c_32 (by omega)) (fun c_32 => ?_)
  refine wp_aload_n (i := 3) dL_transact_35 rfl rfl ?_
  refine wp_iconst (nI 2) dL_transact_36 (by decide) ?_
  refine wp_ialoadN 3 (nI (RS_rn R)) dL_transact_37 H.2.2.2.1.1 H.2.2.2.1.2.1 (by decide) (by decide) (H.2.2.2.1.2.2.2.2) ?_
  refine wp_bipush (nI 6) dL_transact_38 (by decide) ?_
  refine wp_icmp_geN 83 dL_transact_40 (by decide) (by omega) (by decide) (fun c_40 => absurd c_40 (by omega)) (fun c_40 => ?_)
  refine wp_aload_n (i := 3) dL_transact_43 rfl rfl ?_
  refine wp_iconst (nI 2) dL_transact_44 (by decide) ?_
  refine wp_dup2 dL_transact_45 ?_
  refine wp_ialoadN 3 (nI (RS_rn R)) dL_transact_46 H.2.2.2.1.1 H.2.2.2.1.2.1 (by decide) (by decide) (H.2.2.2.1.2.2.2.2) ?_
  refine wp_iconst (nI 1) dL_transact_47 (by decide) ?_
  refine wp_iaddN dL_transact_48 ?_
  refine wp_iastoreN 3 dL_transact_49 H.2.2.2.1.1 H.2.2.2.1.2.1 (by decide) (by decide) ?_
  have H1w := H.incR
  have C1w := C.law (fun a ha => ce_w70 (i := 1) (k := 2) (z := (nI ((RS_rn R) + 1))) (show a ≠ nm 70 1 by unfold nm; omega))
  refine wp_aload_n (i := 0) dL_transact_50 rfl rfl ?_
  refine wp_bipush (nI 16) dL_transact_51 (by decide) ?_
  refine wp_iload (i := 6) dL_transact_53 rfl ?_
  refine wp_iconst (nI 3) dL_transact_55 (by decide) ?_
  refine wp_isub dL_transact_56 ?_
  refine wp_bipush (-5) dL_transact_57 (by decide) ?_
  refine wp_iload (i := 6) dL_transact_59 rfl ?_
  refine wp_isub dL_transact_61 ?_
  refine wp_iconst (nI 5) dL_transact_62 (by decide) ?_
  refine wp_iload (i := 6) dL_transact_63 rfl ?_
  refine wp_iaddN dL_transact_65 ?_
  refine wp_cSH (y' := m_L_deed) [vr (some (nm 40 0)), vi (nI 16), vi ((nI r) - (nI 3)), vi ((-5) - (nI r)), vi (nI (5 + r))] [] 6 60 dL_transact_66 ml_L_191 st_L_deed okH_L_deed rfl (Nat.le_of_ble_eq_true rfl) rfl (Nat.le_of_ble_eq_true rfl) (d' := d - 1) (by omega) (by omega) (by omega) (e_addReference B (by omega) C1w (by omega) (by omega) (by omega) (fun h2 C2 F2 => cont_ret ?_))
  rw [eo] at C2
  rw [show dA [-20002, -20003] (o_addReference R (nI r - nI 3) (-5 - nI r) (nI (5 + r))) = nI (RS_rn R) from by rw [eo]; rfl]
  have H2 := H1w.fk F2
  refine wp_aload_n (i := 3) dL_transact_69 rfl rfl ?_
  refine wp_iconst (nI 2) dL_transact_70 (by decide) ?_
  refine wp_ialoadN 3 (nI (RS_rn R + 1)) dL_transact_71 H2.2.2.2.1.1 H2.2.2.2.1.2.1 (by decide) (by decide) (H2.2.2.2.1.2.2.2.2) ?_
  refine wp_iconst (nI 1) dL_transact_72 (by decide) ?_
  refine wp_isubN dL_transact_73 (by omega) ?_
  refine wp_icmp_neN 81 dL_transact_74 (by decide) (by omega) (by omega) (fun c_74 => absurd c_74 (by omega)) (fun c_74 => ?_)
  refine wp_iconst (nI 1) dL_transact_77 (by decide) ?_
  refine wp_goto 82 dL_transact_78 (by decide) ?_
  refine wp_zreturn dL_transact_82 rfl (by decide) ?_
  exact hq _ (c + 1) S' _ (by omega) C2 B' ri (HO.same (fun u => by rw [st])) (by unfold czN; rw [if_neg (by omega)]; omega) (by rw [srn]; exact H2)
set_option maxRecDepth 100000 in
set_option maxHeartbeats 4000000 in
theorem l_tr_beg {G : GG} {d c n k : Nat} {Q : Pst} {V : SV} {x : Nat → QIS} {R : RS} {K J i w t r : Nat} {ro : Nat → Nat} {rf : Nat → Nat → Int32} {op : Nat → Bool} (B : PU c V n x R) (hc : c + 4 ≤ 512) (hk : k < 110) (HI : RI k R) (HO : OPI op R) (ht : t < 3) (hr : r < 6) (hw : w < 9) (hd : 40 ≤ d) (hL : slen G < 2 ^ 31) (hi : i + 200 < 2 ^ 31) {h : Hp} {M bc bs : Nat} (C : CLS h V M n x R) (H : LWH h (sNv V) n (RS_rn R) ro rf K J op) (hbc : 150 ≤ bc) (hbs : 1500 + 1100 * czN w t R ≤ bs) (hq : ∀ h' c' R' op', c' ≤ c + 4 → CLS h' V M n x R' → PU c' V n x R' → RI (k + 1) R' → OPI op' R' → flg R' + czN w t R ≤ flg R + 2 → LWH h' (sNv V) n (RS_rn R') ro rf K J op' → Q (oRet (vi (nI 1))) h') (hw2 : w < 3) (hn6 : w = 0 → 6 ≤ RS_rn R) (hop : OT_op (RS_tt R t) = false) : WP G m_L_transact d 30 [(7, vi (nI w)), (6, vi (nI r)), (5, vi (nI t)), (0, vr (some (nm 40 0))), (1, vr (some nS)), (2, vi (nI i)), (3, vr (some (nm 70 1))), (4, vr (some (nm 70 2)))] [] h bc bs Q := by
  have h6 : RS_rn R ≤ 6 := B.2.2.2.2.1.1.2.1
  have hmo : RS_mo R ≤ c := B.2.2.2.2.1.1.2.2.2.1
  have hlg : (RS_lg R).length ≤ 6 * c := B.2.2.2.2.1.1.2.2.2.2.2.1
  obtain ⟨zb, ezb⟩ : ∃ z, nI (OT_bk (RS_tt R t)) = z := ⟨_, rfl⟩
  have hbk := (HI.1 t ht).1.1
  have hopn : op t = false := (HO t ht).trans hop
  obtain ⟨S', eo, ri, sc, sam, es, eo2⟩ := rx_begin ht hop HI
  have q9 : RB (c + 1) (o_begin R (nI t) t).2.2 := RB_begin B.2.2.2.2.1 (by omega)
  have l9 : LFS R (o_begin R (nI t) t).2.2 := f_begin
  rw [eo] at q9 l9
  have B' : PU (c + 1) V n x S' := B.r q9 l9
  have fl9 : flg S' ≤ flg R + 1 := l9.2
  by_cases w0 : w = 0
  · skip
    refine wp_iload (i := 7) dL_transact_30 rfl ?_
    refine wp_if_neN 83 dL_transact_32 (by decide) (by omega) (fun c_32 => absurd c_32 (by omega)) (fun c_32 => ?_)
    refine wp_aload_n (i := 3) dL_transact_35 rfl rfl ?_
    refine wp_iconst (nI 2) dL_transact_36 (by decide) ?_
    refine wp_ialoadN 3 (nI (RS_rn R)) dL_transact_37 H.2.2.2.1.1 H.2.2.2.1.2.1 (by decide) (by decide) (H.2.2.2.1.2.2.2.2) ?_
    refine wp_bipush (nI 6) dL_transact_38 (by decide) ?_
    refine wp_icmp_geN 83 dL_transact_40 (by decide) (by omega) (by decide) (fun c_40 => ?_) (fun c_40 => absurd c_40 (by omega))
    refine wp_iload (i := 7) dL_transact_83 rfl ?_
    refine wp_iconst (nI 3) dL_transact_85 (by decide) ?_
    refine wp_icmp_geN 154 dL_transact_86 (by decide) (by omega) (by decide) (fun c_86 => absurd c_86 (by omega)) (fun c_86 => ?_)
    refine wp_aload (i := 4) dL_transact_89 rfl ?_
    refine wp_iload (i := 5) dL_transact_91 rfl ?_
    refine wp_zaloadN 3 (bI (op t)) dL_transact_93 H.2.2.2.2.1.1 H.2.2.2.2.1.2.1 (by omega) (by decide) (H.2.2.2.2.1.2.2 t ht) ?_
    refine wp_if_neB 154 dL_transact_94 (by decide) (fun c_94 => absurd c_94 (by rw [hopn]; decide)) (fun c_94 => ?_)
    refine wp_aload (i := 4) dL_transact_97 rfl ?_
    refine wp_iload (i := 5) dL_transact_99 rfl ?_
    refine wp_iconst (nI 1) dL_transact_101 (by decide) ?_
    refine wp_zastoreN 3 dL_transact_102 H.2.2.2.2.1.1 H.2.2.2.2.1.2.1 (by omega) (by decide) (by decide) ?_
    have H1w := H.wop (t := t) (b := true)
    have C1w := C.law (fun a ha => ce_w70 (i := 2) (k := t) (z := (nI 1)) (show a ≠ nm 70 2 by unfold nm; omega))
    refine wp_aload_n (i := 0) dL_transact_103 rfl rfl ?_
    refine wp_bipush (nI 17) dL_transact_104 (by decide) ?_
    refine wp_iload (i := 5) dL_transact_106 rfl ?_
    refine wp_iconst (nI 0) dL_transact_108 (by decide) ?_
    refine wp_iconst (nI 0) dL_transact_109 (by decide) ?_
    refine wp_cSH (y' := m_L_deed) [vr (some (nm 40 0)), vi (nI 17), vi (nI t), vi (nI 0), vi (nI 0)] [] 6 40 dL_transact_110 ml_L_191 st_L_deed okH_L_deed rfl (Nat.le_of_ble_eq_true rfl) rfl (Nat.le_of_ble_eq_true rfl) (d' := d - 1) (by omega) (by omega) (by omega) (e_begin (t := t) (by omega) B (by omega) C1w (by omega) (by omega) (by omega) (fun h2 C2 F2 => cont_ret ?_))
    rw [eo] at C2
    rw [show dA [-20002, -20003] (o_begin R (nI t) t) = nI (RS_mo R) from by rw [eo]; rfl]
    have H2 := H1w.fk F2
    refine wp_aload_n (i := 0) dL_transact_113 rfl rfl ?_
    refine wp_cV (y' := m_X11_moment) 12 [] [vi (nI (RS_mo R))] 6 40 dL_transact_114 ml_L_214 im_X11_moment se_X11_moment (by decide) C2.hk ok_X11_moment rfl (Nat.le_of_ble_eq_true rfl) rfl (Nat.le_of_ble_eq_true rfl) (d' := d - 1) (by omega) (by omega) (by omega) (g_moment B' (by omega) C2 (by omega) (by omega) (by omega) (fun h3 C3 F3 => cont_ret ?_))
    rw [sam.2.1]
    have H3 := H2.fk F3
    refine wp_icmp_neN 152 dL_transact_117 (by decide) (by omega) (by omega) (fun c_117 => absurd c_117 (by omega)) (fun c_117 => ?_)
    refine wp_aload_n (i := 0) dL_transact_120 rfl rfl ?_
    refine wp_bipush (nI 10) dL_transact_121 (by decide) ?_
    refine wp_iload (i := 5) dL_transact_123 rfl ?_
    refine wp_iconst (nI 0) dL_transact_125 (by decide) ?_
    refine wp_cSH (y' := m_L_ask) [vr (some (nm 40 0)), vi (nI 10), vi (nI t), vi (nI 0)] [] 6 40 dL_transact_126 ml_L_184 st_L_ask okH_L_ask rfl (Nat.le_of_ble_eq_true rfl) rfl (Nat.le_of_ble_eq_true rfl) (d' := d - 1) (by omega) (by omega) (by omega) (q_sentBack (t := t) (by omega) B' (by omega) C3 (by omega) (by omega) (by omega) (fun h4 C4 F4 => cont_ret ?_))
    rw [r_sentBack] at C4
    rw [show dA [-20002] (o_sentBack S' (nI t) t) = nI 0 from by rw [es]; rfl]
    have H4 := H3.fk F4
    refine wp_if_neN 152 dL_transact_129 (by decide) (by decide) (fun c_129 => absurd c_129 (by decide)) (fun c_129 => ?_)
    refine wp_aload_n (i := 0) dL_transact_132 rfl rfl ?_
    refine wp_bipush (nI 17) dL_transact_133 (by decide) ?_
    refine wp_iload (i := 5) dL_transact_135 rfl ?_
    refine wp_iconst (nI 0) dL_transact_137 (by decide) ?_
    refine wp_iconst (nI 0) dL_transact_138 (by decide) ?_
    refine wp_cSH (y' := m_L_deed) [vr (some (nm 40 0)), vi (nI 17), vi (nI t), vi (nI 0), vi (nI 0)] [] 6 40 dL_transact_139 ml_L_191 st_L_deed okH_L_deed rfl (Nat.le_of_ble_eq_true rfl) rfl (Nat.le_of_ble_eq_true rfl) (d' := d - 1) (by omega) (by omega) (by omega) (e_begin (t := t) (by omega) B' (by omega) C4 (by omega) (by omega) (by omega) (fun h5 C5 F5 => cont_ret ?_))
    rw [eo2] at C5
    rw [show dA [-20002, -20003] (o_begin S' (nI t) t) = -20003 from by rw [eo2]; rfl]
    have H5 := H4.fk F5
    refine wp_sipush (-20003) dL_transact_142 (by decide) ?_
    refine wp_icmp_ne 152 dL_transact_145 (by decide) (fun c_145 => absurd c_145 (fun z => z rfl)) (fun c_145 => ?_)
    refine wp_iconst (nI 1) dL_transact_148 (by decide) ?_
    refine wp_goto 153 dL_transact_149 (by decide) ?_
    refine wp_zreturn dL_transact_153 rfl (by decide) ?_
    exact hq _ (c + 1) S' _ (by omega) C5 B' ri (HO.set sc) (by unfold czN; rw [if_neg (by omega)]; omega) (by rw [sam.2.2]; exact H5)
  · skip
    refine wp_iload (i := 7) dL_transact_30 rfl ?_
    refine wp_if_neN 83 dL_transact_32 (by decide) (by omega) (fun c_32 => ?_) (fun c_32 => absurd c_32 (by omega))
    refine wp_iload (i := 7) dL_transact_83 rfl ?_
    refine wp_iconst (nI 3) dL_transact_85 (by decide) ?_
    refine wp_icmp_geN 154 dL_transact_86 (by decide) (by omega) (by decide) (fun c_86 => absurd c_86 (by omega)) (fun c_86 => ?_)
    refine wp_aload (i := 4) dL_transact_89 rfl ?_
    refine wp_iload (i := 5) dL_transact_91 rfl ?_
    refine wp_zaloadN 3 (bI (op t)) dL_transact_93 H.2.2.2.2.1.1 H.2.2.2.2.1.2.1 (by omega) (by decide) (H.2.2.2.2.1.2.2 t ht) ?_
    refine wp_if_neB 154 dL_transact_94 (by decide) (fun c_94 => absurd c_94 (by rw [hopn]; decide)) (fun c_94 => ?_)
    refine wp_aload (i := 4) dL_transact_97 rfl ?_
    refine wp_iload (i := 5) dL_transact_99 rfl ?_
    refine wp_iconst (nI 1) dL_transact_101 (by decide) ?_
    refine wp_zastoreN 3 dL_transact_102 H.2.2.2.2.1.1 H.2.2.2.2.1.2.1 (by omega) (by decide) (by decide) ?_
    have H1w := H.wop (t := t) (b := true)
    have C1w := C.law (fun a ha => ce_w70 (i := 2) (k := t) (z := (nI 1)) (show a ≠ nm 70 2 by unfold nm; omega))
    refine wp_aload_n (i := 0) dL_transact_103 rfl rfl ?_
    refine wp_bipush (nI 17) dL_transact_104 (by decide) ?_
    refine wp_iload (i := 5) dL_transact_106 rfl ?_
    refine wp_iconst (nI 0) dL_transact_108 (by decide) ?_
    refine wp_iconst (nI 0) dL_transact_109 (by decide) ?_
    refine wp_cSH (y' := m_L_deed) [vr (some (nm 40 0)), vi (nI 17), vi (nI t), vi (nI 0), vi (nI 0)] [] 6 40 dL_transact_110 ml_L_191 st_L_deed okH_L_deed rfl (Nat.le_of_ble_eq_true rfl) rfl (Nat.le_of_ble_eq_true rfl) (d' := d - 1) (by omega) (by omega) (by omega) (e_begin (t := t) (by omega) B (by omega) C1w (by omega) (by omega) (by omega) (fun h2 C2 F2 => cont_ret ?_))
    rw [eo] at C2
    rw [show dA [-20002, -20003] (o_begin R (nI t) t) = nI (RS_mo R) from by rw [eo]; rfl]
    have H2 := H1w.fk F2
    refine wp_aload_n (i := 0) dL_transact_113 rfl rfl ?_
    refine wp_cV (y' := m_X11_moment) 12 [] [vi (nI (RS_mo R))] 6 40 dL_transact_114 ml_L_214 im_X11_moment se_X11_moment (by decide) C2.hk ok_X11_moment rfl (Nat.le_of_ble_eq_true rfl) rfl (Nat.le_of_ble_eq_true rfl) (d' := d - 1) (by omega) (by omega) (by omega) (g_moment B' (by omega) C2 (by omega) (by omega) (by omega) (fun h3 C3 F3 => cont_ret ?_))
    rw [sam.2.1]
    have H3 := H2.fk F3
    refine wp_icmp_neN 152 dL_transact_117 (by decide) (by omega) (by omega) (fun c_117 => absurd c_117 (by omega)) (fun c_117 => ?_)
    refine wp_aload_n (i := 0) dL_transact_120 rfl rfl ?_
    refine wp_bipush (nI 10) dL_transact_121 (by decide) ?_
    refine wp_iload (i := 5) dL_transact_123 rfl ?_
    refine wp_iconst (nI 0) dL_transact_125 (by decide) ?_
    refine wp_cSH (y' := m_L_ask) [vr (some (nm 40 0)), vi (nI 10), vi (nI t), vi (nI 0)] [] 6 40 dL_transact_126 ml_L_184 st_L_ask okH_L_ask rfl (Nat.le_of_ble_eq_true rfl) rfl (Nat.le_of_ble_eq_true rfl) (d' := d - 1) (by omega) (by omega) (by omega) (q_sentBack (t := t) (by omega) B' (by omega) C3 (by omega) (by omega) (by omega) (fun h4 C4 F4 => cont_ret ?_))
    rw [r_sentBack] at C4
    rw [show dA [-20002] (o_sentBack S' (nI t) t) = nI 0 from by rw [es]; rfl]
    have H4 := H3.fk F4
    refine wp_if_neN 152 dL_transact_129 (by decide) (by decide) (fun c_129 => absurd c_129 (by decide)) (fun c_129 => ?_)
    refine wp_aload_n (i := 0) dL_transact_132 rfl rfl ?_
    refine wp_bipush (nI 17) dL_transact_133 (by decide) ?_
    refine wp_iload (i := 5) dL_transact_135 rfl ?_
    refine wp_iconst (nI 0) dL_transact_137 (by decide) ?_
    refine wp_iconst (nI 0) dL_transact_138 (by decide) ?_
    refine wp_cSH (y' := m_L_deed) [vr (some (nm 40 0)), vi (nI 17), vi (nI t), vi (nI 0), vi (nI 0)] [] 6 40 dL_transact_139 ml_L_191 st_L_deed okH_L_deed rfl (Nat.le_of_ble_eq_true rfl) rfl (Nat.le_of_ble_eq_true rfl) (d' := d - 1) (by omega) (by omega) (by omega) (e_begin (t := t) (by omega) B' (by omega) C4 (by omega) (by omega) (by omega) (fun h5 C5 F5 => cont_ret ?_))
    rw [eo2] at C5
    rw [show dA [-20002, -20003] (o_begin S' (nI t) t) = -20003 from by rw [eo2]; rfl]
    have H5 := H4.fk F5
    refine wp_sipush (-20003) dL_transact_142 (by decide) ?_
    refine wp_icmp_ne 152 dL_transact_145 (by decide) (fun c_145 => absurd c_145 (fun z => z rfl)) (fun c_145 => ?_)
    refine wp_iconst (nI 1) dL_transact_148 (by decide) ?_
    refine wp_goto 153 dL_transact_149 (by decide) ?_
    refine wp_zreturn dL_transact_153 rfl (by decide) ?_
    exact hq _ (c + 1) S' _ (by omega) C5 B' ri (HO.set sc) (by unfold czN; rw [if_neg (by omega)]; omega) (by rw [sam.2.2]; exact H5)
set_option maxRecDepth 100000 in
set_option maxHeartbeats 4000000 in
theorem l_tr_go {G : GG} {d c n k : Nat} {Q : Pst} {V : SV} {x : Nat → QIS} {R : RS} {K J i w t r : Nat} {ro : Nat → Nat} {rf : Nat → Nat → Int32} {op : Nat → Bool} (B : PU c V n x R) (hc : c + 4 ≤ 512) (hk : k < 110) (HI : RI k R) (HO : OPI op R) (ht : t < 3) (hr : r < 6) (hw : w < 9) (hd : 40 ≤ d) (hL : slen G < 2 ^ 31) (hi : i + 200 < 2 ^ 31) {h : Hp} {M bc bs : Nat} (C : CLS h V M n x R) (H : LWH h (sNv V) n (RS_rn R) ro rf K J op) (hbc : 150 ≤ bc) (hbs : 1500 + 1100 * czN w t R ≤ bs) (hq : ∀ h' c' R' op', c' ≤ c + 4 → CLS h' V M n x R' → PU c' V n x R' → RI (k + 1) R' → OPI op' R' → flg R' + czN w t R ≤ flg R + 2 → LWH h' (sNv V) n (RS_rn R') ro rf K J op' → Q (oRet (vi (nI 1))) h') (hh : 3 ≤ w ∨ (OT_op (RS_tt R t) = true ∧ (w = 0 → 6 ≤ RS_rn R))) : WP G m_L_transact d 30 [(7, vi (nI w)), (6, vi (nI r)), (5, vi (nI t)), (0, vr (some (nm 40 0))), (1, vr (some nS)), (2, vi (nI i)), (3, vr (some (nm 70 1))), (4, vr (some (nm 70 2)))] [] h bc bs Q := by
  have h6 : RS_rn R ≤ 6 := B.2.2.2.2.1.1.2.1
  have hmo : RS_mo R ≤ c := B.2.2.2.2.1.1.2.2.2.1
  have hlg : (RS_lg R).length ≤ 6 * c := B.2.2.2.2.1.1.2.2.2.2.2.1
  obtain ⟨zb, ezb⟩ : ∃ z, nI (OT_bk (RS_tt R t)) = z := ⟨_, rfl⟩
  have hbk := (HI.1 t ht).1.1
  have key : WP G m_L_transact d 154 [(7, vi (nI w)), (6, vi (nI r)), (5, vi (nI t)), (0, vr (some (nm 40 0))), (1, vr (some nS)), (2, vi (nI i)), (3, vr (some (nm 70 1))), (4, vr (some (nm 70 2)))] [] h bc bs Q := by
    by_cases a7 : w = 7
    · exact l_tr_7 B hc hk HI HO ht hr hw hd hL hi C H hbc hbs hq a7
    · by_cases a8 : w = 8
      · by_cases a9 : pkV G (i + 3) 4 = 0
        · exact l_tr_8e B hc hk HI HO ht hr hw hd hL hi C H hbc hbs hq a8 a9
        · exact l_tr_8c B hc hk HI HO ht hr hw hd hL hi C H hbc hbs hq a8 a9
      · by_cases a3 : w = 3
        · exact l_tr_read B hc hk HI HO ht hr hw hd hL hi C H hbc hbs hq a3
        · by_cases a4 : w = 4
          · exact l_tr_write B hc hk HI HO ht hr hw hd hL hi C H hbc hbs hq a4
          · by_cases a5 : w = 5
            · exact l_tr_ensure B hc hk HI HO ht hr hw hd hL hi C H hbc hbs hq a5
            · exact l_tr_add B hc hk HI HO ht hr hw hd hL hi C H hbc hbs hq (by omega) a3 a4 a5
  by_cases w3 : 3 ≤ w
  · skip
    refine wp_iload (i := 7) dL_transact_30 rfl ?_
    refine wp_if_neN 83 dL_transact_32 (by decide) (by omega) (fun c_32 => ?_) (fun c_32 => absurd c_32 (by omega))
    refine wp_iload (i := 7) dL_transact_83 rfl ?_
    refine wp_iconst (nI 3) dL_transact_85 (by decide) ?_
    refine wp_icmp_geN 154 dL_transact_86 (by decide) (by omega) (by decide) (fun c_86 => ?_) (fun c_86 => absurd c_86 (by omega))
    refine wp_sub [(7, vi (nI w)), (6, vi (nI r)), (5, vi (nI t)), (0, vr (some (nm 40 0))), (1, vr (some nS)), (2, vi (nI i)), (3, vr (some (nm 70 1))), (4, vr (some (nm 70 2)))] (sb_cons (.head _) (sb_cons (.tail _ (.head _)) (sb_cons (.tail _ (.tail _ (.head _))) (sb_cons (.tail _ (.tail _ (.tail _ (.head _)))) (sb_cons (.tail _ (.tail _ (.tail _ (.tail _ (.head _))))) (sb_cons (.tail _ (.tail _ (.tail _ (.tail _ (.tail _ (.head _)))))) (sb_cons (.tail _ (.tail _ (.tail _ (.tail _ (.tail _ (.tail _ (.head _))))))) (sb_cons (.tail _ (.tail _ (.tail _ (.tail _ (.tail _ (.tail _ (.tail _ (.head _)))))))) sb_nil)))))))) ?_
    exact key
  · have hop := hh.resolve_left w3
    have hopn : op t = true := (HO t ht).trans hop.1
    by_cases w0 : w = 0
    · have h9 := hop.2 w0
      refine wp_iload (i := 7) dL_transact_30 rfl ?_
      refine wp_if_neN 83 dL_transact_32 (by decide) (by omega) (fun c_32 => absurd c_32 (by omega)) (fun c_32 => ?_)
      refine wp_aload_n (i := 3) dL_transact_35 rfl rfl ?_
      refine wp_iconst (nI 2) dL_transact_36 (by decide) ?_
      refine wp_ialoadN 3 (nI (RS_rn R)) dL_transact_37 H.2.2.2.1.1 H.2.2.2.1.2.1 (by decide) (by decide) (H.2.2.2.1.2.2.2.2) ?_
      refine wp_bipush (nI 6) dL_transact_38 (by decide) ?_
      refine wp_icmp_geN 83 dL_transact_40 (by decide) (by omega) (by decide) (fun c_40 => ?_) (fun c_40 => absurd c_40 (by omega))
      refine wp_iload (i := 7) dL_transact_83 rfl ?_
      refine wp_iconst (nI 3) dL_transact_85 (by decide) ?_
      refine wp_icmp_geN 154 dL_transact_86 (by decide) (by omega) (by decide) (fun c_86 => absurd c_86 (by omega)) (fun c_86 => ?_)
      refine wp_aload (i := 4) dL_transact_89 rfl ?_
      refine wp_iload (i := 5) dL_transact_91 rfl ?_
      refine wp_zaloadN 3 (bI (op t)) dL_transact_93 H.2.2.2.2.1.1 H.2.2.2.2.1.2.1 (by omega) (by decide) (H.2.2.2.2.1.2.2 t ht) ?_
      refine wp_if_neB 154 dL_transact_94 (by decide) (fun c_94 => ?_) (fun c_94 => absurd c_94 (by rw [hopn]; decide))
      refine wp_sub [(7, vi (nI w)), (6, vi (nI r)), (5, vi (nI t)), (0, vr (some (nm 40 0))), (1, vr (some nS)), (2, vi (nI i)), (3, vr (some (nm 70 1))), (4, vr (some (nm 70 2)))] (sb_cons (.head _) (sb_cons (.tail _ (.head _)) (sb_cons (.tail _ (.tail _ (.head _))) (sb_cons (.tail _ (.tail _ (.tail _ (.head _)))) (sb_cons (.tail _ (.tail _ (.tail _ (.tail _ (.head _))))) (sb_cons (.tail _ (.tail _ (.tail _ (.tail _ (.tail _ (.head _)))))) (sb_cons (.tail _ (.tail _ (.tail _ (.tail _ (.tail _ (.tail _ (.head _))))))) (sb_cons (.tail _ (.tail _ (.tail _ (.tail _ (.tail _ (.tail _ (.tail _ (.head _)))))))) sb_nil)))))))) ?_
      exact key
    · skip
      refine wp_iload (i := 7) dL_transact_30 rfl ?_
      refine wp_if_neN 83 dL_transact_32 (by decide) (by omega) (fun c_32 => ?_) (fun c_32 => absurd c_32 (by omega))
      refine wp_iload (i := 7) dL_transact_83 rfl ?_
      refine wp_iconst (nI 3) dL_transact_85 (by decide) ?_
      refine wp_icmp_geN 154 dL_transact_86 (by decide) (by omega) (by decide) (fun c_86 => absurd c_86 (by omega)) (fun c_86 => ?_)
      refine wp_aload (i := 4) dL_transact_89 rfl ?_
      refine wp_iload (i := 5) dL_transact_91 rfl ?_
      refine wp_zaloadN 3 (bI (op t)) dL_transact_93 H.2.2.2.2.1.1 H.2.2.2.2.1.2.1 (by omega) (by decide) (H.2.2.2.2.1.2.2 t ht) ?_
      refine wp_if_neB 154 dL_transact_94 (by decide) (fun c_94 => ?_) (fun c_94 => absurd c_94 (by rw [hopn]; decide))
      refine wp_sub [(7, vi (nI w)), (6, vi (nI r)), (5, vi (nI t)), (0, vr (some (nm 40 0))), (1, vr (some nS)), (2, vi (nI i)), (3, vr (some (nm 70 1))), (4, vr (some (nm 70 2)))] (sb_cons (.head _) (sb_cons (.tail _ (.head _)) (sb_cons (.tail _ (.tail _ (.head _))) (sb_cons (.tail _ (.tail _ (.tail _ (.head _)))) (sb_cons (.tail _ (.tail _ (.tail _ (.tail _ (.head _))))) (sb_cons (.tail _ (.tail _ (.tail _ (.tail _ (.tail _ (.head _)))))) (sb_cons (.tail _ (.tail _ (.tail _ (.tail _ (.tail _ (.tail _ (.head _))))))) (sb_cons (.tail _ (.tail _ (.tail _ (.tail _ (.tail _ (.tail _ (.tail _ (.head _)))))))) sb_nil)))))))) ?_
      exact key
set_option maxRecDepth 100000 in
set_option maxHeartbeats 4000000 in
theorem c_L_transact {G : GG} {d c n k : Nat} {Q : Pst} {V : SV} {x : Nat → QIS} {R : RS} {K J i : Nat} {ro : Nat → Nat} {rf : Nat → Nat → Int32} {op : Nat → Bool} (B : PU c V n x R) (hc : c + 4 ≤ 512) (hk : k < 110) (HI : RI k R) (HO : OPI op R) (hd : 40 ≤ d) (hL : slen G < 2 ^ 31) (hi : i + 200 < 2 ^ 31) {h : Hp} {M bc bs : Nat} (C : CLS h V M n x R) (H : LWH h (sNv V) n (RS_rn R) ro rf K J op) (hbc : 150 ≤ bc) (hbs : 1500 + 1100 * czN (pkV G i 9) (pkV G (i + 1) 3) R ≤ bs) (hq : ∀ h' c' R' op', c' ≤ c + 4 → CLS h' V M n x R' → PU c' V n x R' → RI (k + 1) R' → OPI op' R' → flg R' + czN (pkV G i 9) (pkV G (i + 1) 3) R ≤ flg R + 2 → LWH h' (sNv V) n (RS_rn R') ro rf K J op' → Q (oRet (vi (nI 1))) h') : WP G m_L_transact d 0 (aargs 0 [vr (some (nm 40 0)), vr (some nS), vi (nI i), vr (some (nm 70 1)), vr (some (nm 70 2))]) [] h bc bs Q := by
  refine wp_sub [(0, vr (some (nm 40 0))), (1, vr (some nS)), (2, vi (nI i)), (3, vr (some (nm 70 1))), (4, vr (some (nm 70 2)))] (fun _ hz => hz) ?_
  have ht := @pkv_lt G (i + 1) 3 (by decide)
  have hr := @pkv_lt G (i + 2) 6 (by decide)
  have hw := @pkv_lt G i 9 (by decide)
  refine wp_aload_n (i := 1) dL_transact_0 rfl rfl ?_
  refine wp_iload_n (i := 2) dL_transact_1 rfl rfl ?_
  refine wp_iconst (nI 1) dL_transact_2 (by decide) ?_
  refine wp_iaddN dL_transact_3 ?_
  refine wp_iconst (nI 3) dL_transact_4 (by decide) ?_
  refine wp_cS (y' := m_L_pick) [vr (some nS), vi (nI (i + 1)), vi (nI 3)] [] 0 0 dL_transact_5 ml_L_199 st_L_pick ok_L_pick rfl (Nat.le_of_ble_eq_true rfl) rfl (Nat.le_of_ble_eq_true rfl) (d' := d - 1) (by omega) (Nat.zero_le _) (Nat.zero_le _) (c_L_pick (by omega) (by decide) (by omega) hL (by omega) (cont_ret ?_))
  refine wp_istore (i := 5) (lv' := [(5, vi (nI (pkV G (i + 1) 3))), (0, vr (some (nm 40 0))), (1, vr (some nS)), (2, vi (nI i)), (3, vr (some (nm 70 1))), (4, vr (some (nm 70 2)))]) dL_transact_8 (by decide) rfl ?_
  refine wp_aload_n (i := 1) dL_transact_10 rfl rfl ?_
  refine wp_iload_n (i := 2) dL_transact_11 rfl rfl ?_
  refine wp_iconst (nI 2) dL_transact_12 (by decide) ?_
  refine wp_iaddN dL_transact_13 ?_
  refine wp_bipush (nI 6) dL_transact_14 (by decide) ?_
  refine wp_cS (y' := m_L_pick) [vr (some nS), vi (nI (i + 2)), vi (nI 6)] [] 0 0 dL_transact_16 ml_L_199 st_L_pick ok_L_pick rfl (Nat.le_of_ble_eq_true rfl) rfl (Nat.le_of_ble_eq_true rfl) (d' := d - 1) (by omega) (Nat.zero_le _) (Nat.zero_le _) (c_L_pick (by omega) (by decide) (by omega) hL (by omega) (cont_ret ?_))
  refine wp_istore (i := 6) (lv' := [(6, vi (nI (pkV G (i + 2) 6))), (5, vi (nI (pkV G (i + 1) 3))), (0, vr (some (nm 40 0))), (1, vr (some nS)), (2, vi (nI i)), (3, vr (some (nm 70 1))), (4, vr (some (nm 70 2)))]) dL_transact_19 (by decide) rfl ?_
  refine wp_aload_n (i := 1) dL_transact_21 rfl rfl ?_
  refine wp_iload_n (i := 2) dL_transact_22 rfl rfl ?_
  refine wp_bipush (nI 9) dL_transact_23 (by decide) ?_
  refine wp_cS (y' := m_L_pick) [vr (some nS), vi (nI i), vi (nI 9)] [] 0 0 dL_transact_25 ml_L_199 st_L_pick ok_L_pick rfl (Nat.le_of_ble_eq_true rfl) rfl (Nat.le_of_ble_eq_true rfl) (d' := d - 1) (by omega) (Nat.zero_le _) (Nat.zero_le _) (c_L_pick (by omega) (by decide) (by omega) hL (by omega) (cont_ret ?_))
  refine wp_istore (i := 7) (lv' := [(7, vi (nI (pkV G i 9))), (6, vi (nI (pkV G (i + 2) 6))), (5, vi (nI (pkV G (i + 1) 3))), (0, vr (some (nm 40 0))), (1, vr (some nS)), (2, vi (nI i)), (3, vr (some (nm 70 1))), (4, vr (some (nm 70 2)))]) dL_transact_28 (by decide) rfl ?_
  by_cases a : pkV G i 9 = 0 ∧ RS_rn R < 6
  · exact l_tr_ref B hc hk HI HO ht hr hw hd hL hi C H hbc hbs hq a.1 a.2
  · cases hop : OT_op (RS_tt R (pkV G (i + 1) 3)) with
    | false =>
      by_cases b : pkV G i 9 < 3
      · exact l_tr_beg B hc hk HI HO ht hr hw hd hL hi C H hbc hbs hq b (by omega) hop
      · exact l_tr_go B hc hk HI HO ht hr hw hd hL hi C H hbc hbs hq (Or.inl (by omega))
    | true => exact l_tr_go B hc hk HI HO ht hr hw hd hL hi C H hbc hbs hq (Or.inr ⟨hop, by omega⟩)
