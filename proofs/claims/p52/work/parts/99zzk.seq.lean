/-! sequence. -/
set_option maxRecDepth 100000 in
set_option maxHeartbeats 4000000 in
theorem l_seq_rng {G : GG} {d c n : Nat} {Q : Pst} {V : SV} {x : Nat → QIS} {R : RS} {K J i w q : Nat} {ro : Nat → Nat} {rf : Nat → Nat → Int32} {op : Nat → Bool} (B : PU c V n x R) (hb : QBd n x) (hd : 40 ≤ d) (hL : slen G < 2 ^ 31) (hi : i + 200 < 2 ^ 31) {h : Hp} {M bc bs : Nat} (C : CLS h V M n x R) (H : LWH h (sNv V) n (RS_rn R) ro rf K J op) (hbc : 60 ≤ bc) (hbs : 1000 ≤ bs) (hq : ∀ h' n' x', CLS h' V M n' x' R → PU c V n' x' R → QBd n' x' → LWH h' (sNv V) n' (RS_rn R) ro rf K J op → Q (oRet (vi (nI 1))) h') (hw : w < 2) (hn2 : n < 2) : WP G m_L_sequence d 41 [(5, vi (nI q)), (4, vi (nI w)), (0, vr (some (nm 40 0))), (1, vr (some nS)), (2, vi (nI i)), (3, vr (some (nm 70 1)))] [] h bc bs Q := by
  have hn : n < 12 := by omega
  obtain ⟨z, eo, hz, hX, hB⟩ := sq_range (p := pkV G (i + 2) 9) (q := pkV G (i + 3) 5) (m := pkV G (i + 4) 25) (pkv_lt (by decide)) (pkv_lt (by decide)) (pkv_lt (by decide)) hn B.2.2.2.1 hb
  have B' := B.q hX
  have e1 := (sq_new (x := x) hz hn).1
  have e2 := (sq_new (x := x) hz hn).2
  refine wp_iload (i := 4) dL_sequence_41 rfl ?_
  refine wp_iconst (nI 2) dL_sequence_43 (by decide) ?_
  refine wp_icmp_geN 182 dL_sequence_44 (by decide) (by omega) (by decide) (fun c_44 => absurd c_44 (by omega)) (fun c_44 => ?_)
  refine wp_aload_n (i := 3) dL_sequence_47 rfl rfl ?_
  refine wp_iconst (nI 1) dL_sequence_48 (by decide) ?_
  refine wp_ialoadN 3 (nI n) dL_sequence_49 H.2.2.2.1.1 H.2.2.2.1.2.1 (by decide) (by decide) (H.2.2.2.1.2.2.2.1) ?_
  refine wp_bipush (nI 12) dL_sequence_50 (by decide) ?_
  refine wp_icmp_geN 182 dL_sequence_52 (by decide) (by omega) (by decide) (fun c_52 => absurd c_52 (by omega)) (fun c_52 => ?_)
  refine wp_aload_n (i := 3) dL_sequence_55 rfl rfl ?_
  refine wp_iconst (nI 1) dL_sequence_56 (by decide) ?_
  refine wp_ialoadN 3 (nI n) dL_sequence_57 H.2.2.2.1.1 H.2.2.2.1.2.1 (by decide) (by decide) (H.2.2.2.1.2.2.2.1) ?_
  refine wp_iconst (nI 2) dL_sequence_58 (by decide) ?_
  refine wp_icmp_geN 101 dL_sequence_59 (by decide) (by omega) (by decide) (fun c_59 => absurd c_59 (by omega)) (fun c_59 => ?_)
  refine wp_aload_n (i := 0) dL_sequence_62 rfl rfl ?_
  refine wp_bipush (nI 11) dL_sequence_63 (by decide) ?_
  refine wp_aload_n (i := 1) dL_sequence_65 rfl rfl ?_
  refine wp_iload_n (i := 2) dL_sequence_66 rfl rfl ?_
  refine wp_iconst (nI 2) dL_sequence_67 (by decide) ?_
  refine wp_iaddN dL_sequence_68 ?_
  refine wp_bipush (nI 9) dL_sequence_69 (by decide) ?_
  refine wp_cS (y' := m_L_pick) [vr (some nS), vi (nI (i + 2)), vi (nI 9)] [vi (nI 11), vr (some (nm 40 0))] 0 0 dL_sequence_71 ml_L_199 st_L_pick ok_L_pick rfl (Nat.le_of_ble_eq_true rfl) rfl (Nat.le_of_ble_eq_true rfl) (d' := d - 1) (by omega) (Nat.zero_le _) (Nat.zero_le _) (c_L_pick (by omega) (by decide) (by omega) hL (by omega) (cont_ret ?_))
  refine wp_iconst (nI 4) dL_sequence_74 (by decide) ?_
  refine wp_isub dL_sequence_75 ?_
  refine wp_aload_n (i := 1) dL_sequence_76 rfl rfl ?_
  refine wp_iload_n (i := 2) dL_sequence_77 rfl rfl ?_
  refine wp_iconst (nI 3) dL_sequence_78 (by decide) ?_
  refine wp_iaddN dL_sequence_79 ?_
  refine wp_iconst (nI 5) dL_sequence_80 (by decide) ?_
  refine wp_cS (y' := m_L_pick) [vr (some nS), vi (nI (i + 3)), vi (nI 5)] [vi ((nI (pkV G (i + 2) 9)) - (nI 4)), vi (nI 11), vr (some (nm 40 0))] 0 0 dL_sequence_81 ml_L_199 st_L_pick ok_L_pick rfl (Nat.le_of_ble_eq_true rfl) rfl (Nat.le_of_ble_eq_true rfl) (d' := d - 1) (by omega) (Nat.zero_le _) (Nat.zero_le _) (c_L_pick (by omega) (by decide) (by omega) hL (by omega) (cont_ret ?_))
  refine wp_iconst (nI 2) dL_sequence_84 (by decide) ?_
  refine wp_isub dL_sequence_85 ?_
  refine wp_aload_n (i := 1) dL_sequence_86 rfl rfl ?_
  refine wp_iload_n (i := 2) dL_sequence_87 rfl rfl ?_
  refine wp_iconst (nI 4) dL_sequence_88 (by decide) ?_
  refine wp_iaddN dL_sequence_89 ?_
  refine wp_bipush (nI 25) dL_sequence_90 (by decide) ?_
  refine wp_cS (y' := m_L_pick) [vr (some nS), vi (nI (i + 4)), vi (nI 25)] [vi ((nI (pkV G (i + 3) 5)) - (nI 2)), vi ((nI (pkV G (i + 2) 9)) - (nI 4)), vi (nI 11), vr (some (nm 40 0))] 0 0 dL_sequence_92 ml_L_199 st_L_pick ok_L_pick rfl (Nat.le_of_ble_eq_true rfl) rfl (Nat.le_of_ble_eq_true rfl) (d' := d - 1) (by omega) (Nat.zero_le _) (Nat.zero_le _) (c_L_pick (by omega) (by decide) (by omega) hL (by omega) (cont_ret ?_))
  refine wp_cSH (y' := m_L_deed) [vr (some (nm 40 0)), vi (nI 11), vi ((nI (pkV G (i + 2) 9)) - (nI 4)), vi ((nI (pkV G (i + 3) 5)) - (nI 2)), vi (nI (pkV G (i + 4) 25))] [] 6 80 dL_sequence_95 ml_L_191 st_L_deed okH_L_deed rfl (Nat.le_of_ble_eq_true rfl) rfl (Nat.le_of_ble_eq_true rfl) (d' := d - 1) (by omega) (by omega) (by omega) (e_range (m := pkV G (i + 4) 25) (Nat.le_of_lt_succ (pkv_lt (by decide))) B C (by omega) (by omega) (by omega) (fun h1 C1 F1 => cont_ret ?_))
  rw [eo] at C1
  rw [show dA [-20002, -20003] (o_range n x (nI (pkV G (i + 2) 9) - nI 4) (nI (pkV G (i + 3) 5) - nI 2) (nI (pkV G (i + 4) 25)) (pkV G (i + 4) 25)) = nI n from by rw [eo]; rfl]
  have H1 := H.fk F1
  refine wp_goto 133 dL_sequence_98 (by decide) ?_
  refine wp_istore (i := 6) (lv' := [(6, vi (nI n)), (5, vi (nI q)), (4, vi (nI w)), (0, vr (some (nm 40 0))), (1, vr (some nS)), (2, vi (nI i)), (3, vr (some (nm 70 1)))]) dL_sequence_133 (by decide) rfl ?_
  refine wp_aload_n (i := 3) dL_sequence_135 rfl rfl ?_
  refine wp_iconst (nI 1) dL_sequence_136 (by decide) ?_
  refine wp_dup2 dL_sequence_137 ?_
  refine wp_ialoadN 3 (nI n) dL_sequence_138 H1.2.2.2.1.1 H1.2.2.2.1.2.1 (by decide) (by decide) (H1.2.2.2.1.2.2.2.1) ?_
  refine wp_iconst (nI 1) dL_sequence_139 (by decide) ?_
  refine wp_iaddN dL_sequence_140 ?_
  refine wp_iastoreN 3 dL_sequence_141 H1.2.2.2.1.1 H1.2.2.2.1.2.1 (by decide) (by decide) ?_
  have H2w := H1.incQ
  have C2w := C1.law (fun a ha => ce_w70 (i := 1) (k := 1) (z := (nI (n + 1))) (show a ≠ nm 70 1 by unfold nm; omega))
  refine wp_iload (i := 6) dL_sequence_142 rfl ?_
  refine wp_aload_n (i := 3) dL_sequence_144 rfl rfl ?_
  refine wp_iconst (nI 1) dL_sequence_145 (by decide) ?_
  refine wp_ialoadN 3 (nI (n + 1)) dL_sequence_146 H2w.2.2.2.1.1 H2w.2.2.2.1.2.1 (by decide) (by decide) (H2w.2.2.2.1.2.2.2.1) ?_
  refine wp_iconst (nI 1) dL_sequence_147 (by decide) ?_
  refine wp_isubN dL_sequence_148 (by omega) ?_
  refine wp_icmp_neN 180 dL_sequence_149 (by decide) (by omega) (by omega) (fun c_149 => absurd c_149 (by omega)) (fun c_149 => ?_)
  refine wp_aload_n (i := 0) dL_sequence_152 rfl rfl ?_
  refine wp_bipush (nI 8) dL_sequence_153 (by decide) ?_
  refine wp_iload (i := 6) dL_sequence_155 rfl ?_
  refine wp_iconst (nI 0) dL_sequence_157 (by decide) ?_
  refine wp_cSH (y' := m_L_ask) [vr (some (nm 40 0)), vi (nI 8), vi (nI n), vi (nI 0)] [] 6 80 dL_sequence_158 ml_L_184 st_L_ask okH_L_ask rfl (Nat.le_of_ble_eq_true rfl) rfl (Nat.le_of_ble_eq_true rfl) (d' := d - 1) (by omega) (by omega) (by omega) (q_realised (s := n) (by omega) B' C2w (by omega) (by omega) (by omega) (fun h3 C3 F3 => cont_ret ?_))
  rw [e1] at C3
  rw [show dA [-20001] (o_realised (n + 1) (va_up x n z) (nI n) n) = nI 0 from by rw [e1]; rfl]
  have H3 := H2w.fk F3
  refine wp_if_neN 180 dL_sequence_161 (by decide) (by decide) (fun c_161 => absurd c_161 (by decide)) (fun c_161 => ?_)
  refine wp_aload_n (i := 0) dL_sequence_164 rfl rfl ?_
  refine wp_bipush (nI 9) dL_sequence_165 (by decide) ?_
  refine wp_iload (i := 6) dL_sequence_167 rfl ?_
  refine wp_iconst (nI 0) dL_sequence_169 (by decide) ?_
  refine wp_cSH (y' := m_L_ask) [vr (some (nm 40 0)), vi (nI 9), vi (nI n), vi (nI 0)] [] 6 80 dL_sequence_170 ml_L_184 st_L_ask okH_L_ask rfl (Nat.le_of_ble_eq_true rfl) rfl (Nat.le_of_ble_eq_true rfl) (d' := d - 1) (by omega) (by omega) (by omega) (q_chunks (s := n) (by omega) B' C3 (by omega) (by omega) (by omega) (fun h4 C4 F4 => cont_ret ?_))
  rw [e2] at C4
  rw [show dA [-20001] (o_chunks (n + 1) (va_up x n z) (nI n) n) = nI 0 from by rw [e2]; rfl]
  have H4 := H3.fk F4
  refine wp_if_neN 180 dL_sequence_173 (by decide) (by decide) (fun c_173 => absurd c_173 (by decide)) (fun c_173 => ?_)
  refine wp_iconst (nI 1) dL_sequence_176 (by decide) ?_
  refine wp_goto 181 dL_sequence_177 (by decide) ?_
  refine wp_zreturn dL_sequence_181 rfl (by decide) ?_
  exact hq _ _ _ C4 B' hB H4
set_option maxRecDepth 100000 in
set_option maxHeartbeats 4000000 in
theorem l_seq_ov {G : GG} {d c n : Nat} {Q : Pst} {V : SV} {x : Nat → QIS} {R : RS} {K J i w q : Nat} {ro : Nat → Nat} {rf : Nat → Nat → Int32} {op : Nat → Bool} (B : PU c V n x R) (hb : QBd n x) (hd : 40 ≤ d) (hL : slen G < 2 ^ 31) (hi : i + 200 < 2 ^ 31) {h : Hp} {M bc bs : Nat} (C : CLS h V M n x R) (H : LWH h (sNv V) n (RS_rn R) ro rf K J op) (hbc : 60 ≤ bc) (hbs : 1000 ≤ bs) (hq : ∀ h' n' x', CLS h' V M n' x' R → PU c V n' x' R → QBd n' x' → LWH h' (sNv V) n' (RS_rn R) ro rf K J op → Q (oRet (vi (nI 1))) h') (hw : w < 2) (hn2 : 2 ≤ n) (hn : n < 12) (hq9 : q < n) : WP G m_L_sequence d 41 [(5, vi (nI q)), (4, vi (nI w)), (0, vr (some (nm 40 0))), (1, vr (some nS)), (2, vi (nI i)), (3, vr (some (nm 70 1)))] [] h bc bs Q := by
  have hp4 := @pkv_lt G (i + 2) 4 (by decide)
  have hp6 := @pkv_lt G (i + 3) 6 (by decide)
  obtain ⟨z, eo, hz, hX, hB⟩ := sq_over (s := q) (k := pkV G (i + 2) 4) (m := 1 + pkV G (i + 3) 6) hq9 hp4 (by omega) (by omega) hn B.2.2.2.1 hb
  have B' := B.q hX
  have e1 := (sq_new (x := x) hz hn).1
  have e2 := (sq_new (x := x) hz hn).2
  refine wp_iload (i := 4) dL_sequence_41 rfl ?_
  refine wp_iconst (nI 2) dL_sequence_43 (by decide) ?_
  refine wp_icmp_geN 182 dL_sequence_44 (by decide) (by omega) (by decide) (fun c_44 => absurd c_44 (by omega)) (fun c_44 => ?_)
  refine wp_aload_n (i := 3) dL_sequence_47 rfl rfl ?_
  refine wp_iconst (nI 1) dL_sequence_48 (by decide) ?_
  refine wp_ialoadN 3 (nI n) dL_sequence_49 H.2.2.2.1.1 H.2.2.2.1.2.1 (by decide) (by decide) (H.2.2.2.1.2.2.2.1) ?_
  refine wp_bipush (nI 12) dL_sequence_50 (by decide) ?_
  refine wp_icmp_geN 182 dL_sequence_52 (by decide) (by omega) (by decide) (fun c_52 => absurd c_52 (by omega)) (fun c_52 => ?_)
  refine wp_aload_n (i := 3) dL_sequence_55 rfl rfl ?_
  refine wp_iconst (nI 1) dL_sequence_56 (by decide) ?_
  refine wp_ialoadN 3 (nI n) dL_sequence_57 H.2.2.2.1.1 H.2.2.2.1.2.1 (by decide) (by decide) (H.2.2.2.1.2.2.2.1) ?_
  refine wp_iconst (nI 2) dL_sequence_58 (by decide) ?_
  refine wp_icmp_geN 101 dL_sequence_59 (by decide) (by omega) (by decide) (fun c_59 => ?_) (fun c_59 => absurd c_59 (by omega))
  refine wp_aload_n (i := 0) dL_sequence_101 rfl rfl ?_
  refine wp_bipush (nI 12) dL_sequence_102 (by decide) ?_
  refine wp_iload (i := 5) dL_sequence_104 rfl ?_
  refine wp_ldcA dL_sequence_106 rfl ?_
  refine wp_aload_n (i := 1) dL_sequence_108 rfl rfl ?_
  refine wp_iload_n (i := 2) dL_sequence_109 rfl rfl ?_
  refine wp_iconst (nI 2) dL_sequence_110 (by decide) ?_
  refine wp_iaddN dL_sequence_111 ?_
  refine wp_iconst (nI 4) dL_sequence_112 (by decide) ?_
  refine wp_cS (y' := m_L_pick) [vr (some nS), vi (nI (i + 2)), vi (nI 4)] [vr (some nA), vi (nI q), vi (nI 12), vr (some (nm 40 0))] 0 0 dL_sequence_113 ml_L_199 st_L_pick ok_L_pick rfl (Nat.le_of_ble_eq_true rfl) rfl (Nat.le_of_ble_eq_true rfl) (d' := d - 1) (by omega) (Nat.zero_le _) (Nat.zero_le _) (c_L_pick (by omega) (by decide) (by omega) hL (by omega) (cont_ret ?_))
  refine c_charAt (pkv_lt (G := G) (i := i + 2) (m := 4) (by decide)) dL_sequence_116 ml_L_209 (Nat.le_of_ble_eq_true rfl) (by omega) ?_
  rw [chA_nI (pkv_lt (G := G) (i := i + 2) (m := 4) (by decide))]
  refine wp_iconst (nI 1) dL_sequence_119 (by decide) ?_
  refine wp_aload_n (i := 1) dL_sequence_120 rfl rfl ?_
  refine wp_iload_n (i := 2) dL_sequence_121 rfl rfl ?_
  refine wp_iconst (nI 3) dL_sequence_122 (by decide) ?_
  refine wp_iaddN dL_sequence_123 ?_
  refine wp_bipush (nI 6) dL_sequence_124 (by decide) ?_
  refine wp_cS (y' := m_L_pick) [vr (some nS), vi (nI (i + 3)), vi (nI 6)] [vi (nI 1), vi (nI (chN (pkV G (i + 2) 4))), vi (nI q), vi (nI 12), vr (some (nm 40 0))] 0 0 dL_sequence_126 ml_L_199 st_L_pick ok_L_pick rfl (Nat.le_of_ble_eq_true rfl) rfl (Nat.le_of_ble_eq_true rfl) (d' := d - 1) (by omega) (Nat.zero_le _) (Nat.zero_le _) (c_L_pick (by omega) (by decide) (by omega) hL (by omega) (cont_ret ?_))
  refine wp_iaddN dL_sequence_129 ?_
  refine wp_cSH (y' := m_L_deed) [vr (some (nm 40 0)), vi (nI 12), vi (nI q), vi (nI (chN (pkV G (i + 2) 4))), vi (nI (1 + (pkV G (i + 3) 6)))] [] 6 80 dL_sequence_130 ml_L_191 st_L_deed okH_L_deed rfl (Nat.le_of_ble_eq_true rfl) rfl (Nat.le_of_ble_eq_true rfl) (d' := d - 1) (by omega) (by omega) (by omega) (e_over (s := q) (by omega) (wn := chN (pkV G (i + 2) 4)) (chN_lt hp4) (chN_c hp4) B C (by omega) (by omega) (by omega) (fun h1 C1 F1 => cont_ret ?_))
  rw [eo] at C1
  rw [show dA [-20001, -20002, -20003] (o_over n x (nI q) q (chN (pkV G (i + 2) 4)) (nI (1 + pkV G (i + 3) 6))) = nI n from by rw [eo]; rfl]
  have H1 := H.fk F1
  refine wp_istore (i := 6) (lv' := [(6, vi (nI n)), (5, vi (nI q)), (4, vi (nI w)), (0, vr (some (nm 40 0))), (1, vr (some nS)), (2, vi (nI i)), (3, vr (some (nm 70 1)))]) dL_sequence_133 (by decide) rfl ?_
  refine wp_aload_n (i := 3) dL_sequence_135 rfl rfl ?_
  refine wp_iconst (nI 1) dL_sequence_136 (by decide) ?_
  refine wp_dup2 dL_sequence_137 ?_
  refine wp_ialoadN 3 (nI n) dL_sequence_138 H1.2.2.2.1.1 H1.2.2.2.1.2.1 (by decide) (by decide) (H1.2.2.2.1.2.2.2.1) ?_
  refine wp_iconst (nI 1) dL_sequence_139 (by decide) ?_
  refine wp_iaddN dL_sequence_140 ?_
  refine wp_iastoreN 3 dL_sequence_141 H1.2.2.2.1.1 H1.2.2.2.1.2.1 (by decide) (by decide) ?_
  have H2w := H1.incQ
  have C2w := C1.law (fun a ha => ce_w70 (i := 1) (k := 1) (z := (nI (n + 1))) (show a ≠ nm 70 1 by unfold nm; omega))
  refine wp_iload (i := 6) dL_sequence_142 rfl ?_
  refine wp_aload_n (i := 3) dL_sequence_144 rfl rfl ?_
  refine wp_iconst (nI 1) dL_sequence_145 (by decide) ?_
  refine wp_ialoadN 3 (nI (n + 1)) dL_sequence_146 H2w.2.2.2.1.1 H2w.2.2.2.1.2.1 (by decide) (by decide) (H2w.2.2.2.1.2.2.2.1) ?_
  refine wp_iconst (nI 1) dL_sequence_147 (by decide) ?_
  refine wp_isubN dL_sequence_148 (by omega) ?_
  refine wp_icmp_neN 180 dL_sequence_149 (by decide) (by omega) (by omega) (fun c_149 => absurd c_149 (by omega)) (fun c_149 => ?_)
  refine wp_aload_n (i := 0) dL_sequence_152 rfl rfl ?_
  refine wp_bipush (nI 8) dL_sequence_153 (by decide) ?_
  refine wp_iload (i := 6) dL_sequence_155 rfl ?_
  refine wp_iconst (nI 0) dL_sequence_157 (by decide) ?_
  refine wp_cSH (y' := m_L_ask) [vr (some (nm 40 0)), vi (nI 8), vi (nI n), vi (nI 0)] [] 6 80 dL_sequence_158 ml_L_184 st_L_ask okH_L_ask rfl (Nat.le_of_ble_eq_true rfl) rfl (Nat.le_of_ble_eq_true rfl) (d' := d - 1) (by omega) (by omega) (by omega) (q_realised (s := n) (by omega) B' C2w (by omega) (by omega) (by omega) (fun h3 C3 F3 => cont_ret ?_))
  rw [e1] at C3
  rw [show dA [-20001] (o_realised (n + 1) (va_up x n z) (nI n) n) = nI 0 from by rw [e1]; rfl]
  have H3 := H2w.fk F3
  refine wp_if_neN 180 dL_sequence_161 (by decide) (by decide) (fun c_161 => absurd c_161 (by decide)) (fun c_161 => ?_)
  refine wp_aload_n (i := 0) dL_sequence_164 rfl rfl ?_
  refine wp_bipush (nI 9) dL_sequence_165 (by decide) ?_
  refine wp_iload (i := 6) dL_sequence_167 rfl ?_
  refine wp_iconst (nI 0) dL_sequence_169 (by decide) ?_
  refine wp_cSH (y' := m_L_ask) [vr (some (nm 40 0)), vi (nI 9), vi (nI n), vi (nI 0)] [] 6 80 dL_sequence_170 ml_L_184 st_L_ask okH_L_ask rfl (Nat.le_of_ble_eq_true rfl) rfl (Nat.le_of_ble_eq_true rfl) (d' := d - 1) (by omega) (by omega) (by omega) (q_chunks (s := n) (by omega) B' C3 (by omega) (by omega) (by omega) (fun h4 C4 F4 => cont_ret ?_))
  rw [e2] at C4
  rw [show dA [-20001] (o_chunks (n + 1) (va_up x n z) (nI n) n) = nI 0 from by rw [e2]; rfl]
  have H4 := H3.fk F4
  refine wp_if_neN 180 dL_sequence_173 (by decide) (by decide) (fun c_173 => absurd c_173 (by decide)) (fun c_173 => ?_)
  refine wp_iconst (nI 1) dL_sequence_176 (by decide) ?_
  refine wp_goto 181 dL_sequence_177 (by decide) ?_
  refine wp_zreturn dL_sequence_181 rfl (by decide) ?_
  exact hq _ _ _ C4 B' hB H4
set_option maxRecDepth 100000 in
set_option maxHeartbeats 4000000 in
theorem l_seq_look {G : GG} {d c n : Nat} {Q : Pst} {V : SV} {x : Nat → QIS} {R : RS} {K J i w q : Nat} {ro : Nat → Nat} {rf : Nat → Nat → Int32} {op : Nat → Bool} (B : PU c V n x R) (hb : QBd n x) (hd : 40 ≤ d) (hL : slen G < 2 ^ 31) (hi : i + 200 < 2 ^ 31) {h : Hp} {M bc bs : Nat} (C : CLS h V M n x R) (H : LWH h (sNv V) n (RS_rn R) ro rf K J op) (hbc : 60 ≤ bc) (hbs : 1000 ≤ bs) (hq : ∀ h' n' x', CLS h' V M n' x' R → PU c V n' x' R → QBd n' x' → LWH h' (sNv V) n' (RS_rn R) ro rf K J op → Q (oRet (vi (nI 1))) h') (hw6 : w < 6) (hq9 : q < n) : WP G m_L_sequence d 182 [(5, vi (nI q)), (4, vi (nI w)), (0, vr (some (nm 40 0))), (1, vr (some nS)), (2, vi (nI i)), (3, vr (some (nm 70 1)))] [] h bc bs Q := by
  have hn := B.2.2.2.1.1.2.1
  have hp12 := @pkv_lt G (i + 2) 12 (by decide)
  obtain ⟨b, c0, ⟨o1, o2, b24, c24, _, _⟩, hat, hall⟩ := sq_look hq9 B.2.2.2.1 hb
  by_cases w5 : w < 5
  · rcases hat (pkV G (i + 2) 12) (by omega) with ⟨x', e, b', c', x2, a1, e4, e5, pb, bb, cc, ⟨p1, p2, b24', c24', p5, p6⟩, a2, ⟨r1, r2, r3, r4, r5, r6⟩⟩ | ⟨x', a1, ⟨p1, p2, r3, r4, p5, p6⟩⟩ | ⟨x', a1, pb, ⟨p1, p2, r3, r4, p5, p6⟩⟩
    · have B1 := B.q p5
      have B2 := B.q r5
      refine wp_aload_n (i := 0) dL_sequence_182 rfl rfl ?_
      refine wp_bipush (nI 8) dL_sequence_183 (by decide) ?_
      refine wp_iload (i := 5) dL_sequence_185 rfl ?_
      refine wp_iconst (nI 0) dL_sequence_187 (by decide) ?_
      refine wp_cSH (y' := m_L_ask) [vr (some (nm 40 0)), vi (nI 8), vi (nI q), vi (nI 0)] [] 6 80 dL_sequence_188 ml_L_184 st_L_ask okH_L_ask rfl (Nat.le_of_ble_eq_true rfl) rfl (Nat.le_of_ble_eq_true rfl) (d' := d - 1) (by omega) (by omega) (by omega) (q_realised (s := q) (by omega) B C (by omega) (by omega) (by omega) (fun h1 C1 F1 => cont_ret ?_))
      rw [o1] at C1
      rw [show dA [-20001] (o_realised n x (nI q) q) = nI b from by rw [o1]; rfl]
      have H1 := H.fk F1
      refine wp_istore (i := 6) (lv' := [(6, vi (nI b)), (5, vi (nI q)), (4, vi (nI w)), (0, vr (some (nm 40 0))), (1, vr (some nS)), (2, vi (nI i)), (3, vr (some (nm 70 1)))]) dL_sequence_191 (by decide) rfl ?_
      refine wp_aload_n (i := 0) dL_sequence_193 rfl rfl ?_
      refine wp_bipush (nI 9) dL_sequence_194 (by decide) ?_
      refine wp_iload (i := 5) dL_sequence_196 rfl ?_
      refine wp_iconst (nI 0) dL_sequence_198 (by decide) ?_
      refine wp_cSH (y' := m_L_ask) [vr (some (nm 40 0)), vi (nI 9), vi (nI q), vi (nI 0)] [] 6 80 dL_sequence_199 ml_L_184 st_L_ask okH_L_ask rfl (Nat.le_of_ble_eq_true rfl) rfl (Nat.le_of_ble_eq_true rfl) (d' := d - 1) (by omega) (by omega) (by omega) (q_chunks (s := q) (by omega) B C1 (by omega) (by omega) (by omega) (fun h2 C2 F2 => cont_ret ?_))
      rw [o2] at C2
      rw [show dA [-20001] (o_chunks n x (nI q) q) = nI c0 from by rw [o2]; rfl]
      have H2 := H1.fk F2
      refine wp_istore (i := 7) (lv' := [(7, vi (nI c0)), (6, vi (nI b)), (5, vi (nI q)), (4, vi (nI w)), (0, vr (some (nm 40 0))), (1, vr (some nS)), (2, vi (nI i)), (3, vr (some (nm 70 1)))]) dL_sequence_202 (by decide) rfl ?_
      refine wp_aload_n (i := 1) dL_sequence_204 rfl rfl ?_
      refine wp_iload_n (i := 2) dL_sequence_205 rfl rfl ?_
      refine wp_iconst (nI 2) dL_sequence_206 (by decide) ?_
      refine wp_iaddN dL_sequence_207 ?_
      refine wp_bipush (nI 12) dL_sequence_208 (by decide) ?_
      refine wp_cS (y' := m_L_pick) [vr (some nS), vi (nI (i + 2)), vi (nI 12)] [] 0 0 dL_sequence_210 ml_L_199 st_L_pick ok_L_pick rfl (Nat.le_of_ble_eq_true rfl) rfl (Nat.le_of_ble_eq_true rfl) (d' := d - 1) (by omega) (Nat.zero_le _) (Nat.zero_le _) (c_L_pick (by omega) (by decide) (by omega) hL (by omega) (cont_ret ?_))
      refine wp_istore (i := 8) (lv' := [(8, vi (nI (pkV G (i + 2) 12))), (7, vi (nI c0)), (6, vi (nI b)), (5, vi (nI q)), (4, vi (nI w)), (0, vr (some (nm 40 0))), (1, vr (some nS)), (2, vi (nI i)), (3, vr (some (nm 70 1)))]) dL_sequence_213 (by decide) rfl ?_
      refine wp_iload (i := 4) dL_sequence_215 rfl ?_
      refine wp_iconst (nI 5) dL_sequence_217 (by decide) ?_
      refine wp_icmp_geN 235 dL_sequence_218 (by decide) (by omega) (by decide) (fun c_218 => absurd c_218 (by omega)) (fun c_218 => ?_)
      refine wp_aload_n (i := 0) dL_sequence_221 rfl rfl ?_
      refine wp_bipush (nI 13) dL_sequence_222 (by decide) ?_
      refine wp_iload (i := 5) dL_sequence_224 rfl ?_
      refine wp_iload (i := 8) dL_sequence_226 rfl ?_
      refine wp_iconst (nI 0) dL_sequence_228 (by decide) ?_
      refine wp_cSH (y' := m_L_deed) [vr (some (nm 40 0)), vi (nI 13), vi (nI q), vi (nI (pkV G (i + 2) 12)), vi (nI 0)] [] 6 80 dL_sequence_229 ml_L_191 st_L_deed okH_L_deed rfl (Nat.le_of_ble_eq_true rfl) rfl (Nat.le_of_ble_eq_true rfl) (d' := d - 1) (by omega) (by omega) (by omega) (e_at (s := q) (by omega) (p := pkV G (i + 2) 12) (by omega) B C2 (by omega) (by omega) (by omega) (fun h3 C3 F3 => cont_ret ?_))
      rw [a1] at C3
      rw [show dA [-20001, -20004, -20005] (o_at n x (nI q) q (nI (pkV G (i + 2) 12)) (pkV G (i + 2) 12)) = e from by rw [a1]; rfl]
      have H3 := H2.fk F3
      refine wp_goto 245 dL_sequence_232 (by decide) ?_
      refine wp_istore (i := 9) (lv' := [(9, vi e), (8, vi (nI (pkV G (i + 2) 12))), (7, vi (nI c0)), (6, vi (nI b)), (5, vi (nI q)), (4, vi (nI w)), (0, vr (some (nm 40 0))), (1, vr (some nS)), (2, vi (nI i)), (3, vr (some (nm 70 1)))]) dL_sequence_245 (by decide) rfl ?_
      refine wp_aload_n (i := 0) dL_sequence_247 rfl rfl ?_
      refine wp_bipush (nI 8) dL_sequence_248 (by decide) ?_
      refine wp_iload (i := 5) dL_sequence_250 rfl ?_
      refine wp_iconst (nI 0) dL_sequence_252 (by decide) ?_
      refine wp_cSH (y' := m_L_ask) [vr (some (nm 40 0)), vi (nI 8), vi (nI q), vi (nI 0)] [] 6 80 dL_sequence_253 ml_L_184 st_L_ask okH_L_ask rfl (Nat.le_of_ble_eq_true rfl) rfl (Nat.le_of_ble_eq_true rfl) (d' := d - 1) (by omega) (by omega) (by omega) (q_realised (s := q) (by omega) B1 C3 (by omega) (by omega) (by omega) (fun h4 C4 F4 => cont_ret ?_))
      rw [p1] at C4
      rw [show dA [-20001] (o_realised n x' (nI q) q) = nI b' from by rw [p1]; rfl]
      have H4 := H3.fk F4
      refine wp_istore (i := 10) (lv' := [(10, vi (nI b')), (9, vi e), (8, vi (nI (pkV G (i + 2) 12))), (7, vi (nI c0)), (6, vi (nI b)), (5, vi (nI q)), (4, vi (nI w)), (0, vr (some (nm 40 0))), (1, vr (some nS)), (2, vi (nI i)), (3, vr (some (nm 70 1)))]) dL_sequence_256 (by decide) rfl ?_
      refine wp_iload (i := 10) dL_sequence_258 rfl ?_
      refine wp_iload (i := 6) dL_sequence_260 rfl ?_
      refine wp_icmp_ltN 283 dL_sequence_262 (by decide) (by omega) (by omega) (fun c_262 => absurd c_262 (by omega)) (fun c_262 => ?_)
      refine wp_aload_n (i := 0) dL_sequence_265 rfl rfl ?_
      refine wp_bipush (nI 9) dL_sequence_266 (by decide) ?_
      refine wp_iload (i := 5) dL_sequence_268 rfl ?_
      refine wp_iconst (nI 0) dL_sequence_270 (by decide) ?_
      refine wp_cSH (y' := m_L_ask) [vr (some (nm 40 0)), vi (nI 9), vi (nI q), vi (nI 0)] [] 6 80 dL_sequence_271 ml_L_184 st_L_ask okH_L_ask rfl (Nat.le_of_ble_eq_true rfl) rfl (Nat.le_of_ble_eq_true rfl) (d' := d - 1) (by omega) (by omega) (by omega) (q_chunks (s := q) (by omega) B1 C4 (by omega) (by omega) (by omega) (fun h5 C5 F5 => cont_ret ?_))
      rw [p2] at C5
      rw [show dA [-20001] (o_chunks n x' (nI q) q) = nI c' from by rw [p2]; rfl]
      have H5 := H4.fk F5
      refine wp_iload (i := 7) dL_sequence_274 rfl ?_
      refine wp_icmp_ltN 283 dL_sequence_276 (by decide) (by omega) (by omega) (fun c_276 => absurd c_276 (by omega)) (fun c_276 => ?_)
      refine wp_iconst (nI 1) dL_sequence_279 (by decide) ?_
      refine wp_goto 284 dL_sequence_280 (by decide) ?_
      refine wp_istore (i := 11) (lv' := [(11, vi (nI 1)), (10, vi (nI b')), (9, vi e), (8, vi (nI (pkV G (i + 2) 12))), (7, vi (nI c0)), (6, vi (nI b)), (5, vi (nI q)), (4, vi (nI w)), (0, vr (some (nm 40 0))), (1, vr (some nS)), (2, vi (nI i)), (3, vr (some (nm 70 1)))]) dL_sequence_284 (by decide) rfl ?_
      refine wp_iload (i := 9) dL_sequence_286 rfl ?_
      refine wp_sipush (-20004) dL_sequence_288 (by decide) ?_
      refine wp_icmp_eq 302 dL_sequence_291 (by decide) (fun c_291 => absurd c_291 (e4)) (fun c_291 => ?_)
      refine wp_iload (i := 9) dL_sequence_294 rfl ?_
      refine wp_sipush (-20005) dL_sequence_296 (by decide) ?_
      refine wp_icmp_ne 335 dL_sequence_299 (by decide) (fun c_299 => ?_) (fun c_299 => absurd c_299 (e5))
      refine wp_iload (i := 11) dL_sequence_335 rfl ?_
      refine wp_if_eqN 397 dL_sequence_337 (by decide) (by decide) (fun c_337 => absurd c_337 (by decide)) (fun c_337 => ?_)
      refine wp_iload (i := 4) dL_sequence_340 rfl ?_
      refine wp_iconst (nI 5) dL_sequence_342 (by decide) ?_
      refine wp_icmp_geN 386 dL_sequence_343 (by decide) (by omega) (by decide) (fun c_343 => absurd c_343 (by omega)) (fun c_343 => ?_)
      refine wp_iload (i := 10) dL_sequence_346 rfl ?_
      refine wp_iload (i := 8) dL_sequence_348 rfl ?_
      refine wp_icmp_leN 397 dL_sequence_350 (by decide) (by omega) (by omega) (fun c_350 => absurd c_350 (by omega)) (fun c_350 => ?_)
      refine wp_aload_n (i := 0) dL_sequence_353 rfl rfl ?_
      refine wp_bipush (nI 13) dL_sequence_354 (by decide) ?_
      refine wp_iload (i := 5) dL_sequence_356 rfl ?_
      refine wp_iload (i := 8) dL_sequence_358 rfl ?_
      refine wp_iconst (nI 0) dL_sequence_360 (by decide) ?_
      refine wp_cSH (y' := m_L_deed) [vr (some (nm 40 0)), vi (nI 13), vi (nI q), vi (nI (pkV G (i + 2) 12)), vi (nI 0)] [] 6 80 dL_sequence_361 ml_L_191 st_L_deed okH_L_deed rfl (Nat.le_of_ble_eq_true rfl) rfl (Nat.le_of_ble_eq_true rfl) (d' := d - 1) (by omega) (by omega) (by omega) (e_at (s := q) (by omega) (p := pkV G (i + 2) 12) (by omega) B1 C5 (by omega) (by omega) (by omega) (fun h6 C6 F6 => cont_ret ?_))
      rw [a2] at C6
      rw [show dA [-20001, -20004, -20005] (o_at n x' (nI q) q (nI (pkV G (i + 2) 12)) (pkV G (i + 2) 12)) = e from by rw [a2]; rfl]
      have H6 := H5.fk F6
      refine wp_iload (i := 9) dL_sequence_364 rfl ?_
      refine wp_icmp_ne 397 dL_sequence_366 (by decide) (fun c_366 => absurd c_366 (fun z => z rfl)) (fun c_366 => ?_)
      refine wp_aload_n (i := 0) dL_sequence_369 rfl rfl ?_
      refine wp_bipush (nI 8) dL_sequence_370 (by decide) ?_
      refine wp_iload (i := 5) dL_sequence_372 rfl ?_
      refine wp_iconst (nI 0) dL_sequence_374 (by decide) ?_
      refine wp_cSH (y' := m_L_ask) [vr (some (nm 40 0)), vi (nI 8), vi (nI q), vi (nI 0)] [] 6 80 dL_sequence_375 ml_L_184 st_L_ask okH_L_ask rfl (Nat.le_of_ble_eq_true rfl) rfl (Nat.le_of_ble_eq_true rfl) (d' := d - 1) (by omega) (by omega) (by omega) (q_realised (s := q) (by omega) B2 C6 (by omega) (by omega) (by omega) (fun h7 C7 F7 => cont_ret ?_))
      rw [r1] at C7
      rw [show dA [-20001] (o_realised n x2 (nI q) q) = nI b' from by rw [r1]; rfl]
      have H7 := H6.fk F7
      refine wp_iload (i := 10) dL_sequence_378 rfl ?_
      refine wp_icmp_neN 397 dL_sequence_380 (by decide) (by omega) (by omega) (fun c_380 => absurd c_380 (by omega)) (fun c_380 => ?_)
      refine wp_goto 393 dL_sequence_383 (by decide) ?_
      refine wp_iconst (nI 1) dL_sequence_393 (by decide) ?_
      refine wp_goto 398 dL_sequence_394 (by decide) ?_
      refine wp_zreturn dL_sequence_398 rfl (by decide) ?_
      exact hq _ _ _ C7 B2 r6 H7
    · have B1 := B.q p5
      refine wp_aload_n (i := 0) dL_sequence_182 rfl rfl ?_
      refine wp_bipush (nI 8) dL_sequence_183 (by decide) ?_
      refine wp_iload (i := 5) dL_sequence_185 rfl ?_
      refine wp_iconst (nI 0) dL_sequence_187 (by decide) ?_
      refine wp_cSH (y' := m_L_ask) [vr (some (nm 40 0)), vi (nI 8), vi (nI q), vi (nI 0)] [] 6 80 dL_sequence_188 ml_L_184 st_L_ask okH_L_ask rfl (Nat.le_of_ble_eq_true rfl) rfl (Nat.le_of_ble_eq_true rfl) (d' := d - 1) (by omega) (by omega) (by omega) (q_realised (s := q) (by omega) B C (by omega) (by omega) (by omega) (fun h1 C1 F1 => cont_ret ?_))
      rw [o1] at C1
      rw [show dA [-20001] (o_realised n x (nI q) q) = nI b from by rw [o1]; rfl]
      have H1 := H.fk F1
      refine wp_istore (i := 6) (lv' := [(6, vi (nI b)), (5, vi (nI q)), (4, vi (nI w)), (0, vr (some (nm 40 0))), (1, vr (some nS)), (2, vi (nI i)), (3, vr (some (nm 70 1)))]) dL_sequence_191 (by decide) rfl ?_
      refine wp_aload_n (i := 0) dL_sequence_193 rfl rfl ?_
      refine wp_bipush (nI 9) dL_sequence_194 (by decide) ?_
      refine wp_iload (i := 5) dL_sequence_196 rfl ?_
      refine wp_iconst (nI 0) dL_sequence_198 (by decide) ?_
      refine wp_cSH (y' := m_L_ask) [vr (some (nm 40 0)), vi (nI 9), vi (nI q), vi (nI 0)] [] 6 80 dL_sequence_199 ml_L_184 st_L_ask okH_L_ask rfl (Nat.le_of_ble_eq_true rfl) rfl (Nat.le_of_ble_eq_true rfl) (d' := d - 1) (by omega) (by omega) (by omega) (q_chunks (s := q) (by omega) B C1 (by omega) (by omega) (by omega) (fun h2 C2 F2 => cont_ret ?_))
      rw [o2] at C2
      rw [show dA [-20001] (o_chunks n x (nI q) q) = nI c0 from by rw [o2]; rfl]
      have H2 := H1.fk F2
      refine wp_istore (i := 7) (lv' := [(7, vi (nI c0)), (6, vi (nI b)), (5, vi (nI q)), (4, vi (nI w)), (0, vr (some (nm 40 0))), (1, vr (some nS)), (2, vi (nI i)), (3, vr (some (nm 70 1)))]) dL_sequence_202 (by decide) rfl ?_
      refine wp_aload_n (i := 1) dL_sequence_204 rfl rfl ?_
      refine wp_iload_n (i := 2) dL_sequence_205 rfl rfl ?_
      refine wp_iconst (nI 2) dL_sequence_206 (by decide) ?_
      refine wp_iaddN dL_sequence_207 ?_
      refine wp_bipush (nI 12) dL_sequence_208 (by decide) ?_
      refine wp_cS (y' := m_L_pick) [vr (some nS), vi (nI (i + 2)), vi (nI 12)] [] 0 0 dL_sequence_210 ml_L_199 st_L_pick ok_L_pick rfl (Nat.le_of_ble_eq_true rfl) rfl (Nat.le_of_ble_eq_true rfl) (d' := d - 1) (by omega) (Nat.zero_le _) (Nat.zero_le _) (c_L_pick (by omega) (by decide) (by omega) hL (by omega) (cont_ret ?_))
      refine wp_istore (i := 8) (lv' := [(8, vi (nI (pkV G (i + 2) 12))), (7, vi (nI c0)), (6, vi (nI b)), (5, vi (nI q)), (4, vi (nI w)), (0, vr (some (nm 40 0))), (1, vr (some nS)), (2, vi (nI i)), (3, vr (some (nm 70 1)))]) dL_sequence_213 (by decide) rfl ?_
      refine wp_iload (i := 4) dL_sequence_215 rfl ?_
      refine wp_iconst (nI 5) dL_sequence_217 (by decide) ?_
      refine wp_icmp_geN 235 dL_sequence_218 (by decide) (by omega) (by decide) (fun c_218 => absurd c_218 (by omega)) (fun c_218 => ?_)
      refine wp_aload_n (i := 0) dL_sequence_221 rfl rfl ?_
      refine wp_bipush (nI 13) dL_sequence_222 (by decide) ?_
      refine wp_iload (i := 5) dL_sequence_224 rfl ?_
      refine wp_iload (i := 8) dL_sequence_226 rfl ?_
      refine wp_iconst (nI 0) dL_sequence_228 (by decide) ?_
      refine wp_cSH (y' := m_L_deed) [vr (some (nm 40 0)), vi (nI 13), vi (nI q), vi (nI (pkV G (i + 2) 12)), vi (nI 0)] [] 6 80 dL_sequence_229 ml_L_191 st_L_deed okH_L_deed rfl (Nat.le_of_ble_eq_true rfl) rfl (Nat.le_of_ble_eq_true rfl) (d' := d - 1) (by omega) (by omega) (by omega) (e_at (s := q) (by omega) (p := pkV G (i + 2) 12) (by omega) B C2 (by omega) (by omega) (by omega) (fun h3 C3 F3 => cont_ret ?_))
      rw [a1] at C3
      rw [show dA [-20001, -20004, -20005] (o_at n x (nI q) q (nI (pkV G (i + 2) 12)) (pkV G (i + 2) 12)) = -20004 from by rw [a1]; rfl]
      have H3 := H2.fk F3
      refine wp_goto 245 dL_sequence_232 (by decide) ?_
      refine wp_istore (i := 9) (lv' := [(9, vi (-20004)), (8, vi (nI (pkV G (i + 2) 12))), (7, vi (nI c0)), (6, vi (nI b)), (5, vi (nI q)), (4, vi (nI w)), (0, vr (some (nm 40 0))), (1, vr (some nS)), (2, vi (nI i)), (3, vr (some (nm 70 1)))]) dL_sequence_245 (by decide) rfl ?_
      refine wp_aload_n (i := 0) dL_sequence_247 rfl rfl ?_
      refine wp_bipush (nI 8) dL_sequence_248 (by decide) ?_
      refine wp_iload (i := 5) dL_sequence_250 rfl ?_
      refine wp_iconst (nI 0) dL_sequence_252 (by decide) ?_
      refine wp_cSH (y' := m_L_ask) [vr (some (nm 40 0)), vi (nI 8), vi (nI q), vi (nI 0)] [] 6 80 dL_sequence_253 ml_L_184 st_L_ask okH_L_ask rfl (Nat.le_of_ble_eq_true rfl) rfl (Nat.le_of_ble_eq_true rfl) (d' := d - 1) (by omega) (by omega) (by omega) (q_realised (s := q) (by omega) B1 C3 (by omega) (by omega) (by omega) (fun h4 C4 F4 => cont_ret ?_))
      rw [p1] at C4
      rw [show dA [-20001] (o_realised n x' (nI q) q) = nI b from by rw [p1]; rfl]
      have H4 := H3.fk F4
      refine wp_istore (i := 10) (lv' := [(10, vi (nI b)), (9, vi (-20004)), (8, vi (nI (pkV G (i + 2) 12))), (7, vi (nI c0)), (6, vi (nI b)), (5, vi (nI q)), (4, vi (nI w)), (0, vr (some (nm 40 0))), (1, vr (some nS)), (2, vi (nI i)), (3, vr (some (nm 70 1)))]) dL_sequence_256 (by decide) rfl ?_
      refine wp_iload (i := 10) dL_sequence_258 rfl ?_
      refine wp_iload (i := 6) dL_sequence_260 rfl ?_
      refine wp_icmp_ltN 283 dL_sequence_262 (by decide) (by omega) (by omega) (fun c_262 => absurd c_262 (by omega)) (fun c_262 => ?_)
      refine wp_aload_n (i := 0) dL_sequence_265 rfl rfl ?_
      refine wp_bipush (nI 9) dL_sequence_266 (by decide) ?_
      refine wp_iload (i := 5) dL_sequence_268 rfl ?_
      refine wp_iconst (nI 0) dL_sequence_270 (by decide) ?_
      refine wp_cSH (y' := m_L_ask) [vr (some (nm 40 0)), vi (nI 9), vi (nI q), vi (nI 0)] [] 6 80 dL_sequence_271 ml_L_184 st_L_ask okH_L_ask rfl (Nat.le_of_ble_eq_true rfl) rfl (Nat.le_of_ble_eq_true rfl) (d' := d - 1) (by omega) (by omega) (by omega) (q_chunks (s := q) (by omega) B1 C4 (by omega) (by omega) (by omega) (fun h5 C5 F5 => cont_ret ?_))
      rw [p2] at C5
      rw [show dA [-20001] (o_chunks n x' (nI q) q) = nI c0 from by rw [p2]; rfl]
      have H5 := H4.fk F5
      refine wp_iload (i := 7) dL_sequence_274 rfl ?_
      refine wp_icmp_ltN 283 dL_sequence_276 (by decide) (by omega) (by omega) (fun c_276 => absurd c_276 (by omega)) (fun c_276 => ?_)
      refine wp_iconst (nI 1) dL_sequence_279 (by decide) ?_
      refine wp_goto 284 dL_sequence_280 (by decide) ?_
      refine wp_istore (i := 11) (lv' := [(11, vi (nI 1)), (10, vi (nI b)), (9, vi (-20004)), (8, vi (nI (pkV G (i + 2) 12))), (7, vi (nI c0)), (6, vi (nI b)), (5, vi (nI q)), (4, vi (nI w)), (0, vr (some (nm 40 0))), (1, vr (some nS)), (2, vi (nI i)), (3, vr (some (nm 70 1)))]) dL_sequence_284 (by decide) rfl ?_
      refine wp_iload (i := 9) dL_sequence_286 rfl ?_
      refine wp_sipush (-20004) dL_sequence_288 (by decide) ?_
      refine wp_icmp_eq 302 dL_sequence_291 (by decide) (fun c_291 => ?_) (fun c_291 => absurd c_291 (fun z => z rfl))
      refine wp_iload (i := 11) dL_sequence_302 rfl ?_
      refine wp_if_eqN 333 dL_sequence_304 (by decide) (by decide) (fun c_304 => absurd c_304 (by decide)) (fun c_304 => ?_)
      refine wp_iload (i := 10) dL_sequence_307 rfl ?_
      refine wp_iload (i := 6) dL_sequence_309 rfl ?_
      refine wp_icmp_neN 333 dL_sequence_311 (by decide) (by omega) (by omega) (fun c_311 => absurd c_311 (by omega)) (fun c_311 => ?_)
      refine wp_iload (i := 9) dL_sequence_314 rfl ?_
      refine wp_sipush (-20004) dL_sequence_316 (by decide) ?_
      refine wp_icmp_eq 329 dL_sequence_319 (by decide) (fun c_319 => ?_) (fun c_319 => absurd c_319 (fun z => z rfl))
      refine wp_iconst (nI 1) dL_sequence_329 (by decide) ?_
      refine wp_goto 334 dL_sequence_330 (by decide) ?_
      refine wp_zreturn dL_sequence_334 rfl (by decide) ?_
      exact hq _ _ _ C5 B1 p6 H5
    · have B1 := B.q p5
      refine wp_aload_n (i := 0) dL_sequence_182 rfl rfl ?_
      refine wp_bipush (nI 8) dL_sequence_183 (by decide) ?_
      refine wp_iload (i := 5) dL_sequence_185 rfl ?_
      refine wp_iconst (nI 0) dL_sequence_187 (by decide) ?_
      refine wp_cSH (y' := m_L_ask) [vr (some (nm 40 0)), vi (nI 8), vi (nI q), vi (nI 0)] [] 6 80 dL_sequence_188 ml_L_184 st_L_ask okH_L_ask rfl (Nat.le_of_ble_eq_true rfl) rfl (Nat.le_of_ble_eq_true rfl) (d' := d - 1) (by omega) (by omega) (by omega) (q_realised (s := q) (by omega) B C (by omega) (by omega) (by omega) (fun h1 C1 F1 => cont_ret ?_))
      rw [o1] at C1
      rw [show dA [-20001] (o_realised n x (nI q) q) = nI b from by rw [o1]; rfl]
      have H1 := H.fk F1
      refine wp_istore (i := 6) (lv' := [(6, vi (nI b)), (5, vi (nI q)), (4, vi (nI w)), (0, vr (some (nm 40 0))), (1, vr (some nS)), (2, vi (nI i)), (3, vr (some (nm 70 1)))]) dL_sequence_191 (by decide) rfl ?_
      refine wp_aload_n (i := 0) dL_sequence_193 rfl rfl ?_
      refine wp_bipush (nI 9) dL_sequence_194 (by decide) ?_
      refine wp_iload (i := 5) dL_sequence_196 rfl ?_
      refine wp_iconst (nI 0) dL_sequence_198 (by decide) ?_
      refine wp_cSH (y' := m_L_ask) [vr (some (nm 40 0)), vi (nI 9), vi (nI q), vi (nI 0)] [] 6 80 dL_sequence_199 ml_L_184 st_L_ask okH_L_ask rfl (Nat.le_of_ble_eq_true rfl) rfl (Nat.le_of_ble_eq_true rfl) (d' := d - 1) (by omega) (by omega) (by omega) (q_chunks (s := q) (by omega) B C1 (by omega) (by omega) (by omega) (fun h2 C2 F2 => cont_ret ?_))
      rw [o2] at C2
      rw [show dA [-20001] (o_chunks n x (nI q) q) = nI c0 from by rw [o2]; rfl]
      have H2 := H1.fk F2
      refine wp_istore (i := 7) (lv' := [(7, vi (nI c0)), (6, vi (nI b)), (5, vi (nI q)), (4, vi (nI w)), (0, vr (some (nm 40 0))), (1, vr (some nS)), (2, vi (nI i)), (3, vr (some (nm 70 1)))]) dL_sequence_202 (by decide) rfl ?_
      refine wp_aload_n (i := 1) dL_sequence_204 rfl rfl ?_
      refine wp_iload_n (i := 2) dL_sequence_205 rfl rfl ?_
      refine wp_iconst (nI 2) dL_sequence_206 (by decide) ?_
      refine wp_iaddN dL_sequence_207 ?_
      refine wp_bipush (nI 12) dL_sequence_208 (by decide) ?_
      refine wp_cS (y' := m_L_pick) [vr (some nS), vi (nI (i + 2)), vi (nI 12)] [] 0 0 dL_sequence_210 ml_L_199 st_L_pick ok_L_pick rfl (Nat.le_of_ble_eq_true rfl) rfl (Nat.le_of_ble_eq_true rfl) (d' := d - 1) (by omega) (Nat.zero_le _) (Nat.zero_le _) (c_L_pick (by omega) (by decide) (by omega) hL (by omega) (cont_ret ?_))
      refine wp_istore (i := 8) (lv' := [(8, vi (nI (pkV G (i + 2) 12))), (7, vi (nI c0)), (6, vi (nI b)), (5, vi (nI q)), (4, vi (nI w)), (0, vr (some (nm 40 0))), (1, vr (some nS)), (2, vi (nI i)), (3, vr (some (nm 70 1)))]) dL_sequence_213 (by decide) rfl ?_
      refine wp_iload (i := 4) dL_sequence_215 rfl ?_
      refine wp_iconst (nI 5) dL_sequence_217 (by decide) ?_
      refine wp_icmp_geN 235 dL_sequence_218 (by decide) (by omega) (by decide) (fun c_218 => absurd c_218 (by omega)) (fun c_218 => ?_)
      refine wp_aload_n (i := 0) dL_sequence_221 rfl rfl ?_
      refine wp_bipush (nI 13) dL_sequence_222 (by decide) ?_
      refine wp_iload (i := 5) dL_sequence_224 rfl ?_
      refine wp_iload (i := 8) dL_sequence_226 rfl ?_
      refine wp_iconst (nI 0) dL_sequence_228 (by decide) ?_
      refine wp_cSH (y' := m_L_deed) [vr (some (nm 40 0)), vi (nI 13), vi (nI q), vi (nI (pkV G (i + 2) 12)), vi (nI 0)] [] 6 80 dL_sequence_229 ml_L_191 st_L_deed okH_L_deed rfl (Nat.le_of_ble_eq_true rfl) rfl (Nat.le_of_ble_eq_true rfl) (d' := d - 1) (by omega) (by omega) (by omega) (e_at (s := q) (by omega) (p := pkV G (i + 2) 12) (by omega) B C2 (by omega) (by omega) (by omega) (fun h3 C3 F3 => cont_ret ?_))
      rw [a1] at C3
      rw [show dA [-20001, -20004, -20005] (o_at n x (nI q) q (nI (pkV G (i + 2) 12)) (pkV G (i + 2) 12)) = -20005 from by rw [a1]; rfl]
      have H3 := H2.fk F3
      refine wp_goto 245 dL_sequence_232 (by decide) ?_
      refine wp_istore (i := 9) (lv' := [(9, vi (-20005)), (8, vi (nI (pkV G (i + 2) 12))), (7, vi (nI c0)), (6, vi (nI b)), (5, vi (nI q)), (4, vi (nI w)), (0, vr (some (nm 40 0))), (1, vr (some nS)), (2, vi (nI i)), (3, vr (some (nm 70 1)))]) dL_sequence_245 (by decide) rfl ?_
      refine wp_aload_n (i := 0) dL_sequence_247 rfl rfl ?_
      refine wp_bipush (nI 8) dL_sequence_248 (by decide) ?_
      refine wp_iload (i := 5) dL_sequence_250 rfl ?_
      refine wp_iconst (nI 0) dL_sequence_252 (by decide) ?_
      refine wp_cSH (y' := m_L_ask) [vr (some (nm 40 0)), vi (nI 8), vi (nI q), vi (nI 0)] [] 6 80 dL_sequence_253 ml_L_184 st_L_ask okH_L_ask rfl (Nat.le_of_ble_eq_true rfl) rfl (Nat.le_of_ble_eq_true rfl) (d' := d - 1) (by omega) (by omega) (by omega) (q_realised (s := q) (by omega) B1 C3 (by omega) (by omega) (by omega) (fun h4 C4 F4 => cont_ret ?_))
      rw [p1] at C4
      rw [show dA [-20001] (o_realised n x' (nI q) q) = nI b from by rw [p1]; rfl]
      have H4 := H3.fk F4
      refine wp_istore (i := 10) (lv' := [(10, vi (nI b)), (9, vi (-20005)), (8, vi (nI (pkV G (i + 2) 12))), (7, vi (nI c0)), (6, vi (nI b)), (5, vi (nI q)), (4, vi (nI w)), (0, vr (some (nm 40 0))), (1, vr (some nS)), (2, vi (nI i)), (3, vr (some (nm 70 1)))]) dL_sequence_256 (by decide) rfl ?_
      refine wp_iload (i := 10) dL_sequence_258 rfl ?_
      refine wp_iload (i := 6) dL_sequence_260 rfl ?_
      refine wp_icmp_ltN 283 dL_sequence_262 (by decide) (by omega) (by omega) (fun c_262 => absurd c_262 (by omega)) (fun c_262 => ?_)
      refine wp_aload_n (i := 0) dL_sequence_265 rfl rfl ?_
      refine wp_bipush (nI 9) dL_sequence_266 (by decide) ?_
      refine wp_iload (i := 5) dL_sequence_268 rfl ?_
      refine wp_iconst (nI 0) dL_sequence_270 (by decide) ?_
      refine wp_cSH (y' := m_L_ask) [vr (some (nm 40 0)), vi (nI 9), vi (nI q), vi (nI 0)] [] 6 80 dL_sequence_271 ml_L_184 st_L_ask okH_L_ask rfl (Nat.le_of_ble_eq_true rfl) rfl (Nat.le_of_ble_eq_true rfl) (d' := d - 1) (by omega) (by omega) (by omega) (q_chunks (s := q) (by omega) B1 C4 (by omega) (by omega) (by omega) (fun h5 C5 F5 => cont_ret ?_))
      rw [p2] at C5
      rw [show dA [-20001] (o_chunks n x' (nI q) q) = nI c0 from by rw [p2]; rfl]
      have H5 := H4.fk F5
      refine wp_iload (i := 7) dL_sequence_274 rfl ?_
      refine wp_icmp_ltN 283 dL_sequence_276 (by decide) (by omega) (by omega) (fun c_276 => absurd c_276 (by omega)) (fun c_276 => ?_)
      refine wp_iconst (nI 1) dL_sequence_279 (by decide) ?_
      refine wp_goto 284 dL_sequence_280 (by decide) ?_
      refine wp_istore (i := 11) (lv' := [(11, vi (nI 1)), (10, vi (nI b)), (9, vi (-20005)), (8, vi (nI (pkV G (i + 2) 12))), (7, vi (nI c0)), (6, vi (nI b)), (5, vi (nI q)), (4, vi (nI w)), (0, vr (some (nm 40 0))), (1, vr (some nS)), (2, vi (nI i)), (3, vr (some (nm 70 1)))]) dL_sequence_284 (by decide) rfl ?_
      refine wp_iload (i := 9) dL_sequence_286 rfl ?_
      refine wp_sipush (-20004) dL_sequence_288 (by decide) ?_
      refine wp_icmp_eq 302 dL_sequence_291 (by decide) (fun c_291 => absurd c_291 (by decide)) (fun c_291 => ?_)
      refine wp_iload (i := 9) dL_sequence_294 rfl ?_
      refine wp_sipush (-20005) dL_sequence_296 (by decide) ?_
      refine wp_icmp_ne 335 dL_sequence_299 (by decide) (fun c_299 => absurd c_299 (fun z => z rfl)) (fun c_299 => ?_)
      refine wp_iload (i := 11) dL_sequence_302 rfl ?_
      refine wp_if_eqN 333 dL_sequence_304 (by decide) (by decide) (fun c_304 => absurd c_304 (by decide)) (fun c_304 => ?_)
      refine wp_iload (i := 10) dL_sequence_307 rfl ?_
      refine wp_iload (i := 6) dL_sequence_309 rfl ?_
      refine wp_icmp_neN 333 dL_sequence_311 (by decide) (by omega) (by omega) (fun c_311 => absurd c_311 (by omega)) (fun c_311 => ?_)
      refine wp_iload (i := 9) dL_sequence_314 rfl ?_
      refine wp_sipush (-20004) dL_sequence_316 (by decide) ?_
      refine wp_icmp_eq 329 dL_sequence_319 (by decide) (fun c_319 => absurd c_319 (by decide)) (fun c_319 => ?_)
      refine wp_iload (i := 8) dL_sequence_322 rfl ?_
      refine wp_iload (i := 6) dL_sequence_324 rfl ?_
      refine wp_icmp_ltN 333 dL_sequence_326 (by decide) (by omega) (by omega) (fun c_326 => absurd c_326 (by omega)) (fun c_326 => ?_)
      refine wp_iconst (nI 1) dL_sequence_329 (by decide) ?_
      refine wp_goto 334 dL_sequence_330 (by decide) ?_
      refine wp_zreturn dL_sequence_334 rfl (by decide) ?_
      exact hq _ _ _ C5 B1 p6 H5
  · rcases hall with ⟨x', b', c', a1, bb, cc, ⟨p1, p2, b24', c24', p5, p6⟩⟩ | ⟨x', a1, ⟨p1, p2, r3, r4, p5, p6⟩⟩
    · have B1 := B.q p5
      refine wp_aload_n (i := 0) dL_sequence_182 rfl rfl ?_
      refine wp_bipush (nI 8) dL_sequence_183 (by decide) ?_
      refine wp_iload (i := 5) dL_sequence_185 rfl ?_
      refine wp_iconst (nI 0) dL_sequence_187 (by decide) ?_
      refine wp_cSH (y' := m_L_ask) [vr (some (nm 40 0)), vi (nI 8), vi (nI q), vi (nI 0)] [] 6 80 dL_sequence_188 ml_L_184 st_L_ask okH_L_ask rfl (Nat.le_of_ble_eq_true rfl) rfl (Nat.le_of_ble_eq_true rfl) (d' := d - 1) (by omega) (by omega) (by omega) (q_realised (s := q) (by omega) B C (by omega) (by omega) (by omega) (fun h1 C1 F1 => cont_ret ?_))
      rw [o1] at C1
      rw [show dA [-20001] (o_realised n x (nI q) q) = nI b from by rw [o1]; rfl]
      have H1 := H.fk F1
      refine wp_istore (i := 6) (lv' := [(6, vi (nI b)), (5, vi (nI q)), (4, vi (nI w)), (0, vr (some (nm 40 0))), (1, vr (some nS)), (2, vi (nI i)), (3, vr (some (nm 70 1)))]) dL_sequence_191 (by decide) rfl ?_
      refine wp_aload_n (i := 0) dL_sequence_193 rfl rfl ?_
      refine wp_bipush (nI 9) dL_sequence_194 (by decide) ?_
      refine wp_iload (i := 5) dL_sequence_196 rfl ?_
      refine wp_iconst (nI 0) dL_sequence_198 (by decide) ?_
      refine wp_cSH (y' := m_L_ask) [vr (some (nm 40 0)), vi (nI 9), vi (nI q), vi (nI 0)] [] 6 80 dL_sequence_199 ml_L_184 st_L_ask okH_L_ask rfl (Nat.le_of_ble_eq_true rfl) rfl (Nat.le_of_ble_eq_true rfl) (d' := d - 1) (by omega) (by omega) (by omega) (q_chunks (s := q) (by omega) B C1 (by omega) (by omega) (by omega) (fun h2 C2 F2 => cont_ret ?_))
      rw [o2] at C2
      rw [show dA [-20001] (o_chunks n x (nI q) q) = nI c0 from by rw [o2]; rfl]
      have H2 := H1.fk F2
      refine wp_istore (i := 7) (lv' := [(7, vi (nI c0)), (6, vi (nI b)), (5, vi (nI q)), (4, vi (nI w)), (0, vr (some (nm 40 0))), (1, vr (some nS)), (2, vi (nI i)), (3, vr (some (nm 70 1)))]) dL_sequence_202 (by decide) rfl ?_
      refine wp_aload_n (i := 1) dL_sequence_204 rfl rfl ?_
      refine wp_iload_n (i := 2) dL_sequence_205 rfl rfl ?_
      refine wp_iconst (nI 2) dL_sequence_206 (by decide) ?_
      refine wp_iaddN dL_sequence_207 ?_
      refine wp_bipush (nI 12) dL_sequence_208 (by decide) ?_
      refine wp_cS (y' := m_L_pick) [vr (some nS), vi (nI (i + 2)), vi (nI 12)] [] 0 0 dL_sequence_210 ml_L_199 st_L_pick ok_L_pick rfl (Nat.le_of_ble_eq_true rfl) rfl (Nat.le_of_ble_eq_true rfl) (d' := d - 1) (by omega) (Nat.zero_le _) (Nat.zero_le _) (c_L_pick (by omega) (by decide) (by omega) hL (by omega) (cont_ret ?_))
      refine wp_istore (i := 8) (lv' := [(8, vi (nI (pkV G (i + 2) 12))), (7, vi (nI c0)), (6, vi (nI b)), (5, vi (nI q)), (4, vi (nI w)), (0, vr (some (nm 40 0))), (1, vr (some nS)), (2, vi (nI i)), (3, vr (some (nm 70 1)))]) dL_sequence_213 (by decide) rfl ?_
      refine wp_iload (i := 4) dL_sequence_215 rfl ?_
      refine wp_iconst (nI 5) dL_sequence_217 (by decide) ?_
      refine wp_icmp_geN 235 dL_sequence_218 (by decide) (by omega) (by decide) (fun c_218 => ?_) (fun c_218 => absurd c_218 (by omega))
      refine wp_aload_n (i := 0) dL_sequence_235 rfl rfl ?_
      refine wp_bipush (nI 14) dL_sequence_236 (by decide) ?_
      refine wp_iload (i := 5) dL_sequence_238 rfl ?_
      refine wp_iconst (nI 0) dL_sequence_240 (by decide) ?_
      refine wp_iconst (nI 0) dL_sequence_241 (by decide) ?_
      refine wp_cSH (y' := m_L_deed) [vr (some (nm 40 0)), vi (nI 14), vi (nI q), vi (nI 0), vi (nI 0)] [] 6 80 dL_sequence_242 ml_L_191 st_L_deed okH_L_deed rfl (Nat.le_of_ble_eq_true rfl) rfl (Nat.le_of_ble_eq_true rfl) (d' := d - 1) (by omega) (by omega) (by omega) (e_all (s := q) (by omega) B C2 (by omega) (by omega) (by omega) (fun h3 C3 F3 => cont_ret ?_))
      rw [a1] at C3
      rw [show dA [-20001, -20004] (o_all n x (nI q) q) = nI b' from by rw [a1]; rfl]
      have H3 := H2.fk F3
      refine wp_istore (i := 9) (lv' := [(9, vi (nI b')), (8, vi (nI (pkV G (i + 2) 12))), (7, vi (nI c0)), (6, vi (nI b)), (5, vi (nI q)), (4, vi (nI w)), (0, vr (some (nm 40 0))), (1, vr (some nS)), (2, vi (nI i)), (3, vr (some (nm 70 1)))]) dL_sequence_245 (by decide) rfl ?_
      refine wp_aload_n (i := 0) dL_sequence_247 rfl rfl ?_
      refine wp_bipush (nI 8) dL_sequence_248 (by decide) ?_
      refine wp_iload (i := 5) dL_sequence_250 rfl ?_
      refine wp_iconst (nI 0) dL_sequence_252 (by decide) ?_
      refine wp_cSH (y' := m_L_ask) [vr (some (nm 40 0)), vi (nI 8), vi (nI q), vi (nI 0)] [] 6 80 dL_sequence_253 ml_L_184 st_L_ask okH_L_ask rfl (Nat.le_of_ble_eq_true rfl) rfl (Nat.le_of_ble_eq_true rfl) (d' := d - 1) (by omega) (by omega) (by omega) (q_realised (s := q) (by omega) B1 C3 (by omega) (by omega) (by omega) (fun h4 C4 F4 => cont_ret ?_))
      rw [p1] at C4
      rw [show dA [-20001] (o_realised n x' (nI q) q) = nI b' from by rw [p1]; rfl]
      have H4 := H3.fk F4
      refine wp_istore (i := 10) (lv' := [(10, vi (nI b')), (9, vi (nI b')), (8, vi (nI (pkV G (i + 2) 12))), (7, vi (nI c0)), (6, vi (nI b)), (5, vi (nI q)), (4, vi (nI w)), (0, vr (some (nm 40 0))), (1, vr (some nS)), (2, vi (nI i)), (3, vr (some (nm 70 1)))]) dL_sequence_256 (by decide) rfl ?_
      refine wp_iload (i := 10) dL_sequence_258 rfl ?_
      refine wp_iload (i := 6) dL_sequence_260 rfl ?_
      refine wp_icmp_ltN 283 dL_sequence_262 (by decide) (by omega) (by omega) (fun c_262 => absurd c_262 (by omega)) (fun c_262 => ?_)
      refine wp_aload_n (i := 0) dL_sequence_265 rfl rfl ?_
      refine wp_bipush (nI 9) dL_sequence_266 (by decide) ?_
      refine wp_iload (i := 5) dL_sequence_268 rfl ?_
      refine wp_iconst (nI 0) dL_sequence_270 (by decide) ?_
      refine wp_cSH (y' := m_L_ask) [vr (some (nm 40 0)), vi (nI 9), vi (nI q), vi (nI 0)] [] 6 80 dL_sequence_271 ml_L_184 st_L_ask okH_L_ask rfl (Nat.le_of_ble_eq_true rfl) rfl (Nat.le_of_ble_eq_true rfl) (d' := d - 1) (by omega) (by omega) (by omega) (q_chunks (s := q) (by omega) B1 C4 (by omega) (by omega) (by omega) (fun h5 C5 F5 => cont_ret ?_))
      rw [p2] at C5
      rw [show dA [-20001] (o_chunks n x' (nI q) q) = nI c' from by rw [p2]; rfl]
      have H5 := H4.fk F5
      refine wp_iload (i := 7) dL_sequence_274 rfl ?_
      refine wp_icmp_ltN 283 dL_sequence_276 (by decide) (by omega) (by omega) (fun c_276 => absurd c_276 (by omega)) (fun c_276 => ?_)
      refine wp_iconst (nI 1) dL_sequence_279 (by decide) ?_
      refine wp_goto 284 dL_sequence_280 (by decide) ?_
      refine wp_istore (i := 11) (lv' := [(11, vi (nI 1)), (10, vi (nI b')), (9, vi (nI b')), (8, vi (nI (pkV G (i + 2) 12))), (7, vi (nI c0)), (6, vi (nI b)), (5, vi (nI q)), (4, vi (nI w)), (0, vr (some (nm 40 0))), (1, vr (some nS)), (2, vi (nI i)), (3, vr (some (nm 70 1)))]) dL_sequence_284 (by decide) rfl ?_
      refine wp_iload (i := 9) dL_sequence_286 rfl ?_
      refine wp_sipush (-20004) dL_sequence_288 (by decide) ?_
      refine wp_icmp_eq 302 dL_sequence_291 (by decide) (fun c_291 => absurd c_291 (nI_ne _ (by omega) _ (by decide))) (fun c_291 => ?_)
      refine wp_iload (i := 9) dL_sequence_294 rfl ?_
      refine wp_sipush (-20005) dL_sequence_296 (by decide) ?_
      refine wp_icmp_ne 335 dL_sequence_299 (by decide) (fun c_299 => ?_) (fun c_299 => absurd c_299 (nI_ne _ (by omega) _ (by decide)))
      refine wp_iload (i := 11) dL_sequence_335 rfl ?_
      refine wp_if_eqN 397 dL_sequence_337 (by decide) (by decide) (fun c_337 => absurd c_337 (by decide)) (fun c_337 => ?_)
      refine wp_iload (i := 4) dL_sequence_340 rfl ?_
      refine wp_iconst (nI 5) dL_sequence_342 (by decide) ?_
      refine wp_icmp_geN 386 dL_sequence_343 (by decide) (by omega) (by decide) (fun c_343 => ?_) (fun c_343 => absurd c_343 (by omega))
      refine wp_iload (i := 10) dL_sequence_386 rfl ?_
      refine wp_iload (i := 9) dL_sequence_388 rfl ?_
      refine wp_icmp_neN 397 dL_sequence_390 (by decide) (by omega) (by omega) (fun c_390 => absurd c_390 (by omega)) (fun c_390 => ?_)
      refine wp_iconst (nI 1) dL_sequence_393 (by decide) ?_
      refine wp_goto 398 dL_sequence_394 (by decide) ?_
      refine wp_zreturn dL_sequence_398 rfl (by decide) ?_
      exact hq _ _ _ C5 B1 p6 H5
    · have B1 := B.q p5
      refine wp_aload_n (i := 0) dL_sequence_182 rfl rfl ?_
      refine wp_bipush (nI 8) dL_sequence_183 (by decide) ?_
      refine wp_iload (i := 5) dL_sequence_185 rfl ?_
      refine wp_iconst (nI 0) dL_sequence_187 (by decide) ?_
      refine wp_cSH (y' := m_L_ask) [vr (some (nm 40 0)), vi (nI 8), vi (nI q), vi (nI 0)] [] 6 80 dL_sequence_188 ml_L_184 st_L_ask okH_L_ask rfl (Nat.le_of_ble_eq_true rfl) rfl (Nat.le_of_ble_eq_true rfl) (d' := d - 1) (by omega) (by omega) (by omega) (q_realised (s := q) (by omega) B C (by omega) (by omega) (by omega) (fun h1 C1 F1 => cont_ret ?_))
      rw [o1] at C1
      rw [show dA [-20001] (o_realised n x (nI q) q) = nI b from by rw [o1]; rfl]
      have H1 := H.fk F1
      refine wp_istore (i := 6) (lv' := [(6, vi (nI b)), (5, vi (nI q)), (4, vi (nI w)), (0, vr (some (nm 40 0))), (1, vr (some nS)), (2, vi (nI i)), (3, vr (some (nm 70 1)))]) dL_sequence_191 (by decide) rfl ?_
      refine wp_aload_n (i := 0) dL_sequence_193 rfl rfl ?_
      refine wp_bipush (nI 9) dL_sequence_194 (by decide) ?_
      refine wp_iload (i := 5) dL_sequence_196 rfl ?_
      refine wp_iconst (nI 0) dL_sequence_198 (by decide) ?_
      refine wp_cSH (y' := m_L_ask) [vr (some (nm 40 0)), vi (nI 9), vi (nI q), vi (nI 0)] [] 6 80 dL_sequence_199 ml_L_184 st_L_ask okH_L_ask rfl (Nat.le_of_ble_eq_true rfl) rfl (Nat.le_of_ble_eq_true rfl) (d' := d - 1) (by omega) (by omega) (by omega) (q_chunks (s := q) (by omega) B C1 (by omega) (by omega) (by omega) (fun h2 C2 F2 => cont_ret ?_))
      rw [o2] at C2
      rw [show dA [-20001] (o_chunks n x (nI q) q) = nI c0 from by rw [o2]; rfl]
      have H2 := H1.fk F2
      refine wp_istore (i := 7) (lv' := [(7, vi (nI c0)), (6, vi (nI b)), (5, vi (nI q)), (4, vi (nI w)), (0, vr (some (nm 40 0))), (1, vr (some nS)), (2, vi (nI i)), (3, vr (some (nm 70 1)))]) dL_sequence_202 (by decide) rfl ?_
      refine wp_aload_n (i := 1) dL_sequence_204 rfl rfl ?_
      refine wp_iload_n (i := 2) dL_sequence_205 rfl rfl ?_
      refine wp_iconst (nI 2) dL_sequence_206 (by decide) ?_
      refine wp_iaddN dL_sequence_207 ?_
      refine wp_bipush (nI 12) dL_sequence_208 (by decide) ?_
      refine wp_cS (y' := m_L_pick) [vr (some nS), vi (nI (i + 2)), vi (nI 12)] [] 0 0 dL_sequence_210 ml_L_199 st_L_pick ok_L_pick rfl (Nat.le_of_ble_eq_true rfl) rfl (Nat.le_of_ble_eq_true rfl) (d' := d - 1) (by omega) (Nat.zero_le _) (Nat.zero_le _) (c_L_pick (by omega) (by decide) (by omega) hL (by omega) (cont_ret ?_))
      refine wp_istore (i := 8) (lv' := [(8, vi (nI (pkV G (i + 2) 12))), (7, vi (nI c0)), (6, vi (nI b)), (5, vi (nI q)), (4, vi (nI w)), (0, vr (some (nm 40 0))), (1, vr (some nS)), (2, vi (nI i)), (3, vr (some (nm 70 1)))]) dL_sequence_213 (by decide) rfl ?_
      refine wp_iload (i := 4) dL_sequence_215 rfl ?_
      refine wp_iconst (nI 5) dL_sequence_217 (by decide) ?_
      refine wp_icmp_geN 235 dL_sequence_218 (by decide) (by omega) (by decide) (fun c_218 => ?_) (fun c_218 => absurd c_218 (by omega))
      refine wp_aload_n (i := 0) dL_sequence_235 rfl rfl ?_
      refine wp_bipush (nI 14) dL_sequence_236 (by decide) ?_
      refine wp_iload (i := 5) dL_sequence_238 rfl ?_
      refine wp_iconst (nI 0) dL_sequence_240 (by decide) ?_
      refine wp_iconst (nI 0) dL_sequence_241 (by decide) ?_
      refine wp_cSH (y' := m_L_deed) [vr (some (nm 40 0)), vi (nI 14), vi (nI q), vi (nI 0), vi (nI 0)] [] 6 80 dL_sequence_242 ml_L_191 st_L_deed okH_L_deed rfl (Nat.le_of_ble_eq_true rfl) rfl (Nat.le_of_ble_eq_true rfl) (d' := d - 1) (by omega) (by omega) (by omega) (e_all (s := q) (by omega) B C2 (by omega) (by omega) (by omega) (fun h3 C3 F3 => cont_ret ?_))
      rw [a1] at C3
      rw [show dA [-20001, -20004] (o_all n x (nI q) q) = -20004 from by rw [a1]; rfl]
      have H3 := H2.fk F3
      refine wp_istore (i := 9) (lv' := [(9, vi (-20004)), (8, vi (nI (pkV G (i + 2) 12))), (7, vi (nI c0)), (6, vi (nI b)), (5, vi (nI q)), (4, vi (nI w)), (0, vr (some (nm 40 0))), (1, vr (some nS)), (2, vi (nI i)), (3, vr (some (nm 70 1)))]) dL_sequence_245 (by decide) rfl ?_
      refine wp_aload_n (i := 0) dL_sequence_247 rfl rfl ?_
      refine wp_bipush (nI 8) dL_sequence_248 (by decide) ?_
      refine wp_iload (i := 5) dL_sequence_250 rfl ?_
      refine wp_iconst (nI 0) dL_sequence_252 (by decide) ?_
      refine wp_cSH (y' := m_L_ask) [vr (some (nm 40 0)), vi (nI 8), vi (nI q), vi (nI 0)] [] 6 80 dL_sequence_253 ml_L_184 st_L_ask okH_L_ask rfl (Nat.le_of_ble_eq_true rfl) rfl (Nat.le_of_ble_eq_true rfl) (d' := d - 1) (by omega) (by omega) (by omega) (q_realised (s := q) (by omega) B1 C3 (by omega) (by omega) (by omega) (fun h4 C4 F4 => cont_ret ?_))
      rw [p1] at C4
      rw [show dA [-20001] (o_realised n x' (nI q) q) = nI b from by rw [p1]; rfl]
      have H4 := H3.fk F4
      refine wp_istore (i := 10) (lv' := [(10, vi (nI b)), (9, vi (-20004)), (8, vi (nI (pkV G (i + 2) 12))), (7, vi (nI c0)), (6, vi (nI b)), (5, vi (nI q)), (4, vi (nI w)), (0, vr (some (nm 40 0))), (1, vr (some nS)), (2, vi (nI i)), (3, vr (some (nm 70 1)))]) dL_sequence_256 (by decide) rfl ?_
      refine wp_iload (i := 10) dL_sequence_258 rfl ?_
      refine wp_iload (i := 6) dL_sequence_260 rfl ?_
      refine wp_icmp_ltN 283 dL_sequence_262 (by decide) (by omega) (by omega) (fun c_262 => absurd c_262 (by omega)) (fun c_262 => ?_)
      refine wp_aload_n (i := 0) dL_sequence_265 rfl rfl ?_
      refine wp_bipush (nI 9) dL_sequence_266 (by decide) ?_
      refine wp_iload (i := 5) dL_sequence_268 rfl ?_
      refine wp_iconst (nI 0) dL_sequence_270 (by decide) ?_
      refine wp_cSH (y' := m_L_ask) [vr (some (nm 40 0)), vi (nI 9), vi (nI q), vi (nI 0)] [] 6 80 dL_sequence_271 ml_L_184 st_L_ask okH_L_ask rfl (Nat.le_of_ble_eq_true rfl) rfl (Nat.le_of_ble_eq_true rfl) (d' := d - 1) (by omega) (by omega) (by omega) (q_chunks (s := q) (by omega) B1 C4 (by omega) (by omega) (by omega) (fun h5 C5 F5 => cont_ret ?_))
      rw [p2] at C5
      rw [show dA [-20001] (o_chunks n x' (nI q) q) = nI c0 from by rw [p2]; rfl]
      have H5 := H4.fk F5
      refine wp_iload (i := 7) dL_sequence_274 rfl ?_
      refine wp_icmp_ltN 283 dL_sequence_276 (by decide) (by omega) (by omega) (fun c_276 => absurd c_276 (by omega)) (fun c_276 => ?_)
      refine wp_iconst (nI 1) dL_sequence_279 (by decide) ?_
      refine wp_goto 284 dL_sequence_280 (by decide) ?_
      refine wp_istore (i := 11) (lv' := [(11, vi (nI 1)), (10, vi (nI b)), (9, vi (-20004)), (8, vi (nI (pkV G (i + 2) 12))), (7, vi (nI c0)), (6, vi (nI b)), (5, vi (nI q)), (4, vi (nI w)), (0, vr (some (nm 40 0))), (1, vr (some nS)), (2, vi (nI i)), (3, vr (some (nm 70 1)))]) dL_sequence_284 (by decide) rfl ?_
      refine wp_iload (i := 9) dL_sequence_286 rfl ?_
      refine wp_sipush (-20004) dL_sequence_288 (by decide) ?_
      refine wp_icmp_eq 302 dL_sequence_291 (by decide) (fun c_291 => ?_) (fun c_291 => absurd c_291 (fun z => z rfl))
      refine wp_iload (i := 11) dL_sequence_302 rfl ?_
      refine wp_if_eqN 333 dL_sequence_304 (by decide) (by decide) (fun c_304 => absurd c_304 (by decide)) (fun c_304 => ?_)
      refine wp_iload (i := 10) dL_sequence_307 rfl ?_
      refine wp_iload (i := 6) dL_sequence_309 rfl ?_
      refine wp_icmp_neN 333 dL_sequence_311 (by decide) (by omega) (by omega) (fun c_311 => absurd c_311 (by omega)) (fun c_311 => ?_)
      refine wp_iload (i := 9) dL_sequence_314 rfl ?_
      refine wp_sipush (-20004) dL_sequence_316 (by decide) ?_
      refine wp_icmp_eq 329 dL_sequence_319 (by decide) (fun c_319 => ?_) (fun c_319 => absurd c_319 (fun z => z rfl))
      refine wp_iconst (nI 1) dL_sequence_329 (by decide) ?_
      refine wp_goto 334 dL_sequence_330 (by decide) ?_
      refine wp_zreturn dL_sequence_334 rfl (by decide) ?_
      exact hq _ _ _ C5 B1 p6 H5
set_option maxRecDepth 100000 in
set_option maxHeartbeats 4000000 in
theorem l_seq_to {G : GG} {d c n : Nat} {Q : Pst} {V : SV} {x : Nat → QIS} {R : RS} {K J i w q : Nat} {ro : Nat → Nat} {rf : Nat → Nat → Int32} {op : Nat → Bool} (B : PU c V n x R) (hb : QBd n x) (hd : 40 ≤ d) (hL : slen G < 2 ^ 31) (hi : i + 200 < 2 ^ 31) {h : Hp} {M bc bs : Nat} (C : CLS h V M n x R) (H : LWH h (sNv V) n (RS_rn R) ro rf K J op) (hbc : 60 ≤ bc) (hbs : 1000 ≤ bs) (hq : ∀ h' n' x', CLS h' V M n' x' R → PU c V n' x' R → QBd n' x' → LWH h' (sNv V) n' (RS_rn R) ro rf K J op → Q (oRet (vi (nI 1))) h') (hw6 : w < 6) (hq9 : q < n) (hh : 2 ≤ w ∨ n = 12) : WP G m_L_sequence d 41 [(5, vi (nI q)), (4, vi (nI w)), (0, vr (some (nm 40 0))), (1, vr (some nS)), (2, vi (nI i)), (3, vr (some (nm 70 1)))] [] h bc bs Q := by
  have hn := B.2.2.2.1.1.2.1
  by_cases w2 : 2 ≤ w
  · skip
    refine wp_iload (i := 4) dL_sequence_41 rfl ?_
    refine wp_iconst (nI 2) dL_sequence_43 (by decide) ?_
    refine wp_icmp_geN 182 dL_sequence_44 (by decide) (by omega) (by decide) (fun c_44 => ?_) (fun c_44 => absurd c_44 (by omega))
    exact l_seq_look B hb hd hL hi C H hbc hbs hq hw6 hq9
  · skip
    refine wp_iload (i := 4) dL_sequence_41 rfl ?_
    refine wp_iconst (nI 2) dL_sequence_43 (by decide) ?_
    refine wp_icmp_geN 182 dL_sequence_44 (by decide) (by omega) (by decide) (fun c_44 => absurd c_44 (by omega)) (fun c_44 => ?_)
    refine wp_aload_n (i := 3) dL_sequence_47 rfl rfl ?_
    refine wp_iconst (nI 1) dL_sequence_48 (by decide) ?_
    refine wp_ialoadN 3 (nI n) dL_sequence_49 H.2.2.2.1.1 H.2.2.2.1.2.1 (by decide) (by decide) (H.2.2.2.1.2.2.2.1) ?_
    refine wp_bipush (nI 12) dL_sequence_50 (by decide) ?_
    refine wp_icmp_geN 182 dL_sequence_52 (by decide) (by omega) (by decide) (fun c_52 => ?_) (fun c_52 => absurd c_52 (by omega))
    exact l_seq_look B hb hd hL hi C H hbc hbs hq hw6 hq9
set_option maxRecDepth 100000 in
set_option maxHeartbeats 4000000 in
theorem c_L_sequence {G : GG} {d c n : Nat} {Q : Pst} {V : SV} {x : Nat → QIS} {R : RS} {K J i : Nat} {ro : Nat → Nat} {rf : Nat → Nat → Int32} {op : Nat → Bool} (B : PU c V n x R) (hb : QBd n x) (hd : 40 ≤ d) (hL : slen G < 2 ^ 31) (hi : i + 200 < 2 ^ 31) {h : Hp} {M bc bs : Nat} (C : CLS h V M n x R) (H : LWH h (sNv V) n (RS_rn R) ro rf K J op) (hbc : 60 ≤ bc) (hbs : 1000 ≤ bs) (hq : ∀ h' n' x', CLS h' V M n' x' R → PU c V n' x' R → QBd n' x' → LWH h' (sNv V) n' (RS_rn R) ro rf K J op → Q (oRet (vi (nI 1))) h') : WP G m_L_sequence d 0 (aargs 0 [vr (some (nm 40 0)), vr (some nS), vi (nI i), vr (some (nm 70 1))]) [] h bc bs Q := by
  refine wp_sub [(0, vr (some (nm 40 0))), (1, vr (some nS)), (2, vi (nI i)), (3, vr (some (nm 70 1)))] (fun _ hz => hz) ?_
  have hn := B.2.2.2.1.1.2.1
  by_cases n0 : n = 0
  · skip
    refine wp_aload_n (i := 3) dL_sequence_0 rfl rfl ?_
    refine wp_iconst (nI 1) dL_sequence_1 (by decide) ?_
    refine wp_ialoadN 3 (nI n) dL_sequence_2 H.2.2.2.1.1 H.2.2.2.1.2.1 (by decide) (by decide) (H.2.2.2.1.2.2.2.1) ?_
    refine wp_if_neN 10 dL_sequence_3 (by decide) (by omega) (fun c_3 => absurd c_3 (by omega)) (fun c_3 => ?_)
    refine wp_iconst (nI 0) dL_sequence_6 (by decide) ?_
    refine wp_goto 17 dL_sequence_7 (by decide) ?_
    refine wp_istore (i := 4) (lv' := [(4, vi (nI 0)), (0, vr (some (nm 40 0))), (1, vr (some nS)), (2, vi (nI i)), (3, vr (some (nm 70 1)))]) dL_sequence_17 (by decide) rfl ?_
    refine wp_aload_n (i := 3) dL_sequence_19 rfl rfl ?_
    refine wp_iconst (nI 1) dL_sequence_20 (by decide) ?_
    refine wp_ialoadN 3 (nI n) dL_sequence_21 H.2.2.2.1.1 H.2.2.2.1.2.1 (by decide) (by decide) (H.2.2.2.1.2.2.2.1) ?_
    refine wp_if_neN 29 dL_sequence_22 (by decide) (by omega) (fun c_22 => absurd c_22 (by omega)) (fun c_22 => ?_)
    refine wp_iconst (nI 0) dL_sequence_25 (by decide) ?_
    refine wp_goto 39 dL_sequence_26 (by decide) ?_
    refine wp_istore (i := 5) (lv' := [(5, vi (nI 0)), (4, vi (nI 0)), (0, vr (some (nm 40 0))), (1, vr (some nS)), (2, vi (nI i)), (3, vr (some (nm 70 1)))]) dL_sequence_39 (by decide) rfl ?_
    exact l_seq_rng B hb hd hL hi C H hbc hbs hq (by decide) (by omega)
  · have hw6 := @pkv_lt G i 6 (by decide)
    have hq9 := @pkv_lt G (i + 1) n (by omega)
    refine wp_aload_n (i := 3) dL_sequence_0 rfl rfl ?_
    refine wp_iconst (nI 1) dL_sequence_1 (by decide) ?_
    refine wp_ialoadN 3 (nI n) dL_sequence_2 H.2.2.2.1.1 H.2.2.2.1.2.1 (by decide) (by decide) (H.2.2.2.1.2.2.2.1) ?_
    refine wp_if_neN 10 dL_sequence_3 (by decide) (by omega) (fun c_3 => ?_) (fun c_3 => absurd c_3 (by omega))
    refine wp_aload_n (i := 1) dL_sequence_10 rfl rfl ?_
    refine wp_iload_n (i := 2) dL_sequence_11 rfl rfl ?_
    refine wp_bipush (nI 6) dL_sequence_12 (by decide) ?_
    refine wp_cS (y' := m_L_pick) [vr (some nS), vi (nI i), vi (nI 6)] [] 0 0 dL_sequence_14 ml_L_199 st_L_pick ok_L_pick rfl (Nat.le_of_ble_eq_true rfl) rfl (Nat.le_of_ble_eq_true rfl) (d' := d - 1) (by omega) (Nat.zero_le _) (Nat.zero_le _) (c_L_pick (by omega) (by decide) (by omega) hL (by omega) (cont_ret ?_))
    refine wp_istore (i := 4) (lv' := [(4, vi (nI (pkV G i 6))), (0, vr (some (nm 40 0))), (1, vr (some nS)), (2, vi (nI i)), (3, vr (some (nm 70 1)))]) dL_sequence_17 (by decide) rfl ?_
    refine wp_aload_n (i := 3) dL_sequence_19 rfl rfl ?_
    refine wp_iconst (nI 1) dL_sequence_20 (by decide) ?_
    refine wp_ialoadN 3 (nI n) dL_sequence_21 H.2.2.2.1.1 H.2.2.2.1.2.1 (by decide) (by decide) (H.2.2.2.1.2.2.2.1) ?_
    refine wp_if_neN 29 dL_sequence_22 (by decide) (by omega) (fun c_22 => ?_) (fun c_22 => absurd c_22 (by omega))
    refine wp_aload_n (i := 1) dL_sequence_29 rfl rfl ?_
    refine wp_iload_n (i := 2) dL_sequence_30 rfl rfl ?_
    refine wp_iconst (nI 1) dL_sequence_31 (by decide) ?_
    refine wp_iaddN dL_sequence_32 ?_
    refine wp_aload_n (i := 3) dL_sequence_33 rfl rfl ?_
    refine wp_iconst (nI 1) dL_sequence_34 (by decide) ?_
    refine wp_ialoadN 3 (nI n) dL_sequence_35 H.2.2.2.1.1 H.2.2.2.1.2.1 (by decide) (by decide) (H.2.2.2.1.2.2.2.1) ?_
    refine wp_cS (y' := m_L_pick) [vr (some nS), vi (nI (i + 1)), vi (nI n)] [] 0 0 dL_sequence_36 ml_L_199 st_L_pick ok_L_pick rfl (Nat.le_of_ble_eq_true rfl) rfl (Nat.le_of_ble_eq_true rfl) (d' := d - 1) (by omega) (Nat.zero_le _) (Nat.zero_le _) (c_L_pick (by omega) (by omega) (by omega) hL (by omega) (cont_ret ?_))
    refine wp_istore (i := 5) (lv' := [(5, vi (nI (pkV G (i + 1) n))), (4, vi (nI (pkV G i 6))), (0, vr (some (nm 40 0))), (1, vr (some nS)), (2, vi (nI i)), (3, vr (some (nm 70 1)))]) dL_sequence_39 (by decide) rfl ?_
    by_cases a1 : pkV G i 6 < 2 ∧ n < 12
    · by_cases a2 : n < 2
      · exact l_seq_rng B hb hd hL hi C H hbc hbs hq a1.1 a2
      · exact l_seq_ov B hb hd hL hi C H hbc hbs hq a1.1 (by omega) a1.2 hq9
    · exact l_seq_to B hb hd hL hi C H hbc hbs hq hw6 hq9 (by omega)
