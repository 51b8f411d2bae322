/-! The law: its rounds. -/
abbrev m_L_law : MI := (yL_law, cL_law, 11, (some .boolean), [])
set_option maxRecDepth 100000 in
set_option maxHeartbeats 4000000 in
theorem l_law_rd {G : GG} {d k K J c M n : Nat} {Q : Pst} {V : SV} {x : Nat → QIS} {R : RS} {ro : Nat → Nat} {rf : Nat → Nat → Int32} {op : Nat → Bool} {h : Hp} {bc bs X Y : Nat} (hk : k < 110) (L : LSt k K J c M n V x R ro rf op h) (hL : slen G < 2 ^ 31) (hd : 60 ≤ d) (hM : M + 40 < 900000) (hbc : X + 160 ≤ bc) (hbs : Y + 5400 + 1100 * flg R ≤ bs) (hK : ∀ K' J' c' M' n' V' x' R' ro' rf' op' h' bc' bs', LSt (k + 1) K' J' c' M' n' V' x' R' ro' rf' op' h' → M' ≤ M + 16 → X ≤ bc' → Y + 1100 * flg R' ≤ bs' → WP G m_L_law d 109 [(5, vi (nI 1)), (6, vi (nI k)), (4, vr (some (nm 70 2))), (3, vr (some (nm 70 1))), (2, vr (some (nm 70 0))), (1, vr (some (nm 40 0))), (0, vr (some nS))] [] h' bc' bs' Q) : WP G m_L_law d 29 [(6, vi (nI k)), (5, vi (nI 1)), (4, vr (some (nm 70 2))), (3, vr (some (nm 70 1))), (2, vr (some (nm 70 0))), (1, vr (some (nm 40 0))), (0, vr (some nS))] [] h bc bs Q := by
  obtain ⟨B, hc4, hP, hI0, hb, HI, HO, C, H⟩ := L
  have hn60 := B.1.1
  have hp5 := @pkv_lt G (10 + 6 * k + 5) 5 (by decide)
  refine wp_iload (i := 6) dL_law_29 rfl ?_
  refine wp_bipush (nI 110) dL_law_31 (by decide) ?_
  refine wp_icmp_geN 196 dL_law_33 (by decide) (by omega) (by decide) (fun c_33 => absurd c_33 (by omega)) (fun c_33 => ?_)
  refine wp_iload (i := 5) dL_law_36 rfl ?_
  refine wp_if_eqN 196 dL_law_38 (by decide) (by decide) (fun c_38 => absurd c_38 (by decide)) (fun c_38 => ?_)
  refine wp_bipush (nI 10) dL_law_41 (by decide) ?_
  refine wp_bipush (nI 6) dL_law_43 (by decide) ?_
  refine wp_iload (i := 6) dL_law_45 rfl ?_
  refine wp_imulN dL_law_47 ?_
  refine wp_iaddN dL_law_48 ?_
  refine wp_istore (i := 7) (lv' := [(7, vi (nI (10 + (6 * k)))), (6, vi (nI k)), (5, vi (nI 1)), (4, vr (some (nm 70 2))), (3, vr (some (nm 70 1))), (2, vr (some (nm 70 0))), (1, vr (some (nm 40 0))), (0, vr (some nS))]) dL_law_49 (by decide) rfl ?_
  refine wp_aload_n (i := 0) dL_law_51 rfl rfl ?_
  refine wp_iload (i := 7) dL_law_52 rfl ?_
  refine wp_iconst (nI 5) dL_law_54 (by decide) ?_
  refine wp_iaddN dL_law_55 ?_
  refine wp_iconst (nI 5) dL_law_56 (by decide) ?_
  refine wp_cS (y' := m_L_pick) [vr (some nS), vi (nI ((10 + (6 * k)) + 5)), vi (nI 5)] [] 0 0 dL_law_57 ml_L_199 st_L_pick ok_L_pick rfl (Nat.le_of_ble_eq_true rfl) rfl (Nat.le_of_ble_eq_true rfl) (d' := d - 1) (by omega) (Nat.zero_le _) (Nat.zero_le _) (c_L_pick (by omega) (by decide) (by omega) hL (by omega) (cont_ret ?_))
  refine wp_istore (i := 8) (lv' := [(8, vi (nI (pkV G ((10 + (6 * k)) + 5) 5))), (7, vi (nI (10 + (6 * k)))), (6, vi (nI k)), (5, vi (nI 1)), (4, vr (some (nm 70 2))), (3, vr (some (nm 70 1))), (2, vr (some (nm 70 0))), (1, vr (some (nm 40 0))), (0, vr (some nS))]) dL_law_60 (by decide) rfl ?_
  refine wp_iload (i := 8) dL_law_62 rfl ?_
  refine wp_iconst (nI 3) dL_law_64 (by decide) ?_
  refine wp_icmp_geN 80 dL_law_65 (by decide) (by omega) (by decide) (fun c_65 => ?_) (fun c_65 => ?_)
  · skip
    refine wp_iload (i := 8) dL_law_80 rfl ?_
    refine wp_iconst (nI 3) dL_law_82 (by decide) ?_
    refine wp_icmp_neN 97 dL_law_83 (by decide) (by omega) (by decide) (fun c_83 => ?_) (fun c_83 => ?_)
    · skip
      refine wp_aload_n (i := 1) dL_law_97 rfl rfl ?_
      refine wp_aload_n (i := 0) dL_law_98 rfl rfl ?_
      refine wp_iload (i := 7) dL_law_99 rfl ?_
      refine wp_aload_n (i := 3) dL_law_101 rfl rfl ?_
      refine wp_aload (i := 4) dL_law_102 rfl ?_
      have hcz : czN (pkV G (10 + (6 * k)) 9) (pkV G ((10 + (6 * k)) + 1) 3) R ≤ flg R := by
        unfold czN
        split
        · exact flg_t (pkv_lt (by decide)) B.2.2.2.2.1.1.2.1
        · exact Nat.zero_le _
      refine wp_cS (y' := m_L_transact) [vr (some (nm 40 0)), vr (some nS), vi (nI (10 + (6 * k))), vr (some (nm 70 1)), vr (some (nm 70 2))] [] 150 (1500 + 1100 * czN (pkV G (10 + (6 * k)) 9) (pkV G ((10 + (6 * k)) + 1) 3) R) dL_law_104 ml_L_231 st_L_transact ok_L_transact rfl (Nat.le_of_ble_eq_true rfl) rfl (Nat.le_of_ble_eq_true rfl) (d' := d - 1) (by omega) (by omega) (by omega) (c_L_transact B (by omega) hk HI HO (by omega) hL (by omega) C H (by omega) (by omega) (fun h9 c9 R9 op9 a1 a2 a3 a4 a5 a6 a7 => cont_ret ?_))
      refine wp_istore (i := 5) (lv' := [(5, vi (nI 1)), (8, vi (nI (pkV G ((10 + (6 * k)) + 5) 5))), (7, vi (nI (10 + (6 * k)))), (6, vi (nI k)), (4, vr (some (nm 70 2))), (3, vr (some (nm 70 1))), (2, vr (some (nm 70 0))), (1, vr (some (nm 40 0))), (0, vr (some nS))]) dL_law_107 (by decide) rfl ?_
      refine wp_sub [(5, vi (nI 1)), (6, vi (nI k)), (4, vr (some (nm 70 2))), (3, vr (some (nm 70 1))), (2, vr (some (nm 70 0))), (1, vr (some (nm 40 0))), (0, vr (some nS))] (sb_cons (.head _) (sb_cons (.tail _ (.tail _ (.tail _ (.head _)))) (sb_cons (.tail _ (.tail _ (.tail _ (.tail _ (.head _))))) (sb_cons (.tail _ (.tail _ (.tail _ (.tail _ (.tail _ (.head _)))))) (sb_cons (.tail _ (.tail _ (.tail _ (.tail _ (.tail _ (.tail _ (.head _))))))) (sb_cons (.tail _ (.tail _ (.tail _ (.tail _ (.tail _ (.tail _ (.tail _ (.head _)))))))) (sb_cons (.tail _ (.tail _ (.tail _ (.tail _ (.tail _ (.tail _ (.tail _ (.tail _ (.head _))))))))) sb_nil))))))) ?_
      exact hK _ _ _ _ _ _ _ _ _ _ _ _ _ _ ⟨a3, by omega, hP, hI0, hb, a4, a5, a2, a7⟩ (by omega) (by omega) (by omega)
    · skip
      refine wp_aload_n (i := 1) dL_law_86 rfl rfl ?_
      refine wp_aload_n (i := 0) dL_law_87 rfl rfl ?_
      refine wp_iload (i := 7) dL_law_88 rfl ?_
      refine wp_aload_n (i := 3) dL_law_90 rfl rfl ?_
      refine wp_cS (y' := m_L_sequence) [vr (some (nm 40 0)), vr (some nS), vi (nI (10 + (6 * k))), vr (some (nm 70 1))] [] 60 1000 dL_law_91 ml_L_227 st_L_sequence ok_L_sequence rfl (Nat.le_of_ble_eq_true rfl) rfl (Nat.le_of_ble_eq_true rfl) (d' := d - 1) (by omega) (by omega) (by omega) (c_L_sequence B hb (by omega) hL (by omega) C H (by omega) (by omega) (fun h9 n9 x9 a1 a2 a3 a4 => cont_ret ?_))
      refine wp_goto 107 dL_law_94 (by decide) ?_
      refine wp_istore (i := 5) (lv' := [(5, vi (nI 1)), (8, vi (nI (pkV G ((10 + (6 * k)) + 5) 5))), (7, vi (nI (10 + (6 * k)))), (6, vi (nI k)), (4, vr (some (nm 70 2))), (3, vr (some (nm 70 1))), (2, vr (some (nm 70 0))), (1, vr (some (nm 40 0))), (0, vr (some nS))]) dL_law_107 (by decide) rfl ?_
      refine wp_sub [(5, vi (nI 1)), (6, vi (nI k)), (4, vr (some (nm 70 2))), (3, vr (some (nm 70 1))), (2, vr (some (nm 70 0))), (1, vr (some (nm 40 0))), (0, vr (some nS))] (sb_cons (.head _) (sb_cons (.tail _ (.tail _ (.tail _ (.head _)))) (sb_cons (.tail _ (.tail _ (.tail _ (.tail _ (.head _))))) (sb_cons (.tail _ (.tail _ (.tail _ (.tail _ (.tail _ (.head _)))))) (sb_cons (.tail _ (.tail _ (.tail _ (.tail _ (.tail _ (.tail _ (.head _))))))) (sb_cons (.tail _ (.tail _ (.tail _ (.tail _ (.tail _ (.tail _ (.tail _ (.head _)))))))) (sb_cons (.tail _ (.tail _ (.tail _ (.tail _ (.tail _ (.tail _ (.tail _ (.tail _ (.head _))))))))) sb_nil))))))) ?_
      exact hK _ _ _ _ _ _ _ _ _ _ _ _ _ _ ⟨a2, by omega, hP, hI0, a3, HI.up, HO, a1, a4⟩ (by omega) (by omega) (by omega)
  · skip
    refine wp_aload_n (i := 1) dL_law_68 rfl rfl ?_
    refine wp_aload_n (i := 0) dL_law_69 rfl rfl ?_
    refine wp_iload (i := 7) dL_law_70 rfl ?_
    refine wp_aload_n (i := 2) dL_law_72 rfl rfl ?_
    refine wp_aload_n (i := 3) dL_law_73 rfl rfl ?_
    refine wp_cS (y' := m_L_value) [vr (some (nm 40 0)), vr (some nS), vi (nI (10 + (6 * k))), vr (some (nm 70 0)), vr (some (nm 70 1))] [] 130 3100 dL_law_74 ml_L_223 st_L_value ok_L_value rfl (Nat.le_of_ble_eq_true rfl) rfl (Nat.le_of_ble_eq_true rfl) (d' := d - 1) (by omega) (by omega) (by omega) (c_L_value B (by omega) hP hI0 (by omega) hL (by omega) C (by omega) H (by omega) (by omega) (fun h9 M9 V9 c9 ro9 rf9 a1 a2 a3 a4 a5 a6 a7 a8 => cont_ret ?_))
    refine wp_goto 107 dL_law_77 (by decide) ?_
    refine wp_istore (i := 5) (lv' := [(5, vi (nI 1)), (8, vi (nI (pkV G ((10 + (6 * k)) + 5) 5))), (7, vi (nI (10 + (6 * k)))), (6, vi (nI k)), (4, vr (some (nm 70 2))), (3, vr (some (nm 70 1))), (2, vr (some (nm 70 0))), (1, vr (some (nm 40 0))), (0, vr (some nS))]) dL_law_107 (by decide) rfl ?_
    refine wp_sub [(5, vi (nI 1)), (6, vi (nI k)), (4, vr (some (nm 70 2))), (3, vr (some (nm 70 1))), (2, vr (some (nm 70 0))), (1, vr (some (nm 40 0))), (0, vr (some nS))] (sb_cons (.head _) (sb_cons (.tail _ (.tail _ (.tail _ (.head _)))) (sb_cons (.tail _ (.tail _ (.tail _ (.tail _ (.head _))))) (sb_cons (.tail _ (.tail _ (.tail _ (.tail _ (.tail _ (.head _)))))) (sb_cons (.tail _ (.tail _ (.tail _ (.tail _ (.tail _ (.tail _ (.head _))))))) (sb_cons (.tail _ (.tail _ (.tail _ (.tail _ (.tail _ (.tail _ (.tail _ (.head _)))))))) (sb_cons (.tail _ (.tail _ (.tail _ (.tail _ (.tail _ (.tail _ (.tail _ (.tail _ (.head _))))))))) sb_nil))))))) ?_
    exact hK _ _ _ _ _ _ _ _ _ _ _ _ _ _ ⟨a2, by omega, a7, a8, hb, HI.up, HO, a3, a6⟩ (by omega) (by omega) (by omega)
set_option maxRecDepth 100000 in
set_option maxHeartbeats 4000000 in
theorem l_law_vs {G : GG} {d k K J c n : Nat} {Q : Pst} {V : SV} {x : Nat → QIS} {R : RS} {ro : Nat → Nat} {rf : Nat → Nat → Int32} {op : Nat → Bool} {X Y M0 : Nat} (B : PU c V n x R) (hc : c ≤ 512) (hP : ∀ v, v < sNv V → RowP (vp V v) (rf v)) (hd : 60 ≤ d) (hM : M0 + 13000 < 900000) (hK : ∀ h' M' bc' bs', CLS h' V M' n x R → LWH h' (sNv V) n (RS_rn R) ro rf K J op → M' ≤ M0 + 12600 → X ≤ bc' → Y ≤ bs' → WP G m_L_law d 153 [(5, vi (nI 1)), (6, vi (nI k)), (4, vr (some (nm 70 2))), (3, vr (some (nm 70 1))), (2, vr (some (nm 70 0))), (1, vr (some (nm 40 0))), (0, vr (some nS))] [] h' bc' bs' Q) : ∀ m v h M bc bs, m + v = sNv V → CLS h V M n x R → LWH h (sNv V) n (RS_rn R) ro rf K J op → M ≤ M0 + 210 * v → 1250 * m + X ≤ bc → 8200 * m + Y ≤ bs → WP G m_L_law d 122 [(9, vi (nI v)), (5, vi (nI 1)), (6, vi (nI k)), (4, vr (some (nm 70 2))), (3, vr (some (nm 70 1))), (2, vr (some (nm 70 0))), (1, vr (some (nm 40 0))), (0, vr (some nS))] [] h bc bs Q := by
  have hn60 := B.1.1
  intro m
  induction m with
  | zero =>
    intro v h M bc bs hm C H hMv hbc hbs
    refine wp_iload (i := 9) dL_law_122 rfl ?_
    refine wp_aload_n (i := 3) dL_law_124 rfl rfl ?_
    refine wp_iconst (nI 0) dL_law_125 (by decide) ?_
    refine wp_ialoadN 3 (nI (sNv V)) dL_law_126 H.2.2.2.1.1 H.2.2.2.1.2.1 (by decide) (by decide) (H.2.2.2.1.2.2.1) ?_
    refine wp_icmp_geN 153 dL_law_127 (by decide) (by omega) (by omega) (fun c_127 => ?_) (fun c_127 => absurd c_127 (by omega))
    refine wp_sub [(5, vi (nI 1)), (6, vi (nI k)), (4, vr (some (nm 70 2))), (3, vr (some (nm 70 1))), (2, vr (some (nm 70 0))), (1, vr (some (nm 40 0))), (0, vr (some nS))] (sb_cons (.tail _ (.head _)) (sb_cons (.tail _ (.tail _ (.head _))) (sb_cons (.tail _ (.tail _ (.tail _ (.head _)))) (sb_cons (.tail _ (.tail _ (.tail _ (.tail _ (.head _))))) (sb_cons (.tail _ (.tail _ (.tail _ (.tail _ (.tail _ (.head _)))))) (sb_cons (.tail _ (.tail _ (.tail _ (.tail _ (.tail _ (.tail _ (.head _))))))) (sb_cons (.tail _ (.tail _ (.tail _ (.tail _ (.tail _ (.tail _ (.tail _ (.head _)))))))) sb_nil))))))) ?_
    exact hK _ _ _ _ C H (by omega) (by omega) (by omega)
  | succ m ih =>
    intro v h M bc bs hm C H hMv hbc hbs
    have hv : v < sNv V := by omega
    refine wp_iload (i := 9) dL_law_122 rfl ?_
    refine wp_aload_n (i := 3) dL_law_124 rfl rfl ?_
    refine wp_iconst (nI 0) dL_law_125 (by decide) ?_
    refine wp_ialoadN 3 (nI (sNv V)) dL_law_126 H.2.2.2.1.1 H.2.2.2.1.2.1 (by decide) (by decide) (H.2.2.2.1.2.2.1) ?_
    refine wp_icmp_geN 153 dL_law_127 (by decide) (by omega) (by omega) (fun c_127 => absurd c_127 (by omega)) (fun c_127 => ?_)
    refine wp_iload (i := 5) dL_law_130 rfl ?_
    refine wp_if_eqN 153 dL_law_132 (by decide) (by decide) (fun c_132 => absurd c_132 (by decide)) (fun c_132 => ?_)
    refine wp_aload_n (i := 1) dL_law_135 rfl rfl ?_
    refine wp_iload (i := 9) dL_law_136 rfl ?_
    refine wp_aload_n (i := 2) dL_law_138 rfl rfl ?_
    refine wp_iload (i := 9) dL_law_139 rfl ?_
    refine wp_aaloadAN 60 (some (nm 71 (ro v))) dL_law_141 H.1.1 H.1.2 (by omega) (by decide) ((H.2.1 v hv).1) ?_
    refine wp_cS (y' := m_L_isLike) [vr (some (nm 40 0)), vi (nI v), vr (some (nm 71 (ro v)))] [] 1250 8200 dL_law_142 ml_L_235 st_L_isLike ok_L_isLike rfl (Nat.le_of_ble_eq_true rfl) rfl (Nat.le_of_ble_eq_true rfl) (d' := d - 1) (by omega) (by omega) (by omega) (c_L_isLike B (by omega) hv (hP v hv) (by omega) C (by omega) (H.2.1 v hv).2.2 (by omega) (by omega) (fun h1 M1 ma1 mb1 C1 F1 => cont_ret ?_))
    have H1 := H.fk F1
    refine wp_istore (i := 5) (lv' := [(5, vi (nI 1)), (9, vi (nI v)), (6, vi (nI k)), (4, vr (some (nm 70 2))), (3, vr (some (nm 70 1))), (2, vr (some (nm 70 0))), (1, vr (some (nm 40 0))), (0, vr (some nS))]) dL_law_145 (by decide) rfl ?_
    refine wp_iincN (a := v) (lv' := [(9, vi (nI (v + 1))), (5, vi (nI 1)), (6, vi (nI k)), (4, vr (some (nm 70 2))), (3, vr (some (nm 70 1))), (2, vr (some (nm 70 0))), (1, vr (some (nm 40 0))), (0, vr (some nS))]) 1 dL_law_147 rfl (by decide) (by decide) rfl ?_
    refine wp_goto 122 dL_law_150 (by decide) ?_
    refine wp_sub [(9, vi (nI (v + 1))), (5, vi (nI 1)), (6, vi (nI k)), (4, vr (some (nm 70 2))), (3, vr (some (nm 70 1))), (2, vr (some (nm 70 0))), (1, vr (some (nm 40 0))), (0, vr (some nS))] (sb_cons (.head _) (sb_cons (.tail _ (.head _)) (sb_cons (.tail _ (.tail _ (.head _))) (sb_cons (.tail _ (.tail _ (.tail _ (.head _)))) (sb_cons (.tail _ (.tail _ (.tail _ (.tail _ (.head _))))) (sb_cons (.tail _ (.tail _ (.tail _ (.tail _ (.tail _ (.head _)))))) (sb_cons (.tail _ (.tail _ (.tail _ (.tail _ (.tail _ (.tail _ (.head _))))))) (sb_cons (.tail _ (.tail _ (.tail _ (.tail _ (.tail _ (.tail _ (.tail _ (.head _)))))))) sb_nil)))))))) ?_
    exact ih (v + 1) _ _ _ _ (by omega) C1 H1 (by omega) (by omega) (by omega)
set_option maxRecDepth 100000 in
set_option maxHeartbeats 4000000 in
theorem l_law_ar {G : GG} {d k K J c M n : Nat} {Q : Pst} {V : SV} {x : Nat → QIS} {R : RS} {ro : Nat → Nat} {rf : Nat → Nat → Int32} {op : Nat → Bool} {h : Hp} {bc bs X Y : Nat} (hk : k < 110) (L : LSt (k + 1) K J c M n V x R ro rf op h) (hd : 60 ≤ d) (hM : M + 40 < 900000) (hbc : X + 25100 ≤ bc) (hbs : Y + 166100 + 1100 * flg R ≤ bs) (hK : ∀ K' J' c' M' n' V' x' R' ro' rf' op' h' bc' bs', LSt (k + 1) K' J' c' M' n' V' x' R' ro' rf' op' h' → M' ≤ M + 1 → X ≤ bc' → Y + 1100 * flg R' ≤ bs' → WP G m_L_law d 29 [(6, vi (nI (k + 1))), (5, vi (nI 1)), (4, vr (some (nm 70 2))), (3, vr (some (nm 70 1))), (2, vr (some (nm 70 0))), (1, vr (some (nm 40 0))), (0, vr (some nS))] [] h' bc' bs' Q) : WP G m_L_law d 153 [(5, vi (nI 1)), (6, vi (nI k)), (4, vr (some (nm 70 2))), (3, vr (some (nm 70 1))), (2, vr (some (nm 70 0))), (1, vr (some (nm 40 0))), (0, vr (some nS))] [] h bc bs Q := by
  obtain ⟨B, hc4, hP, hI0, hb, HI, HO, C, H⟩ := L
  have hn60 := B.1.1
  have hlc : (RS_lg R).length ≤ 512 := by have := B.2.2.2.2.2; unfold LF at this; omega
  refine wp_iload (i := 5) dL_law_153 rfl ?_
  refine wp_if_eqN 187 dL_law_155 (by decide) (by decide) (fun c_155 => absurd c_155 (by decide)) (fun c_155 => ?_)
  refine wp_aload_n (i := 1) dL_law_158 rfl rfl ?_
  refine wp_aload_n (i := 3) dL_law_159 rfl rfl ?_
  refine wp_iconst (nI 2) dL_law_160 (by decide) ?_
  refine wp_ialoadN 3 (nI (RS_rn R)) dL_law_161 H.2.2.2.1.1 H.2.2.2.1.2.1 (by decide) (by decide) (H.2.2.2.1.2.2.2.2) ?_
  refine wp_cS (y' := m_L_areReferences) [vr (some (nm 40 0)), vi (nI (RS_rn R))] [] 25000 166000 dL_law_162 ml_L_239 st_L_areReferences ok_L_areReferences rfl (Nat.le_of_ble_eq_true rfl) rfl (Nat.le_of_ble_eq_true rfl) (d' := d - 1) (by omega) (by omega) (by omega) (c_L_are B (by omega) HI (by omega) C (H.2.2.2.2.2.2 J (Nat.le_refl _)).1 (H.2.2.2.2.2.2 J (Nat.le_refl _)).2 hlc (by omega) (by omega) (fun h1 C1 F1 => cont_ret ?_))
  have H1 := H.fkJ F1
  refine wp_if_eqN 187 dL_law_165 (by decide) (by decide) (fun c_165 => absurd c_165 (by decide)) (fun c_165 => ?_)
  refine wp_aload_n (i := 1) dL_law_168 rfl rfl ?_
  refine wp_iconst (nI 4) dL_law_169 (by decide) ?_
  refine wp_aload_n (i := 3) dL_law_170 rfl rfl ?_
  refine wp_iconst (nI 0) dL_law_171 (by decide) ?_
  refine wp_ialoadN 3 (nI (sNv V)) dL_law_172 H1.2.2.2.1.1 H1.2.2.2.1.2.1 (by decide) (by decide) (H1.2.2.2.1.2.2.1) ?_
  refine wp_iconst (nI 0) dL_law_173 (by decide) ?_
  refine wp_cSH (y' := m_L_ask) [vr (some (nm 40 0)), vi (nI 4), vi (nI (sNv V)), vi (nI 0)] [] 6 40 dL_law_174 ml_L_184 st_L_ask okH_L_ask rfl (Nat.le_of_ble_eq_true rfl) rfl (Nat.le_of_ble_eq_true rfl) (d' := d - 1) (by omega) (by omega) (by omega) (q_size (k := sNv V) (by omega) B (by omega) C1 (by omega) (by omega) (by omega) (fun h2 M2 ma2 mb2 C2 F2 => cont_ret ?_))
  rw [r_size] at C2
  rw [an_sizeN (Nat.le_refl _) (by omega)]
  have H2 := H1.fk F2
  refine wp_sipush (-20001) dL_law_177 (by decide) ?_
  refine wp_icmp_ne 187 dL_law_180 (by decide) (fun c_180 => absurd c_180 (fun z => z rfl)) (fun c_180 => ?_)
  refine wp_iconst (nI 1) dL_law_183 (by decide) ?_
  refine wp_goto 188 dL_law_184 (by decide) ?_
  refine wp_istore (i := 5) (lv' := [(5, vi (nI 1)), (6, vi (nI k)), (4, vr (some (nm 70 2))), (3, vr (some (nm 70 1))), (2, vr (some (nm 70 0))), (1, vr (some (nm 40 0))), (0, vr (some nS))]) dL_law_188 (by decide) rfl ?_
  refine wp_iincN (a := k) (lv' := [(6, vi (nI (k + 1))), (5, vi (nI 1)), (4, vr (some (nm 70 2))), (3, vr (some (nm 70 1))), (2, vr (some (nm 70 0))), (1, vr (some (nm 40 0))), (0, vr (some nS))]) 1 dL_law_190 rfl (by decide) (by decide) rfl ?_
  refine wp_goto 29 dL_law_193 (by decide) ?_
  refine wp_sub [(6, vi (nI (k + 1))), (5, vi (nI 1)), (4, vr (some (nm 70 2))), (3, vr (some (nm 70 1))), (2, vr (some (nm 70 0))), (1, vr (some (nm 40 0))), (0, vr (some nS))] (sb_cons (.head _) (sb_cons (.tail _ (.head _)) (sb_cons (.tail _ (.tail _ (.head _))) (sb_cons (.tail _ (.tail _ (.tail _ (.head _)))) (sb_cons (.tail _ (.tail _ (.tail _ (.tail _ (.head _))))) (sb_cons (.tail _ (.tail _ (.tail _ (.tail _ (.tail _ (.head _)))))) (sb_cons (.tail _ (.tail _ (.tail _ (.tail _ (.tail _ (.tail _ (.head _))))))) sb_nil))))))) ?_
  exact hK _ _ _ _ _ _ _ _ _ _ _ _ _ _ ⟨B, hc4, hP, hI0, hb, HI, HO, C2, H2⟩ (by omega) (by omega) (by omega)
set_option maxRecDepth 100000 in
set_option maxHeartbeats 4000000 in
theorem l_law_ck {G : GG} {d k K J c M n : Nat} {Q : Pst} {V : SV} {x : Nat → QIS} {R : RS} {ro : Nat → Nat} {rf : Nat → Nat → Int32} {op : Nat → Bool} {h : Hp} {bc bs X Y : Nat} (hk : k < 110) (L : LSt (k + 1) K J c M n V x R ro rf op h) (hd : 60 ≤ d) (hM : M + 14000 < 900000) (hbc : X + (if k % 22 = 21 then 101000 else 0) ≤ bc) (hbs : Y + (if k % 22 = 21 then 659000 else 0) + 1100 * flg R ≤ bs) (hK : ∀ K' J' c' M' n' V' x' R' ro' rf' op' h' bc' bs', LSt (k + 1) K' J' c' M' n' V' x' R' ro' rf' op' h' → M' ≤ M + (if k % 22 = 21 then 12700 else 0) → X ≤ bc' → Y + 1100 * flg R' ≤ bs' → WP G m_L_law d 29 [(6, vi (nI (k + 1))), (5, vi (nI 1)), (4, vr (some (nm 70 2))), (3, vr (some (nm 70 1))), (2, vr (some (nm 70 0))), (1, vr (some (nm 40 0))), (0, vr (some nS))] [] h' bc' bs' Q) : WP G m_L_law d 109 [(5, vi (nI 1)), (6, vi (nI k)), (4, vr (some (nm 70 2))), (3, vr (some (nm 70 1))), (2, vr (some (nm 70 0))), (1, vr (some (nm 40 0))), (0, vr (some nS))] [] h bc bs Q := by
  have L0 := L
  obtain ⟨B, hc4, hP, hI0, hb, HI, HO, C, H⟩ := L
  have hn60 := B.1.1
  by_cases e : k % 22 = 21
  · rw [if_pos e] at hbc hbs hK
    refine wp_iload (i := 6) dL_law_109 rfl ?_
    refine wp_bipush (nI 22) dL_law_111 (by decide) ?_
    refine wp_iremN dL_law_113 (by omega) (by omega) (by omega) ?_
    refine wp_bipush (nI 21) dL_law_114 (by decide) ?_
    refine wp_icmp_neN 190 dL_law_116 (by decide) (by omega) (by decide) (fun c_116 => absurd c_116 (by omega)) (fun c_116 => ?_)
    refine wp_iconst (nI 0) dL_law_119 (by decide) ?_
    refine wp_istore (i := 9) (lv' := [(9, vi (nI 0)), (5, vi (nI 1)), (6, vi (nI k)), (4, vr (some (nm 70 2))), (3, vr (some (nm 70 1))), (2, vr (some (nm 70 0))), (1, vr (some (nm 40 0))), (0, vr (some nS))]) dL_law_120 (by decide) rfl ?_
    refine wp_sub [(9, vi (nI 0)), (5, vi (nI 1)), (6, vi (nI k)), (4, vr (some (nm 70 2))), (3, vr (some (nm 70 1))), (2, vr (some (nm 70 0))), (1, vr (some (nm 40 0))), (0, vr (some nS))] (sb_cons (.head _) (sb_cons (.tail _ (.head _)) (sb_cons (.tail _ (.tail _ (.head _))) (sb_cons (.tail _ (.tail _ (.tail _ (.head _)))) (sb_cons (.tail _ (.tail _ (.tail _ (.tail _ (.head _))))) (sb_cons (.tail _ (.tail _ (.tail _ (.tail _ (.tail _ (.head _)))))) (sb_cons (.tail _ (.tail _ (.tail _ (.tail _ (.tail _ (.tail _ (.head _))))))) (sb_cons (.tail _ (.tail _ (.tail _ (.tail _ (.tail _ (.tail _ (.tail _ (.head _)))))))) sb_nil)))))))) ?_
    exact l_law_vs B (by omega) hP hd (M0 := M) (X := X + 25100) (Y := Y + 166100 + 1100 * flg R) (by omega) (fun h9 M9 bc9 bs9 C9 H9 m9 b1 b2 => l_law_ar hk ⟨B, hc4, hP, hI0, hb, HI, HO, C9, H9⟩ hd (by omega) b1 b2 (fun K1 J1 c1 M1 n1 V1 x1 R1 ro1 rf1 op1 h1 bc1 bs1 L1 m1 z1 z2 => hK K1 J1 c1 M1 n1 V1 x1 R1 ro1 rf1 op1 h1 bc1 bs1 L1 (by omega) z1 z2)) (sNv V) 0 _ _ _ _ rfl C H (by omega) (by omega) (by omega)
  · rw [if_neg e] at hbc hbs hK
    refine wp_iload (i := 6) dL_law_109 rfl ?_
    refine wp_bipush (nI 22) dL_law_111 (by decide) ?_
    refine wp_iremN dL_law_113 (by omega) (by omega) (by omega) ?_
    refine wp_bipush (nI 21) dL_law_114 (by decide) ?_
    refine wp_icmp_neN 190 dL_law_116 (by decide) (by omega) (by decide) (fun c_116 => ?_) (fun c_116 => absurd c_116 (by omega))
    refine wp_iincN (a := k) (lv' := [(6, vi (nI (k + 1))), (5, vi (nI 1)), (4, vr (some (nm 70 2))), (3, vr (some (nm 70 1))), (2, vr (some (nm 70 0))), (1, vr (some (nm 40 0))), (0, vr (some nS))]) 1 dL_law_190 rfl (by decide) (by decide) rfl ?_
    refine wp_goto 29 dL_law_193 (by decide) ?_
    refine wp_sub [(6, vi (nI (k + 1))), (5, vi (nI 1)), (4, vr (some (nm 70 2))), (3, vr (some (nm 70 1))), (2, vr (some (nm 70 0))), (1, vr (some (nm 40 0))), (0, vr (some nS))] (sb_cons (.head _) (sb_cons (.tail _ (.head _)) (sb_cons (.tail _ (.tail _ (.head _))) (sb_cons (.tail _ (.tail _ (.tail _ (.head _)))) (sb_cons (.tail _ (.tail _ (.tail _ (.tail _ (.head _))))) (sb_cons (.tail _ (.tail _ (.tail _ (.tail _ (.tail _ (.head _)))))) (sb_cons (.tail _ (.tail _ (.tail _ (.tail _ (.tail _ (.tail _ (.head _))))))) sb_nil))))))) ?_
    exact hK _ _ _ _ _ _ _ _ _ _ _ _ _ _ L0 (by omega) (by omega) (by omega)
theorem l_law_all {G : GG} {d : Nat} {Q : Pst} {X Y : Nat} (hL : slen G < 2 ^ 31) (hd : 60 ≤ d) (hK : ∀ K' J' c' M' n' V' x' R' ro' rf' op' h' bc' bs', LSt 110 K' J' c' M' n' V' x' R' ro' rf' op' h' → M' ≤ 700000 → X ≤ bc' → Y + 1100 * flg R' ≤ bs' → WP G m_L_law d 196 [(6, vi (nI 110)), (5, vi (nI 1)), (4, vr (some (nm 70 2))), (3, vr (some (nm 70 1))), (2, vr (some (nm 70 0))), (1, vr (some (nm 40 0))), (0, vr (some nS))] [] h' bc' bs' Q) : ∀ m k K J c M n V x R ro rf op h bc bs, m + k = 110 → LSt k K J c M n V x R ro rf op h → M + 20 * m + 12700 * (5 - k / 22) ≤ 700000 → 160 * m + 101000 * (5 - k / 22) + X ≤ bc → 5400 * m + 659000 * (5 - k / 22) + 1100 * flg R + Y ≤ bs → WP G m_L_law d 29 [(6, vi (nI k)), (5, vi (nI 1)), (4, vr (some (nm 70 2))), (3, vr (some (nm 70 1))), (2, vr (some (nm 70 0))), (1, vr (some (nm 40 0))), (0, vr (some nS))] [] h bc bs Q := by
  intro m
  induction m with
  | zero =>
    intro k K J c M n V x R ro rf op h bc bs hm L hM hbc hbs
    have e : k = 110 := by omega
    subst e
    refine wp_iload (i := 6) dL_law_29 rfl ?_
    refine wp_bipush (nI 110) dL_law_31 (by decide) ?_
    refine wp_icmp_geN 196 dL_law_33 (by decide) (by decide) (by decide) (fun c_33 => ?_) (fun c_33 => absurd c_33 (by omega))
    exact hK _ _ _ _ _ _ _ _ _ _ _ _ _ _ L (by omega) (by omega) (by omega)
  | succ m ih =>
    intro k K J c M n V x R ro rf op h bc bs hm L hM hbc hbs
    refine l_law_rd (X := 160 * m + 101000 * (5 - k / 22) + X) (Y := 5400 * m + 659000 * (5 - k / 22) + Y) (by omega) L hL hd (by omega) (by omega) (by omega) (fun K1 J1 c1 M1 n1 V1 x1 R1 ro1 rf1 op1 h1 bc1 bs1 L1 m1 z1 z2 => ?_)
    refine l_law_ck (X := 160 * m + 101000 * (5 - (k + 1) / 22) + X) (Y := 5400 * m + 659000 * (5 - (k + 1) / 22) + Y) (by omega) L1 hd (by omega) ?_ ?_ (fun K2 J2 c2 M2 n2 V2 x2 R2 ro2 rf2 op2 h2 bc2 bs2 L2 m2 y1 y2 => ?_)
    · split <;> omega
    · split <;> omega
    · exact ih (k + 1) _ _ _ _ _ _ _ _ _ _ _ _ _ _ (by omega) L2 (by revert m2; split <;> omega) (by omega) (by omega)
