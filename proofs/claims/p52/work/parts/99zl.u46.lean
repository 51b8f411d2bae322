/-! The class: its constructor. -/
set_option maxRecDepth 100000 in
set_option maxHeartbeats 4000000 in
theorem c_X4_init {G : GG} {d bc bs : Nat} {h : Hp} {Q : Pst} (hk : h_k h (nm 40 2) = 7) (hd : 1 ≤ d) (hq : Q oVoid (wL h (nm 40 2) 0 0)) : WP G m_X4_init d 0 (aargs 0 [vr (some (nm 40 2))]) [] h bc bs Q := by
  refine wp_sub [(0, vr (some (nm 40 2)))] (fun _ hz => hz) ?_
  refine wp_aload_n (i := 0) dX4_init_0 rfl rfl ?_
  refine wp_objInit dX4_init_1 ml_X4_3 im_java_lang_Object__init____V co_obj (by omega) (by decide) ?_
  refine wp_aload_n (i := 0) dX4_init_4 rfl rfl ?_
  refine wp_lconst (0) dX4_init_5 (by decide) ?_
  refine wp_putL 6 0 dX4_init_6 hk (by decide) (by decide) (by decide) fl_X4_9 rfl (fun _ _ => rfl) rfl rfl ?_
  refine wp_return dX4_init_9 rfl ?_
  exact hq
/-- the transactions up to the i-th are there -/
def TI9 (H0 H : Hp) (i : Nat) : Prop := (h_k H (nm 40 8) = 113 ∧ h_n H (nm 40 8) = 3) ∧ (∀ t, t < i → h_R H (nm 40 8) t = some (nm 56 t) ∧ KT H t KT0 ∧ ∀ j, j < 4 → KW H (4 * t + j) (0, fun _ => 0)) ∧ ∀ a, a ≠ nm 40 8 → (∀ t, t < i → ¬ CTW t a) → ce H a = ce H0 a
theorem KT.frw {h h' : Hp} {t : Nat} {x : KTS} (H : KT h t x) (e : ∀ r, 56 ≤ r → r ≤ 62 → ce h' (nm r t) = ce h (nm r t)) : KT h' t x := H.frm (e 56 (by decide) (by decide)) (e 57 (by decide) (by decide)) (e 58 (by decide) (by decide)) (e 59 (by decide) (by decide)) (e 60 (by decide) (by decide)) (e 61 (by decide) (by decide)) (e 62 (by decide) (by decide))
set_option maxRecDepth 100000 in
set_option maxHeartbeats 4000000 in
theorem l_X11_init {G : GG} {d : Nat} {Q : Pst} {H0 : Hp} (k0 : h_k H0 (nm 40 0) = 13) (r8 : h_R H0 (nm 40 0) 8 = some (nm 40 8)) (hf : ∀ r i, 56 ≤ r → r ≤ 64 → h_k H0 (nm r i) = 0) (hd : 6 ≤ d) (hq : ∀ H, TI9 H0 H 3 → Q oVoid H) : ∀ m i H bc bs, i + m = 3 → 30 * m ≤ bc → 200 * m ≤ bs → TI9 H0 H i → WP G m_X11_init d 106 [(1, vi (nI i)), (0, vr (some (nm 40 0)))] [] H bc bs Q := by
  intro m
  induction m with
  | zero =>
    intro i H bc bs hi hbc hbs T
    have hi : i = 3 := hi
    subst hi
    refine wp_iload_n (i := 1) dX11_init_106 rfl rfl ?_
    refine wp_iconst (nI 3) dX11_init_107 (by decide) ?_
    refine wp_icmp_geN 130 dX11_init_108 (by decide) (by decide) (by decide) (fun c_108 => ?_) (fun c_108 => absurd c_108 (by decide))
    refine wp_return dX11_init_130 rfl ?_
    exact hq H T
  | succ m ih =>
    intro i H bc bs hi hbc hbs T
    have q9 : clN 9 = 10 := rfl
    obtain ⟨⟨t1, t2⟩, t3, t4⟩ := T
    have e0 : ce H (nm 40 0) = ce H0 (nm 40 0) := t4 _ (by unfold nm; omega) (fun t _ => by unfold CTW nm; omega)
    have hfr : ∀ r j, 56 ≤ r → r ≤ 62 → i ≤ j → h_k H (nm r j) = 0 := fun r j r1 r2 hj => (ce_k (t4 _ (by unfold nm; omega) (fun t ht => by unfold CTW nm; omega))).trans (hf r j r1 (by omega))
    have hfr2 : ∀ r j, 63 ≤ r → r ≤ 64 → 4 * i ≤ j → h_k H (nm r j) = 0 := fun r j r1 r2 hj => (ce_k (t4 _ (by unfold nm; omega) (fun t ht => by unfold CTW nm; omega))).trans (hf r j (by omega) r2)
    refine wp_iload_n (i := 1) dX11_init_106 rfl rfl ?_
    refine wp_iconst (nI 3) dX11_init_107 (by decide) ?_
    refine wp_icmp_geN 130 dX11_init_108 (by decide) (by omega) (by decide) (fun c_108 => absurd c_108 (by omega)) (fun c_108 => ?_)
    refine wp_aload_n (i := 0) dX11_init_111 rfl rfl ?_
    refine wp_get 12 8 (vr (some (nm 40 8))) dX11_init_112 ((ce_k e0).trans k0) (by decide) (by decide) fl_X11_49 (congrArg (fun z => toV (vr z)) ((congrFun (ce_R e0) 8).trans r8)) ?_
    refine wp_iload_n (i := 1) dX11_init_115 rfl rfl ?_
    refine wp_new 9 dX11_init_116 (by decide) kl_X11_47 ins_X7 ini_X7 (by omega) (by show 10 ≤ _; omega) (nm 56 i) (hfr 56 i (by decide) (by decide) (Nat.le_refl _)) ?_
    refine wp_dup dX11_init_119 ?_
    refine wp_cI (y' := m_X7_init) [] [vr (some (nm 56 i)), vi (nI i), vr (some (nm 40 8))] 20 150 dX11_init_120 ml_X11_75 im_X7_init rfl rfl ok_X7_init rfl (Nat.le_of_ble_eq_true rfl) rfl (Nat.le_of_ble_eq_true rfl) (d' := d - 1) (by omega) (by omega) (by omega) (c_X7_init (h := H) (t := i) (fun r r1 r2 => hfr r i (by omega) r2 (Nat.le_refl _)) (fun r j r1 r2 hj => hfr2 r j r1 r2 hj) (by omega) (by omega) (by omega) (fun h1 K1 W1 F1 => cont_void ?_))
    have e8 : ce h1 (nm 40 8) = ce H (nm 40 8) := F1 _ (by unfold CTW nm; omega)
    refine wp_aastoreN 9 3 dX11_init_123 ((arTy_113 ((ce_k e8).trans t1))) (by decide) ((ce_n e8).trans t2) (by omega) (by decide) (fun v hv => by cases hv; exact K1.k0) ?_
    refine wp_iincN (a := i) (lv' := [(1, vi (nI (i + 1))), (0, vr (some (nm 40 0)))]) 1 dX11_init_124 rfl (by decide) (by decide) rfl ?_
    refine wp_goto 106 dX11_init_127 (by decide) ?_
    refine wp_sub [(1, vi (nI (i + 1))), (0, vr (some (nm 40 0)))] (sb_cons (.head _) (sb_cons (.tail _ (.head _)) sb_nil)) ?_
    refine ih (i + 1) (wR h1 (nm 40 8) i (some (nm 56 i))) _ _ (by omega) (by omega) (by omega) ⟨⟨by rw [gk_wR]; exact (ce_k e8).trans t1, by rw [gn_wR]; exact (ce_n e8).trans t2⟩, fun t ht => ?_, fun a h1 h2 => (ce_wR h1).trans ((F1 a (h2 i (by omega))).trans (t4 a h1 (fun t ht => h2 t (by omega))))⟩
    have g : ∀ a, a ≠ nm 40 8 → ce (wR h1 (nm 40 8) i (some (nm 56 i))) a = ce h1 a := fun a ha => ce_wR ha
    by_cases z : t = i
    · subst z; exact ⟨by rw [gR_wR, if_pos ⟨rfl, rfl⟩], K1.frw (fun r r1 r2 => g _ (by unfold nm; omega)), fun j hj => (W1 j hj).frm (g _ (by unfold nm; omega)) (g _ (by unfold nm; omega))⟩
    · obtain ⟨q1, q2, q3⟩ := t3 t (by omega)
      exact ⟨by rw [gR_wR, if_neg (fun y => z y.2), ce_R e8]; exact q1, q2.frw (fun r r1 r2 => (g _ (by unfold nm; omega)).trans (F1 _ (by unfold CTW nm; omega))), fun j hj => (q3 j hj).frm ((g _ (by unfold nm; omega)).trans (F1 _ (by unfold CTW nm; omega))) ((g _ (by unfold nm; omega)).trans (F1 _ (by unfold CTW nm; omega)))⟩
/-- the class's names -/
def WCD (a : Nat) : Prop := 40 ≤ a % 128 ∧ a % 128 ≤ 69
set_option maxRecDepth 100000 in
set_option maxHeartbeats 4000000 in
theorem c_X11_init {G : GG} {d bc bs : Nat} {h : Hp} {Q : Pst} (hfr : ∀ a, 40 ≤ a % 128 → a % 128 ≤ 69 → a ≠ nm 40 0 → h_k h a = 0) (J : JC h) (hd : 7 ≤ d) (hbc : 150 ≤ bc) (hbs : 1500 ≤ bs) (hq : ∀ h', CV h' SV0 0 → (∀ x, CQR h' 0 x) → (∀ rr aa, CR h' (CS0 rr aa)) → Fr h h' WCD → Q oVoid h') : WP G m_X11_init d 0 (aargs 0 [vr (some (nm 40 0))]) [] (mk h (nm 40 0) 13 0) bc bs Q := by
  have q6 : clN 6 = 1 := rfl
  have q2 : clN 2 = 3 := rfl
  refine wp_sub [(0, vr (some (nm 40 0)))] (fun _ hz => hz) ?_
  refine wp_aload_n (i := 0) dX11_init_0 rfl rfl ?_
  refine wp_objInit dX11_init_1 ml_X11_1 im_java_lang_Object__init____V co_obj (by omega) (by decide) ?_
  refine wp_aload_n (i := 0) dX11_init_4 rfl rfl ?_
  refine wp_bipush (nI 60) dX11_init_5 (by decide) ?_
  refine wp_anewarray 110 60 dX11_init_7 rfl (by decide) kl_X11_9 (nI_nn (by omega)) (nI_clamp (by omega)) (by omega) (by omega) (by omega) (nm 40 1) (by simp [gI_wI, gI_wR, gI_mk, gR_wI, gR_wR, gR_mk, gk_wI, gk_wR, gk_mk, gn_wI, gn_wR, gn_mk, gI_wL, gR_wL, gk_wL, gn_wL, gL_wI, gL_wR, gL_wL, gL_mk, nm_eq, nm_i]; exact hfr _ (by unfold nm; omega) (by unfold nm; omega) (by unfold nm; omega)) ?_
  refine wp_putRF 12 0 dX11_init_10 (by simp [gI_wI, gI_wR, gI_mk, gR_wI, gR_wR, gR_mk, gk_wI, gk_wR, gk_mk, gn_wI, gn_wR, gn_mk, gI_wL, gR_wL, gk_wL, gn_wL, gL_wI, gL_wR, gL_wL, gL_mk, nm_eq, nm_i]) (by decide) (by decide) (by decide) fl_X11_11 rfl rfl rfl (fun _ _ => rfl) rfl ?_
  refine wp_aload_n (i := 0) dX11_init_13 rfl rfl ?_
  refine wp_iconst (nI 0) dX11_init_14 (by decide) ?_
  refine wp_putI 12 1 dX11_init_15 (by simp [gI_wI, gI_wR, gI_mk, gR_wI, gR_wR, gR_mk, gk_wI, gk_wR, gk_mk, gn_wI, gn_wR, gn_mk, gI_wL, gR_wL, gk_wL, gn_wL, gL_wI, gL_wR, gL_wL, gL_mk, nm_eq, nm_i]) (by decide) (by decide) (by decide) fl_X11_15 rfl (fun _ _ => rfl) rfl rfl ?_
  refine wp_aload_n (i := 0) dX11_init_18 rfl rfl ?_
  refine wp_new 6 dX11_init_19 (by decide) kl_X11_19 ins_X4 ini_X4 (by omega) (by show 1 ≤ _; omega) (nm 40 2) (by simp [gI_wI, gI_wR, gI_mk, gR_wI, gR_wR, gR_mk, gk_wI, gk_wR, gk_mk, gn_wI, gn_wR, gn_mk, gI_wL, gR_wL, gk_wL, gn_wL, gL_wI, gL_wR, gL_wL, gL_mk, nm_eq, nm_i]; exact hfr _ (by unfold nm; omega) (by unfold nm; omega) (by unfold nm; omega)) ?_
  refine wp_dup dX11_init_22 ?_
  refine wp_cIN (y' := m_X4_init) [] [vr (some (nm 40 2)), vr (some (nm 40 0))] 0 0 dX11_init_23 mn_X11_21 im_X4_init rfl rfl ok_X4_init rfl (Nat.le_of_ble_eq_true rfl) rfl (Nat.le_of_ble_eq_true rfl) (d' := d - 1) (by omega) (Nat.zero_le _) (Nat.zero_le _) (c_X4_init (by simp [gI_wI, gI_wR, gI_mk, gR_wI, gR_wR, gR_mk, gk_wI, gk_wR, gk_mk, gn_wI, gn_wR, gn_mk, gI_wL, gR_wL, gk_wL, gn_wL, gL_wI, gL_wR, gL_wL, gL_mk, nm_eq, nm_i]) (by omega) (cont_void ?_))
  refine wp_putRF 12 2 dX11_init_26 (by simp [gI_wI, gI_wR, gI_mk, gR_wI, gR_wR, gR_mk, gk_wI, gk_wR, gk_mk, gn_wI, gn_wR, gn_mk, gI_wL, gR_wL, gk_wL, gn_wL, gL_wI, gL_wR, gL_wL, gL_mk, nm_eq, nm_i]) (by decide) (by decide) (by decide) fl_X11_22 rfl rfl rfl (fun _ _ => rfl) rfl ?_
  refine wp_aload_n (i := 0) dX11_init_29 rfl rfl ?_
  refine wp_iconst (nI 0) dX11_init_30 (by decide) ?_
  refine wp_putI 12 3 dX11_init_31 (by simp [gI_wI, gI_wR, gI_mk, gR_wI, gR_wR, gR_mk, gk_wI, gk_wR, gk_mk, gn_wI, gn_wR, gn_mk, gI_wL, gR_wL, gk_wL, gn_wL, gL_wI, gL_wR, gL_wL, gL_mk, nm_eq, nm_i]) (by decide) (by decide) (by decide) fl_X11_26 rfl (fun _ _ => rfl) rfl rfl ?_
  refine wp_aload_n (i := 0) dX11_init_34 rfl rfl ?_
  refine wp_bipush (nI 12) dX11_init_35 (by decide) ?_
  refine wp_anewarray 111 12 dX11_init_37 rfl (by decide) kl_X11_29 (nI_nn (by omega)) (nI_clamp (by omega)) (by omega) (by omega) (by omega) (nm 40 4) (by simp [gI_wI, gI_wR, gI_mk, gR_wI, gR_wR, gR_mk, gk_wI, gk_wR, gk_mk, gn_wI, gn_wR, gn_mk, gI_wL, gR_wL, gk_wL, gn_wL, gL_wI, gL_wR, gL_wL, gL_mk, nm_eq, nm_i]; exact hfr _ (by unfold nm; omega) (by unfold nm; omega) (by unfold nm; omega)) ?_
  refine wp_putRF 12 4 dX11_init_40 (by simp [gI_wI, gI_wR, gI_mk, gR_wI, gR_wR, gR_mk, gk_wI, gk_wR, gk_mk, gn_wI, gn_wR, gn_mk, gI_wL, gR_wL, gk_wL, gn_wL, gL_wI, gL_wR, gL_wL, gL_mk, nm_eq, nm_i]) (by decide) (by decide) (by decide) fl_X11_31 rfl rfl rfl (fun _ _ => rfl) rfl ?_
  refine wp_aload_n (i := 0) dX11_init_43 rfl rfl ?_
  refine wp_iconst (nI 0) dX11_init_44 (by decide) ?_
  refine wp_putI 12 5 dX11_init_45 (by simp [gI_wI, gI_wR, gI_mk, gR_wI, gR_wR, gR_mk, gk_wI, gk_wR, gk_mk, gn_wI, gn_wR, gn_mk, gI_wL, gR_wL, gk_wL, gn_wL, gL_wI, gL_wR, gL_wL, gL_mk, nm_eq, nm_i]) (by decide) (by decide) (by decide) fl_X11_35 rfl (fun _ _ => rfl) rfl rfl ?_
  refine wp_aload_n (i := 0) dX11_init_48 rfl rfl ?_
  refine wp_bipush (nI 6) dX11_init_49 (by decide) ?_
  refine wp_anewarray 112 6 dX11_init_51 rfl (by decide) kl_X11_38 (nI_nn (by omega)) (nI_clamp (by omega)) (by omega) (by omega) (by omega) (nm 40 6) (by simp [gI_wI, gI_wR, gI_mk, gR_wI, gR_wR, gR_mk, gk_wI, gk_wR, gk_mk, gn_wI, gn_wR, gn_mk, gI_wL, gR_wL, gk_wL, gn_wL, gL_wI, gL_wR, gL_wL, gL_mk, nm_eq, nm_i]; exact hfr _ (by unfold nm; omega) (by unfold nm; omega) (by unfold nm; omega)) ?_
  refine wp_putRF 12 6 dX11_init_54 (by simp [gI_wI, gI_wR, gI_mk, gR_wI, gR_wR, gR_mk, gk_wI, gk_wR, gk_mk, gn_wI, gn_wR, gn_mk, gI_wL, gR_wL, gk_wL, gn_wL, gL_wI, gL_wR, gL_wL, gL_mk, nm_eq, nm_i]) (by decide) (by decide) (by decide) fl_X11_40 rfl rfl rfl (fun _ _ => rfl) rfl ?_
  refine wp_aload_n (i := 0) dX11_init_57 rfl rfl ?_
  refine wp_iconst (nI 0) dX11_init_58 (by decide) ?_
  refine wp_putI 12 7 dX11_init_59 (by simp [gI_wI, gI_wR, gI_mk, gR_wI, gR_wR, gR_mk, gk_wI, gk_wR, gk_mk, gn_wI, gn_wR, gn_mk, gI_wL, gR_wL, gk_wL, gn_wL, gL_wI, gL_wR, gL_wL, gL_mk, nm_eq, nm_i]) (by decide) (by decide) (by decide) fl_X11_44 rfl (fun _ _ => rfl) rfl rfl ?_
  refine wp_aload_n (i := 0) dX11_init_62 rfl rfl ?_
  refine wp_iconst (nI 3) dX11_init_63 (by decide) ?_
  refine wp_anewarray 113 3 dX11_init_64 rfl (by decide) kl_X11_47 (nI_nn (by omega)) (nI_clamp (by omega)) (by omega) (by omega) (by omega) (nm 40 8) (by simp [gI_wI, gI_wR, gI_mk, gR_wI, gR_wR, gR_mk, gk_wI, gk_wR, gk_mk, gn_wI, gn_wR, gn_mk, gI_wL, gR_wL, gk_wL, gn_wL, gL_wI, gL_wR, gL_wL, gL_mk, nm_eq, nm_i]; exact hfr _ (by unfold nm; omega) (by unfold nm; omega) (by unfold nm; omega)) ?_
  refine wp_putRF 12 8 dX11_init_67 (by simp [gI_wI, gI_wR, gI_mk, gR_wI, gR_wR, gR_mk, gk_wI, gk_wR, gk_mk, gn_wI, gn_wR, gn_mk, gI_wL, gR_wL, gk_wL, gn_wL, gL_wI, gL_wR, gL_wL, gL_mk, nm_eq, nm_i]) (by decide) (by decide) (by decide) fl_X11_49 rfl rfl rfl (fun _ _ => rfl) rfl ?_
  refine wp_aload_n (i := 0) dX11_init_70 rfl rfl ?_
  refine wp_iconst (nI 0) dX11_init_71 (by decide) ?_
  refine wp_putI 12 9 dX11_init_72 (by simp [gI_wI, gI_wR, gI_mk, gR_wI, gR_wR, gR_mk, gk_wI, gk_wR, gk_mk, gn_wI, gn_wR, gn_mk, gI_wL, gR_wL, gk_wL, gn_wL, gL_wI, gL_wR, gL_wL, gL_mk, nm_eq, nm_i]) (by decide) (by decide) (by decide) fl_X11_53 rfl (fun _ _ => rfl) rfl rfl ?_
  refine wp_aload_n (i := 0) dX11_init_75 rfl rfl ?_
  refine wp_iconst (nI 0) dX11_init_76 (by decide) ?_
  refine wp_putI 12 10 dX11_init_77 (by simp [gI_wI, gI_wR, gI_mk, gR_wI, gR_wR, gR_mk, gk_wI, gk_wR, gk_mk, gn_wI, gn_wR, gn_mk, gI_wL, gR_wL, gk_wL, gn_wL, gL_wI, gL_wR, gL_wL, gL_mk, nm_eq, nm_i]) (by decide) (by decide) (by decide) fl_X11_56 rfl (fun _ _ => rfl) rfl rfl ?_
  refine wp_aload_n (i := 0) dX11_init_80 rfl rfl ?_
  refine wp_new 2 dX11_init_81 (by decide) kl_X11_59 ins_Jx4a65c ini_Jx4a65c (by omega) (by show 3 ≤ _; omega) (nm 40 11) (by simp [gI_wI, gI_wR, gI_mk, gR_wI, gR_wR, gR_mk, gk_wI, gk_wR, gk_mk, gn_wI, gn_wR, gn_mk, gI_wL, gR_wL, gk_wL, gn_wL, gL_wI, gL_wR, gL_wL, gL_mk, nm_eq, nm_i]; exact hfr _ (by unfold nm; omega) (by unfold nm; omega) (by unfold nm; omega)) ?_
  refine wp_dup dX11_init_84 ?_
  refine wp_cI (y' := m_Jx4a65c_init_da8c8) [] [vr (some (nm 40 11)), vr (some (nm 40 0))] 0 0 dX11_init_85 ml_X11_61 im_Jx4a65c_init_da8c8 rfl rfl ok_Jx4a65c_init_da8c8 rfl (Nat.le_of_ble_eq_true rfl) rfl (Nat.le_of_ble_eq_true rfl) (d' := d - 1) (by omega) (Nat.zero_le _) (Nat.zero_le _) (c_AL_init (by simp [gI_wI, gI_wR, gI_mk, gR_wI, gR_wR, gR_mk, gk_wI, gk_wR, gk_mk, gn_wI, gn_wR, gn_mk, gI_wL, gR_wL, gk_wL, gn_wL, gL_wI, gL_wR, gL_wL, gL_mk, nm_eq, nm_i]) (by omega) (cont_void ?_))
  refine wp_putRF 12 11 dX11_init_88 (by simp [gI_wI, gI_wR, gI_mk, gR_wI, gR_wR, gR_mk, gk_wI, gk_wR, gk_mk, gn_wI, gn_wR, gn_mk, gI_wL, gR_wL, gk_wL, gn_wL, gL_wI, gL_wR, gL_wL, gL_mk, nm_eq, nm_i]) (by decide) (by decide) (by decide) fl_X11_62 rfl rfl rfl (fun _ _ => rfl) rfl ?_
  refine wp_aload_n (i := 0) dX11_init_91 rfl rfl ?_
  refine wp_iconst (nI 4) dX11_init_92 (by decide) ?_
  refine wp_anewarray 114 4 dX11_init_93 rfl (by decide) kl_X11_66 (nI_nn (by omega)) (nI_clamp (by omega)) (by omega) (by omega) (by omega) (nm 40 12) (by simp [gI_wI, gI_wR, gI_mk, gR_wI, gR_wR, gR_mk, gk_wI, gk_wR, gk_mk, gn_wI, gn_wR, gn_mk, gI_wL, gR_wL, gk_wL, gn_wL, gL_wI, gL_wR, gL_wL, gL_mk, nm_eq, nm_i]; exact hfr _ (by unfold nm; omega) (by unfold nm; omega) (by unfold nm; omega)) ?_
  refine wp_putRF 12 12 dX11_init_96 (by simp [gI_wI, gI_wR, gI_mk, gR_wI, gR_wR, gR_mk, gk_wI, gk_wR, gk_mk, gn_wI, gn_wR, gn_mk, gI_wL, gR_wL, gk_wL, gn_wL, gL_wI, gL_wR, gL_wL, gL_mk, nm_eq, nm_i]) (by decide) (by decide) (by decide) fl_X11_68 rfl rfl rfl (fun _ _ => rfl) rfl ?_
  refine wp_aload_n (i := 0) dX11_init_99 rfl rfl ?_
  refine wp_iconst (nI 0) dX11_init_100 (by decide) ?_
  refine wp_putI 12 13 dX11_init_101 (by simp [gI_wI, gI_wR, gI_mk, gR_wI, gR_wR, gR_mk, gk_wI, gk_wR, gk_mk, gn_wI, gn_wR, gn_mk, gI_wL, gR_wL, gk_wL, gn_wL, gL_wI, gL_wR, gL_wL, gL_mk, nm_eq, nm_i]) (by decide) (by decide) (by decide) fl_X11_72 rfl (fun _ _ => rfl) rfl rfl ?_
  refine wp_iconst (nI 0) dX11_init_104 (by decide) ?_
  refine wp_istore_n (i := 1) (lv' := [(1, vi (nI 0)), (0, vr (some (nm 40 0)))]) dX11_init_105 rfl (by decide) rfl ?_
  obtain ⟨H, eH⟩ : ∃ z, z = (wI (wR (mk (wR (wR (wI (mk (wI (wI (wR (mk (wI (wR (mk (wI (wR (mk (wI (wR (wL (mk (wI (wR (mk (mk h (nm 40 0) 13 0) (nm 40 1) 110 60) (nm 40 0) 0 (some (nm 40 1))) (nm 40 0) 1 (nI 0)) (nm 40 2) 7 0) (nm 40 2) 0 0) (nm 40 0) 2 (some (nm 40 2))) (nm 40 0) 3 (nI 0)) (nm 40 4) 111 12) (nm 40 0) 4 (some (nm 40 4))) (nm 40 0) 5 (nI 0)) (nm 40 6) 112 6) (nm 40 0) 6 (some (nm 40 6))) (nm 40 0) 7 (nI 0)) (nm 40 8) 113 3) (nm 40 0) 8 (some (nm 40 8))) (nm 40 0) 9 (nI 0)) (nm 40 0) 10 (nI 0)) (nm 40 11) 3 0) (nm 40 11) 0 (nI 0)) (nm 40 11) 1 (some 0)) (nm 40 0) 11 (some (nm 40 11))) (nm 40 12) 114 4) (nm 40 0) 12 (some (nm 40 12))) (nm 40 0) 13 (nI 0)) := ⟨_, rfl⟩
  rw [← eH]
  have hF : ∀ a, a ≠ nm 40 0 → a ≠ nm 40 1 → a ≠ nm 40 2 → a ≠ nm 40 4 → a ≠ nm 40 6 → a ≠ nm 40 8 → a ≠ nm 40 11 → a ≠ nm 40 12 → ce H a = ce h a := fun a n0 n1 n2 n4 n6 n8 n11 n12 => by
    rw [eH]
    exact (ce_wI n0).trans ((ce_wR n0).trans ((ce_mk n12).trans ((ce_wR n0).trans ((ce_wR n11).trans ((ce_wI n11).trans ((ce_mk n11).trans ((ce_wI n0).trans ((ce_wI n0).trans ((ce_wR n0).trans ((ce_mk n8).trans ((ce_wI n0).trans ((ce_wR n0).trans ((ce_mk n6).trans ((ce_wI n0).trans ((ce_wR n0).trans ((ce_mk n4).trans ((ce_wI n0).trans ((ce_wR n0).trans ((ce_wL n2).trans ((ce_mk n2).trans ((ce_wI n0).trans ((ce_wR n0).trans ((ce_mk n1).trans (ce_mk n0))))))))))))))))))))))))
  have k0 : h_k H (nm 40 0) = 13 := by rw [eH]; simp [gI_wI, gI_wR, gI_mk, gR_wI, gR_wR, gR_mk, gk_wI, gk_wR, gk_mk, gn_wI, gn_wR, gn_mk, gI_wL, gR_wL, gk_wL, gn_wL, gL_wI, gL_wR, gL_wL, gL_mk, nm_eq, nm_i]
  have r0 : h_R H (nm 40 0) 0 = some (nm 40 1) := by rw [eH]; simp [gI_wI, gI_wR, gI_mk, gR_wI, gR_wR, gR_mk, gk_wI, gk_wR, gk_mk, gn_wI, gn_wR, gn_mk, gI_wL, gR_wL, gk_wL, gn_wL, gL_wI, gL_wR, gL_wL, gL_mk, nm_eq, nm_i]
  have r2 : h_R H (nm 40 0) 2 = some (nm 40 2) := by rw [eH]; simp [gI_wI, gI_wR, gI_mk, gR_wI, gR_wR, gR_mk, gk_wI, gk_wR, gk_mk, gn_wI, gn_wR, gn_mk, gI_wL, gR_wL, gk_wL, gn_wL, gL_wI, gL_wR, gL_wL, gL_mk, nm_eq, nm_i]
  have r4 : h_R H (nm 40 0) 4 = some (nm 40 4) := by rw [eH]; simp [gI_wI, gI_wR, gI_mk, gR_wI, gR_wR, gR_mk, gk_wI, gk_wR, gk_mk, gn_wI, gn_wR, gn_mk, gI_wL, gR_wL, gk_wL, gn_wL, gL_wI, gL_wR, gL_wL, gL_mk, nm_eq, nm_i]
  have r6 : h_R H (nm 40 0) 6 = some (nm 40 6) := by rw [eH]; simp [gI_wI, gI_wR, gI_mk, gR_wI, gR_wR, gR_mk, gk_wI, gk_wR, gk_mk, gn_wI, gn_wR, gn_mk, gI_wL, gR_wL, gk_wL, gn_wL, gL_wI, gL_wR, gL_wL, gL_mk, nm_eq, nm_i]
  have r8 : h_R H (nm 40 0) 8 = some (nm 40 8) := by rw [eH]; simp [gI_wI, gI_wR, gI_mk, gR_wI, gR_wR, gR_mk, gk_wI, gk_wR, gk_mk, gn_wI, gn_wR, gn_mk, gI_wL, gR_wL, gk_wL, gn_wL, gL_wI, gL_wR, gL_wL, gL_mk, nm_eq, nm_i]
  have r11 : h_R H (nm 40 0) 11 = some (nm 40 11) := by rw [eH]; simp [gI_wI, gI_wR, gI_mk, gR_wI, gR_wR, gR_mk, gk_wI, gk_wR, gk_mk, gn_wI, gn_wR, gn_mk, gI_wL, gR_wL, gk_wL, gn_wL, gL_wI, gL_wR, gL_wL, gL_mk, nm_eq, nm_i]
  have r12 : h_R H (nm 40 0) 12 = some (nm 40 12) := by rw [eH]; simp [gI_wI, gI_wR, gI_mk, gR_wI, gR_wR, gR_mk, gk_wI, gk_wR, gk_mk, gn_wI, gn_wR, gn_mk, gI_wL, gR_wL, gk_wL, gn_wL, gL_wI, gL_wR, gL_wL, gL_mk, nm_eq, nm_i]
  have i1 : h_I H (nm 40 0) 1 = nI 0 := by rw [eH]; simp [gI_wI, gI_wR, gI_mk, gR_wI, gR_wR, gR_mk, gk_wI, gk_wR, gk_mk, gn_wI, gn_wR, gn_mk, gI_wL, gR_wL, gk_wL, gn_wL, gL_wI, gL_wR, gL_wL, gL_mk, nm_eq, nm_i]
  have i3 : h_I H (nm 40 0) 3 = nI 0 := by rw [eH]; simp [gI_wI, gI_wR, gI_mk, gR_wI, gR_wR, gR_mk, gk_wI, gk_wR, gk_mk, gn_wI, gn_wR, gn_mk, gI_wL, gR_wL, gk_wL, gn_wL, gL_wI, gL_wR, gL_wL, gL_mk, nm_eq, nm_i]
  have i5 : h_I H (nm 40 0) 5 = nI 0 := by rw [eH]; simp [gI_wI, gI_wR, gI_mk, gR_wI, gR_wR, gR_mk, gk_wI, gk_wR, gk_mk, gn_wI, gn_wR, gn_mk, gI_wL, gR_wL, gk_wL, gn_wL, gL_wI, gL_wR, gL_wL, gL_mk, nm_eq, nm_i]
  have i7 : h_I H (nm 40 0) 7 = nI 0 := by rw [eH]; simp [gI_wI, gI_wR, gI_mk, gR_wI, gR_wR, gR_mk, gk_wI, gk_wR, gk_mk, gn_wI, gn_wR, gn_mk, gI_wL, gR_wL, gk_wL, gn_wL, gL_wI, gL_wR, gL_wL, gL_mk, nm_eq, nm_i]
  have i9 : h_I H (nm 40 0) 9 = nI 0 := by rw [eH]; simp [gI_wI, gI_wR, gI_mk, gR_wI, gR_wR, gR_mk, gk_wI, gk_wR, gk_mk, gn_wI, gn_wR, gn_mk, gI_wL, gR_wL, gk_wL, gn_wL, gL_wI, gL_wR, gL_wL, gL_mk, nm_eq, nm_i]
  have i10 : h_I H (nm 40 0) 10 = nI 0 := by rw [eH]; simp [gI_wI, gI_wR, gI_mk, gR_wI, gR_wR, gR_mk, gk_wI, gk_wR, gk_mk, gn_wI, gn_wR, gn_mk, gI_wL, gR_wL, gk_wL, gn_wL, gL_wI, gL_wR, gL_wL, gL_mk, nm_eq, nm_i]
  have i13 : h_I H (nm 40 0) 13 = nI 0 := by rw [eH]; simp [gI_wI, gI_wR, gI_mk, gR_wI, gR_wR, gR_mk, gk_wI, gk_wR, gk_mk, gn_wI, gn_wR, gn_mk, gI_wL, gR_wL, gk_wL, gn_wL, gL_wI, gL_wR, gL_wL, gL_mk, nm_eq, nm_i]
  have a1 : h_k H (nm 40 1) = 110 ∧ h_n H (nm 40 1) = 60 := by rw [eH]; exact ⟨by simp [gI_wI, gI_wR, gI_mk, gR_wI, gR_wR, gR_mk, gk_wI, gk_wR, gk_mk, gn_wI, gn_wR, gn_mk, gI_wL, gR_wL, gk_wL, gn_wL, gL_wI, gL_wR, gL_wL, gL_mk, nm_eq, nm_i], by simp [gI_wI, gI_wR, gI_mk, gR_wI, gR_wR, gR_mk, gk_wI, gk_wR, gk_mk, gn_wI, gn_wR, gn_mk, gI_wL, gR_wL, gk_wL, gn_wL, gL_wI, gL_wR, gL_wL, gL_mk, nm_eq, nm_i]⟩
  have a4 : h_k H (nm 40 4) = 111 ∧ h_n H (nm 40 4) = 12 := by rw [eH]; exact ⟨by simp [gI_wI, gI_wR, gI_mk, gR_wI, gR_wR, gR_mk, gk_wI, gk_wR, gk_mk, gn_wI, gn_wR, gn_mk, gI_wL, gR_wL, gk_wL, gn_wL, gL_wI, gL_wR, gL_wL, gL_mk, nm_eq, nm_i], by simp [gI_wI, gI_wR, gI_mk, gR_wI, gR_wR, gR_mk, gk_wI, gk_wR, gk_mk, gn_wI, gn_wR, gn_mk, gI_wL, gR_wL, gk_wL, gn_wL, gL_wI, gL_wR, gL_wL, gL_mk, nm_eq, nm_i]⟩
  have a6 : h_k H (nm 40 6) = 112 ∧ h_n H (nm 40 6) = 6 := by rw [eH]; exact ⟨by simp [gI_wI, gI_wR, gI_mk, gR_wI, gR_wR, gR_mk, gk_wI, gk_wR, gk_mk, gn_wI, gn_wR, gn_mk, gI_wL, gR_wL, gk_wL, gn_wL, gL_wI, gL_wR, gL_wL, gL_mk, nm_eq, nm_i], by simp [gI_wI, gI_wR, gI_mk, gR_wI, gR_wR, gR_mk, gk_wI, gk_wR, gk_mk, gn_wI, gn_wR, gn_mk, gI_wL, gR_wL, gk_wL, gn_wL, gL_wI, gL_wR, gL_wL, gL_mk, nm_eq, nm_i]⟩
  have a8 : h_k H (nm 40 8) = 113 ∧ h_n H (nm 40 8) = 3 := by rw [eH]; exact ⟨by simp [gI_wI, gI_wR, gI_mk, gR_wI, gR_wR, gR_mk, gk_wI, gk_wR, gk_mk, gn_wI, gn_wR, gn_mk, gI_wL, gR_wL, gk_wL, gn_wL, gL_wI, gL_wR, gL_wL, gL_mk, nm_eq, nm_i], by simp [gI_wI, gI_wR, gI_mk, gR_wI, gR_wR, gR_mk, gk_wI, gk_wR, gk_mk, gn_wI, gn_wR, gn_mk, gI_wL, gR_wL, gk_wL, gn_wL, gL_wI, gL_wR, gL_wL, gL_mk, nm_eq, nm_i]⟩
  have a12 : h_k H (nm 40 12) = 114 ∧ h_n H (nm 40 12) = 4 := by rw [eH]; exact ⟨by simp [gI_wI, gI_wR, gI_mk, gR_wI, gR_wR, gR_mk, gk_wI, gk_wR, gk_mk, gn_wI, gn_wR, gn_mk, gI_wL, gR_wL, gk_wL, gn_wL, gL_wI, gL_wR, gL_wL, gL_mk, nm_eq, nm_i], by simp [gI_wI, gI_wR, gI_mk, gR_wI, gR_wR, gR_mk, gk_wI, gk_wR, gk_mk, gn_wI, gn_wR, gn_mk, gI_wL, gR_wL, gk_wL, gn_wL, gL_wI, gL_wR, gL_wL, gL_mk, nm_eq, nm_i]⟩
  have km : MKR H 0 := by rw [eH]; exact ⟨by simp [gI_wI, gI_wR, gI_mk, gR_wI, gR_wR, gR_mk, gk_wI, gk_wR, gk_mk, gn_wI, gn_wR, gn_mk, gI_wL, gR_wL, gk_wL, gn_wL, gL_wI, gL_wR, gL_wL, gL_mk, nm_eq, nm_i], by first | (simp [gI_wI, gI_wR, gI_mk, gR_wI, gR_wR, gR_mk, gk_wI, gk_wR, gk_mk, gn_wI, gn_wR, gn_mk, gI_wL, gR_wL, gk_wL, gn_wL, gL_wI, gL_wR, gL_wL, gL_mk, nm_eq, nm_i]; done) | (simp [gI_wI, gI_wR, gI_mk, gR_wI, gR_wR, gR_mk, gk_wI, gk_wR, gk_mk, gn_wI, gn_wR, gn_mk, gI_wL, gR_wL, gk_wL, gn_wL, gL_wI, gL_wR, gL_wL, gL_mk, nm_eq, nm_i]; rfl)⟩
  have kl : h_k H (nm 40 11) = 3 ∧ h_R H (nm 40 11) 1 = some 0 ∧ h_I H (nm 40 11) 2 = nI 0 := by rw [eH]; exact ⟨by simp [gI_wI, gI_wR, gI_mk, gR_wI, gR_wR, gR_mk, gk_wI, gk_wR, gk_mk, gn_wI, gn_wR, gn_mk, gI_wL, gR_wL, gk_wL, gn_wL, gL_wI, gL_wR, gL_wL, gL_mk, nm_eq, nm_i], by simp [gI_wI, gI_wR, gI_mk, gR_wI, gR_wR, gR_mk, gk_wI, gk_wR, gk_mk, gn_wI, gn_wR, gn_mk, gI_wL, gR_wL, gk_wL, gn_wL, gL_wI, gL_wR, gL_wL, gL_mk, nm_eq, nm_i], by first | (simp [gI_wI, gI_wR, gI_mk, gR_wI, gR_wR, gR_mk, gk_wI, gk_wR, gk_mk, gn_wI, gn_wR, gn_mk, gI_wL, gR_wL, gk_wL, gn_wL, gL_wI, gL_wR, gL_wL, gL_mk, nm_eq, nm_i]; done) | (simp [gI_wI, gI_wR, gI_mk, gR_wI, gR_wR, gR_mk, gk_wI, gk_wR, gk_mk, gn_wI, gn_wR, gn_mk, gI_wL, gR_wL, gk_wL, gn_wL, gL_wI, gL_wR, gL_wL, gL_mk, nm_eq, nm_i]; rfl)⟩
  clear eH
  have fr : ∀ r i, 41 ≤ r → r ≤ 69 → h_k H (nm r i) = 0 := fun r i r1 r2 => (ce_k (hF _ (by unfold nm; omega) (by unfold nm; omega) (by unfold nm; omega) (by unfold nm; omega) (by unfold nm; omega) (by unfold nm; omega) (by unfold nm; omega) (by unfold nm; omega))).trans (hfr _ (by unfold nm; omega) (by unfold nm; omega) (by unfold nm; omega))
  refine wp_sub [(1, vi (nI 0)), (0, vr (some (nm 40 0)))] (sb_cons (.head _) (sb_cons (.tail _ (.head _)) sb_nil)) ?_
  refine l_X11_init k0 r8 (fun r i r1 r2 => fr r i (by omega) (by omega)) (by omega) (fun H2 T => ?_) 3 0 H _ _ rfl (by omega) (by omega) ⟨a8, fun t ht => absurd ht (Nat.not_lt_zero _), fun _ _ _ => rfl⟩
  obtain ⟨t1, t2, t3⟩ := T
  have e : ∀ i, i ≠ 8 → ce H2 (nm 40 i) = ce H (nm 40 i) := fun i hi => t3 _ (by unfold nm; omega) (fun t _ => by unfold CTW nm; omega)
  have er : ∀ r i, r < 128 → (r < 56 ∨ 64 < r) → r ≠ 40 → ce H2 (nm r i) = ce H (nm r i) := fun r i r1 r2 r3 => t3 _ (by unfold nm; omega) (fun t _ => by unfold CTW nm; omega)
  have E0 := e 0 (by decide)
  have fr2 : ∀ r i, 41 ≤ r → r ≤ 69 → (r < 56 ∨ 64 < r) → h_k H2 (nm r i) = 0 := fun r i r1 r2 r3 => (ce_k (er r i (by omega) r3 (by omega))).trans (fr r i r1 r2)
  refine hq H2 ⟨⟨⟨(ce_k E0).trans k0, by rw [ce_R E0]; exact r0, by rw [ce_I E0]; exact i1, by rw [ce_R E0]; exact r2, by rw [ce_I E0]; exact i3⟩, ⟨(ce_k (e 1 (by decide))).trans a1.1, (ce_n (e 1 (by decide))).trans a1.2⟩, fun v hv => absurd hv (Nat.not_lt_zero _)⟩, km.frm (e 2 (by decide)), fun v hv => absurd hv (Nat.not_lt_zero _), fun i _ => fr2 42 i (by decide) (by decide) (by decide), fun i _ => fr2 44 i (by decide) (by decide) (by decide), fun k _ => ⟨fr2 45 k (by decide) (by decide) (by decide), fr2 46 k (by decide) (by decide) (by decide), fr2 47 k (by decide) (by decide) (by decide), fr2 48 k (by decide) (by decide) (by decide)⟩, 0, fun i _ => fr2 43 i (by decide) (by decide) (by decide)⟩ (fun x => ⟨⟨(ce_k E0).trans k0, by rw [ce_R E0]; exact r4, by rw [ce_I E0]; exact i5, (ce_k (e 4 (by decide))).trans a4.1, (ce_n (e 4 (by decide))).trans a4.2⟩, fun s hs => absurd hs (Nat.not_lt_zero _), fun s hs => absurd hs (Nat.not_lt_zero _), fun i _ => fr2 50 i (by decide) (by decide) (by decide), fun i _ => fr2 51 i (by decide) (by decide) (by decide), fun i _ => fr2 52 i (by decide) (by decide) (by decide)⟩) (fun rr aa => CR.init ⟨(ce_k E0).trans k0, by rw [ce_R E0]; exact r6, by rw [ce_R E0]; exact r8, by rw [ce_R E0]; exact r11, by rw [ce_R E0]; exact r12, by rw [ce_I E0]; exact i7, by rw [ce_I E0]; exact i13, by rw [ce_I E0]; exact i9, by rw [ce_I E0]; exact i10⟩ ⟨(ce_k (e 6 (by decide))).trans a6.1, (ce_n (e 6 (by decide))).trans a6.2, t1.1, t1.2, (ce_k (e 12 (by decide))).trans a12.1, (ce_n (e 12 (by decide))).trans a12.2⟩ (fun t ht => (t2 t ht).1) (fun t ht => (t2 t ht).2.1) (fun i hi => ?_) ⟨0, 0, AL.nil ((ce_k (e 11 (by decide))).trans kl.1) ((congrFun (ce_R (e 11 (by decide))) 1).trans kl.2.1) ((congrFun (ce_I (e 11 (by decide))) 2).trans kl.2.2) ?_ ?_ (fun g _ => fr2 69 _ (by decide) (by decide) (by decide))⟩ (fun r i hr => fr2 r i (by omega) (by omega) (by omega))) (fun a ha => ?_)
  · have := (t2 (i / 4) (by omega)).2.2 (i % 4) (by omega)
    rw [show 4 * (i / 4) + i % 4 = i by omega] at this
    exact this
  · exact (ce_k ((t3 0 (by unfold nm; omega) (fun t _ => by unfold CTW; omega)).trans (hF 0 (by unfold nm; omega) (by unfold nm; omega) (by unfold nm; omega) (by unfold nm; omega) (by unfold nm; omega) (by unfold nm; omega) (by unfold nm; omega) (by unfold nm; omega)))).trans J.1
  · exact (ce_n ((t3 0 (by unfold nm; omega) (fun t _ => by unfold CTW; omega)).trans (hF 0 (by unfold nm; omega) (by unfold nm; omega) (by unfold nm; omega) (by unfold nm; omega) (by unfold nm; omega) (by unfold nm; omega) (by unfold nm; omega) (by unfold nm; omega)))).trans J.2.1
  · exact (t3 a (fun z => ha (by rw [z]; unfold WCD nm; omega)) (fun t _ z => ha (by unfold CTW at z; unfold WCD; omega))).trans (hF a (fun z => ha (by rw [z]; unfold WCD nm; omega)) (fun z => ha (by rw [z]; unfold WCD nm; omega)) (fun z => ha (by rw [z]; unfold WCD nm; omega)) (fun z => ha (by rw [z]; unfold WCD nm; omega)) (fun z => ha (by rw [z]; unfold WCD nm; omega)) (fun z => ha (by rw [z]; unfold WCD nm; omega)) (fun z => ha (by rw [z]; unfold WCD nm; omega)) (fun z => ha (by rw [z]; unfold WCD nm; omega)))
