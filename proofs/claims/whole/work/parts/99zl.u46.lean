/-! The class: its constructor. -/
set_option maxRecDepth 100000 in
set_option maxHeartbeats 4000000 in
theorem c_X4_init {G : GG} {d bc bs : Nat} {h : Hp} {Q : Pst} (hk : h_k h (nm 40 2) = 7) (hd : 1 ≤ d) (hq : Q oVoid (wL h (nm 40 2) 0 0)) : WP G m_X4_init d 0 (aargs 0 [vr (some (nm 40 2))]) [] h bc bs Q := by
  refine wp_sub [(0, vr (some (nm 40 2)))] (fun _ hz => hz) ?_
  refine wp_aload_n (i := 0) dX4_init_0 rfl rfl ?_
  refine wp_objInit dX4_init_1 ml_X4_3 im_java_lang_Object__init____V co_obj (by omega) (by decide) ?_
  refine wp_aload_n (i := 0) dX4_init_4 rfl rfl ?_
  refine wp_lconst (0) dX4_init_5 (by decide) ?_
  refine wp_putL 6 0 dX4_init_6 hk (by decide) (by decide) (by decide) fl_X4_9 rfl (fun _ _ => rfl) rfl rfl ?_
  refine wp_return dX4_init_9 rfl ?_
  exact hq
/-- the transactions up to the i-th are there -/
def TI9 (H0 H : Hp) (i : Nat) : Prop := (h_k H (nm 40 8) = 113 ∧ h_n H (nm 40 8) = 3) ∧ (∀ t, t < i → h_R H (nm 40 8) t = some (nm 56 t) ∧ KT H t KT0 ∧ ∀ j, j < 4 → KW H (4 * t + j) (0, fun _ => 0)) ∧ ∀ a, a ≠ nm 40 8 → (∀ t, t < i → ¬ CTW t a) → ce H a = ce H0 a
theorem KT.frw {h h' : Hp} {t : Nat} {x : KTS} (H : KT h t x) (e : ∀ r, 56 ≤ r → r ≤ 62 → ce h' (nm r t) = ce h (nm r t)) : KT h' t x := H.frm (e 56 (by decide) (by decide)) (e 57 (by decide) (by decide)) (e 58 (by decide) (by decide)) (e 59 (by decide) (by decide)) (e 60 (by decide) (by decide)) (e 61 (by decide) (by decide)) (e 62 (by decide) (by decide))
set_option maxRecDepth 100000 in
set_option maxHeartbeats 4000000 in
theorem l_X11_init {G : GG} {d : Nat} {Q : Pst} {H0 : Hp} (k0 : h_k H0 (nm 40 0) = 13) (r8 : h_R H0 (nm 40 0) 8 = some (nm 40 8)) (hf : ∀ r i, 56 ≤ r → r ≤ 64 → h_k H0 (nm r i) = 0) (hd : 6 ≤ d) (hq : ∀ H, TI9 H0 H 3 → Q oVoid H) : ∀ m i H bc bs, i + m = 3 → 30 * m ≤ bc → 200 * m ≤ bs → TI9 H0 H i → WP G m_X11_init d 106 [(1, vi (nI i)), (0, vr (some (nm 40 0)))] [] H bc bs Q := by
  intro m
  induction m with
  | zero =>
    intro i H bc bs hi hbc hbs T
    have hi : i = 3 := hi
    subst hi
    refine wp_iload_n (i := 1) dX11_init_106 rfl rfl ?_
    refine wp_iconst (nI 3) dX11_init_107 (by decide) ?_
    refine wp_icmp_geN 130 dX11_init_108 (by decide) (by decide) (by decide) (fun c_108 => ?_) (fun c_108 => absurd c_108 (by decide))
    refine wp_return dX11_init_130 rfl ?_
    exact hq H T
  | succ m ih =>
    intro i H bc bs hi hbc hbs T
    have q9 : clN 9 = 10 := rfl
    obtain ⟨⟨t1, t2⟩, t3, t4⟩ := T
    have e0 : ce H (nm 40 0) = ce H0 (nm 40 0) := t4 _ (by unfold nm; omega) (fun t _ => by unfold CTW nm; omega)
    have hfr : ∀ r j, 56 ≤ r → r ≤ 62 → i ≤ j → h_k H (nm r j) = 0 := fun r j r1 r2 hj => (ce_k (t4 _ (by unfold nm; omega) (fun t ht => by unfold CTW nm; omega))).trans (hf r j r1 (by omega))
    have hfr2 : ∀ r j, 63 ≤ r → r ≤ 64 → 4 * i ≤ j → h_k H (nm r j) = 0 := fun r j r1 r2 hj => (ce_k (t4 _ (by unfold nm; omega) (fun t ht => by unfold CTW nm; omega))).trans (hf r j (by omega) r2)
    refine wp_iload_n (i := 1) dX11_init_106 rfl rfl ?_
    refine wp_iconst (nI 3) dX11_init_107 (by decide) ?_
    refine wp_icmp_geN 130 dX11_init_108 (by decide) (by omega) (by decide) (fun c_108 => absurd c_108 (by omega)) (fun c_108 => ?_)
    refine wp_aload_n (i := 0) dX11_init_111 rfl rfl ?_
    refine wp_get 12 8 (vr (some (nm 40 8))) dX11_init_112 ((ce_k e0).trans k0) (by decide) (by decide) fl_X11_49 (congrArg (fun z => toV (vr z)) ((congrFun (ce_R e0) 8).trans r8)) ?_
    refine wp_iload_n (i := 1) dX11_init_115 rfl rfl ?_
    refine wp_new 9 dX11_init_116 (by decide) kl_X11_47 ins_X7 ini_X7 (by omega) (by show 10 ≤ _; omega) (nm 56 i) (hfr 56 i (by decide) (by decide) (Nat.le_refl _)) ?_
    refine wp_dup dX11_init_119 ?_
    refine wp_cI (y' := m_X7_init) [] [vr (some (nm 56 i)), vi (nI i), vr (some (nm 40 8))] 20 150 dX11_init_120 ml_X11_75 im_X7_init rfl rfl ok_X7_init rfl (Nat.le_of_ble_eq_true rfl) rfl (Nat.le_of_ble_eq_true rfl) (d' := d - 1) (by omega) (by omega) (by omega) (c_X7_init (h := H) (t := i) (fun r r1 r2 => hfr r i (by omega) r2 (Nat.le_refl _)) (fun r j r1 r2 hj => hfr2 r j r1 r2 hj) (by omega) (by omega) (by omega) (fun h1 K1 W1 F1 => cont_void ?_))
    have e8 : ce h1 (nm 40 8) = ce H (nm 40 8) := F1 _ (by unfold CTW nm; omega)
    refine wp_aastoreN 9 3 dX11_init_123 ((arTy_113 ((ce_k e8).trans t1))) (by decide) ((ce_n e8).trans t2) (by omega) (by decide) (fun v hv => by cases hv; exact K1.k0) ?_
    refine wp_iincN (a := i) (lv' := [(1, vi (nI (i + 1))), (0, vr (some (nm 40 0)))]) 1 dX11_init_124 rfl (by decide) (by decide) rfl ?_
    refine wp_goto 106 dX11_init_127 (by decide) ?_
    refine wp_sub [(1, vi (nI (i + 1))), (0, vr (some (nm 40 0)))] (sb_cons (.head _) (sb_cons (.tail _ (.head _)) sb_nil)) ?_
    refine ih (i + 1) (wR h1 (nm 40 8) i (some (nm 56 i))) _ _ (by omega) (by omega) (by omega) ⟨⟨by rw [gk_wR]; exact (ce_k e8).trans t1, by rw [gn_wR]; exact (ce_n e8).trans t2⟩, fun t ht => ?_, fun a h1 h2 => (ce_wR h1).trans ((F1 a (h2 i (by omega))).trans (t4 a h1 (fun t ht => h2 t (by omega))))⟩
    have g : ∀ a, a ≠ nm 40 8 → ce (wR h1 (nm 40 8) i (some (nm 56 i))) a = ce h1 a := fun a ha => ce_wR ha
    by_cases z : t = i
    · subst z; exact ⟨by rw [gR_wR, if_pos ⟨rfl, rfl⟩], K1.frw (fun r r1 r2 => g _ (by unfold nm; omega)), fun j hj => (W1 j hj).frm (g _ (by unfold nm; omega)) (g _ (by unfold nm; omega))⟩
    · obtain ⟨q1, q2, q3⟩ := t3 t (by omega)
      exact ⟨by rw [gR_wR, if_neg (fun y => z y.2), ce_R e8]; exact q1, q2.frw (fun r r1 r2 => (g _ (by unfold nm; omega)).trans (F1 _ (by unfold CTW nm; omega))), fun j hj => (q3 j hj).frm ((g _ (by unfold nm; omega)).trans (F1 _ (by unfold CTW nm; omega))) ((g _ (by unfold nm; omega)).trans (F1 _ (by unfold CTW nm; omega)))⟩
