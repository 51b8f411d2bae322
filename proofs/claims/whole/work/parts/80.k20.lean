/-! The class: an empty transaction. -/
def KT0 : KTS := (false, 0, 0, 0, fun _ => false, fun _ => 0, fun _ => false, fun _ => false, fun _ => 0)
/-- a transaction whose rows are there up to the i-th -/
def KTi (h : Hp) (t i : Nat) : Prop := ((h_k h (nm 56 t) = 10) ∧ (h_R h (nm 56 t) 9 = some (nm 62 t)) ∧ (h_k h (nm 62 t) = 115 ∧ h_n h (nm 62 t) = 4)) ∧ (∀ h', (∀ r, 56 ≤ r → r ≤ 61 → ce h' (nm r t) = ce h (nm r t)) → h_k h' (nm 62 t) = 115 → h_n h' (nm 62 t) = 4 → (∀ j, j < 4 → h_R h' (nm 62 t) j = some (nm 63 (4 * t + j))) → KT h' t KT0) ∧ (∀ j, j < i → h_R h (nm 62 t) j = some (nm 63 (4 * t + j)) ∧ KW h (4 * t + j) (0, fun _ => 0))
/-- a transaction's names, with its rows -/
def CTW (t : Nat) : Nat → Prop := fun a => (56 ≤ a % 128 ∧ a % 128 ≤ 62 ∧ a / 128 = t) ∨ (63 ≤ a % 128 ∧ a % 128 ≤ 64 ∧ 4 * t ≤ a / 128 ∧ a / 128 < 4 * t + 4)
set_option maxRecDepth 100000 in
set_option maxHeartbeats 4000000 in
theorem l_X7_init {G : GG} {d bc bs : Nat} {Q : Pst} {h0 : Hp} {t : Nat} (hfr : ∀ r i, 63 ≤ r → r ≤ 64 → h_k h0 (nm r i) = 0) (hd : 4 ≤ d) (hq : ∀ h', KT h' t KT0 → (∀ j, j < 4 → KW h' (4 * t + j) (0, fun _ => 0)) → Fr h0 h' (CTW t) → Q oVoid h') : ∀ m i H, i + m = 4 → KTi H t i → (∀ r j, 63 ≤ r → r ≤ 64 → 4 * t + i ≤ j → h_k H (nm r j) = h_k h0 (nm r j)) → Fr h0 H (CTW t) → WP G m_X7_init d 74 [(1, vi (nI i)), (0, vr (some (nm 56 t)))] [] H (bc + 2 * m) (bs + 20 * m) Q := by
  have q11 : clN 11 = 2 := rfl
  intro m
  induction m with
  | zero =>
    intro i H hi hK hf hG
    have hi : i = 4 := by omega
    subst hi
    refine wp_iload_n (i := 1) dX7_init_74 rfl rfl ?_
    refine wp_iconst (nI 4) dX7_init_75 (by decide) ?_
    refine wp_icmp_geN 98 dX7_init_76 (by decide) (by decide) (by decide) (fun c_76 => ?_) (fun c_76 => absurd c_76 (by decide))
    refine wp_return dX7_init_98 rfl ?_
    exact hq _ (hK.2.1 H (fun _ _ _ => rfl) hK.1.2.2.1 hK.1.2.2.2 (fun j hj => (hK.2.2 j hj).1)) (fun j hj => (hK.2.2 j hj).2) hG
  | succ m ih =>
    intro i H hi hK hf hG
    have hi4 : i < 4 := by omega
    refine wp_iload_n (i := 1) dX7_init_74 rfl rfl ?_
    refine wp_iconst (nI 4) dX7_init_75 (by decide) ?_
    refine wp_icmp_geN 98 dX7_init_76 (by decide) (by omega) (by decide) (fun c_76 => absurd c_76 (by omega)) (fun c_76 => ?_)
    refine wp_aload_n (i := 0) dX7_init_79 rfl rfl ?_
    refine wp_get 9 9 (vr (some (nm 62 t))) dX7_init_80 hK.1.1 (by decide) (by decide) fl_X7_44 (congrArg (fun z => toV (vr z)) (hK.1.2.1)) ?_
    refine wp_iload_n (i := 1) dX7_init_83 rfl rfl ?_
    refine wp_new 11 dX7_init_84 (by decide) kl_X7_42 ins_X10 ini_X10 (by omega) (by show 2 ≤ _; omega) (nm 63 (4 * t + i)) ((hf 63 _ (by decide) (by decide) (by omega)).trans (hfr 63 _ (by decide) (by decide))) ?_
    refine wp_dup dX7_init_87 ?_
    refine wp_cIN (y' := m_X10_init) [] [vr (some (nm 63 (4 * t + i))), vi (nI i), vr (some (nm 62 t))] 1 12 dX7_init_88 mn_X7_48 im_X10_init rfl rfl ok_X10_init rfl (Nat.le_of_ble_eq_true rfl) rfl (Nat.le_of_ble_eq_true rfl) (d' := d - 1) (by omega) (by omega) (by omega) (c_X10_init (o := nm 63 (4 * t + i)) (p := nm 64 (4 * t + i)) (by unfold nm; omega) ((hf 64 _ (by decide) (by decide) (by omega)).trans (hfr 64 _ (by decide) (by decide))) (by omega) (by omega) (by omega) (fun h1 W1 F1 => cont_void ?_))
    have e62 : ce h1 (nm 62 t) = ce H (nm 62 t) := F1 _ (by unfold WRo nm; omega)
    refine wp_aastoreN 11 4 dX7_init_91 ((arTy_115 (by rw [ce_k e62]; exact hK.1.2.2.1))) (by decide) (by rw [ce_n e62]; exact hK.1.2.2.2) (by omega) (by decide) (fun v hv => by cases hv; exact W1.1) ?_
    refine wp_iincN (a := i) (lv' := [(1, vi (nI (i + 1))), (0, vr (some (nm 56 t)))]) 1 dX7_init_92 rfl (by decide) (by decide) rfl ?_
    refine wp_goto 74 dX7_init_95 (by decide) ?_
    refine wp_sub [(1, vi (nI (i + 1))), (0, vr (some (nm 56 t)))] (sb_cons (.head _) (sb_cons (.tail _ (.head _)) sb_nil)) ?_
    refine wp_pay (bc' := bc + 2 * m) (bs' := bs + 20 * m) (by omega) (by omega) ?_
    have hF : ∀ a, a ≠ nm 62 t → ¬ WRo (nm 63 (4 * t + i)) (nm 64 (4 * t + i)) a → ce (wR h1 (nm 62 t) i (some (nm 63 (4 * t + i)))) a = ce H a := fun a n1 n2 => (ce_wR n1).trans (F1 a n2)
    have W2 := W1.frm (h' := wR h1 (nm 62 t) i (some (nm 63 (4 * t + i)))) (ce_wR (by unfold nm; omega)) (ce_wR (by unfold nm; omega))
    have e6 : ∀ r, 56 ≤ r → r ≤ 61 → ce (wR h1 (nm 62 t) i (some (nm 63 (4 * t + i)))) (nm r t) = ce H (nm r t) := fun r h2 h3 => hF _ (by unfold nm; omega) (by unfold WRo nm; omega)
    refine ih (i + 1) _ (by omega) ⟨⟨(ce_k (e6 56 (by decide) (by decide))).trans hK.1.1, by rw [ce_R (e6 56 (by decide) (by decide))]; exact hK.1.2.1, by rw [gk_wR, ce_k e62]; exact hK.1.2.2.1, by rw [gn_wR, ce_n e62]; exact hK.1.2.2.2⟩, fun h2 a1 a2 a3 a4 => hK.2.1 h2 (fun r b1 b2 => (a1 r b1 b2).trans (e6 r b1 b2)) a2 a3 a4, fun j hj => ?_⟩ (fun r j b1 b2 b3 => (ce_k (hF _ (by unfold nm; omega) (by unfold WRo nm; omega))).trans (hf r j b1 b2 (by omega))) (hG.tr (fun a ha => hF a (fun e => ha (by rw [e]; unfold CTW nm; omega)) (fun z => ha (by rcases z with e | e <;> (rw [e]; unfold CTW nm; omega)))))
    by_cases e : j = i
    · subst e
      exact ⟨by rw [gR_wR, if_pos ⟨rfl, rfl⟩], W2.kw⟩
    · obtain ⟨k1, k2⟩ := hK.2.2 j (by omega)
      exact ⟨by rw [gR_wR, if_neg (fun z => e z.2), ce_R e62]; exact k1, k2.frm (hF _ (by unfold nm; omega) (by unfold WRo nm; omega)) (hF _ (by unfold nm; omega) (by unfold WRo nm; omega))⟩
