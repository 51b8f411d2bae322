/-! The model: the empty model. -/
def FRE (a : Nat) : Prop := a = nm 1 17 ∨ a = nm 1 18 ∨ (2 ≤ a % 128 ∧ a % 128 ≤ 31)
def MI0 (H : Hp) : Prop := h_k H (nm 1 0) = 18 ∧ (∀ j, h_I H (nm 1 0) j = 0) ∧ (∀ i, 3 ≤ i → i ≤ 14 → h_R H (nm 1 0) i = some (nm 1 i) ∧ h_k H (nm 1 i) = mkd i ∧ (∀ j, h_I H (nm 1 i) j = 0)) ∧ (∀ i, 3 ≤ i → i ≤ 12 → i ≠ 11 → h_n H (nm 1 i) = mlen i) ∧ h_R H (nm 1 11) 1 = some 0 ∧ h_R H (nm 1 13) 1 = some 0 ∧ h_R H (nm 1 14) 1 = some 0
def SV0 : SV := (0, 0, fun _ => 0, fun _ => 0, fun _ => 0, fun _ => 0, fun _ => false, fun _ => false, fun _ => 0, fun _ => 0)
def RS0 (rr : Nat → ORS) (aa : Nat → OAS) : RS := (0, rr, 0, aa, fun _ => OT0, [], 0, 0)
/-- the model's names -/
def WMD (a : Nat) : Prop := 1 ≤ a % 128 ∧ a % 128 ≤ 31
theorem wR_fil2 {h : Hp} {a k : Nat} {r : Option Nat} {f : Nat → Option Nat} (H : ∀ j, j < k → h_R h a j = f j) (e : r = f k) : ∀ j, j < k + 1 → h_R (wR h a k r) a j = f j := fun j hj => by
  rw [gR_wR]
  split
  · next z => rw [z.2]; exact e
  · next z => exact H j (by have : j ≠ k := fun y => z ⟨rfl, y⟩; omega)
theorem WT_18 {t i : Nat} : ¬ WT t (nm 1 i) := by unfold WT nm; omega
set_option maxRecDepth 100000 in
set_option maxHeartbeats 4000000 in
theorem l_X16_init2 {G : GG} {d bc bs : Nat} {H : Hp} {Q : Pst} (M : MI0 H) (hf : ∀ a, FRE a → h_k H a = 0) (J : JC H) (hd : 6 ≤ d) (hbc : 30 ≤ bc) (hbs : 400 ≤ bs) (hq : ∀ h', MP h' (nm 1 0) (nm 1) SV0 → (∀ rr aa, MR h' (RS0 rr aa)) → (∀ x, MSQ h' 0 x) → PO2 h' → Fr H h' WMD → Q oVoid h') : WP G m_X16_init d 113 [(0, vr (some (nm 1 0)))] [] H bc bs Q := by
  have q16 : clN 16 = 10 := rfl
  have q2 : clN 2 = 3 := rfl
  refine wp_aload_n (i := 0) dX16_init_113 rfl rfl ?_
  refine wp_iconst (nI 3) dX16_init_114 (by decide) ?_
  refine wp_anewarray 117 3 dX16_init_115 rfl (by decide) kl_X16_53 (nI_nn (by omega)) (nI_clamp (by omega)) (by omega) (by omega) (by omega) (nm 1 17) (hf _ (Or.inl rfl)) ?_
  have b0 : ∀ a, a ≠ nm 1 17 → (∀ u, u < 0 → ¬ WT u a) → ce (mk H (nm 1 17) 117 3) a = ce H a := fun a h1 _ => ce_mk h1
  have J0 : JC (mk H (nm 1 17) 117 3) := J.fr (fun i => ce_mk (by unfold nm; omega))
  refine wp_dup dX16_init_118 ?_
  refine wp_iconst (nI 0) dX16_init_119 (by decide) ?_
  refine wp_new 16 dX16_init_120 (by decide) kl_X16_53 ins_X15 ini_X15 (by omega) (by show 10 ≤ _; omega) (nm 6 0) (by rw [ce_k (b0 _ (by unfold nm; omega) (fun u hu => by unfold WT nm; omega))]; exact hf _ (by unfold FRE nm; omega)) ?_
  refine wp_dup dX16_init_123 ?_
  refine wp_cIN (y' := m_X15_init) [] [vr (some (nm 6 0)), vi (nI 0), vr (some (nm 1 17)), vr (some (nm 1 17)), vr (some (nm 1 0))] 6 40 dX16_init_124 mn_X16_55 im_X15_init rfl rfl ok_X15_init rfl (Nat.le_of_ble_eq_true rfl) rfl (Nat.le_of_ble_eq_true rfl) (d' := d - 1) (by omega) (by omega) (by omega) (c_X15_init (t := 0) (by rw [ce_k (b0 _ (by unfold nm; omega) (fun u hu => by unfold WT nm; omega))]; exact hf _ (by unfold FRE nm; omega)) (by rw [ce_k (b0 _ (by unfold nm; omega) (fun u hu => by unfold WT nm; omega))]; exact hf _ (by unfold FRE nm; omega)) (by rw [ce_k (b0 _ (by unfold nm; omega) (fun u hu => by unfold WT nm; omega))]; exact hf _ (by unfold FRE nm; omega)) (by rw [ce_k (b0 _ (by unfold nm; omega) (fun u hu => by unfold WT nm; omega))]; exact hf _ (by unfold FRE nm; omega)) (by rw [ce_k (b0 _ (by unfold nm; omega) (fun u hu => by unfold WT nm; omega))]; exact hf _ (by unfold FRE nm; omega)) (by rw [ce_k (b0 _ (by unfold nm; omega) (fun u hu => by unfold WT nm; omega))]; exact hf _ (by unfold FRE nm; omega)) (fun z => (by rw [ce_k (b0 _ (by unfold nm; omega) (fun u hu => by unfold WT nm; omega))]; exact hf _ (by unfold FRE nm; omega))) J0 (by omega) (by omega) (by omega) (fun H0 O0 F0 => cont_void ?_))
  have c0 : ∀ a, a ≠ nm 1 17 → (∀ u, u ≤ 0 → ¬ WT u a) → ce H0 a = ce H a := fun a h1 h2 => (F0 a (h2 0 (by omega))).trans (b0 a h1 (fun u hu => h2 u (by omega)))
  have b1 : ∀ a, a ≠ nm 1 17 → (∀ u, u < 1 → ¬ WT u a) → ce (wR H0 (nm 1 17) 0 (some (nm 6 0))) a = ce H a := fun a h1 h2 => (ce_wR h1).trans (c0 a h1 (fun u hu => h2 u (by omega)))
  have k0 : h_k H0 (nm 1 17) = 117 ∧ h_n H0 (nm 1 17) = 3 ∧ ∀ j, j < 0 → h_R H0 (nm 1 17) j = some (nm 6 j) := ⟨(ce_k (F0 _ WT_18)).trans (by rw [gk_mk, if_pos rfl]), (ce_n (F0 _ WT_18)).trans (by rw [gn_mk, if_pos rfl]), fun j hj => by rw [ce_R (F0 _ WT_18)]; omega⟩
  have J1 : JC (wR H0 (nm 1 17) 0 (some (nm 6 0))) := J.fr (fun i => b1 _ (by unfold nm; omega) (fun u hu => by unfold WT nm; omega))
  refine wp_aastoreN 16 3 dX16_init_127 (arTy_117 k0.1) (by decide) k0.2.1 (by decide) (by decide) (fun v hv => by cases hv; exact O0.k0) ?_
  refine wp_dup dX16_init_128 ?_
  refine wp_iconst (nI 1) dX16_init_129 (by decide) ?_
  refine wp_new 16 dX16_init_130 (by decide) kl_X16_53 ins_X15 ini_X15 (by omega) (by show 10 ≤ _; omega) (nm 6 1) (by rw [ce_k (b1 _ (by unfold nm; omega) (fun u hu => by unfold WT nm; omega))]; exact hf _ (by unfold FRE nm; omega)) ?_
  refine wp_dup dX16_init_133 ?_
  refine wp_cIN (y' := m_X15_init) [] [vr (some (nm 6 1)), vi (nI 1), vr (some (nm 1 17)), vr (some (nm 1 17)), vr (some (nm 1 0))] 6 40 dX16_init_134 mn_X16_55 im_X15_init rfl rfl ok_X15_init rfl (Nat.le_of_ble_eq_true rfl) rfl (Nat.le_of_ble_eq_true rfl) (d' := d - 1) (by omega) (by omega) (by omega) (c_X15_init (t := 1) (by rw [ce_k (b1 _ (by unfold nm; omega) (fun u hu => by unfold WT nm; omega))]; exact hf _ (by unfold FRE nm; omega)) (by rw [ce_k (b1 _ (by unfold nm; omega) (fun u hu => by unfold WT nm; omega))]; exact hf _ (by unfold FRE nm; omega)) (by rw [ce_k (b1 _ (by unfold nm; omega) (fun u hu => by unfold WT nm; omega))]; exact hf _ (by unfold FRE nm; omega)) (by rw [ce_k (b1 _ (by unfold nm; omega) (fun u hu => by unfold WT nm; omega))]; exact hf _ (by unfold FRE nm; omega)) (by rw [ce_k (b1 _ (by unfold nm; omega) (fun u hu => by unfold WT nm; omega))]; exact hf _ (by unfold FRE nm; omega)) (by rw [ce_k (b1 _ (by unfold nm; omega) (fun u hu => by unfold WT nm; omega))]; exact hf _ (by unfold FRE nm; omega)) (fun z => (by rw [ce_k (b1 _ (by unfold nm; omega) (fun u hu => by unfold WT nm; omega))]; exact hf _ (by unfold FRE nm; omega))) J1 (by omega) (by omega) (by omega) (fun H1 O1 F1 => cont_void ?_))
  have c1 : ∀ a, a ≠ nm 1 17 → (∀ u, u ≤ 1 → ¬ WT u a) → ce H1 a = ce H a := fun a h1 h2 => (F1 a (h2 1 (by omega))).trans (b1 a h1 (fun u hu => h2 u (by omega)))
  have b2 : ∀ a, a ≠ nm 1 17 → (∀ u, u < 2 → ¬ WT u a) → ce (wR H1 (nm 1 17) 1 (some (nm 6 1))) a = ce H a := fun a h1 h2 => (ce_wR h1).trans (c1 a h1 (fun u hu => h2 u (by omega)))
  have k1 : h_k H1 (nm 1 17) = 117 ∧ h_n H1 (nm 1 17) = 3 ∧ ∀ j, j < 1 → h_R H1 (nm 1 17) j = some (nm 6 j) := ⟨(ce_k (F1 _ WT_18)).trans (by rw [gk_wR]; exact k0.1), (ce_n (F1 _ WT_18)).trans (by rw [gn_wR]; exact k0.2.1), fun j hj => by rw [ce_R (F1 _ WT_18)]; exact wR_fil2 k0.2.2 rfl j hj⟩
  have J2 : JC (wR H1 (nm 1 17) 1 (some (nm 6 1))) := J.fr (fun i => b2 _ (by unfold nm; omega) (fun u hu => by unfold WT nm; omega))
  refine wp_aastoreN 16 3 dX16_init_137 (arTy_117 k1.1) (by decide) k1.2.1 (by decide) (by decide) (fun v hv => by cases hv; exact O1.k0) ?_
  refine wp_dup dX16_init_138 ?_
  refine wp_iconst (nI 2) dX16_init_139 (by decide) ?_
  refine wp_new 16 dX16_init_140 (by decide) kl_X16_53 ins_X15 ini_X15 (by omega) (by show 10 ≤ _; omega) (nm 6 2) (by rw [ce_k (b2 _ (by unfold nm; omega) (fun u hu => by unfold WT nm; omega))]; exact hf _ (by unfold FRE nm; omega)) ?_
  refine wp_dup dX16_init_143 ?_
  refine wp_cIN (y' := m_X15_init) [] [vr (some (nm 6 2)), vi (nI 2), vr (some (nm 1 17)), vr (some (nm 1 17)), vr (some (nm 1 0))] 6 40 dX16_init_144 mn_X16_55 im_X15_init rfl rfl ok_X15_init rfl (Nat.le_of_ble_eq_true rfl) rfl (Nat.le_of_ble_eq_true rfl) (d' := d - 1) (by omega) (by omega) (by omega) (c_X15_init (t := 2) (by rw [ce_k (b2 _ (by unfold nm; omega) (fun u hu => by unfold WT nm; omega))]; exact hf _ (by unfold FRE nm; omega)) (by rw [ce_k (b2 _ (by unfold nm; omega) (fun u hu => by unfold WT nm; omega))]; exact hf _ (by unfold FRE nm; omega)) (by rw [ce_k (b2 _ (by unfold nm; omega) (fun u hu => by unfold WT nm; omega))]; exact hf _ (by unfold FRE nm; omega)) (by rw [ce_k (b2 _ (by unfold nm; omega) (fun u hu => by unfold WT nm; omega))]; exact hf _ (by unfold FRE nm; omega)) (by rw [ce_k (b2 _ (by unfold nm; omega) (fun u hu => by unfold WT nm; omega))]; exact hf _ (by unfold FRE nm; omega)) (by rw [ce_k (b2 _ (by unfold nm; omega) (fun u hu => by unfold WT nm; omega))]; exact hf _ (by unfold FRE nm; omega)) (fun z => (by rw [ce_k (b2 _ (by unfold nm; omega) (fun u hu => by unfold WT nm; omega))]; exact hf _ (by unfold FRE nm; omega))) J2 (by omega) (by omega) (by omega) (fun H2 O2 F2 => cont_void ?_))
  have c2 : ∀ a, a ≠ nm 1 17 → (∀ u, u ≤ 2 → ¬ WT u a) → ce H2 a = ce H a := fun a h1 h2 => (F2 a (h2 2 (by omega))).trans (b2 a h1 (fun u hu => h2 u (by omega)))
  have b3 : ∀ a, a ≠ nm 1 17 → (∀ u, u < 3 → ¬ WT u a) → ce (wR H2 (nm 1 17) 2 (some (nm 6 2))) a = ce H a := fun a h1 h2 => (ce_wR h1).trans (c2 a h1 (fun u hu => h2 u (by omega)))
  have k2 : h_k H2 (nm 1 17) = 117 ∧ h_n H2 (nm 1 17) = 3 ∧ ∀ j, j < 2 → h_R H2 (nm 1 17) j = some (nm 6 j) := ⟨(ce_k (F2 _ WT_18)).trans (by rw [gk_wR]; exact k1.1), (ce_n (F2 _ WT_18)).trans (by rw [gn_wR]; exact k1.2.1), fun j hj => by rw [ce_R (F2 _ WT_18)]; exact wR_fil2 k1.2.2 rfl j hj⟩
  have J3 : JC (wR H2 (nm 1 17) 2 (some (nm 6 2))) := J.fr (fun i => b3 _ (by unfold nm; omega) (fun u hu => by unfold WT nm; omega))
  refine wp_aastoreN 16 3 dX16_init_147 (arTy_117 k2.1) (by decide) k2.2.1 (by decide) (by decide) (fun v hv => by cases hv; exact O2.k0) ?_
  refine wp_putRF 17 17 dX16_init_148 (by rw [gk_wR, ce_k (c2 _ (by unfold nm; omega) (fun u hu => WT_18))]; exact M.1) (by decide) (by decide) (by decide) fl_X16_56 rfl rfl rfl (fun _ _ => rfl) rfl ?_
  refine wp_aload_n (i := 0) dX16_init_151 rfl rfl ?_
  refine wp_new 2 dX16_init_152 (by decide) kl_X16_37 ins_Jx4a65c ini_Jx4a65c (by omega) (by show 3 ≤ _; omega) (nm 1 18) (by rw [gk_wR, ce_k (b3 _ (by unfold nm; omega) (fun u hu => WT_18))]; exact hf _ (Or.inr (Or.inl rfl))) ?_
  have hkl : h_k (mk (wR (wR H2 (nm 1 17) 2 (some (nm 6 2))) (nm 1 0) 17 (some (nm 1 17))) (nm 1 18) 3 0) (nm 1 18) = 3 := by rw [gk_mk, if_pos rfl]
  refine wp_dup dX16_init_155 ?_
  refine wp_cI (y' := m_Jx4a65c_init_da8c8) [] [vr (some (nm 1 18)), vr (some (nm 1 0))] 0 0 dX16_init_156 ml_X16_39 im_Jx4a65c_init_da8c8 rfl rfl ok_Jx4a65c_init_da8c8 rfl (Nat.le_of_ble_eq_true rfl) rfl (Nat.le_of_ble_eq_true rfl) (d' := d - 1) (by omega) (Nat.zero_le _) (Nat.zero_le _) (c_AL_init hkl (by omega) (cont_void ?_))
  refine wp_putRF 17 18 dX16_init_159 (by rw [gk_wR, gk_wI, gk_mk, if_neg (by unfold nm; omega), gk_wR, gk_wR, ce_k (c2 _ (by unfold nm; omega) (fun u hu => WT_18))]; exact M.1) (by decide) (by decide) (by decide) fl_X16_60 rfl rfl rfl (fun _ _ => rfl) rfl ?_
  refine wp_return dX16_init_162 rfl ?_
  obtain ⟨HF, eF⟩ : ∃ z, z = wR (wR (wI (mk (wR (wR H2 (nm 1 17) 2 (some (nm 6 2))) (nm 1 0) 17 (some (nm 1 17))) (nm 1 18) 3 0) (nm 1 18) 0 (nI 0)) (nm 1 18) 1 (some 0)) (nm 1 0) 18 (some (nm 1 18)) := ⟨_, rfl⟩
  rw [← eF]
  have E : ∀ a, a ≠ nm 1 17 → a ≠ nm 1 18 → a ≠ nm 1 0 → ce HF a = ce (wR H2 (nm 1 17) 2 (some (nm 6 2))) a := fun a h1 h2 h3 => by rw [eF]; exact (ce_wR h3).trans ((ce_wR h2).trans ((ce_wI h2).trans ((ce_mk h2).trans (ce_wR h3))))
  have E3 : ∀ a, a ≠ nm 1 17 → a ≠ nm 1 18 → a ≠ nm 1 0 → (∀ u, u < 3 → ¬ WT u a) → ce HF a = ce H a := fun a h1 h2 h3 h4 => (E a h1 h2 h3).trans (b3 a h1 h4)
  have E1 : ∀ i, 3 ≤ i → i ≤ 14 → ce HF (nm 1 i) = ce H (nm 1 i) := fun i h1 h2 => E3 _ (by unfold nm; omega) (by unfold nm; omega) (by unfold nm; omega) (fun u hu => WT_18)
  have hm0 : ce (wR H2 (nm 1 17) 2 (some (nm 6 2))) (nm 1 0) = ce H (nm 1 0) := b3 _ (by unfold nm; omega) (fun u hu => WT_18)
  have g0 : h_k HF (nm 1 0) = 18 := by rw [eF]; exact (ce_k hm0).trans M.1
  have gI : ∀ j, h_I HF (nm 1 0) j = 0 := fun j => by rw [eF, gI_wR, gI_wR, gI_wI, if_neg (fun z => by have := z.1; unfold nm at this; omega), gI_mk, if_neg (by unfold nm; omega), gI_wR, ce_I hm0]; exact M.2.1 j
  have gR : ∀ j, h_R HF (nm 1 0) j = if j = 18 then some (nm 1 18) else if j = 17 then some (nm 1 17) else h_R H (nm 1 0) j := fun j => by
    rw [eF, gR_wR]
    by_cases e : j = 18
    · rw [if_pos ⟨rfl, e⟩, if_pos e]
    · rw [if_neg (fun z => e z.2), if_neg e, gR_wR, if_neg (fun z => by have := z.1; unfold nm at this; omega), gR_wI, gR_mk, if_neg (by unfold nm; omega), gR_wR]
      by_cases e2 : j = 17
      · rw [if_pos ⟨rfl, e2⟩, if_pos e2]
      · rw [if_neg (fun z => e2 z.2), if_neg e2, ce_R hm0]
  have gk : h_k HF (nm 1 17) = 117 ∧ h_n HF (nm 1 17) = 3 ∧ ∀ j, j < 3 → h_R HF (nm 1 17) j = some (nm 6 j) := by
    have e : ce HF (nm 1 17) = ce (wR H2 (nm 1 17) 2 (some (nm 6 2))) (nm 1 17) := by rw [eF]; exact (ce_wR (by unfold nm; omega)).trans ((ce_wR (by unfold nm; omega)).trans ((ce_wI (by unfold nm; omega)).trans ((ce_mk (by unfold nm; omega)).trans (ce_wR (by unfold nm; omega)))))
    exact ⟨(ce_k e).trans k2.1, (ce_n e).trans k2.2.1, fun j hj => by rw [ce_R e]; exact wR_fil2 k2.2.2 rfl j hj⟩
  have gl : h_k HF (nm 1 18) = 3 ∧ h_I HF (nm 1 18) 2 = nI 0 ∧ h_R HF (nm 1 18) 1 = some 0 := by rw [eF]; exact ⟨by simp [gI_wI, gI_wR, gI_mk, gR_wI, gR_wR, gR_mk, gk_wI, gk_wR, gk_mk, gn_wI, gn_wR, gn_mk, nm_eq, nm_i], by simp [gI_wI, gI_wR, gI_mk, gR_wI, gR_wR, gR_mk, gk_wI, gk_wR, gk_mk, gn_wI, gn_wR, gn_mk, nm_eq, nm_i]; rfl, by simp [gI_wI, gI_wR, gI_mk, gR_wI, gR_wR, gR_mk, gk_wI, gk_wR, gk_mk, gn_wI, gn_wR, gn_mk, nm_eq, nm_i]⟩
  have MFH : MF HF (nm 1 0) (nm 1) := by
    refine ⟨g0, fun i h1 h2 h3 h4 => ?_, fun i h1 h2 h3 => (ce_n (E1 i h1 (by omega))).trans (M.2.2.2.1 i h1 h2 h3), fun i j _ _ _ _ _ _ _ _ e => by unfold nm at e; omega⟩
    by_cases e : i = 18
    · subst e; exact ⟨by rw [gR, if_pos rfl], gl.1⟩
    · by_cases e2 : i = 17
      · subst e2; exact ⟨by rw [gR, if_neg (by decide), if_pos rfl], gk.1⟩
      · exact ⟨by rw [gR, if_neg e, if_neg e2]; exact (M.2.2.1 i h1 (by omega)).1, by rw [ce_k (E1 i h1 (by omega))]; exact (M.2.2.1 i h1 (by omega)).2.1⟩
  have hz : ∀ i, 3 ≤ i → i ≤ 14 → ∀ j, h_I HF (nm 1 i) j = 0 := fun i h1 h2 j => by rw [ce_I (E1 i h1 h2)]; exact (M.2.2.1 i h1 h2).2.2 j
  have hfree : ∀ r i, 2 ≤ r → r ≤ 31 → (r < 6 ∨ 12 < r) → (r = 24 → 3 ≤ i % 16) → h_k HF (nm r i) = 0 := fun r i h1 h2 h3 h4 => by rw [ce_k (E3 _ (by unfold nm; omega) (by unfold nm; omega) (by unfold nm; omega) (fun u hu => by unfold WT nm; omega))]; exact hf _ (by unfold FRE nm; omega)
  have h00 : ce HF 0 = ce H 0 := E3 0 (by unfold nm; omega) (by unfold nm; omega) (by unfold nm; omega) (fun u hu => by unfold WT; omega)
  have l11 : LOb HF (nm 1 11) 31 0 2 0 := ⟨0, 0, AL.nil ((ce_k (E1 11 (by decide) (by decide))).trans (M.2.2.1 11 (by decide) (by decide)).2.1) ((congrFun (ce_R (E1 11 (by decide) (by decide))) 1).trans M.2.2.2.2.1) (hz 11 (by decide) (by decide) 2) ((ce_k h00).trans J.1) ((ce_n h00).trans J.2.1) (fun g _ => hfree _ _ (by decide) (by decide) (by decide) (fun z => by omega))⟩
  have l13 : LOb HF (nm 1 13) 27 0 4 0 := ⟨0, 0, AL.nil ((ce_k (E1 13 (by decide) (by decide))).trans (M.2.2.1 13 (by decide) (by decide)).2.1) ((congrFun (ce_R (E1 13 (by decide) (by decide))) 1).trans M.2.2.2.2.2.1) (hz 13 (by decide) (by decide) 2) ((ce_k h00).trans J.1) ((ce_n h00).trans J.2.1) (fun g _ => hfree _ _ (by decide) (by decide) (by decide) (fun z => by omega))⟩
  have l14 : LRw HF (nm 1 14) 29 0 [] := ⟨0, 0, fun _ => 0, AL.nil ((ce_k (E1 14 (by decide) (by decide))).trans (M.2.2.1 14 (by decide) (by decide)).2.1) ((congrFun (ce_R (E1 14 (by decide) (by decide))) 1).trans M.2.2.2.2.2.2) (hz 14 (by decide) (by decide) 2) ((ce_k h00).trans J.1) ((ce_n h00).trans J.2.1) (fun g _ => hfree _ _ (by decide) (by decide) (by decide) (fun z => by omega)), fun j hj => absurd hj (Nat.not_lt_zero _)⟩
  have l18 : LOb HF (nm 1 18) 28 0 13 0 := ⟨0, 0, AL.nil gl.1 gl.2.2 gl.2.1 ((ce_k h00).trans J.1) ((ce_n h00).trans J.2.1) (fun g _ => hfree _ _ (by decide) (by decide) (by decide) (fun z => by omega))⟩
  have fI : ∀ r n, 2 ≤ r → r ≤ 31 → (r < 6 ∨ 12 < r) → r ≠ 24 → FreeI HF r n := fun r n h1 h2 h3 h4 i _ => hfree r i h1 h2 h3 (fun z => absurd z h4)
  have fL : ∀ r n, 2 ≤ r → r ≤ 31 → (r < 6 ∨ 12 < r) → r ≠ 24 → FreeL HF r n := fun r n h1 h2 h3 h4 i _ _ z => hfree r _ h1 h2 h3 (fun z => absurd z h4)
  have D0 : ∀ a, a ≠ nm 1 17 → a ≠ nm 1 18 → a ≠ nm 1 0 → (∀ u, 0 < u → u < 3 → ¬ WT u a) → ce HF a = ce H0 a := fun a h1 h2 h3 h4 => (E a h1 h2 h3).trans ((ce_wR h1).trans ((F2 a (h4 2 (by decide) (by decide))).trans ((ce_wR h1).trans ((F1 a (h4 1 (by decide) (by decide))).trans (ce_wR h1)))))
  have T0 : OT HF 0 OT0 := O0.frm (D0 _ (by unfold nm; omega) (by unfold nm; omega) (by unfold nm; omega) (fun u h1 h2 => by unfold WT nm; omega)) (D0 _ (by unfold nm; omega) (by unfold nm; omega) (by unfold nm; omega) (fun u h1 h2 => by unfold WT nm; omega)) (D0 _ (by unfold nm; omega) (by unfold nm; omega) (by unfold nm; omega) (fun u h1 h2 => by unfold WT nm; omega)) (D0 _ (by unfold nm; omega) (by unfold nm; omega) (by unfold nm; omega) (fun u h1 h2 => by unfold WT nm; omega)) (D0 _ (by unfold nm; omega) (by unfold nm; omega) (by unfold nm; omega) (fun u h1 h2 => by unfold WT nm; omega)) (D0 _ (by unfold nm; omega) (by unfold nm; omega) (by unfold nm; omega) (fun u h1 h2 => by unfold WT nm; omega)) (D0 _ (by unfold nm; omega) (by unfold nm; omega) (by unfold nm; omega) (fun u h1 h2 => by unfold WT nm; omega)) (fun z => D0 _ (by unfold nm; omega) (by unfold nm; omega) (by unfold nm; omega) (fun u h1 h2 => by unfold WT nm; omega)) (D0 0 (by unfold nm; omega) (by unfold nm; omega) (by unfold nm; omega) (fun u h1 h2 => by unfold WT; omega)) (fun k _ => D0 _ (by unfold nm; omega) (by unfold nm; omega) (by unfold nm; omega) (fun u h1 h2 => by unfold WT nm; omega))
  have D1 : ∀ a, a ≠ nm 1 17 → a ≠ nm 1 18 → a ≠ nm 1 0 → (∀ u, 1 < u → u < 3 → ¬ WT u a) → ce HF a = ce H1 a := fun a h1 h2 h3 h4 => (E a h1 h2 h3).trans ((ce_wR h1).trans ((F2 a (h4 2 (by decide) (by decide))).trans (ce_wR h1)))
  have T1 : OT HF 1 OT0 := O1.frm (D1 _ (by unfold nm; omega) (by unfold nm; omega) (by unfold nm; omega) (fun u h1 h2 => by unfold WT nm; omega)) (D1 _ (by unfold nm; omega) (by unfold nm; omega) (by unfold nm; omega) (fun u h1 h2 => by unfold WT nm; omega)) (D1 _ (by unfold nm; omega) (by unfold nm; omega) (by unfold nm; omega) (fun u h1 h2 => by unfold WT nm; omega)) (D1 _ (by unfold nm; omega) (by unfold nm; omega) (by unfold nm; omega) (fun u h1 h2 => by unfold WT nm; omega)) (D1 _ (by unfold nm; omega) (by unfold nm; omega) (by unfold nm; omega) (fun u h1 h2 => by unfold WT nm; omega)) (D1 _ (by unfold nm; omega) (by unfold nm; omega) (by unfold nm; omega) (fun u h1 h2 => by unfold WT nm; omega)) (D1 _ (by unfold nm; omega) (by unfold nm; omega) (by unfold nm; omega) (fun u h1 h2 => by unfold WT nm; omega)) (fun z => D1 _ (by unfold nm; omega) (by unfold nm; omega) (by unfold nm; omega) (fun u h1 h2 => by unfold WT nm; omega)) (D1 0 (by unfold nm; omega) (by unfold nm; omega) (by unfold nm; omega) (fun u h1 h2 => by unfold WT; omega)) (fun k _ => D1 _ (by unfold nm; omega) (by unfold nm; omega) (by unfold nm; omega) (fun u h1 h2 => by unfold WT nm; omega))
  have D2 : ∀ a, a ≠ nm 1 17 → a ≠ nm 1 18 → a ≠ nm 1 0 → (∀ u, 2 < u → u < 3 → ¬ WT u a) → ce HF a = ce H2 a := fun a h1 h2 h3 h4 => (E a h1 h2 h3).trans (ce_wR h1)
  have T2 : OT HF 2 OT0 := O2.frm (D2 _ (by unfold nm; omega) (by unfold nm; omega) (by unfold nm; omega) (fun u h1 h2 => by unfold WT nm; omega)) (D2 _ (by unfold nm; omega) (by unfold nm; omega) (by unfold nm; omega) (fun u h1 h2 => by unfold WT nm; omega)) (D2 _ (by unfold nm; omega) (by unfold nm; omega) (by unfold nm; omega) (fun u h1 h2 => by unfold WT nm; omega)) (D2 _ (by unfold nm; omega) (by unfold nm; omega) (by unfold nm; omega) (fun u h1 h2 => by unfold WT nm; omega)) (D2 _ (by unfold nm; omega) (by unfold nm; omega) (by unfold nm; omega) (fun u h1 h2 => by unfold WT nm; omega)) (D2 _ (by unfold nm; omega) (by unfold nm; omega) (by unfold nm; omega) (fun u h1 h2 => by unfold WT nm; omega)) (D2 _ (by unfold nm; omega) (by unfold nm; omega) (by unfold nm; omega) (fun u h1 h2 => by unfold WT nm; omega)) (fun z => D2 _ (by unfold nm; omega) (by unfold nm; omega) (by unfold nm; omega) (fun u h1 h2 => by unfold WT nm; omega)) (D2 0 (by unfold nm; omega) (by unfold nm; omega) (by unfold nm; omega) (fun u h1 h2 => by unfold WT; omega)) (fun k _ => D2 _ (by unfold nm; omega) (by unfold nm; omega) (by unfold nm; omega) (fun u h1 h2 => by unfold WT nm; omega))
  refine hq _ ⟨MFH, gI 1, gI 2, fun j => hz 3 (by decide) (by decide) j, fun j => hz 4 (by decide) (by decide) j, fun j => hz 5 (by decide) (by decide) j, fun j => hz 6 (by decide) (by decide) j, fun j => hz 7 (by decide) (by decide) j, fun j => hz 8 (by decide) (by decide) j, fun j => hz 9 (by decide) (by decide) j, fun j => hz 10 (by decide) (by decide) j⟩ (fun rr aa => ⟨⟨MFH, gk.2.1, gk.2.2, gI 15, gI 16⟩, ⟨l13, fun r hr => absurd hr (Nat.not_lt_zero _), fI _ _ (by decide) (by decide) (by decide) (by decide), fI _ _ (by decide) (by decide) (by decide) (by decide), fL _ _ (by decide) (by decide) (by decide) (by decide)⟩, ⟨l18, fun r hr => absurd hr (Nat.not_lt_zero _), fI _ _ (by decide) (by decide) (by decide) (by decide), fI _ _ (by decide) (by decide) (by decide) (by decide), fL _ _ (by decide) (by decide) (by decide) (by decide)⟩, fun t ht => ?_, l14⟩) (fun x => ⟨MFH, l11, fun s hs => absurd hs (Nat.not_lt_zero _), fI _ _ (by decide) (by decide) (by decide) (by decide), fI _ _ (by decide) (by decide) (by decide) (by decide), fL _ _ (by decide) (by decide) (by decide) (by decide)⟩) ⟨⟨0, fI _ _ (by decide) (by decide) (by decide) (by decide)⟩, 0, fI _ _ (by decide) (by decide) (by decide) (by decide)⟩ (fun a ha => E3 a (fun e => ha (by rw [e]; unfold WMD nm; omega)) (fun e => ha (by rw [e]; unfold WMD nm; omega)) (fun e => ha (by rw [e]; unfold WMD nm; omega)) (fun u hu z => ha (by unfold WT at z; unfold WMD; omega)))
  have : t = 0 ∨ t = 1 ∨ t = 2 := by omega
  rcases this with e | e | e <;> subst e
  · exact T0
  · exact T1
  · exact T2
set_option maxRecDepth 100000 in
set_option maxHeartbeats 4000000 in
theorem c_X16_init {G : GG} {d bc bs : Nat} {h : Hp} {Q : Pst} (hfr : ∀ a, WMD a → a ≠ nm 1 0 → h_k h a = 0) (J : JC h) (hd : 7 ≤ d) (hbc : 60 ≤ bc) (hbs : 160000 ≤ bs) (hq : ∀ h', MP h' (nm 1 0) (nm 1) SV0 → (∀ rr aa, MR h' (RS0 rr aa)) → (∀ x, MSQ h' 0 x) → PO2 h' → Fr h h' WMD → Q oVoid h') : WP G m_X16_init d 0 (aargs 0 [vr (some (nm 1 0))]) [] (mk h (nm 1 0) 18 0) bc bs Q := by
  have hf0 : ∀ i, i ≠ 0 → h_k h (nm 1 i) = 0 := fun i hi => hfr _ (by unfold WMD nm; omega) (by unfold nm; omega)
  have hfa : ∀ a, FRE a → h_k h a = 0 := fun a ha => hfr a (by unfold FRE nm at ha; unfold WMD; omega) (by unfold FRE nm at ha; unfold nm; omega)
  refine wp_sub [(0, vr (some (nm 1 0)))] (fun _ hz => hz) ?_
  have q16 : clN 16 = 10 := rfl
  have q2 : clN 2 = 3 := rfl
  refine wp_aload_n (i := 0) dX16_init_0 rfl rfl ?_
  refine wp_objInit dX16_init_1 ml_X16_1 im_java_lang_Object__init____V co_obj (by omega) (by decide) ?_
  refine wp_aload_n (i := 0) dX16_init_4 rfl rfl ?_
  refine wp_bipush (nI 60) dX16_init_5 (by decide) ?_
  refine wp_newarray 103 60 .char dX16_init_7 rfl rfl aw_char (nI_nn (by omega)) (nI_clamp (by omega)) (by omega) (by decide) pl_char (by omega) (by omega) (nm 1 3) (by simp [gI_wI, gI_wR, gI_mk, gR_wI, gR_wR, gR_mk, gk_wI, gk_wR, gk_mk, gn_wI, gn_wR, gn_mk, nm_eq, nm_i]; exact hf0 3 (by decide)) ?_
  refine wp_putRF 17 3 dX16_init_9 (by simp [gI_wI, gI_wR, gI_mk, gR_wI, gR_wR, gR_mk, gk_wI, gk_wR, gk_mk, gn_wI, gn_wR, gn_mk, nm_eq, nm_i]) (by decide) (by decide) (by decide) fl_X16_7 rfl rfl rfl (fun _ _ => rfl) rfl ?_
  refine wp_aload_n (i := 0) dX16_init_12 rfl rfl ?_
  refine wp_bipush (nI 60) dX16_init_13 (by decide) ?_
  refine wp_newarray 101 60 .int dX16_init_15 rfl rfl aw_int (nI_nn (by omega)) (nI_clamp (by omega)) (by omega) (by decide) pl_int (by omega) (by omega) (nm 1 4) (by simp [gI_wI, gI_wR, gI_mk, gR_wI, gR_wR, gR_mk, gk_wI, gk_wR, gk_mk, gn_wI, gn_wR, gn_mk, nm_eq, nm_i]; exact hf0 4 (by decide)) ?_
  refine wp_putRF 17 4 dX16_init_17 (by simp [gI_wI, gI_wR, gI_mk, gR_wI, gR_wR, gR_mk, gk_wI, gk_wR, gk_mk, gn_wI, gn_wR, gn_mk, nm_eq, nm_i]) (by decide) (by decide) (by decide) fl_X16_13 rfl rfl rfl (fun _ _ => rfl) rfl ?_
  refine wp_aload_n (i := 0) dX16_init_20 rfl rfl ?_
  refine wp_sipush (nI 3840) dX16_init_21 (by decide) ?_
  refine wp_newarray 101 3840 .int dX16_init_24 rfl rfl aw_int (nI_nn (by omega)) (nI_clamp (by omega)) (by omega) (by decide) pl_int (by omega) (by omega) (nm 1 5) (by simp [gI_wI, gI_wR, gI_mk, gR_wI, gR_wR, gR_mk, gk_wI, gk_wR, gk_mk, gn_wI, gn_wR, gn_mk, nm_eq, nm_i]; exact hf0 5 (by decide)) ?_
  refine wp_putRF 17 5 dX16_init_26 (by simp [gI_wI, gI_wR, gI_mk, gR_wI, gR_wR, gR_mk, gk_wI, gk_wR, gk_mk, gn_wI, gn_wR, gn_mk, nm_eq, nm_i]) (by decide) (by decide) (by decide) fl_X16_17 rfl rfl rfl (fun _ _ => rfl) rfl ?_
  refine wp_aload_n (i := 0) dX16_init_29 rfl rfl ?_
  refine wp_sipush (nI 1260) dX16_init_30 (by decide) ?_
  refine wp_newarray 101 1260 .int dX16_init_33 rfl rfl aw_int (nI_nn (by omega)) (nI_clamp (by omega)) (by omega) (by decide) pl_int (by omega) (by omega) (nm 1 6) (by simp [gI_wI, gI_wR, gI_mk, gR_wI, gR_wR, gR_mk, gk_wI, gk_wR, gk_mk, gn_wI, gn_wR, gn_mk, nm_eq, nm_i]; exact hf0 6 (by decide)) ?_
  refine wp_putRF 17 6 dX16_init_35 (by simp [gI_wI, gI_wR, gI_mk, gR_wI, gR_wR, gR_mk, gk_wI, gk_wR, gk_mk, gn_wI, gn_wR, gn_mk, nm_eq, nm_i]) (by decide) (by decide) (by decide) fl_X16_20 rfl rfl rfl (fun _ _ => rfl) rfl ?_
  refine wp_aload_n (i := 0) dX16_init_38 rfl rfl ?_
  refine wp_sipush (nI 1260) dX16_init_39 (by decide) ?_
  refine wp_newarray 102 1260 .boolean dX16_init_42 rfl rfl aw_boolean (nI_nn (by omega)) (nI_clamp (by omega)) (by omega) (by decide) pl_boolean (by omega) (by omega) (nm 1 7) (by simp [gI_wI, gI_wR, gI_mk, gR_wI, gR_wR, gR_mk, gk_wI, gk_wR, gk_mk, gn_wI, gn_wR, gn_mk, nm_eq, nm_i]; exact hf0 7 (by decide)) ?_
  refine wp_putRF 17 7 dX16_init_44 (by simp [gI_wI, gI_wR, gI_mk, gR_wI, gR_wR, gR_mk, gk_wI, gk_wR, gk_mk, gn_wI, gn_wR, gn_mk, nm_eq, nm_i]) (by decide) (by decide) (by decide) fl_X16_23 rfl rfl rfl (fun _ _ => rfl) rfl ?_
  refine wp_aload_n (i := 0) dX16_init_47 rfl rfl ?_
  refine wp_ldc dX16_init_48 cn_X16_27 ?_
  refine wp_newarray 102 60000 .boolean dX16_init_50 rfl rfl aw_boolean (by decide) (by decide) (by omega) (by decide) pl_boolean (by omega) (by omega) (nm 1 8) (by simp [gI_wI, gI_wR, gI_mk, gR_wI, gR_wR, gR_mk, gk_wI, gk_wR, gk_mk, gn_wI, gn_wR, gn_mk, nm_eq, nm_i]; exact hf0 8 (by decide)) ?_
  refine wp_putRF 17 8 dX16_init_52 (by simp [gI_wI, gI_wR, gI_mk, gR_wI, gR_wR, gR_mk, gk_wI, gk_wR, gk_mk, gn_wI, gn_wR, gn_mk, nm_eq, nm_i]) (by decide) (by decide) (by decide) fl_X16_28 rfl rfl rfl (fun _ _ => rfl) rfl ?_
  refine wp_aload_n (i := 0) dX16_init_55 rfl rfl ?_
  refine wp_ldc dX16_init_56 cn_X16_27 ?_
  refine wp_newarray 101 60000 .int dX16_init_58 rfl rfl aw_int (by decide) (by decide) (by omega) (by decide) pl_int (by omega) (by omega) (nm 1 9) (by simp [gI_wI, gI_wR, gI_mk, gR_wI, gR_wR, gR_mk, gk_wI, gk_wR, gk_mk, gn_wI, gn_wR, gn_mk, nm_eq, nm_i]; exact hf0 9 (by decide)) ?_
  refine wp_putRF 17 9 dX16_init_60 (by simp [gI_wI, gI_wR, gI_mk, gR_wI, gR_wR, gR_mk, gk_wI, gk_wR, gk_mk, gn_wI, gn_wR, gn_mk, nm_eq, nm_i]) (by decide) (by decide) (by decide) fl_X16_31 rfl rfl rfl (fun _ _ => rfl) rfl ?_
  refine wp_aload_n (i := 0) dX16_init_63 rfl rfl ?_
  refine wp_sipush (nI 20460) dX16_init_64 (by decide) ?_
  refine wp_newarray 101 20460 .int dX16_init_67 rfl rfl aw_int (nI_nn (by omega)) (nI_clamp (by omega)) (by omega) (by decide) pl_int (by omega) (by omega) (nm 1 10) (by simp [gI_wI, gI_wR, gI_mk, gR_wI, gR_wR, gR_mk, gk_wI, gk_wR, gk_mk, gn_wI, gn_wR, gn_mk, nm_eq, nm_i]; exact hf0 10 (by decide)) ?_
  refine wp_putRF 17 10 dX16_init_69 (by simp [gI_wI, gI_wR, gI_mk, gR_wI, gR_wR, gR_mk, gk_wI, gk_wR, gk_mk, gn_wI, gn_wR, gn_mk, nm_eq, nm_i]) (by decide) (by decide) (by decide) fl_X16_34 rfl rfl rfl (fun _ _ => rfl) rfl ?_
  refine wp_aload_n (i := 0) dX16_init_72 rfl rfl ?_
  refine wp_new 2 dX16_init_73 (by decide) kl_X16_37 ins_Jx4a65c ini_Jx4a65c (by omega) (by show 3 ≤ _; omega) (nm 1 11) (by simp [gI_wI, gI_wR, gI_mk, gR_wI, gR_wR, gR_mk, gk_wI, gk_wR, gk_mk, gn_wI, gn_wR, gn_mk, nm_eq, nm_i]; exact hf0 11 (by decide)) ?_
  have hkl : h_k (mk (nwF (nwF (nwF (nwF (nwF (nwF (nwF (nwF (mk h (nm 1 0) 18 0) (nm 1 0) 3 (nm 1 3) 103 60) (nm 1 0) 4 (nm 1 4) 101 60) (nm 1 0) 5 (nm 1 5) 101 3840) (nm 1 0) 6 (nm 1 6) 101 1260) (nm 1 0) 7 (nm 1 7) 102 1260) (nm 1 0) 8 (nm 1 8) 102 60000) (nm 1 0) 9 (nm 1 9) 101 60000) (nm 1 0) 10 (nm 1 10) 101 20460) (nm 1 11) 3 0) (nm 1 11) = 3 := by rw [gk_mk, if_pos rfl]
  refine wp_dup dX16_init_76 ?_
  refine wp_cI (y' := m_Jx4a65c_init_da8c8) [] [vr (some (nm 1 11)), vr (some (nm 1 0))] 0 0 dX16_init_77 ml_X16_39 im_Jx4a65c_init_da8c8 rfl rfl ok_Jx4a65c_init_da8c8 rfl (Nat.le_of_ble_eq_true rfl) rfl (Nat.le_of_ble_eq_true rfl) (d' := d - 1) (by omega) (Nat.zero_le _) (Nat.zero_le _) (c_AL_init hkl (by omega) (cont_void ?_))
  refine wp_putRF 17 11 dX16_init_80 (by simp [gI_wI, gI_wR, gI_mk, gR_wI, gR_wR, gR_mk, gk_wI, gk_wR, gk_mk, gn_wI, gn_wR, gn_mk, nm_eq, nm_i]) (by decide) (by decide) (by decide) fl_X16_40 rfl rfl rfl (fun _ _ => rfl) rfl ?_
  refine wp_aload_n (i := 0) dX16_init_83 rfl rfl ?_
  refine wp_bipush (nI 12) dX16_init_84 (by decide) ?_
  refine wp_newarray 101 12 .int dX16_init_86 rfl rfl aw_int (nI_nn (by omega)) (nI_clamp (by omega)) (by omega) (by decide) pl_int (by omega) (by omega) (nm 1 12) (by simp [gI_wI, gI_wR, gI_mk, gR_wI, gR_wR, gR_mk, gk_wI, gk_wR, gk_mk, gn_wI, gn_wR, gn_mk, nm_eq, nm_i]; exact hf0 12 (by decide)) ?_
  refine wp_putRF 17 12 dX16_init_88 (by simp [gI_wI, gI_wR, gI_mk, gR_wI, gR_wR, gR_mk, gk_wI, gk_wR, gk_mk, gn_wI, gn_wR, gn_mk, nm_eq, nm_i]) (by decide) (by decide) (by decide) fl_X16_44 rfl rfl rfl (fun _ _ => rfl) rfl ?_
  refine wp_aload_n (i := 0) dX16_init_91 rfl rfl ?_
  refine wp_new 2 dX16_init_92 (by decide) kl_X16_37 ins_Jx4a65c ini_Jx4a65c (by omega) (by show 3 ≤ _; omega) (nm 1 13) (by simp [gI_wI, gI_wR, gI_mk, gR_wI, gR_wR, gR_mk, gk_wI, gk_wR, gk_mk, gn_wI, gn_wR, gn_mk, nm_eq, nm_i]; exact hf0 13 (by decide)) ?_
  have hkl : h_k (mk (nwF (wR (wR (wI (mk (nwF (nwF (nwF (nwF (nwF (nwF (nwF (nwF (mk h (nm 1 0) 18 0) (nm 1 0) 3 (nm 1 3) 103 60) (nm 1 0) 4 (nm 1 4) 101 60) (nm 1 0) 5 (nm 1 5) 101 3840) (nm 1 0) 6 (nm 1 6) 101 1260) (nm 1 0) 7 (nm 1 7) 102 1260) (nm 1 0) 8 (nm 1 8) 102 60000) (nm 1 0) 9 (nm 1 9) 101 60000) (nm 1 0) 10 (nm 1 10) 101 20460) (nm 1 11) 3 0) (nm 1 11) 0 (nI 0)) (nm 1 11) 1 (some 0)) (nm 1 0) 11 (some (nm 1 11))) (nm 1 0) 12 (nm 1 12) 101 12) (nm 1 13) 3 0) (nm 1 13) = 3 := by rw [gk_mk, if_pos rfl]
  refine wp_dup dX16_init_95 ?_
  refine wp_cI (y' := m_Jx4a65c_init_da8c8) [] [vr (some (nm 1 13)), vr (some (nm 1 0))] 0 0 dX16_init_96 ml_X16_39 im_Jx4a65c_init_da8c8 rfl rfl ok_Jx4a65c_init_da8c8 rfl (Nat.le_of_ble_eq_true rfl) rfl (Nat.le_of_ble_eq_true rfl) (d' := d - 1) (by omega) (Nat.zero_le _) (Nat.zero_le _) (c_AL_init hkl (by omega) (cont_void ?_))
  refine wp_putRF 17 13 dX16_init_99 (by simp [gI_wI, gI_wR, gI_mk, gR_wI, gR_wR, gR_mk, gk_wI, gk_wR, gk_mk, gn_wI, gn_wR, gn_mk, nm_eq, nm_i]) (by decide) (by decide) (by decide) fl_X16_47 rfl rfl rfl (fun _ _ => rfl) rfl ?_
  refine wp_aload_n (i := 0) dX16_init_102 rfl rfl ?_
  refine wp_new 2 dX16_init_103 (by decide) kl_X16_37 ins_Jx4a65c ini_Jx4a65c (by omega) (by show 3 ≤ _; omega) (nm 1 14) (by simp [gI_wI, gI_wR, gI_mk, gR_wI, gR_wR, gR_mk, gk_wI, gk_wR, gk_mk, gn_wI, gn_wR, gn_mk, nm_eq, nm_i]; exact hf0 14 (by decide)) ?_
  have hkl : h_k (mk (wR (wR (wI (mk (nwF (wR (wR (wI (mk (nwF (nwF (nwF (nwF (nwF (nwF (nwF (nwF (mk h (nm 1 0) 18 0) (nm 1 0) 3 (nm 1 3) 103 60) (nm 1 0) 4 (nm 1 4) 101 60) (nm 1 0) 5 (nm 1 5) 101 3840) (nm 1 0) 6 (nm 1 6) 101 1260) (nm 1 0) 7 (nm 1 7) 102 1260) (nm 1 0) 8 (nm 1 8) 102 60000) (nm 1 0) 9 (nm 1 9) 101 60000) (nm 1 0) 10 (nm 1 10) 101 20460) (nm 1 11) 3 0) (nm 1 11) 0 (nI 0)) (nm 1 11) 1 (some 0)) (nm 1 0) 11 (some (nm 1 11))) (nm 1 0) 12 (nm 1 12) 101 12) (nm 1 13) 3 0) (nm 1 13) 0 (nI 0)) (nm 1 13) 1 (some 0)) (nm 1 0) 13 (some (nm 1 13))) (nm 1 14) 3 0) (nm 1 14) = 3 := by rw [gk_mk, if_pos rfl]
  refine wp_dup dX16_init_106 ?_
  refine wp_cI (y' := m_Jx4a65c_init_da8c8) [] [vr (some (nm 1 14)), vr (some (nm 1 0))] 0 0 dX16_init_107 ml_X16_39 im_Jx4a65c_init_da8c8 rfl rfl ok_Jx4a65c_init_da8c8 rfl (Nat.le_of_ble_eq_true rfl) rfl (Nat.le_of_ble_eq_true rfl) (d' := d - 1) (by omega) (Nat.zero_le _) (Nat.zero_le _) (c_AL_init hkl (by omega) (cont_void ?_))
  refine wp_putRF 17 14 dX16_init_110 (by simp [gI_wI, gI_wR, gI_mk, gR_wI, gR_wR, gR_mk, gk_wI, gk_wR, gk_mk, gn_wI, gn_wR, gn_mk, nm_eq, nm_i]) (by decide) (by decide) (by decide) fl_X16_50 rfl rfl rfl (fun _ _ => rfl) rfl ?_
  obtain ⟨H, eH⟩ : ∃ z, z = (wR (wR (wI (mk (wR (wR (wI (mk (nwF (wR (wR (wI (mk (nwF (nwF (nwF (nwF (nwF (nwF (nwF (nwF (mk h (nm 1 0) 18 0) (nm 1 0) 3 (nm 1 3) 103 60) (nm 1 0) 4 (nm 1 4) 101 60) (nm 1 0) 5 (nm 1 5) 101 3840) (nm 1 0) 6 (nm 1 6) 101 1260) (nm 1 0) 7 (nm 1 7) 102 1260) (nm 1 0) 8 (nm 1 8) 102 60000) (nm 1 0) 9 (nm 1 9) 101 60000) (nm 1 0) 10 (nm 1 10) 101 20460) (nm 1 11) 3 0) (nm 1 11) 0 (nI 0)) (nm 1 11) 1 (some 0)) (nm 1 0) 11 (some (nm 1 11))) (nm 1 0) 12 (nm 1 12) 101 12) (nm 1 13) 3 0) (nm 1 13) 0 (nI 0)) (nm 1 13) 1 (some 0)) (nm 1 0) 13 (some (nm 1 13))) (nm 1 14) 3 0) (nm 1 14) 0 (nI 0)) (nm 1 14) 1 (some 0)) (nm 1 0) 14 (some (nm 1 14))) := ⟨_, rfl⟩
  rw [← eH]
  have A3 : h_R H (nm 1 0) 3 = some (nm 1 3) ∧ h_k H (nm 1 3) = mkd 3 ∧ (∀ j, h_I H (nm 1 3) j = 0) := by rw [eH]; exact ⟨by simp [gI_wI, gI_wR, gI_mk, gR_wI, gR_wR, gR_mk, gk_wI, gk_wR, gk_mk, gn_wI, gn_wR, gn_mk, nm_eq, nm_i], by simp [gI_wI, gI_wR, gI_mk, gR_wI, gR_wR, gR_mk, gk_wI, gk_wR, gk_mk, gn_wI, gn_wR, gn_mk, nm_eq, nm_i]; rfl, fun j => by simp [gI_wI, gI_wR, gI_mk, gR_wI, gR_wR, gR_mk, gk_wI, gk_wR, gk_mk, gn_wI, gn_wR, gn_mk, nm_eq, nm_i]⟩
  have B3 : h_n H (nm 1 3) = mlen 3 := by rw [eH]; simp [gI_wI, gI_wR, gI_mk, gR_wI, gR_wR, gR_mk, gk_wI, gk_wR, gk_mk, gn_wI, gn_wR, gn_mk, nm_eq, nm_i]; rfl
  have A4 : h_R H (nm 1 0) 4 = some (nm 1 4) ∧ h_k H (nm 1 4) = mkd 4 ∧ (∀ j, h_I H (nm 1 4) j = 0) := by rw [eH]; exact ⟨by simp [gI_wI, gI_wR, gI_mk, gR_wI, gR_wR, gR_mk, gk_wI, gk_wR, gk_mk, gn_wI, gn_wR, gn_mk, nm_eq, nm_i], by simp [gI_wI, gI_wR, gI_mk, gR_wI, gR_wR, gR_mk, gk_wI, gk_wR, gk_mk, gn_wI, gn_wR, gn_mk, nm_eq, nm_i]; rfl, fun j => by simp [gI_wI, gI_wR, gI_mk, gR_wI, gR_wR, gR_mk, gk_wI, gk_wR, gk_mk, gn_wI, gn_wR, gn_mk, nm_eq, nm_i]⟩
  have B4 : h_n H (nm 1 4) = mlen 4 := by rw [eH]; simp [gI_wI, gI_wR, gI_mk, gR_wI, gR_wR, gR_mk, gk_wI, gk_wR, gk_mk, gn_wI, gn_wR, gn_mk, nm_eq, nm_i]; rfl
  have A5 : h_R H (nm 1 0) 5 = some (nm 1 5) ∧ h_k H (nm 1 5) = mkd 5 ∧ (∀ j, h_I H (nm 1 5) j = 0) := by rw [eH]; exact ⟨by simp [gI_wI, gI_wR, gI_mk, gR_wI, gR_wR, gR_mk, gk_wI, gk_wR, gk_mk, gn_wI, gn_wR, gn_mk, nm_eq, nm_i], by simp [gI_wI, gI_wR, gI_mk, gR_wI, gR_wR, gR_mk, gk_wI, gk_wR, gk_mk, gn_wI, gn_wR, gn_mk, nm_eq, nm_i]; rfl, fun j => by simp [gI_wI, gI_wR, gI_mk, gR_wI, gR_wR, gR_mk, gk_wI, gk_wR, gk_mk, gn_wI, gn_wR, gn_mk, nm_eq, nm_i]⟩
  have B5 : h_n H (nm 1 5) = mlen 5 := by rw [eH]; simp [gI_wI, gI_wR, gI_mk, gR_wI, gR_wR, gR_mk, gk_wI, gk_wR, gk_mk, gn_wI, gn_wR, gn_mk, nm_eq, nm_i]; rfl
  have A6 : h_R H (nm 1 0) 6 = some (nm 1 6) ∧ h_k H (nm 1 6) = mkd 6 ∧ (∀ j, h_I H (nm 1 6) j = 0) := by rw [eH]; exact ⟨by simp [gI_wI, gI_wR, gI_mk, gR_wI, gR_wR, gR_mk, gk_wI, gk_wR, gk_mk, gn_wI, gn_wR, gn_mk, nm_eq, nm_i], by simp [gI_wI, gI_wR, gI_mk, gR_wI, gR_wR, gR_mk, gk_wI, gk_wR, gk_mk, gn_wI, gn_wR, gn_mk, nm_eq, nm_i]; rfl, fun j => by simp [gI_wI, gI_wR, gI_mk, gR_wI, gR_wR, gR_mk, gk_wI, gk_wR, gk_mk, gn_wI, gn_wR, gn_mk, nm_eq, nm_i]⟩
  have B6 : h_n H (nm 1 6) = mlen 6 := by rw [eH]; simp [gI_wI, gI_wR, gI_mk, gR_wI, gR_wR, gR_mk, gk_wI, gk_wR, gk_mk, gn_wI, gn_wR, gn_mk, nm_eq, nm_i]; rfl
  have A7 : h_R H (nm 1 0) 7 = some (nm 1 7) ∧ h_k H (nm 1 7) = mkd 7 ∧ (∀ j, h_I H (nm 1 7) j = 0) := by rw [eH]; exact ⟨by simp [gI_wI, gI_wR, gI_mk, gR_wI, gR_wR, gR_mk, gk_wI, gk_wR, gk_mk, gn_wI, gn_wR, gn_mk, nm_eq, nm_i], by simp [gI_wI, gI_wR, gI_mk, gR_wI, gR_wR, gR_mk, gk_wI, gk_wR, gk_mk, gn_wI, gn_wR, gn_mk, nm_eq, nm_i]; rfl, fun j => by simp [gI_wI, gI_wR, gI_mk, gR_wI, gR_wR, gR_mk, gk_wI, gk_wR, gk_mk, gn_wI, gn_wR, gn_mk, nm_eq, nm_i]⟩
  have B7 : h_n H (nm 1 7) = mlen 7 := by rw [eH]; simp [gI_wI, gI_wR, gI_mk, gR_wI, gR_wR, gR_mk, gk_wI, gk_wR, gk_mk, gn_wI, gn_wR, gn_mk, nm_eq, nm_i]; rfl
  have A8 : h_R H (nm 1 0) 8 = some (nm 1 8) ∧ h_k H (nm 1 8) = mkd 8 ∧ (∀ j, h_I H (nm 1 8) j = 0) := by rw [eH]; exact ⟨by simp [gI_wI, gI_wR, gI_mk, gR_wI, gR_wR, gR_mk, gk_wI, gk_wR, gk_mk, gn_wI, gn_wR, gn_mk, nm_eq, nm_i], by simp [gI_wI, gI_wR, gI_mk, gR_wI, gR_wR, gR_mk, gk_wI, gk_wR, gk_mk, gn_wI, gn_wR, gn_mk, nm_eq, nm_i]; rfl, fun j => by simp [gI_wI, gI_wR, gI_mk, gR_wI, gR_wR, gR_mk, gk_wI, gk_wR, gk_mk, gn_wI, gn_wR, gn_mk, nm_eq, nm_i]⟩
  have B8 : h_n H (nm 1 8) = mlen 8 := by rw [eH]; simp [gI_wI, gI_wR, gI_mk, gR_wI, gR_wR, gR_mk, gk_wI, gk_wR, gk_mk, gn_wI, gn_wR, gn_mk, nm_eq, nm_i]; rfl
  have A9 : h_R H (nm 1 0) 9 = some (nm 1 9) ∧ h_k H (nm 1 9) = mkd 9 ∧ (∀ j, h_I H (nm 1 9) j = 0) := by rw [eH]; exact ⟨by simp [gI_wI, gI_wR, gI_mk, gR_wI, gR_wR, gR_mk, gk_wI, gk_wR, gk_mk, gn_wI, gn_wR, gn_mk, nm_eq, nm_i], by simp [gI_wI, gI_wR, gI_mk, gR_wI, gR_wR, gR_mk, gk_wI, gk_wR, gk_mk, gn_wI, gn_wR, gn_mk, nm_eq, nm_i]; rfl, fun j => by simp [gI_wI, gI_wR, gI_mk, gR_wI, gR_wR, gR_mk, gk_wI, gk_wR, gk_mk, gn_wI, gn_wR, gn_mk, nm_eq, nm_i]⟩
  have B9 : h_n H (nm 1 9) = mlen 9 := by rw [eH]; simp [gI_wI, gI_wR, gI_mk, gR_wI, gR_wR, gR_mk, gk_wI, gk_wR, gk_mk, gn_wI, gn_wR, gn_mk, nm_eq, nm_i]; rfl
  have A10 : h_R H (nm 1 0) 10 = some (nm 1 10) ∧ h_k H (nm 1 10) = mkd 10 ∧ (∀ j, h_I H (nm 1 10) j = 0) := by rw [eH]; exact ⟨by simp [gI_wI, gI_wR, gI_mk, gR_wI, gR_wR, gR_mk, gk_wI, gk_wR, gk_mk, gn_wI, gn_wR, gn_mk, nm_eq, nm_i], by simp [gI_wI, gI_wR, gI_mk, gR_wI, gR_wR, gR_mk, gk_wI, gk_wR, gk_mk, gn_wI, gn_wR, gn_mk, nm_eq, nm_i]; rfl, fun j => by simp [gI_wI, gI_wR, gI_mk, gR_wI, gR_wR, gR_mk, gk_wI, gk_wR, gk_mk, gn_wI, gn_wR, gn_mk, nm_eq, nm_i]⟩
  have B10 : h_n H (nm 1 10) = mlen 10 := by rw [eH]; simp [gI_wI, gI_wR, gI_mk, gR_wI, gR_wR, gR_mk, gk_wI, gk_wR, gk_mk, gn_wI, gn_wR, gn_mk, nm_eq, nm_i]; rfl
  have A11 : h_R H (nm 1 0) 11 = some (nm 1 11) ∧ h_k H (nm 1 11) = mkd 11 ∧ (∀ j, h_I H (nm 1 11) j = 0) := by rw [eH]; exact ⟨by simp [gI_wI, gI_wR, gI_mk, gR_wI, gR_wR, gR_mk, gk_wI, gk_wR, gk_mk, gn_wI, gn_wR, gn_mk, nm_eq, nm_i], by simp [gI_wI, gI_wR, gI_mk, gR_wI, gR_wR, gR_mk, gk_wI, gk_wR, gk_mk, gn_wI, gn_wR, gn_mk, nm_eq, nm_i]; rfl, fun j => by simp [gI_wI, gI_wR, gI_mk, gR_wI, gR_wR, gR_mk, gk_wI, gk_wR, gk_mk, gn_wI, gn_wR, gn_mk, nm_eq, nm_i]; intro _ ; rfl⟩
  have A12 : h_R H (nm 1 0) 12 = some (nm 1 12) ∧ h_k H (nm 1 12) = mkd 12 ∧ (∀ j, h_I H (nm 1 12) j = 0) := by rw [eH]; exact ⟨by simp [gI_wI, gI_wR, gI_mk, gR_wI, gR_wR, gR_mk, gk_wI, gk_wR, gk_mk, gn_wI, gn_wR, gn_mk, nm_eq, nm_i], by simp [gI_wI, gI_wR, gI_mk, gR_wI, gR_wR, gR_mk, gk_wI, gk_wR, gk_mk, gn_wI, gn_wR, gn_mk, nm_eq, nm_i]; rfl, fun j => by simp [gI_wI, gI_wR, gI_mk, gR_wI, gR_wR, gR_mk, gk_wI, gk_wR, gk_mk, gn_wI, gn_wR, gn_mk, nm_eq, nm_i]⟩
  have B12 : h_n H (nm 1 12) = mlen 12 := by rw [eH]; simp [gI_wI, gI_wR, gI_mk, gR_wI, gR_wR, gR_mk, gk_wI, gk_wR, gk_mk, gn_wI, gn_wR, gn_mk, nm_eq, nm_i]; rfl
  have A13 : h_R H (nm 1 0) 13 = some (nm 1 13) ∧ h_k H (nm 1 13) = mkd 13 ∧ (∀ j, h_I H (nm 1 13) j = 0) := by rw [eH]; exact ⟨by simp [gI_wI, gI_wR, gI_mk, gR_wI, gR_wR, gR_mk, gk_wI, gk_wR, gk_mk, gn_wI, gn_wR, gn_mk, nm_eq, nm_i], by simp [gI_wI, gI_wR, gI_mk, gR_wI, gR_wR, gR_mk, gk_wI, gk_wR, gk_mk, gn_wI, gn_wR, gn_mk, nm_eq, nm_i]; rfl, fun j => by simp [gI_wI, gI_wR, gI_mk, gR_wI, gR_wR, gR_mk, gk_wI, gk_wR, gk_mk, gn_wI, gn_wR, gn_mk, nm_eq, nm_i]; intro _ ; rfl⟩
  have A14 : h_R H (nm 1 0) 14 = some (nm 1 14) ∧ h_k H (nm 1 14) = mkd 14 ∧ (∀ j, h_I H (nm 1 14) j = 0) := by rw [eH]; exact ⟨by simp [gI_wI, gI_wR, gI_mk, gR_wI, gR_wR, gR_mk, gk_wI, gk_wR, gk_mk, gn_wI, gn_wR, gn_mk, nm_eq, nm_i], by simp [gI_wI, gI_wR, gI_mk, gR_wI, gR_wR, gR_mk, gk_wI, gk_wR, gk_mk, gn_wI, gn_wR, gn_mk, nm_eq, nm_i]; rfl, fun j => by simp [gI_wI, gI_wR, gI_mk, gR_wI, gR_wR, gR_mk, gk_wI, gk_wR, gk_mk, gn_wI, gn_wR, gn_mk, nm_eq, nm_i]; intro _ ; rfl⟩
  have CE : ∀ a, (∀ i, i ≤ 14 → a ≠ nm 1 i) → ce H a = ce h a := fun a ha => by
    have n0 := ha 0 (by decide)
    have n3 := ha 3 (by decide)
    have n4 := ha 4 (by decide)
    have n5 := ha 5 (by decide)
    have n6 := ha 6 (by decide)
    have n7 := ha 7 (by decide)
    have n8 := ha 8 (by decide)
    have n9 := ha 9 (by decide)
    have n10 := ha 10 (by decide)
    have n11 := ha 11 (by decide)
    have n12 := ha 12 (by decide)
    have n13 := ha 13 (by decide)
    have n14 := ha 14 (by decide)
    rw [eH]
    exact (ce_wR n0).trans ((ce_wR n14).trans ((ce_wI n14).trans ((ce_mk n14).trans ((ce_wR n0).trans ((ce_wR n13).trans ((ce_wI n13).trans ((ce_mk n13).trans ((ce_nwF n0 n12).trans ((ce_wR n0).trans ((ce_wR n11).trans ((ce_wI n11).trans ((ce_mk n11).trans ((ce_nwF n0 n10).trans ((ce_nwF n0 n9).trans ((ce_nwF n0 n8).trans ((ce_nwF n0 n7).trans ((ce_nwF n0 n6).trans ((ce_nwF n0 n5).trans ((ce_nwF n0 n4).trans ((ce_nwF n0 n3).trans (ce_mk n0)))))))))))))))))))))
  have M : MI0 H := by
    refine ⟨by rw [eH]; simp [gI_wI, gI_wR, gI_mk, gR_wI, gR_wR, gR_mk, gk_wI, gk_wR, gk_mk, gn_wI, gn_wR, gn_mk, nm_eq, nm_i], fun j => by rw [eH]; simp [gI_wI, gI_wR, gI_mk, gR_wI, gR_wR, gR_mk, gk_wI, gk_wR, gk_mk, gn_wI, gn_wR, gn_mk, nm_eq, nm_i], fun i h1 h2 => ?_, fun i h1 h2 h3 => ?_, by rw [eH]; simp [gI_wI, gI_wR, gI_mk, gR_wI, gR_wR, gR_mk, gk_wI, gk_wR, gk_mk, gn_wI, gn_wR, gn_mk, nm_eq, nm_i], by rw [eH]; simp [gI_wI, gI_wR, gI_mk, gR_wI, gR_wR, gR_mk, gk_wI, gk_wR, gk_mk, gn_wI, gn_wR, gn_mk, nm_eq, nm_i], by rw [eH]; simp [gI_wI, gI_wR, gI_mk, gR_wI, gR_wR, gR_mk, gk_wI, gk_wR, gk_mk, gn_wI, gn_wR, gn_mk, nm_eq, nm_i]⟩
    · have : i = 3 ∨ i = 4 ∨ i = 5 ∨ i = 6 ∨ i = 7 ∨ i = 8 ∨ i = 9 ∨ i = 10 ∨ i = 11 ∨ i = 12 ∨ i = 13 ∨ i = 14 := by omega
      rcases this with e | e | e | e | e | e | e | e | e | e | e | e <;> subst e
      · exact A3
      · exact A4
      · exact A5
      · exact A6
      · exact A7
      · exact A8
      · exact A9
      · exact A10
      · exact A11
      · exact A12
      · exact A13
      · exact A14
    · have : i = 3 ∨ i = 4 ∨ i = 5 ∨ i = 6 ∨ i = 7 ∨ i = 8 ∨ i = 9 ∨ i = 10 ∨ i = 12 := by omega
      rcases this with e | e | e | e | e | e | e | e | e <;> subst e
      · exact B3
      · exact B4
      · exact B5
      · exact B6
      · exact B7
      · exact B8
      · exact B9
      · exact B10
      · exact B12
  exact l_X16_init2 M (fun a ha => by rw [ce_k (CE a (fun i hi => by unfold FRE nm at ha; unfold nm; omega))]; exact hfa a ha) (J.fr (fun i => CE _ (fun j hj => by unfold nm; omega))) (by omega) (by omega) (by omega) (fun h' m1 m2 m3 m4 m5 => hq _ m1 m2 m3 m4 (fun a ha => (m5 a ha).trans (CE a (fun i hi e => ha (by rw [e]; unfold WMD nm; omega)))))
