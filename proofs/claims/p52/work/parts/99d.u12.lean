/-! The class: maps, a key put in. -/
/-- all nodes of a map -/
def MTf (h : Hp) (M : Nat) (hs : Nat → Bool) (of : Nat → Int32) (mn : Nat → Nat) : Prop := ∀ l b, l ≤ 4 → b < 2 ^ (2 * l) → (l = 0 ∨ 1 < ct hs l b) → ∃ x, KN h (mn (lst l + b)) x ∧ MNk M (mn (lst l + b)) hs of mn l b x
theorem MTf.p {h : Hp} {M : Nat} {hs : Nat → Bool} {of : Nat → Int32} {mn : Nat → Nat} (T : MTf h M hs of mn) {key : Nat} : MTp h M hs of mn key 0 := fun l _ h2 h3 => T l (btN key l) h2 (btN_lt key l) h3
theorem MTf.frm {h h' : Hp} {M : Nat} {hs : Nat → Bool} {of : Nat → Int32} {mn : Nat → Nat} (T : MTf h M hs of mn) (e : ∀ l b r, l ≤ 4 → b < 2 ^ (2 * l) → (l = 0 ∨ 1 < ct hs l b) → 45 ≤ r → r ≤ 48 → ce h' (nm r (mn (lst l + b))) = ce h (nm r (mn (lst l + b)))) : MTf h' M hs of mn := fun l b h1 h2 h3 => by
  obtain ⟨x, hO, hx⟩ := T l b h1 h2 h3
  exact ⟨x, hO.frm (e l b 45 h1 h2 h3 (by decide) (by decide)) (e l b 46 h1 h2 h3 (by decide) (by decide)) (e l b 47 h1 h2 h3 (by decide) (by decide)) (e l b 48 h1 h2 h3 (by decide) (by decide)), hx⟩
/-- what is new stands apart from what is there -/
theorem MTf.ne {h : Hp} {M k : Nat} {hs : Nat → Bool} {of : Nat → Int32} {mn : Nat → Nat} (T : MTf h M hs of mn) (hf : h_k h (nm 45 k) = 0) {l b : Nat} (h1 : l ≤ 4) (h2 : b < 2 ^ (2 * l)) (h3 : l = 0 ∨ 1 < ct hs l b) : mn (lst l + b) ≠ k := fun e => by
  obtain ⟨x, hO, -⟩ := T l b h1 h2 h3
  rw [← e, hO.k0] at hf; cases hf
theorem blk_lt {l b p : Nat} (hb : b < 2 ^ (2 * l)) (hp : p < 4) : b + 2 ^ (2 * l) * p < 2 ^ (2 * (l + 1)) := by
  rw [show 2 * (l + 1) = 2 * l + 2 by omega, Nat.pow_add, show (2 : Nat) ^ 2 = 4 from rfl]
  have h1 : 2 ^ (2 * l) * (p + 1) ≤ 2 ^ (2 * l) * 4 := Nat.mul_le_mul_left _ (by omega)
  rw [Nat.mul_add, Nat.mul_one] at h1
  omega
theorem lv_in {l b l' b' : Nat} (h1 : l ≤ 4) (h2 : b < 2 ^ (2 * l)) (h3 : l' ≤ 4) (h4 : b' < 2 ^ (2 * l')) (e : lst l + b = lst l' + b') : l = l' ∧ b = b' := by
  have a : l = 0 ∨ l = 1 ∨ l = 2 ∨ l = 3 ∨ l = 4 := by omega
  have a' : l' = 0 ∨ l' = 1 ∨ l' = 2 ∨ l' = 3 ∨ l' = 4 := by omega
  rcases a with z | z | z | z | z <;> subst z <;> rcases a' with z | z | z | z | z <;> subst z <;> simp [lst] at h2 h4 e ⊢ <;> omega
set_option maxRecDepth 100000 in
set_option maxHeartbeats 4000000 in
theorem c_X2_changeableChild {G : GG} {d bc bs : Nat} {h : Hp} {Q : Pst} {M k0 k1 c l key : Nat} {hs : Nat → Bool} {of : Nat → Int32} {mn : Nat → Nat} {x0 : KNS} {nc : Nat} (hl : l < 4) (hk : key < 1000) (T : MTf h M hs of mn) (hO : KN h k0 (KN_ukc x0 nc)) (hx : MNk M k0 hs of mn l (btN key l) x0) (hM : MKR h c) (hc : c < 900000) (hne : k0 ≠ k1) (hf : FrN h k1) (hc1 : 1 ≤ ct hs (l + 1) (btN key (l + 1))) (hd : 6 ≤ d) (hbc : 4 ≤ bc) (hbs : 91 ≤ bs) (hq : ∀ h' x1, KN h' k0 (KN_ubl (KN_uel (KN_uky (KN_ukc x0 nc) (plN key l) (-1)) (plN key l) (nI 0)) (plN key l) (some (nm 45 k1))) → KN h' k1 x1 → MNk M k1 hs of mn (l + 1) (btN key (l + 1)) x1 → MKR h' (c + 1) → Fr h h' (fun a => W1 k1 a ∨ CNo k0 a) → Q (oRet (vr (some (nm 45 k1)))) h') : WP G m_X2_changeableChild d 0 (aargs 0 [vr (some (nm 40 2)), vr (some (nm 45 k0)), vi (nI (plN key l))]) [] h bc bs Q := by
  have p4 := plN_lt (k := key) (l := l)
  obtain ⟨r1, r2, r3, r4⟩ := hx.ra hl p4
  unfold PLx at r4
  rw [← btN_s] at r4
  replace r3 : chAq (KN_ukc x0 nc) (plN key l) = KN_bl x0 (plN key l) := r3
  obtain ⟨-, -, -, ⟨a1, a2, a3⟩, ⟨b1, b2, b3⟩, ⟨c1, c2, c3⟩, -⟩ : MPx k0 l (ct hs l (btN key l)) (KN_ky x0) (KN_el x0) (KN_bl x0) x0 := hx.2.elim (fun z => z.2.1) (fun z => absurd z.1 (by omega))
  refine wp_sub [(0, vr (some (nm 40 2))), (1, vr (some (nm 45 k0))), (2, vi (nI (plN key l)))] (fun _ hz => hz) ?_
  by_cases h1c : ct hs (l + 1) (btN key (l + 1)) = 1
  · have e3 : KN_bl x0 (plN key l) = none := by
      rcases r4 with z | z | z
      · omega
      · exact z.2.2
      · omega
    refine wp_aload_n (i := 1) dX2_changeableChild_0 rfl rfl ?_
    refine wp_iload_n (i := 2) dX2_changeableChild_1 rfl rfl ?_
    refine wp_cV (y' := m_X3_childAt) 5 [vi (nI (plN key l))] [] 0 0 dX2_changeableChild_2 ml_X2_25 im_X3_childAt se_X3_childAt (by decide) hO.k0 ok_X3_childAt rfl (Nat.le_of_ble_eq_true rfl) rfl (Nat.le_of_ble_eq_true rfl) (d' := d - 1) (by omega) (Nat.zero_le _) (Nat.zero_le _) (c_X3_childAt hO hx.wf.2.2.1 (by omega) (cont_ret ?_))
    rw [r3, e3]
    refine wp_astore_n (i := 3) (lv' := [(3, vr none), (0, vr (some (nm 40 2))), (1, vr (some (nm 45 k0))), (2, vi (nI (plN key l)))]) dX2_changeableChild_5 rfl (by decide) rfl ?_
    refine wp_aload_n (i := 3) dX2_changeableChild_6 rfl rfl ?_
    refine wp_ifnonnull 19 dX2_changeableChild_7 (by decide) (fun a_7 c_7 => absurd c_7 (fun z => nomatch z)) (fun c_7 => ?_)
    refine wp_aload_n (i := 0) dX2_changeableChild_10 rfl rfl ?_
    refine wp_aload_n (i := 1) dX2_changeableChild_11 rfl rfl ?_
    refine wp_iload_n (i := 2) dX2_changeableChild_12 rfl rfl ?_
    refine wp_cS (y' := m_X2_lowered) [vr (some (nm 40 2)), vr (some (nm 45 k0)), vi (nI (plN key l))] [] 4 91 dX2_changeableChild_13 ml_X2_52 st_X2_lowered ok_X2_lowered rfl (Nat.le_of_ble_eq_true rfl) rfl (Nat.le_of_ble_eq_true rfl) (d' := d - 1) (by omega) (by omega) (by omega) (c_X2_lowered (k1 := k1) hl hk hO hx hM hc hne hf h1c (by omega) (by omega) (by omega) (fun h1 x1 K1 V1 M1 F1 => cont_ret ?_))
    have O2 := hO.frm (F1 _ (W1_n (fun z => hne z.2.2) (by omega) (by decide))) (F1 _ (W1_n (fun z => hne z.2.2) (by omega) (by decide))) (F1 _ (W1_n (fun z => hne z.2.2) (by omega) (by decide))) (F1 _ (W1_n (fun z => hne z.2.2) (by omega) (by decide)))
    refine wp_goto 25 dX2_changeableChild_16 (by decide) ?_
    refine wp_astore (i := 4) (lv' := [(4, vr (some (nm 45 k1))), (3, vr none), (0, vr (some (nm 40 2))), (1, vr (some (nm 45 k0))), (2, vi (nI (plN key l)))]) dX2_changeableChild_25 (by decide) rfl ?_
    refine wp_aload_n (i := 1) dX2_changeableChild_27 rfl rfl ?_
    refine wp_iload_n (i := 2) dX2_changeableChild_28 rfl rfl ?_
    refine wp_iconst (-1) dX2_changeableChild_29 (by decide) ?_
    refine wp_iconst (nI 0) dX2_changeableChild_30 (by decide) ?_
    refine wp_cV (y' := m_X3_putPair) 5 [vi (nI (plN key l)), vi (-1), vi (nI 0)] [] 0 0 dX2_changeableChild_31 ml_X2_44 im_X3_putPair se_X3_putPair (by decide) O2.k0 ok_X3_putPair rfl (Nat.le_of_ble_eq_true rfl) rfl (Nat.le_of_ble_eq_true rfl) (d' := d - 1) (by omega) (Nat.zero_le _) (Nat.zero_le _) (c_X3_putPair O2 b1 b2 (by rw [b3]; decide) a1 a2 (a3.trans b3.symm) (by rw [b3]; omega) (by omega) (fun h5 O5 F5 => cont_void ?_))
    refine wp_aload_n (i := 1) dX2_changeableChild_34 rfl rfl ?_
    refine wp_iload_n (i := 2) dX2_changeableChild_35 rfl rfl ?_
    refine wp_aload (i := 4) dX2_changeableChild_36 rfl ?_
    refine wp_cV (y' := m_X3_putChild) 5 [vi (nI (plN key l)), vr (some (nm 45 k1))] [] 0 0 dX2_changeableChild_38 ml_X2_55 im_X3_putChild se_X3_putChild (by decide) O5.k0 ok_X3_putChild rfl (Nat.le_of_ble_eq_true rfl) rfl (Nat.le_of_ble_eq_true rfl) (d' := d - 1) (by omega) (Nat.zero_le _) (Nat.zero_le _) (c_X3_putChild O5 (Or.inr ⟨c1, c2, c3⟩) p4 (fun v hv => by cases hv; exact (ce_k (F5 _ (CNo_n (fun z => hne z.2.2.symm) (by decide)))).trans K1.k0) (fun h6 O6 F6 => cont_void ?_))
    rw [show puC (KN_uel (KN_uky (KN_ukc x0 nc) (plN key l) (-1)) (plN key l) (nI 0)) (plN key l) (some (nm 45 k1)) = KN_ubl (KN_uel (KN_uky (KN_ukc x0 nc) (plN key l) (-1)) (plN key l) (nI 0)) (plN key l) (some (nm 45 k1)) from if_neg (by show ¬ KN_kb x0 = none; rw [c1]; exact fun z => nomatch z)] at O6
    refine wp_aload (i := 4) dX2_changeableChild_41 rfl ?_
    refine wp_areturn dX2_changeableChild_43 rfl (Or.inl ⟨_, rfl⟩) ?_
    have f6 : ∀ r, 45 ≤ r → r ≤ 48 → ce h6 (nm r k1) = ce h1 (nm r k1) := fun r r1 r2 => (F6 _ (CNo_n (fun z => hne z.2.2.symm) (by omega))).trans (F5 _ (CNo_n (fun z => hne z.2.2.symm) (by omega)))
    exact hq _ x1 O6 (K1.frm (f6 45 (by decide) (by decide)) (f6 46 (by decide) (by decide)) (f6 47 (by decide) (by decide)) (f6 48 (by decide) (by decide))) V1 (M1.frm ((F6 _ (CNo_n (by omega) (by decide))).trans (F5 _ (CNo_n (by omega) (by decide))))) (fun a ha => (F6 a (fun z => ha (Or.inr z))).trans ((F5 a (fun z => ha (Or.inr z))).trans (F1 a (fun z => ha (Or.inl z)))))
  · have hgt : 1 < ct hs (l + 1) (btN key (l + 1)) := by omega
    have e3 : KN_bl x0 (plN key l) = some (nm 45 (mn (sltN key (l + 1)))) := by
      rcases r4 with z | z | z
      · omega
      · omega
      · exact z.2.2.2
    obtain ⟨xc, hOc, hxc⟩ := T (l + 1) (btN key (l + 1)) (by omega) (btN_lt key (l + 1)) (Or.inr hgt)
    refine wp_aload_n (i := 1) dX2_changeableChild_0 rfl rfl ?_
    refine wp_iload_n (i := 2) dX2_changeableChild_1 rfl rfl ?_
    refine wp_cV (y' := m_X3_childAt) 5 [vi (nI (plN key l))] [] 0 0 dX2_changeableChild_2 ml_X2_25 im_X3_childAt se_X3_childAt (by decide) hO.k0 ok_X3_childAt rfl (Nat.le_of_ble_eq_true rfl) rfl (Nat.le_of_ble_eq_true rfl) (d' := d - 1) (by omega) (Nat.zero_le _) (Nat.zero_le _) (c_X3_childAt hO hx.wf.2.2.1 (by omega) (cont_ret ?_))
    rw [r3, e3]
    refine wp_astore_n (i := 3) (lv' := [(3, vr (some (nm 45 (mn (sltN key (l + 1)))))), (0, vr (some (nm 40 2))), (1, vr (some (nm 45 k0))), (2, vi (nI (plN key l)))]) dX2_changeableChild_5 rfl (by decide) rfl ?_
    refine wp_aload_n (i := 3) dX2_changeableChild_6 rfl rfl ?_
    refine wp_ifnonnull 19 dX2_changeableChild_7 (by decide) (fun a_7 c_7 => ?_) (fun c_7 => absurd c_7 (fun z => nomatch z))
    refine wp_aload_n (i := 0) dX2_changeableChild_19 rfl rfl ?_
    refine wp_aload_n (i := 3) dX2_changeableChild_20 rfl rfl ?_
    refine wp_iconst (-1) dX2_changeableChild_21 (by decide) ?_
    have hj := T.ne hf.1 (show l + 1 ≤ 4 by omega) (btN_lt key (l + 1)) (Or.inr hgt)
    have hcj : ∀ q v, chAq xc q = some v → h_k h v = 6 ∧ ¬ CNo k1 v := fun q v hv => by
      obtain ⟨z1, z2, z3, z4⟩ := hxc.ch hv
      obtain ⟨y, hy, -⟩ := T (l + 2) _ (by omega) (blk_lt (btN_lt key (l + 1)) z2) (Or.inr z3)
      have hn := T.ne hf.1 (show l + 2 ≤ 4 by omega) (blk_lt (btN_lt key (l + 1)) z2) (Or.inr z3)
      subst z4
      exact ⟨hy.k0, CNo_n (fun q => hn q.2.2) (by decide)⟩
    refine wp_cV (y' := m_X4_copyOf) 6 [vr (some (nm 45 (mn (sltN key (l + 1))))), vi (-1)] [] 4 91 dX2_changeableChild_22 ml_X2_33 im_X4_copyOf se_X4_copyOf (by decide) hM.1 ok_X4_copyOf rfl (Nat.le_of_ble_eq_true rfl) rfl (Nat.le_of_ble_eq_true rfl) (d' := d - 1) (by omega) (by omega) (by omega) (c_X4_copyOf (k := k1) hOc hxc.wf hM (by omega) hj hf hcj (by omega) (by omega) (by omega) (fun h1 x1 K1 C1 M1 F1 => cont_ret ?_))
    have O2 := hO.frm (F1 _ (W1_n (fun z => hne z.2.2) (by omega) (by decide))) (F1 _ (W1_n (fun z => hne z.2.2) (by omega) (by decide))) (F1 _ (W1_n (fun z => hne z.2.2) (by omega) (by decide))) (F1 _ (W1_n (fun z => hne z.2.2) (by omega) (by decide)))
    have V1 := hxc.cp C1
    refine wp_astore (i := 4) (lv' := [(4, vr (some (nm 45 k1))), (3, vr (some (nm 45 (mn (sltN key (l + 1)))))), (0, vr (some (nm 40 2))), (1, vr (some (nm 45 k0))), (2, vi (nI (plN key l)))]) dX2_changeableChild_25 (by decide) rfl ?_
    refine wp_aload_n (i := 1) dX2_changeableChild_27 rfl rfl ?_
    refine wp_iload_n (i := 2) dX2_changeableChild_28 rfl rfl ?_
    refine wp_iconst (-1) dX2_changeableChild_29 (by decide) ?_
    refine wp_iconst (nI 0) dX2_changeableChild_30 (by decide) ?_
    refine wp_cV (y' := m_X3_putPair) 5 [vi (nI (plN key l)), vi (-1), vi (nI 0)] [] 0 0 dX2_changeableChild_31 ml_X2_44 im_X3_putPair se_X3_putPair (by decide) O2.k0 ok_X3_putPair rfl (Nat.le_of_ble_eq_true rfl) rfl (Nat.le_of_ble_eq_true rfl) (d' := d - 1) (by omega) (Nat.zero_le _) (Nat.zero_le _) (c_X3_putPair O2 b1 b2 (by rw [b3]; decide) a1 a2 (a3.trans b3.symm) (by rw [b3]; omega) (by omega) (fun h5 O5 F5 => cont_void ?_))
    refine wp_aload_n (i := 1) dX2_changeableChild_34 rfl rfl ?_
    refine wp_iload_n (i := 2) dX2_changeableChild_35 rfl rfl ?_
    refine wp_aload (i := 4) dX2_changeableChild_36 rfl ?_
    refine wp_cV (y' := m_X3_putChild) 5 [vi (nI (plN key l)), vr (some (nm 45 k1))] [] 0 0 dX2_changeableChild_38 ml_X2_55 im_X3_putChild se_X3_putChild (by decide) O5.k0 ok_X3_putChild rfl (Nat.le_of_ble_eq_true rfl) rfl (Nat.le_of_ble_eq_true rfl) (d' := d - 1) (by omega) (Nat.zero_le _) (Nat.zero_le _) (c_X3_putChild O5 (Or.inr ⟨c1, c2, c3⟩) p4 (fun v hv => by cases hv; exact (ce_k (F5 _ (CNo_n (fun z => hne z.2.2.symm) (by decide)))).trans K1.k0) (fun h6 O6 F6 => cont_void ?_))
    rw [show puC (KN_uel (KN_uky (KN_ukc x0 nc) (plN key l) (-1)) (plN key l) (nI 0)) (plN key l) (some (nm 45 k1)) = KN_ubl (KN_uel (KN_uky (KN_ukc x0 nc) (plN key l) (-1)) (plN key l) (nI 0)) (plN key l) (some (nm 45 k1)) from if_neg (by show ¬ KN_kb x0 = none; rw [c1]; exact fun z => nomatch z)] at O6
    refine wp_aload (i := 4) dX2_changeableChild_41 rfl ?_
    refine wp_areturn dX2_changeableChild_43 rfl (Or.inl ⟨_, rfl⟩) ?_
    have f6 : ∀ r, 45 ≤ r → r ≤ 48 → ce h6 (nm r k1) = ce h1 (nm r k1) := fun r r1 r2 => (F6 _ (CNo_n (fun z => hne z.2.2.symm) (by omega))).trans (F5 _ (CNo_n (fun z => hne z.2.2.symm) (by omega)))
    exact hq _ x1 O6 (K1.frm (f6 45 (by decide) (by decide)) (f6 46 (by decide) (by decide)) (f6 47 (by decide) (by decide)) (f6 48 (by decide) (by decide))) V1 (M1.frm ((F6 _ (CNo_n (by omega) (by decide))).trans (F5 _ (CNo_n (by omega) (by decide))))) (fun a ha => (F6 a (fun z => ha (Or.inr z))).trans ((F5 a (fun z => ha (Or.inr z))).trans (F1 a (fun z => ha (Or.inl z)))))
