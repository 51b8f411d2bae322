/-! The class: maps, a key taken out, the whole. -/
set_option maxRecDepth 100000 in
set_option maxHeartbeats 4000000 in
theorem l_X2_without {G : GG} {d : Nat} {Q : Pst} {M key : Nat} {hs : Nat → Bool} {of : Nat → Int32} {mn mn' : Nat → Nat} (hk : key < 1000) (hh : hs key = true) (hmn : ∀ L B, L ≤ 4 → B < 2 ^ (2 * L) → B ≠ btN key L → mn' (lst L + B) = mn (lst L + B)) (hdst : ∀ i j, i < j → j ≤ 4 → 1 < ct (va_up hs key false) j (btN key j) → mn' (sltN key i) ≠ mn' (sltN key j)) {k5 : Nat} (hd : 9 ≤ d) : ∀ m l, l + m = 4 → ∀ (h : Hp) (c bc bs : Nat) (x0 : KNS), (∀ i, l < i → i ≤ 4 → 1 < ct (va_up hs key false) i (btN key i) → FrN h (mn' (sltN key i))) → MTf h M hs of mn → (∀ L B, L ≤ 4 → B < 2 ^ (2 * L) → (L = 0 ∨ 1 < ct hs L B) → mn (lst L + B) ≠ mn' (sltN key l)) → KN h (mn' (sltN key l)) x0 → MNk M (mn' (sltN key l)) hs of mn l (btN key l) x0 → MKR h c → c + m < 900000 → 4 * m ≤ bc → 91 * m ≤ bs → (∀ h', (∀ i, l ≤ i → i ≤ 4 → (i = l ∨ 1 < ct (va_up hs key false) i (btN key i)) → ∃ x, KN h' (mn' (sltN key i)) x ∧ MNk M (mn' (sltN key i)) (va_up hs key false) (va_up of key (nI 0)) mn' i (btN key i) x) → MKR h' (c + crM (va_up hs key false) key m l) → Fr h h' (WMt (va_up hs key false) mn' key l) → Q (oRet (vr (some k5))) h') → WP G m_X2_withoutKey d 13 [(5, vi (nI l)), (4, vr (some (nm 45 (mn' (sltN key l))))), (3, vr (some k5)), (2, vi (nI key)), (0, vr (some (nm 40 2)))] [] h bc bs Q := by
  intro m
  induction m with
  | zero =>
    intro l hl h c bc bs x0 hD T hS hO hx hM hc hbc hbs hq
    have e4 : l = 4 := hl
    subst e4
    have hpk := ct_up0 (hs := hs) (l := 4) (b := btN key 4) hk hh
    rw [if_pos rfl] at hpk
    obtain ⟨-, -, -, rk, re, -⟩ : RWx (mn' (sltN key 4)) (ct hs 4 (btN key 4)) (KN_ky x0) (KN_el x0) x0 := hx.2.elim (fun z => absurd z.1 (by decide)) (fun z => z.2.1)
    have hle : ct hs 4 (btN key 4) ≤ 40 := hx.2.elim (fun z => absurd z.1 (by decide)) (fun z => z.2.2.1)
    have hkc := hx.kc
    obtain ⟨j, g1, g2, -, g4, -, g5⟩ := hx.here (by decide) hk hh (Or.inl rfl)
    have g5 := g5 rfl
    rw [(hx.rr g1).1] at g4
    refine wp_iload (i := 5) dX2_withoutKey_13 rfl ?_
    refine wp_iconst (nI 4) dX2_withoutKey_15 (by decide) ?_
    refine wp_icmp_geN 100 dX2_withoutKey_16 (by decide) (by decide) (by decide) (fun c_16 => ?_) (fun c_16 => absurd c_16 (by decide))
    refine wp_aload (i := 4) dX2_withoutKey_100 rfl ?_
    refine wp_iload_n (i := 2) dX2_withoutKey_102 rfl rfl ?_
    refine wp_cS (y' := m_X2_dropFromRow) [vr (some (nm 45 (mn' (sltN key 4)))), vi (nI key)] [] 0 0 dX2_withoutKey_103 ml_X2_69 st_X2_dropFromRow ok_X2_dropFromRow rfl (Nat.le_of_ble_eq_true rfl) rfl (Nat.le_of_ble_eq_true rfl) (d' := d - 1) (by omega) (Nat.zero_le _) (Nat.zero_le _) (c_X2_dropFromRow (s := j) (n := ct (va_up hs key false) 4 (btN key 4)) hO hx.wf rk re (by omega) (by omega) hk (hkc.trans hpk) g2 (by omega) (fun h5 O5 F5 => cont_void ?_))
    refine wp_aload_n (i := 3) dX2_withoutKey_106 rfl rfl ?_
    refine wp_areturn dX2_withoutKey_107 rfl (Or.inl ⟨_, rfl⟩) ?_
    have V5 := hx.delRow (mn' := mn') hk hh g5 g4 hpk.symm rfl
    refine hq _ (fun i i1 i2 _ => ?_) (hM.frm (F5 _ (CNo_n (by omega) (by decide)))) (fun a ha => F5 a (fun z => ha (Or.inr ⟨4, Nat.le_refl _, Nat.le_refl _, Or.inl rfl, z⟩)))
    have ei : i = 4 := by omega
    subst ei
    exact ⟨_, O5, V5⟩
  | succ m ih =>
    intro l hl h c bc bs x0 hD T hS hO hx hM hc hbc hbs hq
    have hl4 : l < 4 := by omega
    have p4 := plN_lt (k := key) (l := l)
    have hpk := ct_up0 (hs := hs) (l := l) (b := btN key l) hk hh
    have hpk2 := ct_up0 (hs := hs) (l := l + 1) (b := btN key (l + 1)) hk hh
    rw [if_pos rfl] at hpk hpk2
    have hle1 := ct_le (hs := hs) (l := l) (b := btN key l)
    have hle2 := ct_le (hs := hs) (l := l + 1) (b := btN key (l + 1))
    obtain ⟨r1, r2, r3, r4⟩ := hx.ra hl4 p4
    unfold PLx at r4
    rw [← btN_s] at r4
    obtain ⟨-, -, -, ⟨a1, a2, a3⟩, ⟨b1, b2, b3⟩, ⟨c1, c2, c3⟩, -⟩ : MPx (mn' (sltN key l)) l (ct hs l (btN key l)) (KN_ky x0) (KN_el x0) (KN_bl x0) x0 := hx.2.elim (fun z => z.2.1) (fun z => absurd z.1 (by omega))
    have hkc := hx.kc
    have hcr0 : ¬ 1 < ct (va_up hs key false) (l + 1) (btN key (l + 1)) → crM (va_up hs key false) key (m + 1) l = 0 := fun z => if_neg z
    have hcr1 : 1 < ct (va_up hs key false) (l + 1) (btN key (l + 1)) → crM (va_up hs key false) key (m + 1) l = 1 + crM (va_up hs key false) key m (l + 1) := fun z => if_pos z
    rcases r4 with ⟨z1, -⟩ | ⟨z1, -, e3⟩ | ⟨z1, -, z3, e3⟩
    · omega
    · skip
      refine wp_iload (i := 5) dX2_withoutKey_13 rfl ?_
      refine wp_iconst (nI 4) dX2_withoutKey_15 (by decide) ?_
      refine wp_icmp_geN 100 dX2_withoutKey_16 (by decide) (by omega) (by decide) (fun c_16 => absurd c_16 (by omega)) (fun c_16 => ?_)
      refine wp_iload_n (i := 2) dX2_withoutKey_19 rfl rfl ?_
      refine wp_iload (i := 5) dX2_withoutKey_20 rfl ?_
      refine wp_cS (y' := m_X2_placeOf) [vi (nI key), vi (nI l)] [] 0 0 dX2_withoutKey_22 ml_X2_19 st_X2_placeOf ok_X2_placeOf rfl (Nat.le_of_ble_eq_true rfl) rfl (Nat.le_of_ble_eq_true rfl) (d' := d - 1) (by omega) (Nat.zero_le _) (Nat.zero_le _) (c_X2_placeOf (by omega) (by omega) (cont_ret ?_))
      refine wp_istore (i := 6) (lv' := [(6, vi (nI (plN key l))), (5, vi (nI l)), (4, vr (some (nm 45 (mn' (sltN key l))))), (3, vr (some k5)), (2, vi (nI key)), (0, vr (some (nm 40 2)))]) dX2_withoutKey_25 (by decide) rfl ?_
      refine wp_aload (i := 4) dX2_withoutKey_27 rfl ?_
      refine wp_iload (i := 6) dX2_withoutKey_29 rfl ?_
      refine wp_cV (y' := m_X3_childAt) 5 [vi (nI (plN key l))] [] 0 0 dX2_withoutKey_31 ml_X2_25 im_X3_childAt se_X3_childAt (by decide) hO.k0 ok_X3_childAt rfl (Nat.le_of_ble_eq_true rfl) rfl (Nat.le_of_ble_eq_true rfl) (d' := d - 1) (by omega) (Nat.zero_le _) (Nat.zero_le _) (c_X3_childAt hO (p := plN key l) hx.wf.2.2.1 (by omega) (cont_ret ?_))
      rw [r3, e3]
      refine wp_astore (i := 7) (lv' := [(7, vr none), (6, vi (nI (plN key l))), (5, vi (nI l)), (4, vr (some (nm 45 (mn' (sltN key l))))), (3, vr (some k5)), (2, vi (nI key)), (0, vr (some (nm 40 2)))]) dX2_withoutKey_34 (by decide) rfl ?_
      refine wp_aload (i := 4) dX2_withoutKey_36 rfl ?_
      refine wp_dup dX2_withoutKey_38 ?_
      refine wp_get 5 5 (vi (nI (ct hs l (btN key l)))) dX2_withoutKey_39 hO.k0 (by decide) (by decide) fl_X2_41 (congrArg (fun z => toV (vi z)) (hO.f_kc.trans (congrArg nI hkc))) ?_
      refine wp_iconst (nI 1) dX2_withoutKey_42 (by decide) ?_
      refine wp_isubN dX2_withoutKey_43 (by omega) ?_
      refine wp_putI 5 5 dX2_withoutKey_44 hO.k0 (by decide) (by decide) (by decide) fl_X2_41 rfl (fun _ _ => rfl) rfl rfl ?_
      have O1 := hO.wkc (v := ct hs l (btN key l) - 1)
      have f1 : ∀ a, a ≠ nm 45 (mn' (sltN key l)) → ce (wI h (nm 45 (mn' (sltN key l))) 5 (nI (ct hs l (btN key l) - 1))) a = ce h a := fun a ha => ce_wI ha
      have M1 : MKR (wI h (nm 45 (mn' (sltN key l))) 5 (nI (ct hs l (btN key l) - 1))) c := hM.frm (f1 _ (nm_ne (by decide) (by decide) (by decide)))
      have T1 : MTf (wI h (nm 45 (mn' (sltN key l))) 5 (nI (ct hs l (btN key l) - 1))) M hs of mn := T.frm (fun L B r g1 g2 g3 q1 q2 => f1 _ (fun z => hS L B g1 g2 g3 (by unfold nm at z; omega)))
      refine wp_aload (i := 7) dX2_withoutKey_47 rfl ?_
      refine wp_ifnonnull 63 dX2_withoutKey_49 (by decide) (fun a_49 c_49 => absurd c_49 (fun z => nomatch z)) (fun c_49 => ?_)
      refine wp_aload (i := 4) dX2_withoutKey_52 rfl ?_
      refine wp_iload (i := 6) dX2_withoutKey_54 rfl ?_
      refine wp_iconst (-1) dX2_withoutKey_56 (by decide) ?_
      refine wp_iconst (nI 0) dX2_withoutKey_57 (by decide) ?_
      refine wp_cV (y' := m_X3_putPair) 5 [vi (nI (plN key l)), vi (-1), vi (nI 0)] [] 0 0 dX2_withoutKey_58 ml_X2_44 im_X3_putPair se_X3_putPair (by decide) O1.k0 ok_X3_putPair rfl (Nat.le_of_ble_eq_true rfl) rfl (Nat.le_of_ble_eq_true rfl) (d' := d - 1) (by omega) (Nat.zero_le _) (Nat.zero_le _) (c_X3_putPair O1 b1 b2 (by show KN_n7 x0 ≤ 40; rw [b3]; decide) a1 a2 (a3.trans b3.symm) (by show plN key l < KN_n7 x0; rw [b3]; exact p4) (by omega) (fun h5 O5 F5 => cont_void ?_))
      refine wp_aload_n (i := 3) dX2_withoutKey_61 rfl rfl ?_
      refine wp_areturn dX2_withoutKey_62 rfl (Or.inl ⟨_, rfl⟩) ?_
      have V5 := hx.del1 (mn' := mn') hl4 hmn (by omega) e3 (show ct hs l (btN key l) - 1 = _ by omega)
      refine hq _ (fun i i1 i2 i3 => ?_) (by rw [hcr0 (by omega)]; exact M1.frm (F5 _ (CNo_n (by omega) (by decide)))) (fun a ha => (F5 a (fun z => ha (Or.inr ⟨l, Nat.le_refl _, by omega, Or.inl rfl, z⟩))).trans (f1 a (fun z => ha (Or.inr ⟨l, Nat.le_refl _, by omega, Or.inl rfl, by rw [z]; unfold CNo nm; omega⟩))))
      have ei : i = l := i3.elim id (fun z => by
        by_cases q : i = l
        · exact q
        · have := ct_dn3 (hs := (va_up hs key false)) (key := key) (show l + 1 ≤ i by omega)
          omega)
      subst ei
      exact ⟨_, O5, V5⟩
    · by_cases h2 : ct hs (l + 1) (btN key (l + 1)) ≤ 2
      · skip
        refine wp_iload (i := 5) dX2_withoutKey_13 rfl ?_
        refine wp_iconst (nI 4) dX2_withoutKey_15 (by decide) ?_
        refine wp_icmp_geN 100 dX2_withoutKey_16 (by decide) (by omega) (by decide) (fun c_16 => absurd c_16 (by omega)) (fun c_16 => ?_)
        refine wp_iload_n (i := 2) dX2_withoutKey_19 rfl rfl ?_
        refine wp_iload (i := 5) dX2_withoutKey_20 rfl ?_
        refine wp_cS (y' := m_X2_placeOf) [vi (nI key), vi (nI l)] [] 0 0 dX2_withoutKey_22 ml_X2_19 st_X2_placeOf ok_X2_placeOf rfl (Nat.le_of_ble_eq_true rfl) rfl (Nat.le_of_ble_eq_true rfl) (d' := d - 1) (by omega) (Nat.zero_le _) (Nat.zero_le _) (c_X2_placeOf (by omega) (by omega) (cont_ret ?_))
        refine wp_istore (i := 6) (lv' := [(6, vi (nI (plN key l))), (5, vi (nI l)), (4, vr (some (nm 45 (mn' (sltN key l))))), (3, vr (some k5)), (2, vi (nI key)), (0, vr (some (nm 40 2)))]) dX2_withoutKey_25 (by decide) rfl ?_
        refine wp_aload (i := 4) dX2_withoutKey_27 rfl ?_
        refine wp_iload (i := 6) dX2_withoutKey_29 rfl ?_
        refine wp_cV (y' := m_X3_childAt) 5 [vi (nI (plN key l))] [] 0 0 dX2_withoutKey_31 ml_X2_25 im_X3_childAt se_X3_childAt (by decide) hO.k0 ok_X3_childAt rfl (Nat.le_of_ble_eq_true rfl) rfl (Nat.le_of_ble_eq_true rfl) (d' := d - 1) (by omega) (Nat.zero_le _) (Nat.zero_le _) (c_X3_childAt hO (p := plN key l) hx.wf.2.2.1 (by omega) (cont_ret ?_))
        rw [r3, e3]
        refine wp_astore (i := 7) (lv' := [(7, vr (some (nm 45 (mn (sltN key (l + 1)))))), (6, vi (nI (plN key l))), (5, vi (nI l)), (4, vr (some (nm 45 (mn' (sltN key l))))), (3, vr (some k5)), (2, vi (nI key)), (0, vr (some (nm 40 2)))]) dX2_withoutKey_34 (by decide) rfl ?_
        refine wp_aload (i := 4) dX2_withoutKey_36 rfl ?_
        refine wp_dup dX2_withoutKey_38 ?_
        refine wp_get 5 5 (vi (nI (ct hs l (btN key l)))) dX2_withoutKey_39 hO.k0 (by decide) (by decide) fl_X2_41 (congrArg (fun z => toV (vi z)) (hO.f_kc.trans (congrArg nI hkc))) ?_
        refine wp_iconst (nI 1) dX2_withoutKey_42 (by decide) ?_
        refine wp_isubN dX2_withoutKey_43 (by omega) ?_
        refine wp_putI 5 5 dX2_withoutKey_44 hO.k0 (by decide) (by decide) (by decide) fl_X2_41 rfl (fun _ _ => rfl) rfl rfl ?_
        have O1 := hO.wkc (v := ct hs l (btN key l) - 1)
        have f1 : ∀ a, a ≠ nm 45 (mn' (sltN key l)) → ce (wI h (nm 45 (mn' (sltN key l))) 5 (nI (ct hs l (btN key l) - 1))) a = ce h a := fun a ha => ce_wI ha
        have M1 : MKR (wI h (nm 45 (mn' (sltN key l))) 5 (nI (ct hs l (btN key l) - 1))) c := hM.frm (f1 _ (nm_ne (by decide) (by decide) (by decide)))
        have T1 : MTf (wI h (nm 45 (mn' (sltN key l))) 5 (nI (ct hs l (btN key l) - 1))) M hs of mn := T.frm (fun L B r g1 g2 g3 q1 q2 => f1 _ (fun z => hS L B g1 g2 g3 (by unfold nm at z; omega)))
        obtain ⟨xc, hOc, hxc⟩ := T1 (l + 1) (btN key (l + 1)) (by omega) (btN_lt key (l + 1)) (Or.inr (by omega))
        refine wp_aload (i := 7) dX2_withoutKey_47 rfl ?_
        refine wp_ifnonnull 63 dX2_withoutKey_49 (by decide) (fun a_49 c_49 => ?_) (fun c_49 => absurd c_49 (fun z => nomatch z))
        refine wp_aload (i := 7) dX2_withoutKey_63 rfl ?_
        refine wp_get 5 5 (vi (nI (ct hs (l + 1) (btN key (l + 1))))) dX2_withoutKey_65 hOc.k0 (by decide) (by decide) fl_X2_41 (congrArg (fun z => toV (vi z)) (hOc.f_kc.trans (congrArg nI hxc.kc))) ?_
        refine wp_iconst (nI 2) dX2_withoutKey_68 (by decide) ?_
        refine wp_icmp_gtN 84 dX2_withoutKey_69 (by decide) (by omega) (by decide) (fun c_69 => absurd c_69 (by omega)) (fun c_69 => ?_)
        refine wp_aload (i := 4) dX2_withoutKey_72 rfl ?_
        refine wp_iload (i := 6) dX2_withoutKey_74 rfl ?_
        refine wp_aload (i := 7) dX2_withoutKey_76 rfl ?_
        refine wp_iload_n (i := 2) dX2_withoutKey_78 rfl rfl ?_
        refine wp_cS (y' := m_X2_lift) [vr (some (nm 45 (mn' (sltN key l)))), vi (nI (plN key l)), vr (some (nm 45 (mn (sltN key (l + 1))))), vi (nI key)] [] 0 0 dX2_withoutKey_79 ml_X2_65 st_X2_lift ok_X2_lift rfl (Nat.le_of_ble_eq_true rfl) rfl (Nat.le_of_ble_eq_true rfl) (d' := d - 1) (by omega) (Nat.zero_le _) (Nat.zero_le _) (c_X2_lift hl4 hk hh T1 hS O1 hx (by omega) (by omega) (fun h5 k' w1 w2 w3 w4 O5 F5 => cont_void ?_))
        refine wp_aload_n (i := 3) dX2_withoutKey_82 rfl rfl ?_
        refine wp_areturn dX2_withoutKey_83 rfl (Or.inl ⟨_, rfl⟩) ?_
        have V5 := hx.del2 (mn' := mn') hl4 hmn (by omega) w1 w2 w3 w4 (show ct hs l (btN key l) - 1 = _ by omega)
        refine hq _ (fun i i1 i2 i3 => ?_) (by rw [hcr0 (by omega)]; exact M1.frm (F5 _ (CNo_n (by omega) (by decide)))) (fun a ha => (F5 a (fun z => ha (Or.inr ⟨l, Nat.le_refl _, by omega, Or.inl rfl, z⟩))).trans (f1 a (fun z => ha (Or.inr ⟨l, Nat.le_refl _, by omega, Or.inl rfl, by rw [z]; unfold CNo nm; omega⟩))))
        have ei : i = l := i3.elim id (fun z => by
          by_cases q : i = l
          · exact q
          · have := ct_dn3 (hs := (va_up hs key false)) (key := key) (show l + 1 ≤ i by omega)
            omega)
        subst ei
        exact ⟨_, O5, V5⟩
      · skip
        refine wp_iload (i := 5) dX2_withoutKey_13 rfl ?_
        refine wp_iconst (nI 4) dX2_withoutKey_15 (by decide) ?_
        refine wp_icmp_geN 100 dX2_withoutKey_16 (by decide) (by omega) (by decide) (fun c_16 => absurd c_16 (by omega)) (fun c_16 => ?_)
        refine wp_iload_n (i := 2) dX2_withoutKey_19 rfl rfl ?_
        refine wp_iload (i := 5) dX2_withoutKey_20 rfl ?_
        refine wp_cS (y' := m_X2_placeOf) [vi (nI key), vi (nI l)] [] 0 0 dX2_withoutKey_22 ml_X2_19 st_X2_placeOf ok_X2_placeOf rfl (Nat.le_of_ble_eq_true rfl) rfl (Nat.le_of_ble_eq_true rfl) (d' := d - 1) (by omega) (Nat.zero_le _) (Nat.zero_le _) (c_X2_placeOf (by omega) (by omega) (cont_ret ?_))
        refine wp_istore (i := 6) (lv' := [(6, vi (nI (plN key l))), (5, vi (nI l)), (4, vr (some (nm 45 (mn' (sltN key l))))), (3, vr (some k5)), (2, vi (nI key)), (0, vr (some (nm 40 2)))]) dX2_withoutKey_25 (by decide) rfl ?_
        refine wp_aload (i := 4) dX2_withoutKey_27 rfl ?_
        refine wp_iload (i := 6) dX2_withoutKey_29 rfl ?_
        refine wp_cV (y' := m_X3_childAt) 5 [vi (nI (plN key l))] [] 0 0 dX2_withoutKey_31 ml_X2_25 im_X3_childAt se_X3_childAt (by decide) hO.k0 ok_X3_childAt rfl (Nat.le_of_ble_eq_true rfl) rfl (Nat.le_of_ble_eq_true rfl) (d' := d - 1) (by omega) (Nat.zero_le _) (Nat.zero_le _) (c_X3_childAt hO (p := plN key l) hx.wf.2.2.1 (by omega) (cont_ret ?_))
        rw [r3, e3]
        refine wp_astore (i := 7) (lv' := [(7, vr (some (nm 45 (mn (sltN key (l + 1)))))), (6, vi (nI (plN key l))), (5, vi (nI l)), (4, vr (some (nm 45 (mn' (sltN key l))))), (3, vr (some k5)), (2, vi (nI key)), (0, vr (some (nm 40 2)))]) dX2_withoutKey_34 (by decide) rfl ?_
        refine wp_aload (i := 4) dX2_withoutKey_36 rfl ?_
        refine wp_dup dX2_withoutKey_38 ?_
        refine wp_get 5 5 (vi (nI (ct hs l (btN key l)))) dX2_withoutKey_39 hO.k0 (by decide) (by decide) fl_X2_41 (congrArg (fun z => toV (vi z)) (hO.f_kc.trans (congrArg nI hkc))) ?_
        refine wp_iconst (nI 1) dX2_withoutKey_42 (by decide) ?_
        refine wp_isubN dX2_withoutKey_43 (by omega) ?_
        refine wp_putI 5 5 dX2_withoutKey_44 hO.k0 (by decide) (by decide) (by decide) fl_X2_41 rfl (fun _ _ => rfl) rfl rfl ?_
        have O1 := hO.wkc (v := ct hs l (btN key l) - 1)
        have f1 : ∀ a, a ≠ nm 45 (mn' (sltN key l)) → ce (wI h (nm 45 (mn' (sltN key l))) 5 (nI (ct hs l (btN key l) - 1))) a = ce h a := fun a ha => ce_wI ha
        have M1 : MKR (wI h (nm 45 (mn' (sltN key l))) 5 (nI (ct hs l (btN key l) - 1))) c := hM.frm (f1 _ (nm_ne (by decide) (by decide) (by decide)))
        have T1 : MTf (wI h (nm 45 (mn' (sltN key l))) 5 (nI (ct hs l (btN key l) - 1))) M hs of mn := T.frm (fun L B r g1 g2 g3 q1 q2 => f1 _ (fun z => hS L B g1 g2 g3 (by unfold nm at z; omega)))
        obtain ⟨xc, hOc, hxc⟩ := T1 (l + 1) (btN key (l + 1)) (by omega) (btN_lt key (l + 1)) (Or.inr (by omega))
        refine wp_aload (i := 7) dX2_withoutKey_47 rfl ?_
        refine wp_ifnonnull 63 dX2_withoutKey_49 (by decide) (fun a_49 c_49 => ?_) (fun c_49 => absurd c_49 (fun z => nomatch z))
        refine wp_aload (i := 7) dX2_withoutKey_63 rfl ?_
        refine wp_get 5 5 (vi (nI (ct hs (l + 1) (btN key (l + 1))))) dX2_withoutKey_65 hOc.k0 (by decide) (by decide) fl_X2_41 (congrArg (fun z => toV (vi z)) (hOc.f_kc.trans (congrArg nI hxc.kc))) ?_
        refine wp_iconst (nI 2) dX2_withoutKey_68 (by decide) ?_
        refine wp_icmp_gtN 84 dX2_withoutKey_69 (by decide) (by omega) (by decide) (fun c_69 => ?_) (fun c_69 => absurd c_69 (by omega))
        refine wp_aload_n (i := 0) dX2_withoutKey_84 rfl rfl ?_
        refine wp_aload (i := 4) dX2_withoutKey_85 rfl ?_
        refine wp_iload (i := 6) dX2_withoutKey_87 rfl ?_
        have hgt : 1 < ct (va_up hs key false) (l + 1) (btN key (l + 1)) := by omega
        have hne : mn' (sltN key l) ≠ mn' (sltN key (l + 1)) := hdst l (l + 1) (by omega) (by omega) hgt
        have hf1 : FrN h (mn' (sltN key (l + 1))) := hD (l + 1) (by omega) (by omega) hgt
        have hf2 : FrN (wI h (nm 45 (mn' (sltN key l))) 5 (nI (ct hs l (btN key l) - 1))) (mn' (sltN key (l + 1))) := hf1.frm (fun r q1 q2 => f1 _ (fun z => hne (by unfold nm at z; omega)))
        refine wp_cS (y' := m_X2_changeableChild) [vr (some (nm 40 2)), vr (some (nm 45 (mn' (sltN key l)))), vi (nI (plN key l))] [] 4 91 dX2_withoutKey_89 ml_X2_48 st_X2_changeableChild ok_X2_changeableChild rfl (Nat.le_of_ble_eq_true rfl) rfl (Nat.le_of_ble_eq_true rfl) (d' := d - 1) (by omega) (by omega) (by omega) (c_X2_changeableChild (k1 := mn' (sltN key (l + 1))) (nc := ct hs l (btN key l) - 1) hl4 hk T1 O1 hx M1 (by omega) hne hf2 (by omega) (by omega) (by omega) (by omega) (fun h6 x1 K0 K1 V1 M6 F6 => cont_ret ?_))
        refine wp_astore (i := 4) (lv' := [(4, vr (some (nm 45 (mn' (sltN key (l + 1)))))), (7, vr (some (nm 45 (mn (sltN key (l + 1)))))), (6, vi (nI (plN key l))), (5, vi (nI l)), (3, vr (some k5)), (2, vi (nI key)), (0, vr (some (nm 40 2)))]) dX2_withoutKey_92 (by decide) rfl ?_
        refine wp_iincN (a := l) (lv' := [(5, vi (nI (l + 1))), (4, vr (some (nm 45 (mn' (sltN key (l + 1)))))), (7, vr (some (nm 45 (mn (sltN key (l + 1)))))), (6, vi (nI (plN key l))), (3, vr (some k5)), (2, vi (nI key)), (0, vr (some (nm 40 2)))]) 1 dX2_withoutKey_94 rfl (by decide) (by decide) rfl ?_
        refine wp_goto 13 dX2_withoutKey_97 (by decide) ?_
        refine wp_sub [(5, vi (nI (l + 1))), (4, vr (some (nm 45 (mn' (sltN key (l + 1)))))), (3, vr (some k5)), (2, vi (nI key)), (0, vr (some (nm 40 2)))] (sb_cons (.head _) (sb_cons (.tail _ (.head _)) (sb_cons (.tail _ (.tail _ (.tail _ (.tail _ (.head _))))) (sb_cons (.tail _ (.tail _ (.tail _ (.tail _ (.tail _ (.head _)))))) (sb_cons (.tail _ (.tail _ (.tail _ (.tail _ (.tail _ (.tail _ (.head _))))))) sb_nil))))) ?_
        have V0 := hx.put2 (e := nI 0) (mn' := mn') (t := false) hl4 hmn hgt (show ct hs l (btN key l) - 1 = _ by omega)
        have F8 : Fr h h6 (fun a => W1 (mn' (sltN key (l + 1))) a ∨ CNo (mn' (sltN key l)) a) := fun a ha => (F6 a ha).trans (f1 a (fun z => ha (Or.inr (by rw [z]; unfold CNo nm; omega))))
        have f8 : ∀ r i, 45 ≤ r → r ≤ 48 → i ≠ mn' (sltN key l) → i ≠ mn' (sltN key (l + 1)) → ce h6 (nm r i) = ce h (nm r i) := fun r i r1 r2 i1 i2 => F8 _ (fun z => z.elim (W1_n (fun y => i2 y.2.2) (by omega) (by omega)) (CNo_n (fun y => i1 y.2.2) (by omega)))
        have hS2 : ∀ L B, L ≤ 4 → B < 2 ^ (2 * L) → (L = 0 ∨ 1 < ct hs L B) → mn (lst L + B) ≠ mn' (sltN key (l + 1)) := fun L B g1 g2 g3 => T.ne hf1.1 g1 g2 g3
        refine ih (l + 1) (by omega) h6 _ _ _ x1 (fun i i1 i2 i3 => (hD i (by omega) i2 i3).frm (fun r q1 q2 => f8 r _ q1 q2 (fun z => hdst l i (by omega) i2 i3 z.symm) (fun z => hdst (l + 1) i i1 i2 i3 z.symm))) (T.frm (fun L B r g1 g2 g3 q1 q2 => f8 r _ q1 q2 (hS L B g1 g2 g3) (hS2 L B g1 g2 g3))) hS2 K1 V1 M6 (by omega) (by omega) (by omega) (fun h7 Z7 M7 F7 => ?_)
        have f9 : ∀ r, 45 ≤ r → r ≤ 48 → ce h7 (nm r (mn' (sltN key l))) = ce h6 (nm r (mn' (sltN key l))) := fun r q1 q2 => F7 _ (fun z => z.elim (fun z => by unfold nm at z; omega) (fun ⟨i, i1, i2, i3, i4⟩ => CNo_n (fun y => hdst l i (by omega) i2 (i3.elim (fun e => by rw [e]; exact hgt) id) y.2.2) (by omega) i4))
        refine hq h7 (fun i i1 i2 i3 => ?_) (by rw [hcr1 hgt, ← Nat.add_assoc]; exact M7) (fun a ha => (F7 a (fun z => ha (z.elim Or.inl (fun ⟨i, i1, i2, i3, i4⟩ => Or.inr ⟨i, by omega, i2, Or.inr (i3.elim (fun e => by rw [e]; exact hgt) id), i4⟩)))).trans (F8 a (fun z => ha (z.elim (fun z => z.elim (fun z => Or.inr ⟨l + 1, by omega, by omega, Or.inr hgt, z⟩) Or.inl) (fun z => Or.inr ⟨l, Nat.le_refl _, by omega, Or.inl rfl, z⟩)))))
        by_cases ei : i = l
        · subst ei
          exact ⟨_, K0.frm (f9 45 (by decide) (by decide)) (f9 46 (by decide) (by decide)) (f9 47 (by decide) (by decide)) (f9 48 (by decide) (by decide)), V0⟩
        · exact Z7 i (by omega) i2 (i3.elim (fun z => absurd z ei) (fun z => Or.inr z))
set_option maxRecDepth 100000 in
set_option maxHeartbeats 4000000 in
theorem c_X2_withoutKey {G : GG} {d bc bs : Nat} {h : Hp} {Q : Pst} {M key c : Nat} {hs : Nat → Bool} {of : Nat → Int32} {mn mn' : Nat → Nat} (T : MTf h M hs of mn) (hk : key < 1000) (hh : hs key = true) (hmn : ∀ L B, L ≤ 4 → B < 2 ^ (2 * L) → B ≠ btN key L → mn' (lst L + B) = mn (lst L + B)) (hF : ∀ i, i ≤ 4 → (i = 0 ∨ 1 < ct (va_up hs key false) i (btN key i)) → FrN h (mn' (sltN key i))) (hdst : ∀ i j, i < j → j ≤ 4 → 1 < ct (va_up hs key false) j (btN key j) → mn' (sltN key i) ≠ mn' (sltN key j)) (hM : MKR h c) (hc : c < 700000) (hd : 10 ≤ d) (hbc : 20 ≤ bc) (hbs : 460 ≤ bs) (hq : ∀ h', MTf h' M (va_up hs key false) (va_up of key (nI 0)) mn' → MKR h' (c + (1 + crM (va_up hs key false) key 4 0)) → Fr h h' (WMt (va_up hs key false) mn' key 0) → Q (oRet (vr (some (nm 45 (mn' 0))))) h') : WP G m_X2_withoutKey d 0 (aargs 0 [vr (some (nm 40 2)), vr (some (nm 45 (mn 0))), vi (nI key)]) [] h bc bs Q := by
  have hf0 := hF 0 (by decide) (Or.inl rfl)
  obtain ⟨xr, hOr, hxr⟩ := T 0 (btN key 0) (by decide) (btN_lt key 0) (Or.inl rfl)
  rw [show lst 0 + btN key 0 = 0 from slt0 (key := key)] at hOr hxr
  have hne := T.ne hf0.1 (l := 0) (b := btN key 0) (by decide) (btN_lt key 0) (Or.inl rfl)
  rw [show lst 0 + btN key 0 = 0 from slt0 (key := key)] at hne
  have hcj : ∀ q v, chAq xr q = some v → h_k h v = 6 ∧ ¬ CNo (mn' (sltN key 0)) v := fun q v hv => by
    obtain ⟨z1, z2, z3, z4⟩ := hxr.ch hv
    obtain ⟨y, hy, -⟩ := T 1 _ (by decide) (blk_lt (btN_lt key 0) z2) (Or.inr z3)
    have hn := T.ne hf0.1 (l := 1) (by decide) (blk_lt (btN_lt key 0) z2) (Or.inr z3)
    subst z4
    exact ⟨hy.k0, CNo_n (fun q => hn q.2.2) (by decide)⟩
  refine wp_sub [(0, vr (some (nm 40 2))), (1, vr (some (nm 45 (mn 0)))), (2, vi (nI key))] (fun _ hz => hz) ?_
  refine wp_aload_n (i := 0) dX2_withoutKey_0 rfl rfl ?_
  refine wp_aload_n (i := 1) dX2_withoutKey_1 rfl rfl ?_
  refine wp_iconst (-1) dX2_withoutKey_2 (by decide) ?_
  refine wp_cV (y' := m_X4_copyOf) 6 [vr (some (nm 45 (mn 0))), vi (-1)] [] 4 91 dX2_withoutKey_3 ml_X2_33 im_X4_copyOf se_X4_copyOf (by decide) hM.1 ok_X4_copyOf rfl (Nat.le_of_ble_eq_true rfl) rfl (Nat.le_of_ble_eq_true rfl) (d' := d - 1) (by omega) (by omega) (by omega) (c_X4_copyOf (k := mn' (sltN key 0)) hOr hxr.wf hM (by omega) hne hf0 hcj (by omega) (by omega) (by omega) (fun h1 x1 K1 C1 M1 F1 => cont_ret ?_))
  refine wp_astore_n (i := 3) (lv' := [(3, vr (some (nm 45 (mn' (sltN key 0))))), (0, vr (some (nm 40 2))), (1, vr (some (nm 45 (mn 0)))), (2, vi (nI key))]) dX2_withoutKey_6 rfl (by decide) rfl ?_
  refine wp_aload_n (i := 3) dX2_withoutKey_7 rfl rfl ?_
  refine wp_astore (i := 4) (lv' := [(4, vr (some (nm 45 (mn' (sltN key 0))))), (3, vr (some (nm 45 (mn' (sltN key 0))))), (0, vr (some (nm 40 2))), (1, vr (some (nm 45 (mn 0)))), (2, vi (nI key))]) dX2_withoutKey_8 (by decide) rfl ?_
  refine wp_iconst (nI 0) dX2_withoutKey_10 (by decide) ?_
  refine wp_istore (i := 5) (lv' := [(5, vi (nI 0)), (4, vr (some (nm 45 (mn' (sltN key 0))))), (3, vr (some (nm 45 (mn' (sltN key 0))))), (0, vr (some (nm 40 2))), (1, vr (some (nm 45 (mn 0)))), (2, vi (nI key))]) dX2_withoutKey_11 (by decide) rfl ?_
  refine wp_sub [(5, vi (nI 0)), (4, vr (some (nm 45 (mn' (sltN key 0))))), (3, vr (some (nm 45 (mn' (sltN key 0))))), (2, vi (nI key)), (0, vr (some (nm 40 2)))] (sb_cons (.head _) (sb_cons (.tail _ (.head _)) (sb_cons (.tail _ (.tail _ (.head _))) (sb_cons (.tail _ (.tail _ (.tail _ (.tail _ (.tail _ (.head _)))))) (sb_cons (.tail _ (.tail _ (.tail _ (.head _)))) sb_nil))))) ?_
  have f1 : ∀ r i, 45 ≤ r → r ≤ 48 → i ≠ mn' (sltN key 0) → ce h1 (nm r i) = ce h (nm r i) := fun r i r1 r2 i1 => F1 _ (W1_n (fun z => i1 z.2.2) (by omega) (by omega))
  have hS : ∀ L B, L ≤ 4 → B < 2 ^ (2 * L) → (L = 0 ∨ 1 < ct hs L B) → mn (lst L + B) ≠ mn' (sltN key 0) := fun L B g1 g2 g3 => T.ne hf0.1 g1 g2 g3
  refine l_X2_without hk hh hmn hdst (by omega) 4 0 rfl h1 _ _ _ x1 (fun i i1 i2 i3 => (hF i i2 (Or.inr i3)).frm (fun r q1 q2 => f1 r _ q1 q2 (fun z => hdst 0 i i1 i2 i3 z.symm))) (T.frm (fun L B r g1 g2 g3 q1 q2 => f1 r _ q1 q2 (hS L B g1 g2 g3))) hS K1 (hxr.cp C1) M1 (by omega) (by omega) (by omega) (fun h2 Z2 M2 F2 => ?_)
  have F8 : Fr h h2 (WMt (va_up hs key false) mn' key 0) := fun a ha => (F2 a ha).trans (F1 a (fun z => ha (z.elim (fun z => Or.inr ⟨0, Nat.le_refl _, by decide, Or.inl rfl, z⟩) Or.inl)))
  rw [slt0]
  exact hq h2 (T.fin hmn hF F8 (fun i i1 i2 => Z2 i (Nat.zero_le _) i1 i2)) (by rw [← Nat.add_assoc]; exact M2) F8
