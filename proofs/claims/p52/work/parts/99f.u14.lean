/-! The class: maps, a key put in. -/
/-- how many nodes are made below the level l -/
def crM (hs : Nat → Bool) (key : Nat) : Nat → Nat → Nat
  | 0, _ => 0
  | m + 1, l => if 1 < ct hs (l + 1) (btN key (l + 1)) then 1 + crM hs key m (l + 1) else 0
/-- what may change -/
def WMt (hs : Nat → Bool) (mn' : Nat → Nat) (key l : Nat) : Nat → Prop := fun a => a = nm 40 2 ∨ ∃ i, l ≤ i ∧ i ≤ 4 ∧ (i = l ∨ 1 < ct hs i (btN key i)) ∧ CNo (mn' (sltN key i)) a
theorem ct_dn {hs : Nat → Bool} {key l : Nat} : ct hs (l + 1) (btN key (l + 1)) ≤ ct hs l (btN key l) := by
  have := ct_mono (hs := hs) (p := plN key l) (btN_lt key l)
  rw [← btN_s] at this; exact this
theorem ct_dn2 {hs : Nat → Bool} {key l : Nat} : ∀ n, ct hs (l + n) (btN key (l + n)) ≤ ct hs l (btN key l) := by
  intro n
  induction n with
  | zero => exact Nat.le_refl _
  | succ n ih => exact Nat.le_trans ct_dn ih
theorem ct_dn3 {hs : Nat → Bool} {key l i : Nat} (h : l ≤ i) : ct hs i (btN key i) ≤ ct hs l (btN key l) := by
  have := ct_dn2 (hs := hs) (key := key) (l := l) (i - l)
  rwa [show l + (i - l) = i by omega] at this
set_option maxRecDepth 100000 in
set_option maxHeartbeats 4000000 in
theorem l_X2_withPair {G : GG} {d : Nat} {Q : Pst} {M key mo : Nat} {hs : Nat → Bool} {of : Nat → Int32} {mn mn' : Nat → Nat} {e : Int32} (hk : key < 1000) (hmo : mo = if hs key = true then 0 else 1) (hmn : ∀ L B, L ≤ 4 → B < 2 ^ (2 * L) → B ≠ btN key L → mn' (lst L + B) = mn (lst L + B)) (hdst : ∀ i j, i < j → j ≤ 4 → 1 < ct (va_up hs key true) j (btN key j) → mn' (sltN key i) ≠ mn' (sltN key j)) (h40 : ct (va_up hs key true) 4 (btN key 4) ≤ 40) {k5 : Nat} (hd : 7 ≤ d) : ∀ m l, l + m = 4 → ∀ (h : Hp) (c bc bs : Nat) (x0 : KNS), (∀ i, l < i → i ≤ 4 → 1 < ct (va_up hs key true) i (btN key i) → FrN h (mn' (sltN key i))) → MTf h M hs of mn → (∀ L B, L ≤ 4 → B < 2 ^ (2 * L) → (L = 0 ∨ 1 < ct hs L B) → mn (lst L + B) ≠ mn' (sltN key l)) → KN h (mn' (sltN key l)) x0 → MNk M (mn' (sltN key l)) hs of mn l (btN key l) x0 → MKR h c → c + m < 900000 → 4 * m ≤ bc → 91 * m ≤ bs → (∀ h', (∀ i, l ≤ i → i ≤ 4 → (i = l ∨ 1 < ct (va_up hs key true) i (btN key i)) → ∃ x, KN h' (mn' (sltN key i)) x ∧ MNk M (mn' (sltN key i)) (va_up hs key true) (va_up of key e) mn' i (btN key i) x) → MKR h' (c + crM (va_up hs key true) key m l) → Fr h h' (WMt (va_up hs key true) mn' key l) → Q (oRet (vr (some k5))) h') → WP G m_X2_withPair d 30 [(7, vi (nI l)), (6, vr (some (nm 45 (mn' (sltN key l))))), (5, vr (some k5)), (4, vi (nI mo)), (2, vi (nI key)), (3, vi e), (0, vr (some (nm 40 2)))] [] h bc bs Q := by
  intro m
  induction m with
  | zero =>
    intro l hl h c bc bs x0 hD T hS hO hx hM hc hbc hbs hq
    have e4 : l = 4 := hl
    subst e4
    have hpk := ct_pk (hs := hs) (L := 4) (B := btN key 4) hk
    rw [if_pos rfl, ← hmo] at hpk
    obtain ⟨-, -, -, ⟨a1, a2, a3⟩, ⟨b1, b2, b3⟩, -⟩ : RWx (mn' (sltN key 4)) (ct hs 4 (btN key 4)) (KN_ky x0) (KN_el x0) x0 := hx.2.elim (fun z => absurd z.1 (by decide)) (fun z => z.2.1)
    have hkc := hx.kc
    cases hh : hs key with
    | true =>
      have mo0 : mo = 0 := by rw [hmo, hh]; rfl
      subst mo0
      obtain ⟨j, g1, g2, -, g4, -, g5⟩ := hx.here (by decide) hk hh (Or.inl rfl)
      have g5 := g5 rfl
      rw [(hx.rr g1).1] at g4
      refine wp_iload (i := 7) dX2_withPair_30 rfl ?_
      refine wp_iconst (nI 4) dX2_withPair_32 (by decide) ?_
      refine wp_icmp_geN 115 dX2_withPair_33 (by decide) (by decide) (by decide) (fun c_33 => ?_) (fun c_33 => absurd c_33 (by decide))
      refine wp_iload (i := 4) dX2_withPair_115 rfl ?_
      refine wp_iconst (nI 1) dX2_withPair_117 (by decide) ?_
      refine wp_icmp_neN 129 dX2_withPair_118 (by decide) (by decide) (by decide) (fun c_118 => ?_) (fun c_118 => absurd c_118 (by decide))
      refine wp_aload (i := 6) dX2_withPair_129 rfl ?_
      refine wp_iload_n (i := 2) dX2_withPair_131 rfl rfl ?_
      refine wp_cV (y' := m_X3_slotOf) 5 [vi (nI key)] [] 0 0 dX2_withPair_132 ml_X2_9 im_X3_slotOf se_X3_slotOf (by decide) hO.k0 ok_X3_slotOf rfl (Nat.le_of_ble_eq_true rfl) rfl (Nat.le_of_ble_eq_true rfl) (d' := d - 1) (by omega) (Nat.zero_le _) (Nat.zero_le _) (c_X3_slotOf hO hx.wf (by omega) (by omega) (cont_ret ?_))
      rw [g2]
      refine wp_istore (i := 7) (lv' := [(7, vi (nI j)), (6, vr (some (nm 45 (mn' (sltN key 4))))), (5, vr (some k5)), (4, vi (nI 0)), (2, vi (nI key)), (3, vi e), (0, vr (some (nm 40 2)))]) dX2_withPair_135 (by decide) rfl ?_
      refine wp_aload (i := 6) dX2_withPair_137 rfl ?_
      refine wp_iload (i := 7) dX2_withPair_139 rfl ?_
      refine wp_iload_n (i := 2) dX2_withPair_141 rfl rfl ?_
      refine wp_iload_n (i := 3) dX2_withPair_142 rfl rfl ?_
      refine wp_cV (y' := m_X3_putPair) 5 [vi (nI j), vi (nI key), vi e] [] 0 0 dX2_withPair_143 ml_X2_44 im_X3_putPair se_X3_putPair (by decide) hO.k0 ok_X3_putPair rfl (Nat.le_of_ble_eq_true rfl) rfl (Nat.le_of_ble_eq_true rfl) (d' := d - 1) (by omega) (Nat.zero_le _) (Nat.zero_le _) (c_X3_putPair hO b1 b2 (by rw [b3]; decide) a1 a2 (a3.trans b3.symm) (by rw [b3]; omega) (by omega) (fun h5 O5 F5 => cont_void ?_))
      refine wp_aload (i := 6) dX2_withPair_146 rfl ?_
      refine wp_dup dX2_withPair_148 ?_
      refine wp_get 5 5 (vi (nI (ct hs 4 (btN key 4)))) dX2_withPair_149 O5.k0 (by decide) (by decide) fl_X2_41 (congrArg (fun z => toV (vi z)) (O5.f_kc.trans (congrArg nI hkc))) ?_
      refine wp_iload (i := 4) dX2_withPair_152 rfl ?_
      refine wp_iaddN dX2_withPair_154 ?_
      refine wp_putI 5 5 dX2_withPair_155 O5.k0 (by decide) (by decide) (by decide) fl_X2_41 rfl (fun _ _ => rfl) rfl rfl ?_
      refine wp_aload (i := 5) dX2_withPair_158 rfl ?_
      refine wp_areturn dX2_withPair_160 rfl (Or.inl ⟨_, rfl⟩) ?_
      have V5 := hx.putR (e := e) (mn' := mn') hk (s := j) (n := ct hs 4 (btN key 4) + 0) (fun z => ⟨g5, g4⟩) (fun z => absurd (hh.symm.trans z) (by decide)) hpk.symm (by rw [← hpk]; exact h40)
      refine hq _ (fun i i1 i2 _ => ?_) ((hM.frm (F5 _ (CNo_n (by omega) (by decide)))).frm (ce_wI (nm_ne (by decide) (by decide) (by decide)))) (fun a ha => (ce_wI (fun z => ha (Or.inr ⟨4, Nat.le_refl _, Nat.le_refl _, Or.inl rfl, by rw [z]; unfold CNo nm; omega⟩))).trans (F5 a (fun z => ha (Or.inr ⟨4, Nat.le_refl _, Nat.le_refl _, Or.inl rfl, z⟩))))
      have ei : i = 4 := by omega
      subst ei
      exact ⟨_, O5.wkc, V5⟩
    | false =>
      have mo0 : mo = 1 := by rw [hmo, hh]; rfl
      subst mo0
      refine wp_iload (i := 7) dX2_withPair_30 rfl ?_
      refine wp_iconst (nI 4) dX2_withPair_32 (by decide) ?_
      refine wp_icmp_geN 115 dX2_withPair_33 (by decide) (by decide) (by decide) (fun c_33 => ?_) (fun c_33 => absurd c_33 (by decide))
      refine wp_iload (i := 4) dX2_withPair_115 rfl ?_
      refine wp_iconst (nI 1) dX2_withPair_117 (by decide) ?_
      refine wp_icmp_neN 129 dX2_withPair_118 (by decide) (by decide) (by decide) (fun c_118 => absurd c_118 (by decide)) (fun c_118 => ?_)
      refine wp_aload (i := 6) dX2_withPair_121 rfl ?_
      refine wp_get 5 5 (vi (nI (ct hs 4 (btN key 4)))) dX2_withPair_123 hO.k0 (by decide) (by decide) fl_X2_41 (congrArg (fun z => toV (vi z)) (hO.f_kc.trans (congrArg nI hkc))) ?_
      refine wp_goto 135 dX2_withPair_126 (by decide) ?_
      refine wp_istore (i := 7) (lv' := [(7, vi (nI (ct hs 4 (btN key 4)))), (6, vr (some (nm 45 (mn' (sltN key 4))))), (5, vr (some k5)), (4, vi (nI 1)), (2, vi (nI key)), (3, vi e), (0, vr (some (nm 40 2)))]) dX2_withPair_135 (by decide) rfl ?_
      refine wp_aload (i := 6) dX2_withPair_137 rfl ?_
      refine wp_iload (i := 7) dX2_withPair_139 rfl ?_
      refine wp_iload_n (i := 2) dX2_withPair_141 rfl rfl ?_
      refine wp_iload_n (i := 3) dX2_withPair_142 rfl rfl ?_
      refine wp_cV (y' := m_X3_putPair) 5 [vi (nI (ct hs 4 (btN key 4))), vi (nI key), vi e] [] 0 0 dX2_withPair_143 ml_X2_44 im_X3_putPair se_X3_putPair (by decide) hO.k0 ok_X3_putPair rfl (Nat.le_of_ble_eq_true rfl) rfl (Nat.le_of_ble_eq_true rfl) (d' := d - 1) (by omega) (Nat.zero_le _) (Nat.zero_le _) (c_X3_putPair hO b1 b2 (by rw [b3]; decide) a1 a2 (a3.trans b3.symm) (by rw [b3]; omega) (by omega) (fun h5 O5 F5 => cont_void ?_))
      refine wp_aload (i := 6) dX2_withPair_146 rfl ?_
      refine wp_dup dX2_withPair_148 ?_
      refine wp_get 5 5 (vi (nI (ct hs 4 (btN key 4)))) dX2_withPair_149 O5.k0 (by decide) (by decide) fl_X2_41 (congrArg (fun z => toV (vi z)) (O5.f_kc.trans (congrArg nI hkc))) ?_
      refine wp_iload (i := 4) dX2_withPair_152 rfl ?_
      refine wp_iaddN dX2_withPair_154 ?_
      refine wp_putI 5 5 dX2_withPair_155 O5.k0 (by decide) (by decide) (by decide) fl_X2_41 rfl (fun _ _ => rfl) rfl rfl ?_
      refine wp_aload (i := 5) dX2_withPair_158 rfl ?_
      refine wp_areturn dX2_withPair_160 rfl (Or.inl ⟨_, rfl⟩) ?_
      have V5 := hx.putR (e := e) (mn' := mn') hk (s := (ct hs 4 (btN key 4))) (n := ct hs 4 (btN key 4) + 1) (fun z => absurd (hh.symm.trans z) (by decide)) (fun z => rfl) hpk.symm (by rw [← hpk]; exact h40)
      refine hq _ (fun i i1 i2 _ => ?_) ((hM.frm (F5 _ (CNo_n (by omega) (by decide)))).frm (ce_wI (nm_ne (by decide) (by decide) (by decide)))) (fun a ha => (ce_wI (fun z => ha (Or.inr ⟨4, Nat.le_refl _, Nat.le_refl _, Or.inl rfl, by rw [z]; unfold CNo nm; omega⟩))).trans (F5 a (fun z => ha (Or.inr ⟨4, Nat.le_refl _, Nat.le_refl _, Or.inl rfl, z⟩))))
      have ei : i = 4 := by omega
      subst ei
      exact ⟨_, O5.wkc, V5⟩
  | succ m ih =>
    intro l hl h c bc bs x0 hD T hS hO hx hM hc hbc hbs hq
    have hl4 : l < 4 := by omega
    have p4 := plN_lt (k := key) (l := l)
    have hpk := ct_pk (hs := hs) (L := l) (B := btN key l) hk
    have hpk2 := ct_pk (hs := hs) (L := l + 1) (B := btN key (l + 1)) hk
    rw [if_pos rfl, ← hmo] at hpk hpk2
    have hle1 := ct_le (hs := hs) (l := l) (b := btN key l)
    have mo1 : mo ≤ 1 := by rw [hmo]; split <;> omega
    obtain ⟨r1, r2, r3, r4⟩ := hx.ra hl4 p4
    unfold PLx at r4
    rw [← btN_s] at r4
    obtain ⟨-, -, -, ⟨a1, a2, a3⟩, ⟨b1, b2, b3⟩, ⟨c1, c2, c3⟩, -⟩ : MPx (mn' (sltN key l)) l (ct hs l (btN key l)) (KN_ky x0) (KN_el x0) (KN_bl x0) x0 := hx.2.elim (fun z => z.2.1) (fun z => absurd z.1 (by omega))
    have hkc := hx.kc
    have hneg : ∀ q, q < 1000 → ¬ nI q = -1 := fun q hq => nI_m1 (by omega)
    have hcr0 : ¬ 1 < ct (va_up hs key true) (l + 1) (btN key (l + 1)) → crM (va_up hs key true) key (m + 1) l = 0 := fun z => if_neg z
    have hcr1 : 1 < ct (va_up hs key true) (l + 1) (btN key (l + 1)) → crM (va_up hs key true) key (m + 1) l = 1 + crM (va_up hs key true) key m (l + 1) := fun z => if_pos z
    rcases r4 with ⟨z1, e1, z3, e3⟩ | ⟨z1, ⟨k1, k2, k3, k4, e1, k6⟩, e3⟩ | ⟨z1, e1, z3, e3⟩
    · have hno : hs key = false := by
        cases q : hs key with
        | false => rfl
        | true => have := ct_pos (l := l + 1) hk q rfl; omega
      have mo2 : mo = 1 := by rw [hmo, hno]; rfl
      refine wp_iload (i := 7) dX2_withPair_30 rfl ?_
      refine wp_iconst (nI 4) dX2_withPair_32 (by decide) ?_
      refine wp_icmp_geN 115 dX2_withPair_33 (by decide) (by omega) (by decide) (fun c_33 => absurd c_33 (by omega)) (fun c_33 => ?_)
      refine wp_iload_n (i := 2) dX2_withPair_36 rfl rfl ?_
      refine wp_iload (i := 7) dX2_withPair_37 rfl ?_
      refine wp_cS (y' := m_X2_placeOf) [vi (nI key), vi (nI l)] [] 0 0 dX2_withPair_39 ml_X2_19 st_X2_placeOf ok_X2_placeOf rfl (Nat.le_of_ble_eq_true rfl) rfl (Nat.le_of_ble_eq_true rfl) (d' := d - 1) (by omega) (Nat.zero_le _) (Nat.zero_le _) (c_X2_placeOf (by omega) (by omega) (cont_ret ?_))
      refine wp_istore (i := 8) (lv' := [(8, vi (nI (plN key l))), (7, vi (nI l)), (6, vr (some (nm 45 (mn' (sltN key l))))), (5, vr (some k5)), (4, vi (nI mo)), (2, vi (nI key)), (3, vi e), (0, vr (some (nm 40 2)))]) dX2_withPair_42 (by decide) rfl ?_
      refine wp_aload (i := 6) dX2_withPair_44 rfl ?_
      refine wp_iload (i := 8) dX2_withPair_46 rfl ?_
      refine wp_cV (y' := m_X3_keyAt) 5 [vi (nI (plN key l))] [] 0 0 dX2_withPair_48 ml_X2_38 im_X3_keyAt se_X3_keyAt (by decide) hO.k0 ok_X3_keyAt rfl (Nat.le_of_ble_eq_true rfl) rfl (Nat.le_of_ble_eq_true rfl) (d' := d - 1) (by omega) (Nat.zero_le _) (Nat.zero_le _) (c_X3_keyAt hO hx.wf.1 (by omega) (cont_ret ?_))
      rw [r1, e1]
      refine wp_istore (i := 9) (lv' := [(9, vi (-1)), (8, vi (nI (plN key l))), (7, vi (nI l)), (6, vr (some (nm 45 (mn' (sltN key l))))), (5, vr (some k5)), (4, vi (nI mo)), (2, vi (nI key)), (3, vi e), (0, vr (some (nm 40 2)))]) dX2_withPair_51 (by decide) rfl ?_
      refine wp_aload (i := 6) dX2_withPair_53 rfl ?_
      refine wp_dup dX2_withPair_55 ?_
      refine wp_get 5 5 (vi (nI (ct hs l (btN key l)))) dX2_withPair_56 hO.k0 (by decide) (by decide) fl_X2_41 (congrArg (fun z => toV (vi z)) (hO.f_kc.trans (congrArg nI hkc))) ?_
      refine wp_iload (i := 4) dX2_withPair_59 rfl ?_
      refine wp_iaddN dX2_withPair_61 ?_
      refine wp_putI 5 5 dX2_withPair_62 hO.k0 (by decide) (by decide) (by decide) fl_X2_41 rfl (fun _ _ => rfl) rfl rfl ?_
      have O1 := hO.wkc (v := ct hs l (btN key l) + mo)
      have f1 : ∀ a, a ≠ nm 45 (mn' (sltN key l)) → ce (wI h (nm 45 (mn' (sltN key l))) 5 (nI (ct hs l (btN key l) + mo))) a = ce h a := fun a ha => ce_wI ha
      have M1 : MKR (wI h (nm 45 (mn' (sltN key l))) 5 (nI (ct hs l (btN key l) + mo))) c := hM.frm (f1 _ (nm_ne (by decide) (by decide) (by decide)))
      refine wp_aload (i := 6) dX2_withPair_65 rfl ?_
      refine wp_iload (i := 8) dX2_withPair_67 rfl ?_
      refine wp_cV (y' := m_X3_childAt) 5 [vi (nI (plN key l))] [] 0 0 dX2_withPair_69 ml_X2_25 im_X3_childAt se_X3_childAt (by decide) O1.k0 ok_X3_childAt rfl (Nat.le_of_ble_eq_true rfl) rfl (Nat.le_of_ble_eq_true rfl) (d' := d - 1) (by omega) (Nat.zero_le _) (Nat.zero_le _) (c_X3_childAt O1 (p := plN key l) hx.wf.2.2.1 (by omega) (cont_ret ?_))
      rw [show chAq (KN_ukc x0 (ct hs l (btN key l) + mo)) (plN key l) = KN_bl x0 (plN key l) from r3, e3]
      refine wp_ifnonnull 99 dX2_withPair_72 (by decide) (fun a_72 c_72 => absurd c_72 (fun z => nomatch z)) (fun c_72 => ?_)
      refine wp_iload (i := 9) dX2_withPair_75 rfl ?_
      refine wp_iconst (-1) dX2_withPair_77 (by decide) ?_
      refine wp_icmp_eq 87 dX2_withPair_78 (by decide) (fun c_78 => ?_) (fun c_78 => absurd c_78 (fun z => z rfl))
      refine wp_aload (i := 6) dX2_withPair_87 rfl ?_
      refine wp_iload (i := 8) dX2_withPair_89 rfl ?_
      refine wp_iload_n (i := 2) dX2_withPair_91 rfl rfl ?_
      refine wp_iload_n (i := 3) dX2_withPair_92 rfl rfl ?_
      refine wp_cV (y' := m_X3_putPair) 5 [vi (nI (plN key l)), vi (nI key), vi e] [] 0 0 dX2_withPair_93 ml_X2_44 im_X3_putPair se_X3_putPair (by decide) O1.k0 ok_X3_putPair rfl (Nat.le_of_ble_eq_true rfl) rfl (Nat.le_of_ble_eq_true rfl) (d' := d - 1) (by omega) (Nat.zero_le _) (Nat.zero_le _) (c_X3_putPair O1 b1 b2 (by show KN_n7 x0 ≤ 40; rw [b3]; decide) a1 a2 (a3.trans b3.symm) (by show plN key l < KN_n7 x0; rw [b3]; exact p4) (by omega) (fun h5 O5 F5 => cont_void ?_))
      refine wp_aload (i := 5) dX2_withPair_96 rfl ?_
      refine wp_areturn dX2_withPair_98 rfl (Or.inl ⟨_, rfl⟩) ?_
      have h1t : ct (va_up hs key true) (l + 1) (btN key (l + 1)) = 1 := by omega
      have V5 := hx.put1 (e := e) (mn' := mn') hl4 hk hmn h1t e3 hpk.symm
      refine hq _ (fun i i1 i2 i3 => ?_) (by rw [hcr0 (by omega)]; exact M1.frm (F5 _ (CNo_n (by omega) (by decide)))) (fun a ha => (F5 a (fun z => ha (Or.inr ⟨l, Nat.le_refl _, by omega, Or.inl rfl, z⟩))).trans (f1 a (fun z => ha (Or.inr ⟨l, Nat.le_refl _, by omega, Or.inl rfl, by rw [z]; unfold CNo nm; omega⟩))))
      have ei : i = l := i3.elim id (fun z => by
        by_cases q : i = l
        · exact q
        · have := ct_dn3 (hs := (va_up hs key true)) (key := key) (show l + 1 ≤ i by omega)
          omega)
      subst ei
      exact ⟨_, O5, V5⟩
    · by_cases hkk : k1 = key
      · have mo2 : mo = 0 := by rw [hmo, ← hkk, k3]; rfl
        rw [hkk] at e1
        refine wp_iload (i := 7) dX2_withPair_30 rfl ?_
        refine wp_iconst (nI 4) dX2_withPair_32 (by decide) ?_
        refine wp_icmp_geN 115 dX2_withPair_33 (by decide) (by omega) (by decide) (fun c_33 => absurd c_33 (by omega)) (fun c_33 => ?_)
        refine wp_iload_n (i := 2) dX2_withPair_36 rfl rfl ?_
        refine wp_iload (i := 7) dX2_withPair_37 rfl ?_
        refine wp_cS (y' := m_X2_placeOf) [vi (nI key), vi (nI l)] [] 0 0 dX2_withPair_39 ml_X2_19 st_X2_placeOf ok_X2_placeOf rfl (Nat.le_of_ble_eq_true rfl) rfl (Nat.le_of_ble_eq_true rfl) (d' := d - 1) (by omega) (Nat.zero_le _) (Nat.zero_le _) (c_X2_placeOf (by omega) (by omega) (cont_ret ?_))
        refine wp_istore (i := 8) (lv' := [(8, vi (nI (plN key l))), (7, vi (nI l)), (6, vr (some (nm 45 (mn' (sltN key l))))), (5, vr (some k5)), (4, vi (nI mo)), (2, vi (nI key)), (3, vi e), (0, vr (some (nm 40 2)))]) dX2_withPair_42 (by decide) rfl ?_
        refine wp_aload (i := 6) dX2_withPair_44 rfl ?_
        refine wp_iload (i := 8) dX2_withPair_46 rfl ?_
        refine wp_cV (y' := m_X3_keyAt) 5 [vi (nI (plN key l))] [] 0 0 dX2_withPair_48 ml_X2_38 im_X3_keyAt se_X3_keyAt (by decide) hO.k0 ok_X3_keyAt rfl (Nat.le_of_ble_eq_true rfl) rfl (Nat.le_of_ble_eq_true rfl) (d' := d - 1) (by omega) (Nat.zero_le _) (Nat.zero_le _) (c_X3_keyAt hO hx.wf.1 (by omega) (cont_ret ?_))
        rw [r1, e1]
        refine wp_istore (i := 9) (lv' := [(9, vi (nI key)), (8, vi (nI (plN key l))), (7, vi (nI l)), (6, vr (some (nm 45 (mn' (sltN key l))))), (5, vr (some k5)), (4, vi (nI mo)), (2, vi (nI key)), (3, vi e), (0, vr (some (nm 40 2)))]) dX2_withPair_51 (by decide) rfl ?_
        refine wp_aload (i := 6) dX2_withPair_53 rfl ?_
        refine wp_dup dX2_withPair_55 ?_
        refine wp_get 5 5 (vi (nI (ct hs l (btN key l)))) dX2_withPair_56 hO.k0 (by decide) (by decide) fl_X2_41 (congrArg (fun z => toV (vi z)) (hO.f_kc.trans (congrArg nI hkc))) ?_
        refine wp_iload (i := 4) dX2_withPair_59 rfl ?_
        refine wp_iaddN dX2_withPair_61 ?_
        refine wp_putI 5 5 dX2_withPair_62 hO.k0 (by decide) (by decide) (by decide) fl_X2_41 rfl (fun _ _ => rfl) rfl rfl ?_
        have O1 := hO.wkc (v := ct hs l (btN key l) + mo)
        have f1 : ∀ a, a ≠ nm 45 (mn' (sltN key l)) → ce (wI h (nm 45 (mn' (sltN key l))) 5 (nI (ct hs l (btN key l) + mo))) a = ce h a := fun a ha => ce_wI ha
        have M1 : MKR (wI h (nm 45 (mn' (sltN key l))) 5 (nI (ct hs l (btN key l) + mo))) c := hM.frm (f1 _ (nm_ne (by decide) (by decide) (by decide)))
        refine wp_aload (i := 6) dX2_withPair_65 rfl ?_
        refine wp_iload (i := 8) dX2_withPair_67 rfl ?_
        refine wp_cV (y' := m_X3_childAt) 5 [vi (nI (plN key l))] [] 0 0 dX2_withPair_69 ml_X2_25 im_X3_childAt se_X3_childAt (by decide) O1.k0 ok_X3_childAt rfl (Nat.le_of_ble_eq_true rfl) rfl (Nat.le_of_ble_eq_true rfl) (d' := d - 1) (by omega) (Nat.zero_le _) (Nat.zero_le _) (c_X3_childAt O1 (p := plN key l) hx.wf.2.2.1 (by omega) (cont_ret ?_))
        rw [show chAq (KN_ukc x0 (ct hs l (btN key l) + mo)) (plN key l) = KN_bl x0 (plN key l) from r3, e3]
        refine wp_ifnonnull 99 dX2_withPair_72 (by decide) (fun a_72 c_72 => absurd c_72 (fun z => nomatch z)) (fun c_72 => ?_)
        refine wp_iload (i := 9) dX2_withPair_75 rfl ?_
        refine wp_iconst (-1) dX2_withPair_77 (by decide) ?_
        refine wp_icmp_eq 87 dX2_withPair_78 (by decide) (fun c_78 => absurd c_78 (hneg _ hk)) (fun c_78 => ?_)
        refine wp_iload (i := 9) dX2_withPair_81 rfl ?_
        refine wp_iload_n (i := 2) dX2_withPair_83 rfl rfl ?_
        refine wp_icmp_neN 99 dX2_withPair_84 (by decide) (by omega) (by omega) (fun c_84 => absurd c_84 (by omega)) (fun c_84 => ?_)
        refine wp_aload (i := 6) dX2_withPair_87 rfl ?_
        refine wp_iload (i := 8) dX2_withPair_89 rfl ?_
        refine wp_iload_n (i := 2) dX2_withPair_91 rfl rfl ?_
        refine wp_iload_n (i := 3) dX2_withPair_92 rfl rfl ?_
        refine wp_cV (y' := m_X3_putPair) 5 [vi (nI (plN key l)), vi (nI key), vi e] [] 0 0 dX2_withPair_93 ml_X2_44 im_X3_putPair se_X3_putPair (by decide) O1.k0 ok_X3_putPair rfl (Nat.le_of_ble_eq_true rfl) rfl (Nat.le_of_ble_eq_true rfl) (d' := d - 1) (by omega) (Nat.zero_le _) (Nat.zero_le _) (c_X3_putPair O1 b1 b2 (by show KN_n7 x0 ≤ 40; rw [b3]; decide) a1 a2 (a3.trans b3.symm) (by show plN key l < KN_n7 x0; rw [b3]; exact p4) (by omega) (fun h5 O5 F5 => cont_void ?_))
        refine wp_aload (i := 5) dX2_withPair_96 rfl ?_
        refine wp_areturn dX2_withPair_98 rfl (Or.inl ⟨_, rfl⟩) ?_
        have h1t : ct (va_up hs key true) (l + 1) (btN key (l + 1)) = 1 := by omega
        have V5 := hx.put1 (e := e) (mn' := mn') hl4 hk hmn h1t e3 hpk.symm
        refine hq _ (fun i i1 i2 i3 => ?_) (by rw [hcr0 (by omega)]; exact M1.frm (F5 _ (CNo_n (by omega) (by decide)))) (fun a ha => (F5 a (fun z => ha (Or.inr ⟨l, Nat.le_refl _, by omega, Or.inl rfl, z⟩))).trans (f1 a (fun z => ha (Or.inr ⟨l, Nat.le_refl _, by omega, Or.inl rfl, by rw [z]; unfold CNo nm; omega⟩))))
        have ei : i = l := i3.elim id (fun z => by
          by_cases q : i = l
          · exact q
          · have := ct_dn3 (hs := (va_up hs key true)) (key := key) (show l + 1 ≤ i by omega)
            omega)
        subst ei
        exact ⟨_, O5, V5⟩
      · have hno : hs key = false := by
          cases q : hs key with
          | false => rfl
          | true => exact absurd (ct_un (by omega) k2 hk k3 q k4 rfl) hkk
        have mo2 : mo = 1 := by rw [hmo, hno]; rfl
        refine wp_iload (i := 7) dX2_withPair_30 rfl ?_
        refine wp_iconst (nI 4) dX2_withPair_32 (by decide) ?_
        refine wp_icmp_geN 115 dX2_withPair_33 (by decide) (by omega) (by decide) (fun c_33 => absurd c_33 (by omega)) (fun c_33 => ?_)
        refine wp_iload_n (i := 2) dX2_withPair_36 rfl rfl ?_
        refine wp_iload (i := 7) dX2_withPair_37 rfl ?_
        refine wp_cS (y' := m_X2_placeOf) [vi (nI key), vi (nI l)] [] 0 0 dX2_withPair_39 ml_X2_19 st_X2_placeOf ok_X2_placeOf rfl (Nat.le_of_ble_eq_true rfl) rfl (Nat.le_of_ble_eq_true rfl) (d' := d - 1) (by omega) (Nat.zero_le _) (Nat.zero_le _) (c_X2_placeOf (by omega) (by omega) (cont_ret ?_))
        refine wp_istore (i := 8) (lv' := [(8, vi (nI (plN key l))), (7, vi (nI l)), (6, vr (some (nm 45 (mn' (sltN key l))))), (5, vr (some k5)), (4, vi (nI mo)), (2, vi (nI key)), (3, vi e), (0, vr (some (nm 40 2)))]) dX2_withPair_42 (by decide) rfl ?_
        refine wp_aload (i := 6) dX2_withPair_44 rfl ?_
        refine wp_iload (i := 8) dX2_withPair_46 rfl ?_
        refine wp_cV (y' := m_X3_keyAt) 5 [vi (nI (plN key l))] [] 0 0 dX2_withPair_48 ml_X2_38 im_X3_keyAt se_X3_keyAt (by decide) hO.k0 ok_X3_keyAt rfl (Nat.le_of_ble_eq_true rfl) rfl (Nat.le_of_ble_eq_true rfl) (d' := d - 1) (by omega) (Nat.zero_le _) (Nat.zero_le _) (c_X3_keyAt hO hx.wf.1 (by omega) (cont_ret ?_))
        rw [r1, e1]
        refine wp_istore (i := 9) (lv' := [(9, vi (nI k1)), (8, vi (nI (plN key l))), (7, vi (nI l)), (6, vr (some (nm 45 (mn' (sltN key l))))), (5, vr (some k5)), (4, vi (nI mo)), (2, vi (nI key)), (3, vi e), (0, vr (some (nm 40 2)))]) dX2_withPair_51 (by decide) rfl ?_
        refine wp_aload (i := 6) dX2_withPair_53 rfl ?_
        refine wp_dup dX2_withPair_55 ?_
        refine wp_get 5 5 (vi (nI (ct hs l (btN key l)))) dX2_withPair_56 hO.k0 (by decide) (by decide) fl_X2_41 (congrArg (fun z => toV (vi z)) (hO.f_kc.trans (congrArg nI hkc))) ?_
        refine wp_iload (i := 4) dX2_withPair_59 rfl ?_
        refine wp_iaddN dX2_withPair_61 ?_
        refine wp_putI 5 5 dX2_withPair_62 hO.k0 (by decide) (by decide) (by decide) fl_X2_41 rfl (fun _ _ => rfl) rfl rfl ?_
        have O1 := hO.wkc (v := ct hs l (btN key l) + mo)
        have f1 : ∀ a, a ≠ nm 45 (mn' (sltN key l)) → ce (wI h (nm 45 (mn' (sltN key l))) 5 (nI (ct hs l (btN key l) + mo))) a = ce h a := fun a ha => ce_wI ha
        have M1 : MKR (wI h (nm 45 (mn' (sltN key l))) 5 (nI (ct hs l (btN key l) + mo))) c := hM.frm (f1 _ (nm_ne (by decide) (by decide) (by decide)))
        refine wp_aload (i := 6) dX2_withPair_65 rfl ?_
        refine wp_iload (i := 8) dX2_withPair_67 rfl ?_
        refine wp_cV (y' := m_X3_childAt) 5 [vi (nI (plN key l))] [] 0 0 dX2_withPair_69 ml_X2_25 im_X3_childAt se_X3_childAt (by decide) O1.k0 ok_X3_childAt rfl (Nat.le_of_ble_eq_true rfl) rfl (Nat.le_of_ble_eq_true rfl) (d' := d - 1) (by omega) (Nat.zero_le _) (Nat.zero_le _) (c_X3_childAt O1 (p := plN key l) hx.wf.2.2.1 (by omega) (cont_ret ?_))
        rw [show chAq (KN_ukc x0 (ct hs l (btN key l) + mo)) (plN key l) = KN_bl x0 (plN key l) from r3, e3]
        refine wp_ifnonnull 99 dX2_withPair_72 (by decide) (fun a_72 c_72 => absurd c_72 (fun z => nomatch z)) (fun c_72 => ?_)
        refine wp_iload (i := 9) dX2_withPair_75 rfl ?_
        refine wp_iconst (-1) dX2_withPair_77 (by decide) ?_
        refine wp_icmp_eq 87 dX2_withPair_78 (by decide) (fun c_78 => absurd c_78 (hneg _ k2)) (fun c_78 => ?_)
        refine wp_iload (i := 9) dX2_withPair_81 rfl ?_
        refine wp_iload_n (i := 2) dX2_withPair_83 rfl rfl ?_
        refine wp_icmp_neN 99 dX2_withPair_84 (by decide) (by omega) (by omega) (fun c_84 => ?_) (fun c_84 => absurd c_84 (fun z => hkk (by omega)))
        refine wp_aload_n (i := 0) dX2_withPair_99 rfl rfl ?_
        refine wp_aload (i := 6) dX2_withPair_100 rfl ?_
        refine wp_iload (i := 8) dX2_withPair_102 rfl ?_
        have hgt : 1 < ct (va_up hs key true) (l + 1) (btN key (l + 1)) := by omega
        have hne : mn' (sltN key l) ≠ mn' (sltN key (l + 1)) := hdst l (l + 1) (by omega) (by omega) hgt
        have hf1 : FrN h (mn' (sltN key (l + 1))) := hD (l + 1) (by omega) (by omega) hgt
        skip
        have T1 : MTf (wI h (nm 45 (mn' (sltN key l))) 5 (nI (ct hs l (btN key l) + mo))) M hs of mn := T.frm (fun L B r g1 g2 g3 q1 q2 => f1 _ (fun z => hS L B g1 g2 g3 (by unfold nm at z; omega)))
        have hf2 : FrN (wI h (nm 45 (mn' (sltN key l))) 5 (nI (ct hs l (btN key l) + mo))) (mn' (sltN key (l + 1))) := hf1.frm (fun r q1 q2 => f1 _ (fun z => hne (by unfold nm at z; omega)))
        refine wp_cS (y' := m_X2_changeableChild) [vr (some (nm 40 2)), vr (some (nm 45 (mn' (sltN key l)))), vi (nI (plN key l))] [] 4 91 dX2_withPair_104 ml_X2_48 st_X2_changeableChild ok_X2_changeableChild rfl (Nat.le_of_ble_eq_true rfl) rfl (Nat.le_of_ble_eq_true rfl) (d' := d - 1) (by omega) (by omega) (by omega) (c_X2_changeableChild (k1 := mn' (sltN key (l + 1))) (nc := ct hs l (btN key l) + mo) hl4 hk T1 O1 hx M1 (by omega) hne hf2 (by omega) (by omega) (by omega) (by omega) (fun h6 x1 K0 K1 V1 M6 F6 => cont_ret ?_))
        refine wp_astore (i := 6) (lv' := [(6, vr (some (nm 45 (mn' (sltN key (l + 1)))))), (9, vi (nI k1)), (8, vi (nI (plN key l))), (7, vi (nI l)), (5, vr (some k5)), (4, vi (nI mo)), (2, vi (nI key)), (3, vi e), (0, vr (some (nm 40 2)))]) dX2_withPair_107 (by decide) rfl ?_
        refine wp_iincN (a := l) (lv' := [(7, vi (nI (l + 1))), (6, vr (some (nm 45 (mn' (sltN key (l + 1)))))), (9, vi (nI k1)), (8, vi (nI (plN key l))), (5, vr (some k5)), (4, vi (nI mo)), (2, vi (nI key)), (3, vi e), (0, vr (some (nm 40 2)))]) 1 dX2_withPair_109 rfl (by decide) (by decide) rfl ?_
        refine wp_goto 30 dX2_withPair_112 (by decide) ?_
        refine wp_sub [(7, vi (nI (l + 1))), (6, vr (some (nm 45 (mn' (sltN key (l + 1)))))), (5, vr (some k5)), (4, vi (nI mo)), (2, vi (nI key)), (3, vi e), (0, vr (some (nm 40 2)))] (sb_cons (.head _) (sb_cons (.tail _ (.head _)) (sb_cons (.tail _ (.tail _ (.tail _ (.tail _ (.head _))))) (sb_cons (.tail _ (.tail _ (.tail _ (.tail _ (.tail _ (.head _)))))) (sb_cons (.tail _ (.tail _ (.tail _ (.tail _ (.tail _ (.tail _ (.head _))))))) (sb_cons (.tail _ (.tail _ (.tail _ (.tail _ (.tail _ (.tail _ (.tail _ (.head _)))))))) (sb_cons (.tail _ (.tail _ (.tail _ (.tail _ (.tail _ (.tail _ (.tail _ (.tail _ (.head _))))))))) sb_nil))))))) ?_
        have V0 := hx.put2 (e := e) (mn' := mn') (t := true) hl4 hmn hgt hpk.symm
        have F8 : Fr h h6 (fun a => W1 (mn' (sltN key (l + 1))) a ∨ CNo (mn' (sltN key l)) a) := fun a ha => (F6 a ha).trans (f1 a (fun z => ha (Or.inr (by rw [z]; unfold CNo nm; omega))))
        have f8 : ∀ r i, 45 ≤ r → r ≤ 48 → i ≠ mn' (sltN key l) → i ≠ mn' (sltN key (l + 1)) → ce h6 (nm r i) = ce h (nm r i) := fun r i r1 r2 i1 i2 => F8 _ (fun z => z.elim (W1_n (fun y => i2 y.2.2) (by omega) (by omega)) (CNo_n (fun y => i1 y.2.2) (by omega)))
        have hS2 : ∀ L B, L ≤ 4 → B < 2 ^ (2 * L) → (L = 0 ∨ 1 < ct hs L B) → mn (lst L + B) ≠ mn' (sltN key (l + 1)) := fun L B g1 g2 g3 => T.ne hf1.1 g1 g2 g3
        refine ih (l + 1) (by omega) h6 _ _ _ x1 (fun i i1 i2 i3 => (hD i (by omega) i2 i3).frm (fun r q1 q2 => f8 r _ q1 q2 (fun z => hdst l i (by omega) i2 i3 z.symm) (fun z => hdst (l + 1) i i1 i2 i3 z.symm))) (T.frm (fun L B r g1 g2 g3 q1 q2 => f8 r _ q1 q2 (hS L B g1 g2 g3) (hS2 L B g1 g2 g3))) hS2 K1 V1 M6 (by omega) (by omega) (by omega) (fun h7 Z7 M7 F7 => ?_)
        have f9 : ∀ r, 45 ≤ r → r ≤ 48 → ce h7 (nm r (mn' (sltN key l))) = ce h6 (nm r (mn' (sltN key l))) := fun r q1 q2 => F7 _ (fun z => z.elim (fun z => by unfold nm at z; omega) (fun ⟨i, i1, i2, i3, i4⟩ => CNo_n (fun y => hdst l i (by omega) i2 (i3.elim (fun e => by rw [e]; exact hgt) id) y.2.2) (by omega) i4))
        refine hq h7 (fun i i1 i2 i3 => ?_) (by rw [hcr1 hgt, ← Nat.add_assoc]; exact M7) (fun a ha => (F7 a (fun z => ha (z.elim Or.inl (fun ⟨i, i1, i2, i3, i4⟩ => Or.inr ⟨i, by omega, i2, Or.inr (i3.elim (fun e => by rw [e]; exact hgt) id), i4⟩)))).trans (F8 a (fun z => ha (z.elim (fun z => z.elim (fun z => Or.inr ⟨l + 1, by omega, by omega, Or.inr hgt, z⟩) Or.inl) (fun z => Or.inr ⟨l, Nat.le_refl _, by omega, Or.inl rfl, z⟩)))))
        by_cases ei : i = l
        · subst ei
          exact ⟨_, K0.frm (f9 45 (by decide) (by decide)) (f9 46 (by decide) (by decide)) (f9 47 (by decide) (by decide)) (f9 48 (by decide) (by decide)), V0⟩
        · exact Z7 i (by omega) i2 (i3.elim (fun z => absurd z ei) (fun z => Or.inr z))
    · skip
      refine wp_iload (i := 7) dX2_withPair_30 rfl ?_
      refine wp_iconst (nI 4) dX2_withPair_32 (by decide) ?_
      refine wp_icmp_geN 115 dX2_withPair_33 (by decide) (by omega) (by decide) (fun c_33 => absurd c_33 (by omega)) (fun c_33 => ?_)
      refine wp_iload_n (i := 2) dX2_withPair_36 rfl rfl ?_
      refine wp_iload (i := 7) dX2_withPair_37 rfl ?_
      refine wp_cS (y' := m_X2_placeOf) [vi (nI key), vi (nI l)] [] 0 0 dX2_withPair_39 ml_X2_19 st_X2_placeOf ok_X2_placeOf rfl (Nat.le_of_ble_eq_true rfl) rfl (Nat.le_of_ble_eq_true rfl) (d' := d - 1) (by omega) (Nat.zero_le _) (Nat.zero_le _) (c_X2_placeOf (by omega) (by omega) (cont_ret ?_))
      refine wp_istore (i := 8) (lv' := [(8, vi (nI (plN key l))), (7, vi (nI l)), (6, vr (some (nm 45 (mn' (sltN key l))))), (5, vr (some k5)), (4, vi (nI mo)), (2, vi (nI key)), (3, vi e), (0, vr (some (nm 40 2)))]) dX2_withPair_42 (by decide) rfl ?_
      refine wp_aload (i := 6) dX2_withPair_44 rfl ?_
      refine wp_iload (i := 8) dX2_withPair_46 rfl ?_
      refine wp_cV (y' := m_X3_keyAt) 5 [vi (nI (plN key l))] [] 0 0 dX2_withPair_48 ml_X2_38 im_X3_keyAt se_X3_keyAt (by decide) hO.k0 ok_X3_keyAt rfl (Nat.le_of_ble_eq_true rfl) rfl (Nat.le_of_ble_eq_true rfl) (d' := d - 1) (by omega) (Nat.zero_le _) (Nat.zero_le _) (c_X3_keyAt hO hx.wf.1 (by omega) (cont_ret ?_))
      rw [r1, e1]
      refine wp_istore (i := 9) (lv' := [(9, vi (-1)), (8, vi (nI (plN key l))), (7, vi (nI l)), (6, vr (some (nm 45 (mn' (sltN key l))))), (5, vr (some k5)), (4, vi (nI mo)), (2, vi (nI key)), (3, vi e), (0, vr (some (nm 40 2)))]) dX2_withPair_51 (by decide) rfl ?_
      refine wp_aload (i := 6) dX2_withPair_53 rfl ?_
      refine wp_dup dX2_withPair_55 ?_
      refine wp_get 5 5 (vi (nI (ct hs l (btN key l)))) dX2_withPair_56 hO.k0 (by decide) (by decide) fl_X2_41 (congrArg (fun z => toV (vi z)) (hO.f_kc.trans (congrArg nI hkc))) ?_
      refine wp_iload (i := 4) dX2_withPair_59 rfl ?_
      refine wp_iaddN dX2_withPair_61 ?_
      refine wp_putI 5 5 dX2_withPair_62 hO.k0 (by decide) (by decide) (by decide) fl_X2_41 rfl (fun _ _ => rfl) rfl rfl ?_
      have O1 := hO.wkc (v := ct hs l (btN key l) + mo)
      have f1 : ∀ a, a ≠ nm 45 (mn' (sltN key l)) → ce (wI h (nm 45 (mn' (sltN key l))) 5 (nI (ct hs l (btN key l) + mo))) a = ce h a := fun a ha => ce_wI ha
      have M1 : MKR (wI h (nm 45 (mn' (sltN key l))) 5 (nI (ct hs l (btN key l) + mo))) c := hM.frm (f1 _ (nm_ne (by decide) (by decide) (by decide)))
      refine wp_aload (i := 6) dX2_withPair_65 rfl ?_
      refine wp_iload (i := 8) dX2_withPair_67 rfl ?_
      refine wp_cV (y' := m_X3_childAt) 5 [vi (nI (plN key l))] [] 0 0 dX2_withPair_69 ml_X2_25 im_X3_childAt se_X3_childAt (by decide) O1.k0 ok_X3_childAt rfl (Nat.le_of_ble_eq_true rfl) rfl (Nat.le_of_ble_eq_true rfl) (d' := d - 1) (by omega) (Nat.zero_le _) (Nat.zero_le _) (c_X3_childAt O1 (p := plN key l) hx.wf.2.2.1 (by omega) (cont_ret ?_))
      rw [show chAq (KN_ukc x0 (ct hs l (btN key l) + mo)) (plN key l) = KN_bl x0 (plN key l) from r3, e3]
      refine wp_ifnonnull 99 dX2_withPair_72 (by decide) (fun a_72 c_72 => ?_) (fun c_72 => absurd c_72 (fun z => nomatch z))
      refine wp_aload_n (i := 0) dX2_withPair_99 rfl rfl ?_
      refine wp_aload (i := 6) dX2_withPair_100 rfl ?_
      refine wp_iload (i := 8) dX2_withPair_102 rfl ?_
      have hgt : 1 < ct (va_up hs key true) (l + 1) (btN key (l + 1)) := by omega
      have hne : mn' (sltN key l) ≠ mn' (sltN key (l + 1)) := hdst l (l + 1) (by omega) (by omega) hgt
      have hf1 : FrN h (mn' (sltN key (l + 1))) := hD (l + 1) (by omega) (by omega) hgt
      skip
      have T1 : MTf (wI h (nm 45 (mn' (sltN key l))) 5 (nI (ct hs l (btN key l) + mo))) M hs of mn := T.frm (fun L B r g1 g2 g3 q1 q2 => f1 _ (fun z => hS L B g1 g2 g3 (by unfold nm at z; omega)))
      have hf2 : FrN (wI h (nm 45 (mn' (sltN key l))) 5 (nI (ct hs l (btN key l) + mo))) (mn' (sltN key (l + 1))) := hf1.frm (fun r q1 q2 => f1 _ (fun z => hne (by unfold nm at z; omega)))
      refine wp_cS (y' := m_X2_changeableChild) [vr (some (nm 40 2)), vr (some (nm 45 (mn' (sltN key l)))), vi (nI (plN key l))] [] 4 91 dX2_withPair_104 ml_X2_48 st_X2_changeableChild ok_X2_changeableChild rfl (Nat.le_of_ble_eq_true rfl) rfl (Nat.le_of_ble_eq_true rfl) (d' := d - 1) (by omega) (by omega) (by omega) (c_X2_changeableChild (k1 := mn' (sltN key (l + 1))) (nc := ct hs l (btN key l) + mo) hl4 hk T1 O1 hx M1 (by omega) hne hf2 (by omega) (by omega) (by omega) (by omega) (fun h6 x1 K0 K1 V1 M6 F6 => cont_ret ?_))
      refine wp_astore (i := 6) (lv' := [(6, vr (some (nm 45 (mn' (sltN key (l + 1)))))), (9, vi (-1)), (8, vi (nI (plN key l))), (7, vi (nI l)), (5, vr (some k5)), (4, vi (nI mo)), (2, vi (nI key)), (3, vi e), (0, vr (some (nm 40 2)))]) dX2_withPair_107 (by decide) rfl ?_
      refine wp_iincN (a := l) (lv' := [(7, vi (nI (l + 1))), (6, vr (some (nm 45 (mn' (sltN key (l + 1)))))), (9, vi (-1)), (8, vi (nI (plN key l))), (5, vr (some k5)), (4, vi (nI mo)), (2, vi (nI key)), (3, vi e), (0, vr (some (nm 40 2)))]) 1 dX2_withPair_109 rfl (by decide) (by decide) rfl ?_
      refine wp_goto 30 dX2_withPair_112 (by decide) ?_
      refine wp_sub [(7, vi (nI (l + 1))), (6, vr (some (nm 45 (mn' (sltN key (l + 1)))))), (5, vr (some k5)), (4, vi (nI mo)), (2, vi (nI key)), (3, vi e), (0, vr (some (nm 40 2)))] (sb_cons (.head _) (sb_cons (.tail _ (.head _)) (sb_cons (.tail _ (.tail _ (.tail _ (.tail _ (.head _))))) (sb_cons (.tail _ (.tail _ (.tail _ (.tail _ (.tail _ (.head _)))))) (sb_cons (.tail _ (.tail _ (.tail _ (.tail _ (.tail _ (.tail _ (.head _))))))) (sb_cons (.tail _ (.tail _ (.tail _ (.tail _ (.tail _ (.tail _ (.tail _ (.head _)))))))) (sb_cons (.tail _ (.tail _ (.tail _ (.tail _ (.tail _ (.tail _ (.tail _ (.tail _ (.head _))))))))) sb_nil))))))) ?_
      have V0 := hx.put2 (e := e) (mn' := mn') (t := true) hl4 hmn hgt hpk.symm
      have F8 : Fr h h6 (fun a => W1 (mn' (sltN key (l + 1))) a ∨ CNo (mn' (sltN key l)) a) := fun a ha => (F6 a ha).trans (f1 a (fun z => ha (Or.inr (by rw [z]; unfold CNo nm; omega))))
      have f8 : ∀ r i, 45 ≤ r → r ≤ 48 → i ≠ mn' (sltN key l) → i ≠ mn' (sltN key (l + 1)) → ce h6 (nm r i) = ce h (nm r i) := fun r i r1 r2 i1 i2 => F8 _ (fun z => z.elim (W1_n (fun y => i2 y.2.2) (by omega) (by omega)) (CNo_n (fun y => i1 y.2.2) (by omega)))
      have hS2 : ∀ L B, L ≤ 4 → B < 2 ^ (2 * L) → (L = 0 ∨ 1 < ct hs L B) → mn (lst L + B) ≠ mn' (sltN key (l + 1)) := fun L B g1 g2 g3 => T.ne hf1.1 g1 g2 g3
      refine ih (l + 1) (by omega) h6 _ _ _ x1 (fun i i1 i2 i3 => (hD i (by omega) i2 i3).frm (fun r q1 q2 => f8 r _ q1 q2 (fun z => hdst l i (by omega) i2 i3 z.symm) (fun z => hdst (l + 1) i i1 i2 i3 z.symm))) (T.frm (fun L B r g1 g2 g3 q1 q2 => f8 r _ q1 q2 (hS L B g1 g2 g3) (hS2 L B g1 g2 g3))) hS2 K1 V1 M6 (by omega) (by omega) (by omega) (fun h7 Z7 M7 F7 => ?_)
      have f9 : ∀ r, 45 ≤ r → r ≤ 48 → ce h7 (nm r (mn' (sltN key l))) = ce h6 (nm r (mn' (sltN key l))) := fun r q1 q2 => F7 _ (fun z => z.elim (fun z => by unfold nm at z; omega) (fun ⟨i, i1, i2, i3, i4⟩ => CNo_n (fun y => hdst l i (by omega) i2 (i3.elim (fun e => by rw [e]; exact hgt) id) y.2.2) (by omega) i4))
      refine hq h7 (fun i i1 i2 i3 => ?_) (by rw [hcr1 hgt, ← Nat.add_assoc]; exact M7) (fun a ha => (F7 a (fun z => ha (z.elim Or.inl (fun ⟨i, i1, i2, i3, i4⟩ => Or.inr ⟨i, by omega, i2, Or.inr (i3.elim (fun e => by rw [e]; exact hgt) id), i4⟩)))).trans (F8 a (fun z => ha (z.elim (fun z => z.elim (fun z => Or.inr ⟨l + 1, by omega, by omega, Or.inr hgt, z⟩) Or.inl) (fun z => Or.inr ⟨l, Nat.le_refl _, by omega, Or.inl rfl, z⟩)))))
      by_cases ei : i = l
      · subst ei
        exact ⟨_, K0.frm (f9 45 (by decide) (by decide)) (f9 46 (by decide) (by decide)) (f9 47 (by decide) (by decide)) (f9 48 (by decide) (by decide)), V0⟩
      · exact Z7 i (by omega) i2 (i3.elim (fun z => absurd z ei) (fun z => Or.inr z))
