/-! The class: maps, a key taken out. -/
theorem btN_dn {a b l : Nat} (h : btN a (l + 1) = btN b (l + 1)) : btN a l = btN b l := by
  rw [btN_s (k := b)] at h
  exact ((btN_i (btN_lt b l)).mp h).1
theorem btN_dn2 {a b l : Nat} : ∀ n, btN a (l + n) = btN b (l + n) → btN a l = btN b l := by
  intro n
  induction n with
  | zero => exact id
  | succ n ih => exact fun h => ih (btN_dn h)
theorem btN_dn3 {a b l i : Nat} (h : l ≤ i) (e : btN a i = btN b i) : btN a l = btN b l := btN_dn2 (i - l) (by rwa [show l + (i - l) = i by omega])
theorem MNk.two {hs : Nat → Bool} {of : Nat → Int32} {mn : Nat → Nat} {key k' lv M k : Nat} {x : KNS} (H : MNk M k hs of mn lv (btN key lv) x) (hl : lv ≤ 4) (hk : key < 1000) (hh : hs key = true) (hk' : k' < 1000) (h2 : hs k' = true) (e2 : btN k' lv = btN key lv) (hne : k' ≠ key) (hct : ct hs lv (btN key lv) = 2) (hc : lv = 4 ∨ ct hs (lv + 1) (btN key (lv + 1)) ≤ 1) :
    ∃ j0, j0 < (if lv < 4 then 4 else 2) ∧ kyA x j0 = nI k' ∧ elA x j0 = of k' ∧ ∀ j, j < (if lv < 4 then 4 else 2) → j ≠ j0 → (kyA x j = -1 ∨ kyA x j = nI key) := by
  by_cases h4 : lv < 4
  · rw [if_pos h4]
    have p4 := plN_lt (k := k') (l := lv)
    have hpp : plN k' lv ≠ plN key lv := fun q => by
      have eb : btN k' (lv + 1) = btN key (lv + 1) := by rw [btN_s, btN_s, e2, q]
      have := ct_un (show ct hs (lv + 1) (btN key (lv + 1)) ≤ 1 by omega) hk' hk h2 hh eb rfl
      exact hne this
    have inb : ∀ j q, btN j (lv + 1) = btN key lv + 2 ^ (2 * lv) * q → btN j lv = btN key lv ∧ plN j lv = q := fun j q e => (btN_i (btN_lt key lv)).mp e
    have hc1 : ∀ q, q < 4 → ct hs (lv + 1) (btN key lv + 2 ^ (2 * lv) * q) ≤ 1 := fun q hq => by
      by_cases z : 1 < ct hs (lv + 1) (btN key lv + 2 ^ (2 * lv) * q)
      · exfalso
        have hle := ct_mono (hs := hs) (p := q) (btN_lt key lv)
        have e22 : ct hs (lv + 1) (btN key lv + 2 ^ (2 * lv) * q) = 2 := by omega
        obtain ⟨j, j1, j2, j3⟩ := ct_ex (hs := hs) (l := lv + 1) (b := btN key lv + 2 ^ (2 * lv) * q) (by omega)
        obtain ⟨j', g1, g2, g3, g4⟩ := ct_ot e22 j1 j2 j3
        have w1 := ct_2 hct hk hh rfl hk' h2 e2 hne j1 j2 (inb j q j3).1
        have w2 := ct_2 hct hk hh rfl hk' h2 e2 hne g1 g2 (inb j' q g3).1
        have q1 := (inb j q j3).2
        have q2 := (inb j' q g3).2
        rcases w1 with z1 | z1 <;> rcases w2 with z2 | z2
        · exact g4 (by rw [z1, z2])
        · rw [z1] at q1; rw [z2] at q2; exact hpp (by rw [q1, q2])
        · rw [z1] at q1; rw [z2] at q2; exact hpp (by rw [q1, q2])
        · exact g4 (by rw [z1, z2])
      · omega
    refine ⟨plN k' lv, p4, ?_, ?_, fun j hj hjne => ?_⟩
    · obtain ⟨r1, r2, r3, r4⟩ := H.ra h4 p4
      have eb : btN k' (lv + 1) = btN key lv + 2 ^ (2 * lv) * plN k' lv := by rw [btN_s, e2]
      have hp1 := ct_pos (l := lv + 1) hk' h2 eb
      rcases r4 with z | ⟨z1, ⟨a, a1, a2, a3, a4, a5⟩, z3⟩ | z
      · omega
      · rw [r1, a4, ct_un (by omega) a1 hk' a2 h2 a3 eb]
      · have := hc1 _ p4; omega
    · obtain ⟨r1, r2, r3, r4⟩ := H.ra h4 p4
      have eb : btN k' (lv + 1) = btN key lv + 2 ^ (2 * lv) * plN k' lv := by rw [btN_s, e2]
      have hp1 := ct_pos (l := lv + 1) hk' h2 eb
      rcases r4 with z | ⟨z1, ⟨a, a1, a2, a3, a4, a5⟩, z3⟩ | z
      · omega
      · rw [r2, a5, ct_un (by omega) a1 hk' a2 h2 a3 eb]
      · have := hc1 _ p4; omega
    · obtain ⟨r1, r2, r3, r4⟩ := H.ra h4 hj
      rcases r4 with ⟨z1, z2, -⟩ | ⟨z1, ⟨a, a1, a2, a3, a4, a5⟩, z3⟩ | ⟨z1, z2, -⟩
      · exact Or.inl (r1.trans z2)
      · right
        obtain ⟨i1, i2⟩ := inb a j a3
        rcases ct_2 hct hk hh rfl hk' h2 e2 hne a1 a2 i1 with z | z
        · rw [r1, a4, z]
        · exact absurd (by rw [← i2, z]) hjne
      · exact Or.inl (r1.trans z2)
  · have e4 : lv = 4 := by omega
    subst e4
    rw [if_neg h4]
    rcases H.2 with ⟨z, -⟩ | ⟨-, rw2, h3, L, g1, g2, g3, g4⟩
    · exact absurd z (by decide)
    · obtain ⟨i, i1, i2⟩ := g3 k' hk' h2 e2
      rw [hct] at i1
      refine ⟨i, i1, ?_, ?_, fun j hj hjne => ?_⟩
      · rw [(H.rr (by omega)).1, (g1 i (by omega)).2.2.2.1, i2]
      · rw [(H.rr (by omega)).2, (g1 i (by omega)).2.2.2.2, i2]
      · right
        obtain ⟨c1, c2, c3, c4, c5⟩ := g1 j (by omega)
        rw [(H.rr (by omega)).1, c4]
        rcases ct_2 hct hk hh rfl hk' h2 e2 hne c1 c2 c3 with z | z
        · rw [z]
        · exact absurd (g2 j i (by omega) (by omega) (z.trans i2.symm)) hjne
set_option maxRecDepth 100000 in
set_option maxHeartbeats 4000000 in
theorem l_X2_lift {G : GG} {d bc bs : Nat} {Q : Pst} {h0 : Hp} {k0 kh key k' p len j0 : Nat} {of : Nat → Int32} {x0 xh : KNS} (rk : KN_kk x0 = some (nm 46 k0) ∧ KN_a6 x0 = 101 ∧ KN_n6 x0 = 4) (re : KN_ke x0 = some (nm 47 k0) ∧ KN_a7 x0 = 101 ∧ KN_n7 x0 = 4) (hp4 : p < 4) (hH : KN h0 kh xh) (hw : WFN kh xh) (hne : kh ≠ k0) (hl40 : len ≤ 40) (hk : key < 1000) (hk' : k' < 1000) (hkk : k' ≠ key) (j1 : j0 < len) (j2 : kyA xh j0 = nI k') (j3 : elA xh j0 = of k') (j4 : ∀ j, j < len → j ≠ j0 → (kyA xh j = -1 ∨ kyA xh j = nI key)) (hd : 3 ≤ d) (hq : ∀ h', KN h' k0 (KN_uel (KN_uky (KN_ubl x0 p none) p (nI k')) p (of k')) → Fr h0 h' (CNo k0) → Q oVoid h') : ∀ m i H, i + m = len → KN H k0 (if j0 < i then (KN_uel (KN_uky (KN_ubl x0 p none) p (nI k')) p (of k')) else (KN_ubl x0 p none)) → Fr h0 H (CNo k0) → WP G m_X2_lift d 42 [(6, vi (nI i)), (5, vi (nI len)), (4, vr (some (nm 45 kh))), (3, vi (nI key)), (1, vi (nI p)), (0, vr (some (nm 45 k0)))] [] H bc bs Q := by
  obtain ⟨a1, a2, a3⟩ := rk
  obtain ⟨b1, b2, b3⟩ := re
  intro m
  induction m with
  | zero =>
    intro i H hi hO hF
    have hi : i = len := hi
    subst hi
    rw [if_pos j1] at hO
    refine wp_iload (i := 6) dX2_lift_42 rfl ?_
    refine wp_iload (i := 5) dX2_lift_44 rfl ?_
    refine wp_icmp_geN 90 dX2_lift_46 (by decide) (by omega) (by omega) (fun c_46 => ?_) (fun c_46 => absurd c_46 (by omega))
    refine wp_return dX2_lift_90 rfl ?_
    exact hq _ hO hF
  | succ m ih =>
    intro i H hi hO hF
    have hH2 := hH.frm (hF _ (CNo_n (fun z => hne z.2.2) (by decide))) (hF _ (CNo_n (fun z => hne z.2.2) (by decide))) (hF _ (CNo_n (fun z => hne z.2.2) (by decide))) (hF _ (CNo_n (fun z => hne z.2.2) (by decide)))
    by_cases ej : i = j0
    · subst ej
      rw [if_neg (Nat.lt_irrefl _)] at hO
      refine wp_iload (i := 6) dX2_lift_42 rfl ?_
      refine wp_iload (i := 5) dX2_lift_44 rfl ?_
      refine wp_icmp_geN 90 dX2_lift_46 (by decide) (by omega) (by omega) (fun c_46 => absurd c_46 (by omega)) (fun c_46 => ?_)
      refine wp_aload (i := 4) dX2_lift_49 rfl ?_
      refine wp_iload (i := 6) dX2_lift_51 rfl ?_
      refine wp_cV (y' := m_X3_keyAt) 5 [vi (nI i)] [] 0 0 dX2_lift_53 ml_X2_38 im_X3_keyAt se_X3_keyAt (by decide) hH2.k0 ok_X3_keyAt rfl (Nat.le_of_ble_eq_true rfl) rfl (Nat.le_of_ble_eq_true rfl) (d' := d - 1) (by omega) (Nat.zero_le _) (Nat.zero_le _) (c_X3_keyAt hH2 hw.1 (by omega) (cont_ret ?_))
      rw [j2]
      refine wp_istore (i := 7) (lv' := [(7, vi (nI k')), (6, vi (nI i)), (5, vi (nI len)), (4, vr (some (nm 45 kh))), (3, vi (nI key)), (1, vi (nI p)), (0, vr (some (nm 45 k0)))]) dX2_lift_56 (by decide) rfl ?_
      refine wp_iload (i := 7) dX2_lift_58 rfl ?_
      refine wp_iconst (-1) dX2_lift_60 (by decide) ?_
      refine wp_icmp_eq 84 dX2_lift_61 (by decide) (fun c_61 => absurd c_61 (nI_m1 (by omega))) (fun c_61 => ?_)
      refine wp_iload (i := 7) dX2_lift_64 rfl ?_
      refine wp_iload_n (i := 3) dX2_lift_66 rfl rfl ?_
      refine wp_icmp_eqN 84 dX2_lift_67 (by decide) (by omega) (by omega) (fun c_67 => absurd c_67 (hkk)) (fun c_67 => ?_)
      refine wp_aload_n (i := 0) dX2_lift_70 rfl rfl ?_
      refine wp_iload_n (i := 1) dX2_lift_71 rfl rfl ?_
      refine wp_iload (i := 7) dX2_lift_72 rfl ?_
      refine wp_aload (i := 4) dX2_lift_74 rfl ?_
      refine wp_iload (i := 6) dX2_lift_76 rfl ?_
      refine wp_cV (y' := m_X3_elementAt) 5 [vi (nI i)] [vi (nI k'), vi (nI p), vr (some (nm 45 k0))] 0 0 dX2_lift_78 ml_X2_62 im_X3_elementAt se_X3_elementAt (by decide) hH2.k0 ok_X3_elementAt rfl (Nat.le_of_ble_eq_true rfl) rfl (Nat.le_of_ble_eq_true rfl) (d' := d - 1) (by omega) (Nat.zero_le _) (Nat.zero_le _) (c_X3_elementAt hH2 hw.2.1 (by omega) (cont_ret ?_))
      rw [j3]
      refine wp_cV (y' := m_X3_putPair) 5 [vi (nI p), vi (nI k'), vi (of k')] [] 0 0 dX2_lift_81 ml_X2_44 im_X3_putPair se_X3_putPair (by decide) hO.k0 ok_X3_putPair rfl (Nat.le_of_ble_eq_true rfl) rfl (Nat.le_of_ble_eq_true rfl) (d' := d - 1) (by omega) (Nat.zero_le _) (Nat.zero_le _) (c_X3_putPair hO b1 b2 (by show KN_n7 x0 ≤ 40; rw [b3]; decide) a1 a2 (a3.trans b3.symm) (by show p < KN_n7 x0; rw [b3]; exact hp4) (by omega) (fun h5 O5 F5 => cont_void ?_))
      refine wp_iincN (a := i) (lv' := [(6, vi (nI (i + 1))), (7, vi (nI k')), (5, vi (nI len)), (4, vr (some (nm 45 kh))), (3, vi (nI key)), (1, vi (nI p)), (0, vr (some (nm 45 k0)))]) 1 dX2_lift_84 rfl (by decide) (by decide) rfl ?_
      refine wp_goto 42 dX2_lift_87 (by decide) ?_
      refine wp_sub [(6, vi (nI (i + 1))), (5, vi (nI len)), (4, vr (some (nm 45 kh))), (3, vi (nI key)), (1, vi (nI p)), (0, vr (some (nm 45 k0)))] (sb_cons (.head _) (sb_cons (.tail _ (.tail _ (.head _))) (sb_cons (.tail _ (.tail _ (.tail _ (.head _)))) (sb_cons (.tail _ (.tail _ (.tail _ (.tail _ (.head _))))) (sb_cons (.tail _ (.tail _ (.tail _ (.tail _ (.tail _ (.head _)))))) (sb_cons (.tail _ (.tail _ (.tail _ (.tail _ (.tail _ (.tail _ (.head _))))))) sb_nil)))))) ?_
      exact ih (i + 1) _ (by omega) (by rw [if_pos (Nat.lt_succ_self i)]; exact O5) (hF.tr F5)
    · have eif : (if j0 < i + 1 then (KN_uel (KN_uky (KN_ubl x0 p none) p (nI k')) p (of k')) else (KN_ubl x0 p none)) = (if j0 < i then (KN_uel (KN_uky (KN_ubl x0 p none) p (nI k')) p (of k')) else (KN_ubl x0 p none)) := by
        by_cases q : j0 < i
        · rw [if_pos q, if_pos (by omega)]
        · rw [if_neg q, if_neg (by omega)]
      rcases j4 i (by omega) ej with ev | ev
      · refine wp_iload (i := 6) dX2_lift_42 rfl ?_
        refine wp_iload (i := 5) dX2_lift_44 rfl ?_
        refine wp_icmp_geN 90 dX2_lift_46 (by decide) (by omega) (by omega) (fun c_46 => absurd c_46 (by omega)) (fun c_46 => ?_)
        refine wp_aload (i := 4) dX2_lift_49 rfl ?_
        refine wp_iload (i := 6) dX2_lift_51 rfl ?_
        refine wp_cV (y' := m_X3_keyAt) 5 [vi (nI i)] [] 0 0 dX2_lift_53 ml_X2_38 im_X3_keyAt se_X3_keyAt (by decide) hH2.k0 ok_X3_keyAt rfl (Nat.le_of_ble_eq_true rfl) rfl (Nat.le_of_ble_eq_true rfl) (d' := d - 1) (by omega) (Nat.zero_le _) (Nat.zero_le _) (c_X3_keyAt hH2 hw.1 (by omega) (cont_ret ?_))
        rw [ev]
        refine wp_istore (i := 7) (lv' := [(7, vi (-1)), (6, vi (nI i)), (5, vi (nI len)), (4, vr (some (nm 45 kh))), (3, vi (nI key)), (1, vi (nI p)), (0, vr (some (nm 45 k0)))]) dX2_lift_56 (by decide) rfl ?_
        refine wp_iload (i := 7) dX2_lift_58 rfl ?_
        refine wp_iconst (-1) dX2_lift_60 (by decide) ?_
        refine wp_icmp_eq 84 dX2_lift_61 (by decide) (fun c_61 => ?_) (fun c_61 => absurd c_61 (fun z => z rfl))
        refine wp_iincN (a := i) (lv' := [(6, vi (nI (i + 1))), (7, vi (-1)), (5, vi (nI len)), (4, vr (some (nm 45 kh))), (3, vi (nI key)), (1, vi (nI p)), (0, vr (some (nm 45 k0)))]) 1 dX2_lift_84 rfl (by decide) (by decide) rfl ?_
        refine wp_goto 42 dX2_lift_87 (by decide) ?_
        refine wp_sub [(6, vi (nI (i + 1))), (5, vi (nI len)), (4, vr (some (nm 45 kh))), (3, vi (nI key)), (1, vi (nI p)), (0, vr (some (nm 45 k0)))] (sb_cons (.head _) (sb_cons (.tail _ (.tail _ (.head _))) (sb_cons (.tail _ (.tail _ (.tail _ (.head _)))) (sb_cons (.tail _ (.tail _ (.tail _ (.tail _ (.head _))))) (sb_cons (.tail _ (.tail _ (.tail _ (.tail _ (.tail _ (.head _)))))) (sb_cons (.tail _ (.tail _ (.tail _ (.tail _ (.tail _ (.tail _ (.head _))))))) sb_nil)))))) ?_
        exact ih (i + 1) _ (by omega) (by rw [eif]; exact hO) hF
      · refine wp_iload (i := 6) dX2_lift_42 rfl ?_
        refine wp_iload (i := 5) dX2_lift_44 rfl ?_
        refine wp_icmp_geN 90 dX2_lift_46 (by decide) (by omega) (by omega) (fun c_46 => absurd c_46 (by omega)) (fun c_46 => ?_)
        refine wp_aload (i := 4) dX2_lift_49 rfl ?_
        refine wp_iload (i := 6) dX2_lift_51 rfl ?_
        refine wp_cV (y' := m_X3_keyAt) 5 [vi (nI i)] [] 0 0 dX2_lift_53 ml_X2_38 im_X3_keyAt se_X3_keyAt (by decide) hH2.k0 ok_X3_keyAt rfl (Nat.le_of_ble_eq_true rfl) rfl (Nat.le_of_ble_eq_true rfl) (d' := d - 1) (by omega) (Nat.zero_le _) (Nat.zero_le _) (c_X3_keyAt hH2 hw.1 (by omega) (cont_ret ?_))
        rw [ev]
        refine wp_istore (i := 7) (lv' := [(7, vi (nI key)), (6, vi (nI i)), (5, vi (nI len)), (4, vr (some (nm 45 kh))), (3, vi (nI key)), (1, vi (nI p)), (0, vr (some (nm 45 k0)))]) dX2_lift_56 (by decide) rfl ?_
        refine wp_iload (i := 7) dX2_lift_58 rfl ?_
        refine wp_iconst (-1) dX2_lift_60 (by decide) ?_
        refine wp_icmp_eq 84 dX2_lift_61 (by decide) (fun c_61 => absurd c_61 (nI_m1 (by omega))) (fun c_61 => ?_)
        refine wp_iload (i := 7) dX2_lift_64 rfl ?_
        refine wp_iload_n (i := 3) dX2_lift_66 rfl rfl ?_
        refine wp_icmp_eqN 84 dX2_lift_67 (by decide) (by omega) (by omega) (fun c_67 => ?_) (fun c_67 => absurd c_67 (fun z => by omega))
        refine wp_iincN (a := i) (lv' := [(6, vi (nI (i + 1))), (7, vi (nI key)), (5, vi (nI len)), (4, vr (some (nm 45 kh))), (3, vi (nI key)), (1, vi (nI p)), (0, vr (some (nm 45 k0)))]) 1 dX2_lift_84 rfl (by decide) (by decide) rfl ?_
        refine wp_goto 42 dX2_lift_87 (by decide) ?_
        refine wp_sub [(6, vi (nI (i + 1))), (5, vi (nI len)), (4, vr (some (nm 45 kh))), (3, vi (nI key)), (1, vi (nI p)), (0, vr (some (nm 45 k0)))] (sb_cons (.head _) (sb_cons (.tail _ (.tail _ (.head _))) (sb_cons (.tail _ (.tail _ (.tail _ (.head _)))) (sb_cons (.tail _ (.tail _ (.tail _ (.tail _ (.head _))))) (sb_cons (.tail _ (.tail _ (.tail _ (.tail _ (.tail _ (.head _)))))) (sb_cons (.tail _ (.tail _ (.tail _ (.tail _ (.tail _ (.tail _ (.head _))))))) sb_nil)))))) ?_
        exact ih (i + 1) _ (by omega) (by rw [eif]; exact hO) hF
set_option maxRecDepth 100000 in
set_option maxHeartbeats 4000000 in
theorem c_X2_lift {G : GG} {d bc bs : Nat} {h : Hp} {Q : Pst} {M k0 key l n : Nat} {hs : Nat → Bool} {of : Nat → Int32} {mn : Nat → Nat} {xx : KNS} (hl : l < 4) (hk : key < 1000) (hh : hs key = true) (T : MTf h M hs of mn) (hS : ∀ L B, L ≤ 4 → B < 2 ^ (2 * L) → (L = 0 ∨ 1 < ct hs L B) → mn (lst L + B) ≠ k0) (hO : KN h k0 (KN_ukc xx n)) (hx : MNk M k0 hs of mn l (btN key l) xx) (hct : ct hs (l + 1) (btN key (l + 1)) = 2) (hd : 7 ≤ d) (hq : ∀ h' k', k' < 1000 → hs k' = true → btN k' (l + 1) = btN key (l + 1) → k' ≠ key → KN h' k0 (KN_uel (KN_uky (KN_ubl (KN_ukc xx n) (plN key l) none) (plN key l) (nI k')) (plN key l) (of k')) → Fr h h' (CNo k0) → Q oVoid h') : WP G m_X2_lift d 0 (aargs 0 [vr (some (nm 45 k0)), vi (nI (plN key l)), vr (some (nm 45 (mn (sltN key (l + 1))))), vi (nI key)]) [] h bc bs Q := by
  have p4 := plN_lt (k := key) (l := l)
  obtain ⟨-, -, -, rk, re, ⟨c1, c2, c3⟩, -⟩ : MPx k0 l (ct hs l (btN key l)) (KN_ky xx) (KN_el xx) (KN_bl xx) xx := hx.2.elim (fun z => z.2.1) (fun z => absurd z.1 (by omega))
  obtain ⟨v1, v2, v3, v4⟩ := hlF_sp (hs := hs) (key := key) (4 - (l + 1)) (l + 1) (by omega)
  generalize hlv : hlF hs key (4 - (l + 1)) (l + 1) = lv at v1 v2 v3 v4
  have hc2 : ct hs lv (btN key lv) = 2 := by
    have := ct_dn3 (hs := hs) (key := key) v1
    rcases v3 with z | z
    · rw [z]; exact hct
    · omega
  obtain ⟨k', a1, a2, a3, a4⟩ := ct_ot hc2 hk hh rfl
  have a5 := btN_dn3 v1 a3
  obtain ⟨xh, hOh, hxh⟩ := T lv (btN key lv) v2 (btN_lt key lv) (Or.inr (by omega))
  have hnh := hS lv (btN key lv) v2 (btN_lt key lv) (Or.inr (by omega))
  obtain ⟨j0, j1, j2, j3, j4⟩ := hxh.two v2 hk hh a1 a2 a3 a4 hc2 v4
  refine wp_sub [(0, vr (some (nm 45 k0))), (1, vi (nI (plN key l))), (2, vr (some (nm 45 (mn (sltN key (l + 1)))))), (3, vi (nI key))] (fun _ hz => hz) ?_
  by_cases h4 : lv < 4
  · refine wp_aload_n (i := 0) dX2_lift_0 rfl rfl ?_
    refine wp_iload_n (i := 1) dX2_lift_1 rfl rfl ?_
    refine wp_null dX2_lift_2 ?_
    refine wp_cV (y' := m_X3_putChild) 5 [vi (nI (plN key l)), vr none] [] 0 0 dX2_lift_3 ml_X2_55 im_X3_putChild se_X3_putChild (by decide) hO.k0 ok_X3_putChild rfl (Nat.le_of_ble_eq_true rfl) rfl (Nat.le_of_ble_eq_true rfl) (d' := d - 1) (by omega) (Nat.zero_le _) (Nat.zero_le _) (c_X3_putChild hO (Or.inr ⟨c1, c2, c3⟩) p4 (fun v hv => nomatch hv) (fun h1 O1 F1 => cont_void ?_))
    rw [show puC (KN_ukc xx n) (plN key l) none = KN_ubl (KN_ukc xx n) (plN key l) none from if_neg (by show ¬ KN_kb xx = none; rw [c1]; exact fun z => nomatch z)] at O1
    have T1 : MTf h1 M hs of mn := T.frm (fun L B r g1 g2 g3 q1 q2 => F1 _ (CNo_n (fun z => hS L B g1 g2 g3 z.2.2) (by omega)))
    have hH1 := hOh.frm (F1 _ (CNo_n (fun z => hnh z.2.2) (by decide))) (F1 _ (CNo_n (fun z => hnh z.2.2) (by decide))) (F1 _ (CNo_n (fun z => hnh z.2.2) (by decide))) (F1 _ (CNo_n (fun z => hnh z.2.2) (by decide)))
    refine wp_aload_n (i := 2) dX2_lift_6 rfl rfl ?_
    refine wp_iload_n (i := 3) dX2_lift_7 rfl rfl ?_
    refine wp_cS (y' := m_X2_holderOf) [vr (some (nm 45 (mn (sltN key (l + 1))))), vi (nI key)] [] 0 0 dX2_lift_8 ml_X2_29 st_X2_holderOf ok_X2_holderOf rfl (Nat.le_of_ble_eq_true rfl) rfl (Nat.le_of_ble_eq_true rfl) (d' := d - 1) (by omega) (Nat.zero_le _) (Nat.zero_le _) (c_X2_holderOf (l := l + 1) (by omega) hk (fun l1 q1 q2 q3 => T1 l1 (btN key l1) q2 (btN_lt key l1) (Or.inr (q3.elim (fun z => by rw [z]; omega) id))) (by omega) (cont_ret ?_))
    rw [if_pos hh, hlv]
    refine wp_astore (i := 4) (lv' := [(4, vr (some (nm 45 (mn (sltN key lv))))), (0, vr (some (nm 45 k0))), (1, vi (nI (plN key l))), (2, vr (some (nm 45 (mn (sltN key (l + 1)))))), (3, vi (nI key))]) dX2_lift_11 (by decide) rfl ?_
    refine wp_aload (i := 4) dX2_lift_13 rfl ?_
    refine wp_ifnonnull 19 dX2_lift_15 (by decide) (fun a_15 c_15 => ?_) (fun c_15 => absurd c_15 (fun z => nomatch z))
    refine wp_aload (i := 4) dX2_lift_19 rfl ?_
    refine wp_get 5 0 (vi (nI lv)) dX2_lift_21 hH1.k0 (by decide) (by decide) fl_X2_15 (congrArg (fun z => toV (vi z)) (hH1.f_lev.trans (congrArg nI hxh.lev))) ?_
    refine wp_iconst (nI 4) dX2_lift_24 (by decide) ?_
    refine wp_icmp_geN 32 dX2_lift_25 (by decide) (by omega) (by decide) (fun c_25 => absurd c_25 (by omega)) (fun c_25 => ?_)
    refine wp_iconst (nI 4) dX2_lift_28 (by decide) ?_
    refine wp_goto 37 dX2_lift_29 (by decide) ?_
    refine wp_istore (i := 5) (lv' := [(5, vi (nI 4)), (4, vr (some (nm 45 (mn (sltN key lv))))), (0, vr (some (nm 45 k0))), (1, vi (nI (plN key l))), (2, vr (some (nm 45 (mn (sltN key (l + 1)))))), (3, vi (nI key))]) dX2_lift_37 (by decide) rfl ?_
    refine wp_iconst (nI 0) dX2_lift_39 (by decide) ?_
    refine wp_istore (i := 6) (lv' := [(6, vi (nI 0)), (5, vi (nI 4)), (4, vr (some (nm 45 (mn (sltN key lv))))), (0, vr (some (nm 45 k0))), (1, vi (nI (plN key l))), (2, vr (some (nm 45 (mn (sltN key (l + 1)))))), (3, vi (nI key))]) dX2_lift_40 (by decide) rfl ?_
    refine wp_sub [(6, vi (nI 0)), (5, vi (nI 4)), (4, vr (some (nm 45 (mn (sltN key lv))))), (3, vi (nI key)), (1, vi (nI (plN key l))), (0, vr (some (nm 45 k0)))] (sb_cons (.head _) (sb_cons (.tail _ (.head _)) (sb_cons (.tail _ (.tail _ (.head _))) (sb_cons (.tail _ (.tail _ (.tail _ (.tail _ (.tail _ (.tail _ (.head _))))))) (sb_cons (.tail _ (.tail _ (.tail _ (.tail _ (.head _))))) (sb_cons (.tail _ (.tail _ (.tail _ (.head _)))) sb_nil)))))) ?_
    rw [if_pos h4] at j1 j4
    exact l_X2_lift (x0 := (KN_ukc xx n)) (of := of) (k' := k') rk re p4 hH1 hxh.wf hnh (by omega) hk a1 a4 j1 j2 j3 j4 (by omega) (fun h2 O2 F2 => hq h2 k' a1 a2 a5 a4 O2 (F1.tr F2)) 4 0 _ (by omega) (by rw [if_neg (Nat.not_lt_zero _)]; exact O1) Fr.rf
  · refine wp_aload_n (i := 0) dX2_lift_0 rfl rfl ?_
    refine wp_iload_n (i := 1) dX2_lift_1 rfl rfl ?_
    refine wp_null dX2_lift_2 ?_
    refine wp_cV (y' := m_X3_putChild) 5 [vi (nI (plN key l)), vr none] [] 0 0 dX2_lift_3 ml_X2_55 im_X3_putChild se_X3_putChild (by decide) hO.k0 ok_X3_putChild rfl (Nat.le_of_ble_eq_true rfl) rfl (Nat.le_of_ble_eq_true rfl) (d' := d - 1) (by omega) (Nat.zero_le _) (Nat.zero_le _) (c_X3_putChild hO (Or.inr ⟨c1, c2, c3⟩) p4 (fun v hv => nomatch hv) (fun h1 O1 F1 => cont_void ?_))
    rw [show puC (KN_ukc xx n) (plN key l) none = KN_ubl (KN_ukc xx n) (plN key l) none from if_neg (by show ¬ KN_kb xx = none; rw [c1]; exact fun z => nomatch z)] at O1
    have T1 : MTf h1 M hs of mn := T.frm (fun L B r g1 g2 g3 q1 q2 => F1 _ (CNo_n (fun z => hS L B g1 g2 g3 z.2.2) (by omega)))
    have hH1 := hOh.frm (F1 _ (CNo_n (fun z => hnh z.2.2) (by decide))) (F1 _ (CNo_n (fun z => hnh z.2.2) (by decide))) (F1 _ (CNo_n (fun z => hnh z.2.2) (by decide))) (F1 _ (CNo_n (fun z => hnh z.2.2) (by decide)))
    refine wp_aload_n (i := 2) dX2_lift_6 rfl rfl ?_
    refine wp_iload_n (i := 3) dX2_lift_7 rfl rfl ?_
    refine wp_cS (y' := m_X2_holderOf) [vr (some (nm 45 (mn (sltN key (l + 1))))), vi (nI key)] [] 0 0 dX2_lift_8 ml_X2_29 st_X2_holderOf ok_X2_holderOf rfl (Nat.le_of_ble_eq_true rfl) rfl (Nat.le_of_ble_eq_true rfl) (d' := d - 1) (by omega) (Nat.zero_le _) (Nat.zero_le _) (c_X2_holderOf (l := l + 1) (by omega) hk (fun l1 q1 q2 q3 => T1 l1 (btN key l1) q2 (btN_lt key l1) (Or.inr (q3.elim (fun z => by rw [z]; omega) id))) (by omega) (cont_ret ?_))
    rw [if_pos hh, hlv]
    refine wp_astore (i := 4) (lv' := [(4, vr (some (nm 45 (mn (sltN key lv))))), (0, vr (some (nm 45 k0))), (1, vi (nI (plN key l))), (2, vr (some (nm 45 (mn (sltN key (l + 1)))))), (3, vi (nI key))]) dX2_lift_11 (by decide) rfl ?_
    refine wp_aload (i := 4) dX2_lift_13 rfl ?_
    refine wp_ifnonnull 19 dX2_lift_15 (by decide) (fun a_15 c_15 => ?_) (fun c_15 => absurd c_15 (fun z => nomatch z))
    refine wp_aload (i := 4) dX2_lift_19 rfl ?_
    refine wp_get 5 0 (vi (nI lv)) dX2_lift_21 hH1.k0 (by decide) (by decide) fl_X2_15 (congrArg (fun z => toV (vi z)) (hH1.f_lev.trans (congrArg nI hxh.lev))) ?_
    refine wp_iconst (nI 4) dX2_lift_24 (by decide) ?_
    refine wp_icmp_geN 32 dX2_lift_25 (by decide) (by omega) (by decide) (fun c_25 => ?_) (fun c_25 => absurd c_25 (by omega))
    refine wp_aload (i := 4) dX2_lift_32 rfl ?_
    refine wp_get 5 5 (vi (nI 2)) dX2_lift_34 hH1.k0 (by decide) (by decide) fl_X2_41 (congrArg (fun z => toV (vi z)) (hH1.f_kc.trans (congrArg nI (hxh.kc.trans hc2)))) ?_
    refine wp_istore (i := 5) (lv' := [(5, vi (nI 2)), (4, vr (some (nm 45 (mn (sltN key lv))))), (0, vr (some (nm 45 k0))), (1, vi (nI (plN key l))), (2, vr (some (nm 45 (mn (sltN key (l + 1)))))), (3, vi (nI key))]) dX2_lift_37 (by decide) rfl ?_
    refine wp_iconst (nI 0) dX2_lift_39 (by decide) ?_
    refine wp_istore (i := 6) (lv' := [(6, vi (nI 0)), (5, vi (nI 2)), (4, vr (some (nm 45 (mn (sltN key lv))))), (0, vr (some (nm 45 k0))), (1, vi (nI (plN key l))), (2, vr (some (nm 45 (mn (sltN key (l + 1)))))), (3, vi (nI key))]) dX2_lift_40 (by decide) rfl ?_
    refine wp_sub [(6, vi (nI 0)), (5, vi (nI 2)), (4, vr (some (nm 45 (mn (sltN key lv))))), (3, vi (nI key)), (1, vi (nI (plN key l))), (0, vr (some (nm 45 k0)))] (sb_cons (.head _) (sb_cons (.tail _ (.head _)) (sb_cons (.tail _ (.tail _ (.head _))) (sb_cons (.tail _ (.tail _ (.tail _ (.tail _ (.tail _ (.tail _ (.head _))))))) (sb_cons (.tail _ (.tail _ (.tail _ (.tail _ (.head _))))) (sb_cons (.tail _ (.tail _ (.tail _ (.head _)))) sb_nil)))))) ?_
    rw [if_neg h4] at j1 j4
    exact l_X2_lift (x0 := (KN_ukc xx n)) (of := of) (k' := k') rk re p4 hH1 hxh.wf hnh (by omega) hk a1 a4 j1 j2 j3 j4 (by omega) (fun h2 O2 F2 => hq h2 k' a1 a2 a5 a4 O2 (F1.tr F2)) 2 0 _ (by omega) (by rw [if_neg (Nat.not_lt_zero _)]; exact O1) Fr.rf
