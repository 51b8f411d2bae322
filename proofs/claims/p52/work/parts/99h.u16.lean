/-! The class: maps, a key taken out: what the nodes hold then. -/
/-- two keys in a block -/
theorem ct_2 {hs : Nat → Bool} {l b key k' j : Nat} (h : ct hs l b = 2) (hk : key < 1000) (h1 : hs key = true) (e1 : btN key l = b) (hk' : k' < 1000) (h2 : hs k' = true) (e2 : btN k' l = b) (hne : k' ≠ key) (hj : j < 1000) (h3 : hs j = true) (e3 : btN j l = b) : j = key ∨ j = k' := by
  by_cases q : j = key
  · exact Or.inl q
  · right
    have z := ct_up0 (l := l) (b := b) hk h1
    rw [if_pos e1] at z
    exact ct_un (hs := va_up hs key false) (l := l) (b := b) (by omega) hj hk' (by rw [va_ne q]; exact h3) (by rw [va_ne hne]; exact h2) e3 e2
/-- the other key -/
theorem ct_ot {hs : Nat → Bool} {l b key : Nat} (h : ct hs l b = 2) (hk : key < 1000) (h1 : hs key = true) (e1 : btN key l = b) : ∃ k', k' < 1000 ∧ hs k' = true ∧ btN k' l = b ∧ k' ≠ key := by
  have z := ct_up0 (l := l) (b := b) hk h1
  rw [if_pos e1] at z
  obtain ⟨k', a1, a2, a3⟩ := ct_ex (hs := va_up hs key false) (l := l) (b := b) (by omega)
  have hne : k' ≠ key := fun q => by rw [q, va_up_self] at a2; cases a2
  rw [va_ne hne] at a2
  exact ⟨k', a1, a2, a3, hne⟩
section DEL
variable {hs : Nat → Bool} {of : Nat → Int32} {mn mn' : Nat → Nat} {key l M k : Nat} {x : KNS}
theorem MNk.del1 (H : MNk M k hs of mn l (btN key l) x) (hl : l < 4) (hmn : ∀ L B, L ≤ 4 → B < 2 ^ (2 * L) → B ≠ btN key L → mn' (lst L + B) = mn (lst L + B)) (h1 : ct (va_up hs key false) (l + 1) (btN key (l + 1)) = 0) (hbl : KN_bl x (plN key l) = none) {n : Nat} (hn : n = ct (va_up hs key false) l (btN key l)) : MNk M k (va_up hs key false) (va_up of key (nI 0)) mn' l (btN key l) (KN_uel (KN_uky (KN_ukc x n) (plN key l) (-1)) (plN key l) (nI 0)) := by
  rcases H.2 with ⟨-, ⟨a1, a2, a3, a4, a5, a6, a7⟩, h3⟩ | ⟨h4, -⟩
  · refine ⟨H.1, Or.inl ⟨hl, ⟨a1, a2, hn, a4, a5, a6, fun _ _ => ⟨rfl, rfl, rfl⟩⟩, fun q hq => ?_⟩⟩
    show PLx _ _ mn' l _ q (va_up (KN_ky x) (plN key l) (-1) q) (va_up (KN_el x) (plN key l) (nI 0) q) (KN_bl x q)
    rw [va_up_app, va_up_app]
    by_cases z : q = plN key l
    · rw [if_pos z, if_pos z, z, hbl]
      exact Or.inl ⟨by rw [← btN_s]; exact h1, rfl, rfl, rfl⟩
    · rw [if_neg z, if_neg z]
      exact (h3 q hq).off (btN_lt key l) hl hq (fun y => z ((btN_i (btN_lt key l)).mp y).2.symm) hmn
  · omega
theorem MNk.del2 (H : MNk M k hs of mn l (btN key l) x) (hl : l < 4) (hmn : ∀ L B, L ≤ 4 → B < 2 ^ (2 * L) → B ≠ btN key L → mn' (lst L + B) = mn (lst L + B)) (h1 : ct (va_up hs key false) (l + 1) (btN key (l + 1)) = 1) {k' : Nat} (hk' : k' < 1000) (h2 : hs k' = true) (e2 : btN k' (l + 1) = btN key (l + 1)) (hne : k' ≠ key) {n : Nat} (hn : n = ct (va_up hs key false) l (btN key l)) : MNk M k (va_up hs key false) (va_up of key (nI 0)) mn' l (btN key l) (KN_uel (KN_uky (KN_ubl (KN_ukc x n) (plN key l) none) (plN key l) (nI k')) (plN key l) (of k')) := by
  rcases H.2 with ⟨-, ⟨a1, a2, a3, a4, a5, a6, a7⟩, h3⟩ | ⟨h4, -⟩
  · refine ⟨H.1, Or.inl ⟨hl, ⟨a1, a2, hn, a4, a5, a6, fun _ _ => ⟨rfl, rfl, rfl⟩⟩, fun q hq => ?_⟩⟩
    show PLx _ _ mn' l _ q (va_up (KN_ky x) (plN key l) (nI k') q) (va_up (KN_el x) (plN key l) (of k') q) (va_up (KN_bl x) (plN key l) none q)
    rw [va_up_app, va_up_app, va_up_app]
    by_cases z : q = plN key l
    · rw [if_pos z, if_pos z, if_pos z, z]
      refine Or.inr (Or.inl ⟨by rw [← btN_s]; exact h1, ⟨k', hk', by rw [va_ne hne]; exact h2, by rw [e2, btN_s], rfl, by rw [va_ne hne]⟩, rfl⟩)
    · rw [if_neg z, if_neg z, if_neg z]
      exact (h3 q hq).off (btN_lt key l) hl hq (fun y => z ((btN_i (btN_lt key l)).mp y).2.symm) hmn
  · omega
/-- the entries of a row moved down by one from the s-th up to the i-th -/
def dF {α : Type} (f : Nat → α) (s i : Nat) : Nat → α := fun j => if s ≤ j ∧ j < i then f (j + 1) else f j
theorem dF_0 {α : Type} {f : Nat → α} {s : Nat} : dF f s s = f := funext fun j => if_neg (by omega)
theorem dF_s {α : Type} {f : Nat → α} {s i : Nat} (h : s ≤ i) : va_up (dF f s i) i (f (i + 1)) = dF f s (i + 1) := funext fun j => by
  rw [va_up_app]
  unfold dF
  by_cases e : j = i
  · rw [if_pos e, if_pos (by omega), e]
  · rw [if_neg e]
    by_cases e2 : s ≤ j ∧ j < i
    · rw [if_pos e2, if_pos (by omega)]
    · rw [if_neg e2, if_neg (by omega)]
theorem MNk.delRow (H : MNk M k hs of mn 4 (btN key 4) x) (hk : key < 1000) (hh : hs key = true) {s n : Nat} (s1 : s < ct hs 4 (btN key 4)) (s2 : KN_ky x s = nI key) (hn : n + 1 = ct hs 4 (btN key 4)) {y : KNS} (hy : y = (KN_lev x, KN_own x, KN_kk x, KN_ke x, KN_kb x, n, KN_mk x, KN_a6 x, KN_n6 x, KN_a7 x, KN_n7 x, KN_a8 x, KN_n8 x, va_up (dF (KN_ky x) s n) n (-1), va_up (dF (KN_el x) s n) n (nI 0), KN_bl x)) : MNk M k (va_up hs key false) (va_up of key (nI 0)) mn' 4 (btN key 4) y := by
  subst hy
  have hct := ct_up0 (l := 4) (b := btN key 4) hk hh
  rw [if_pos rfl] at hct
  rcases H.2 with ⟨h4, -⟩ | ⟨-, ⟨a1, a2, a3, a4, a5, a6, a7⟩, h3, L, g1, g2, g3, g4⟩
  · exact absurd h4 (by decide)
  · have eL : L s = key := nI_inj (g1 s s1).1 hk ((g1 s s1).2.2.2.1.symm.trans s2)
    have hn' : ct (va_up hs key false) 4 (btN key 4) = n := by omega
    have hLk : ∀ i, i < ct hs 4 (btN key 4) → i ≠ s → L i ≠ key := fun i hi z q => z (g2 i s hi s1 (q.trans eL.symm))
    refine ⟨H.1, Or.inr ⟨rfl, ⟨a1, a2, hn'.symm, a4, a5, a6, fun _ _ => ⟨rfl, rfl⟩⟩, by omega, dF L s n, ?_, ?_, ?_, ?_⟩⟩
    · intro i hi
      rw [hn'] at hi
      show dF L s n i < 1000 ∧ va_up hs key false (dF L s n i) = true ∧ btN (dF L s n i) 4 = btN key 4 ∧ va_up (dF (KN_ky x) s n) n (-1) i = nI (dF L s n i) ∧ va_up (dF (KN_el x) s n) n (nI 0) i = va_up of key (nI 0) (dF L s n i)
      rw [va_ne (show i ≠ n by omega), va_ne (show i ≠ n by omega)]
      unfold dF
      by_cases z : s ≤ i ∧ i < n
      · rw [if_pos z, if_pos z, if_pos z]
        obtain ⟨c1, c2, c3, c4, c5⟩ := g1 (i + 1) (by omega)
        have hne := hLk (i + 1) (by omega) (by omega)
        rw [va_ne hne, va_ne hne]
        exact ⟨c1, c2, c3, c4, c5⟩
      · rw [if_neg z, if_neg z, if_neg z]
        obtain ⟨c1, c2, c3, c4, c5⟩ := g1 i (by omega)
        have hne := hLk i (by omega) (by omega)
        rw [va_ne hne, va_ne hne]
        exact ⟨c1, c2, c3, c4, c5⟩
    · intro i j hi hj
      rw [hn'] at hi hj
      unfold dF
      by_cases z : s ≤ i ∧ i < n
      · rw [if_pos z]
        by_cases y : s ≤ j ∧ j < n
        · rw [if_pos y]; intro q; have := g2 _ _ (by omega) (by omega) q; omega
        · rw [if_neg y]; intro q; have := g2 _ _ (by omega) (by omega) q; omega
      · rw [if_neg z]
        by_cases y : s ≤ j ∧ j < n
        · rw [if_pos y]; intro q; have := g2 _ _ (by omega) (by omega) q; omega
        · rw [if_neg y]; intro q; have := g2 _ _ (by omega) (by omega) q; omega
    · intro j j1 j2 j3
      have hjk : j ≠ key := fun z => by rw [z, va_up_self] at j2; cases j2
      rw [va_ne hjk] at j2
      obtain ⟨i, i1, i2⟩ := g3 j j1 j2 j3
      have his : i ≠ s := fun z => hjk (by rw [← i2, z, eL])
      rw [hn']
      unfold dF
      by_cases z : i < s
      · exact ⟨i, by omega, by rw [if_neg (by omega)]; exact i2⟩
      · exact ⟨i - 1, by omega, by rw [if_pos (by omega), show i - 1 + 1 = i by omega]; exact i2⟩
    · intro i hi h40
      rw [hn'] at hi
      show va_up (dF (KN_ky x) s n) n (-1) i = -1
      rw [va_up_app]
      by_cases z : i = n
      · rw [if_pos z]
      · rw [if_neg z]
        unfold dF
        rw [if_neg (by omega)]
        exact g4 i (by omega) h40
end DEL
set_option maxRecDepth 100000 in
set_option maxHeartbeats 4000000 in
theorem l_X2_drop {G : GG} {d bc bs : Nat} {Q : Pst} {h0 : Hp} {k key s n : Nat} {x : KNS} (rk : KN_kk x = some (nm 46 k) ∧ KN_a6 x = 101 ∧ KN_n6 x = 40) (re : KN_ke x = some (nm 47 k) ∧ KN_a7 x = 101 ∧ KN_n7 x = 40) (hsn : s ≤ n) (hn40 : n < 40) (hd : 3 ≤ d) (hq : ∀ h', KN h' k (KN_lev x, KN_own x, KN_kk x, KN_ke x, KN_kb x, n, KN_mk x, KN_a6 x, KN_n6 x, KN_a7 x, KN_n7 x, KN_a8 x, KN_n8 x, va_up (dF (KN_ky x) s n) n (-1), va_up (dF (KN_el x) s n) n (nI 0), KN_bl x) → Fr h0 h' (CNo k) → Q oVoid h') : ∀ m i H, i + m = n → s ≤ i → KN H k (KN_lev x, KN_own x, KN_kk x, KN_ke x, KN_kb x, n, KN_mk x, KN_a6 x, KN_n6 x, KN_a7 x, KN_n7 x, KN_a8 x, KN_n8 x, dF (KN_ky x) s i, dF (KN_el x) s i, KN_bl x) → Fr h0 H (CNo k) → WP G m_X2_dropFromRow d 24 [(3, vi (nI i)), (0, vr (some (nm 45 k))), (1, vi (nI key))] [] H bc bs Q := by
  obtain ⟨a1, a2, a3⟩ := rk
  obtain ⟨b1, b2, b3⟩ := re
  intro m
  induction m with
  | zero =>
    intro i H hi his hO hF
    have hi : i = n := hi
    subst hi
    refine wp_iload_n (i := 3) dX2_dropFromRow_24 rfl rfl ?_
    refine wp_aload_n (i := 0) dX2_dropFromRow_25 rfl rfl ?_
    refine wp_get 5 5 (vi (nI i)) dX2_dropFromRow_26 hO.k0 (by decide) (by decide) fl_X2_41 (congrArg (fun z => toV (vi z)) (hO.f_kc)) ?_
    refine wp_icmp_geN 57 dX2_dropFromRow_29 (by decide) (by omega) (by omega) (fun c_29 => ?_) (fun c_29 => absurd c_29 (by omega))
    refine wp_aload_n (i := 0) dX2_dropFromRow_57 rfl rfl ?_
    refine wp_aload_n (i := 0) dX2_dropFromRow_58 rfl rfl ?_
    refine wp_get 5 5 (vi (nI i)) dX2_dropFromRow_59 hO.k0 (by decide) (by decide) fl_X2_41 (congrArg (fun z => toV (vi z)) (hO.f_kc)) ?_
    refine wp_iconst (-1) dX2_dropFromRow_62 (by decide) ?_
    refine wp_iconst (nI 0) dX2_dropFromRow_63 (by decide) ?_
    refine wp_cV (y' := m_X3_putPair) 5 [vi (nI i), vi (-1), vi (nI 0)] [] 0 0 dX2_dropFromRow_64 ml_X2_44 im_X3_putPair se_X3_putPair (by decide) hO.k0 ok_X3_putPair rfl (Nat.le_of_ble_eq_true rfl) rfl (Nat.le_of_ble_eq_true rfl) (d' := d - 1) (by omega) (Nat.zero_le _) (Nat.zero_le _) (c_X3_putPair hO b1 b2 (by show KN_n7 x ≤ 40; rw [b3]; decide) a1 a2 (a3.trans b3.symm) (by show _ < KN_n7 x; rw [b3]; omega) (by omega) (fun h5 O5 F5 => cont_void ?_))
    refine wp_return dX2_dropFromRow_67 rfl ?_
    exact hq _ O5 (hF.tr F5)
  | succ m ih =>
    intro i H hi his hO hF
    have r1 : kyA (KN_lev x, KN_own x, KN_kk x, KN_ke x, KN_kb x, n, KN_mk x, KN_a6 x, KN_n6 x, KN_a7 x, KN_n7 x, KN_a8 x, KN_n8 x, dF (KN_ky x) s i, dF (KN_el x) s i, KN_bl x) (i + 1) = KN_ky x (i + 1) := by
      unfold kyA
      rw [if_neg (show ¬ KN_kk x = none by rw [a1]; exact fun z => nomatch z), if_pos (show i + 1 < KN_n6 x by rw [a3]; omega)]
      show dF (KN_ky x) s i (i + 1) = _
      unfold dF; rw [if_neg (by omega)]
    have r2 : elA (KN_lev x, KN_own x, KN_kk x, KN_ke x, KN_kb x, n, KN_mk x, KN_a6 x, KN_n6 x, KN_a7 x, KN_n7 x, KN_a8 x, KN_n8 x, dF (KN_ky x) s i, dF (KN_el x) s i, KN_bl x) (i + 1) = KN_el x (i + 1) := by
      unfold elA
      rw [if_neg (show ¬ KN_ke x = none by rw [b1]; exact fun z => nomatch z), if_pos (show i + 1 < KN_n7 x by rw [b3]; omega)]
      show dF (KN_el x) s i (i + 1) = _
      unfold dF; rw [if_neg (by omega)]
    refine wp_iload_n (i := 3) dX2_dropFromRow_24 rfl rfl ?_
    refine wp_aload_n (i := 0) dX2_dropFromRow_25 rfl rfl ?_
    refine wp_get 5 5 (vi (nI n)) dX2_dropFromRow_26 hO.k0 (by decide) (by decide) fl_X2_41 (congrArg (fun z => toV (vi z)) (hO.f_kc)) ?_
    refine wp_icmp_geN 57 dX2_dropFromRow_29 (by decide) (by omega) (by omega) (fun c_29 => absurd c_29 (by omega)) (fun c_29 => ?_)
    refine wp_aload_n (i := 0) dX2_dropFromRow_32 rfl rfl ?_
    refine wp_iload_n (i := 3) dX2_dropFromRow_33 rfl rfl ?_
    refine wp_aload_n (i := 0) dX2_dropFromRow_34 rfl rfl ?_
    refine wp_iload_n (i := 3) dX2_dropFromRow_35 rfl rfl ?_
    refine wp_iconst (nI 1) dX2_dropFromRow_36 (by decide) ?_
    refine wp_iaddN dX2_dropFromRow_37 ?_
    refine wp_cV (y' := m_X3_keyAt) 5 [vi (nI (i + 1))] [vi (nI i), vr (some (nm 45 k))] 0 0 dX2_dropFromRow_38 ml_X2_38 im_X3_keyAt se_X3_keyAt (by decide) hO.k0 ok_X3_keyAt rfl (Nat.le_of_ble_eq_true rfl) rfl (Nat.le_of_ble_eq_true rfl) (d' := d - 1) (by omega) (Nat.zero_le _) (Nat.zero_le _) (c_X3_keyAt hO (Or.inr ⟨a1, a2, by show KN_n6 x ≤ 40; rw [a3]; decide⟩) (by omega) (cont_ret ?_))
    rw [r1]
    refine wp_aload_n (i := 0) dX2_dropFromRow_41 rfl rfl ?_
    refine wp_iload_n (i := 3) dX2_dropFromRow_42 rfl rfl ?_
    refine wp_iconst (nI 1) dX2_dropFromRow_43 (by decide) ?_
    refine wp_iaddN dX2_dropFromRow_44 ?_
    refine wp_cV (y' := m_X3_elementAt) 5 [vi (nI (i + 1))] [vi (KN_ky x (i + 1)), vi (nI i), vr (some (nm 45 k))] 0 0 dX2_dropFromRow_45 ml_X2_62 im_X3_elementAt se_X3_elementAt (by decide) hO.k0 ok_X3_elementAt rfl (Nat.le_of_ble_eq_true rfl) rfl (Nat.le_of_ble_eq_true rfl) (d' := d - 1) (by omega) (Nat.zero_le _) (Nat.zero_le _) (c_X3_elementAt hO (Or.inr ⟨b1, b2, by show KN_n7 x ≤ 40; rw [b3]; decide⟩) (by omega) (cont_ret ?_))
    rw [r2]
    refine wp_cV (y' := m_X3_putPair) 5 [vi (nI i), vi (KN_ky x (i + 1)), vi (KN_el x (i + 1))] [] 0 0 dX2_dropFromRow_48 ml_X2_44 im_X3_putPair se_X3_putPair (by decide) hO.k0 ok_X3_putPair rfl (Nat.le_of_ble_eq_true rfl) rfl (Nat.le_of_ble_eq_true rfl) (d' := d - 1) (by omega) (Nat.zero_le _) (Nat.zero_le _) (c_X3_putPair hO b1 b2 (by show KN_n7 x ≤ 40; rw [b3]; decide) a1 a2 (a3.trans b3.symm) (by show _ < KN_n7 x; rw [b3]; omega) (by omega) (fun h5 O5 F5 => cont_void ?_))
    refine wp_iincN (a := i) (lv' := [(3, vi (nI (i + 1))), (0, vr (some (nm 45 k))), (1, vi (nI key))]) 1 dX2_dropFromRow_51 rfl (by decide) (by decide) rfl ?_
    refine wp_goto 24 dX2_dropFromRow_54 (by decide) ?_
    refine wp_sub [(3, vi (nI (i + 1))), (0, vr (some (nm 45 k))), (1, vi (nI key))] (sb_cons (.head _) (sb_cons (.tail _ (.head _)) (sb_cons (.tail _ (.tail _ (.head _))) sb_nil))) ?_
    have O6 : KN h5 k (KN_lev x, KN_own x, KN_kk x, KN_ke x, KN_kb x, n, KN_mk x, KN_a6 x, KN_n6 x, KN_a7 x, KN_n7 x, KN_a8 x, KN_n8 x, dF (KN_ky x) s (i + 1), dF (KN_el x) s (i + 1), KN_bl x) := by
      rw [← dF_s his, ← dF_s his]; exact O5
    exact ih (i + 1) _ (by omega) (by omega) O6 (hF.tr F5)
set_option maxRecDepth 100000 in
set_option maxHeartbeats 4000000 in
theorem c_X2_dropFromRow {G : GG} {d bc bs : Nat} {h : Hp} {Q : Pst} {k key s n : Nat} {x : KNS} (hO : KN h k x) (hw : WFN k x) (rk : KN_kk x = some (nm 46 k) ∧ KN_a6 x = 101 ∧ KN_n6 x = 40) (re : KN_ke x = some (nm 47 k) ∧ KN_a7 x = 101 ∧ KN_n7 x = 40) (hsn : s ≤ n) (hn40 : n < 40) (hk : key < 1000) (hkc : KN_kc x = n + 1) (hsl : slO x key = nI s) (hd : 5 ≤ d) (hq : ∀ h', KN h' k (KN_lev x, KN_own x, KN_kk x, KN_ke x, KN_kb x, n, KN_mk x, KN_a6 x, KN_n6 x, KN_a7 x, KN_n7 x, KN_a8 x, KN_n8 x, va_up (dF (KN_ky x) s n) n (-1), va_up (dF (KN_el x) s n) n (nI 0), KN_bl x) → Fr h h' (CNo k) → Q oVoid h') : WP G m_X2_dropFromRow d 0 (aargs 0 [vr (some (nm 45 k)), vi (nI key)]) [] h bc bs Q := by
  refine wp_sub [(0, vr (some (nm 45 k))), (1, vi (nI key))] (fun _ hz => hz) ?_
  refine wp_aload_n (i := 0) dX2_dropFromRow_0 rfl rfl ?_
  refine wp_iload_n (i := 1) dX2_dropFromRow_1 rfl rfl ?_
  refine wp_cV (y' := m_X3_slotOf) 5 [vi (nI key)] [] 0 0 dX2_dropFromRow_2 ml_X2_9 im_X3_slotOf se_X3_slotOf (by decide) hO.k0 ok_X3_slotOf rfl (Nat.le_of_ble_eq_true rfl) rfl (Nat.le_of_ble_eq_true rfl) (d' := d - 1) (by omega) (Nat.zero_le _) (Nat.zero_le _) (c_X3_slotOf hO hw (by omega) (by omega) (cont_ret ?_))
  rw [hsl]
  refine wp_istore_n (i := 2) (lv' := [(2, vi (nI s)), (0, vr (some (nm 45 k))), (1, vi (nI key))]) dX2_dropFromRow_5 rfl (by decide) rfl ?_
  refine wp_iload_n (i := 2) dX2_dropFromRow_6 rfl rfl ?_
  refine wp_iconst (-1) dX2_dropFromRow_7 (by decide) ?_
  refine wp_icmp_ne 12 dX2_dropFromRow_8 (by decide) (fun c_8 => ?_) (fun c_8 => absurd c_8 (nI_m1 (by omega)))
  refine wp_aload_n (i := 0) dX2_dropFromRow_12 rfl rfl ?_
  refine wp_dup dX2_dropFromRow_13 ?_
  refine wp_get 5 5 (vi (nI (n + 1))) dX2_dropFromRow_14 hO.k0 (by decide) (by decide) fl_X2_41 (congrArg (fun z => toV (vi z)) (hO.f_kc.trans (congrArg nI hkc))) ?_
  refine wp_iconst (nI 1) dX2_dropFromRow_17 (by decide) ?_
  refine wp_isubN dX2_dropFromRow_18 (by omega) ?_
  show WP _ _ _ _ _ [vi (nI n), vr (some (nm 45 k))] _ _ _ _
  refine wp_putI 5 5 dX2_dropFromRow_19 hO.k0 (by decide) (by decide) (by decide) fl_X2_41 rfl (fun _ _ => rfl) rfl rfl ?_
  refine wp_iload_n (i := 2) dX2_dropFromRow_22 rfl rfl ?_
  refine wp_istore_n (i := 3) (lv' := [(3, vi (nI s)), (2, vi (nI s)), (0, vr (some (nm 45 k))), (1, vi (nI key))]) dX2_dropFromRow_23 rfl (by decide) rfl ?_
  refine wp_sub [(3, vi (nI s)), (0, vr (some (nm 45 k))), (1, vi (nI key))] (sb_cons (.head _) (sb_cons (.tail _ (.tail _ (.head _))) (sb_cons (.tail _ (.tail _ (.tail _ (.head _)))) sb_nil))) ?_
  have O6 : KN (wI h (nm 45 k) 5 (nI n)) k (KN_lev x, KN_own x, KN_kk x, KN_ke x, KN_kb x, n, KN_mk x, KN_a6 x, KN_n6 x, KN_a7 x, KN_n7 x, KN_a8 x, KN_n8 x, dF (KN_ky x) s s, dF (KN_el x) s s, KN_bl x) := by
    rw [dF_0, dF_0]; exact hO.wkc
  exact l_X2_drop rk re hsn hn40 (by omega) hq (n - s) s _ (by omega) (Nat.le_refl _) O6 (Fr.rf.wI (by unfold CNo nm; omega))
