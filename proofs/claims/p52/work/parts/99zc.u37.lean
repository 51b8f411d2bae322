/-! The class: are two values the same. -/
theorem smA_iff {S : SV} {v w : Nat} : ∀ n, smA S v w n = true ↔ ∀ j, j < n → smK S v w j = true := by
  intro n
  induction n with
  | zero => exact ⟨fun _ j hj => absurd hj (Nat.not_lt_zero _), fun _ => rfl⟩
  | succ n ih =>
    rw [smA, Bool.and_eq_true, ih]
    constructor
    · rintro ⟨h1, h2⟩ j hj
      by_cases e : j = n
      · rw [e]; exact h2
      · exact h1 j (by omega)
    · exact fun h => ⟨fun j hj => h j (by omega), h n (Nat.lt_succ_self n)⟩
theorem same_v {S : SV} {k k2 : Nat} (h1 : sTy S k ≠ 109) (h2 : sTy S k2 ≠ 109) (hz : sSz S k = sSz S k2) (h64 : sSz S k ≤ 64) : smA S k k2 (smN S k) = true ↔ ∀ j, j < sSz S k → elv S k j = elv S k2 j := by
  rw [show smN S k = sSz S k from if_neg h1, smA_iff]
  have e : ∀ j, j < sSz S k → (smK S k k2 j = true ↔ elv S k j = elv S k2 j) := fun j hj => by
    unfold smK hasB
    rw [if_neg h1, if_neg h2, if_neg h1, ← hz, elv_at (by omega), elv_at (by omega)]
    simp
  exact ⟨fun h j hj => (e j hj).mp (h j hj), fun h j hj => (e j hj).mpr (h j hj)⟩
theorem sum_eq {f g : Nat → Nat} : ∀ n, (∀ j, j < n → f j ≤ g j) → sumN f n = sumN g n → ∀ j, j < n → f j = g j := by
  intro n
  induction n with
  | zero => intro _ _ j hj; exact absurd hj (Nat.not_lt_zero _)
  | succ n ih =>
    intro h e j hj
    rw [sumN, sumN] at e
    have a := sumN_le n (fun j hj => h j (by omega))
    have b := h n (by omega)
    by_cases z : j = n
    · rw [z]; omega
    · exact ih (fun j hj => h j (by omega)) (by omega) j (by omega)
theorem same_m {S : SV} {k k2 : Nat} (h1 : sTy S k = 109) (h2 : sTy S k2 = 109) (hz : sSz S k = sSz S k2) (P : PVi (vp S k)) (P2 : PVi (vp S k2)) : smA S k k2 (smN S k) = true ↔ ∀ j, j < 1000 → hsv S k j = true → hsv S k2 j = true ∧ ofv S k2 j = ofv S k j := by
  rw [show smN S k = 1000 from if_pos h1, smA_iff]
  obtain ⟨a1, -, -, a2⟩ := P.2.2.2.1 h1
  obtain ⟨b1, -, -, b2⟩ := P2.2.2.2.1 h2
  have e : ∀ j, j < 1000 → (smK S k k2 j = true ↔ hsv S k j = hsv S k2 j ∧ ofv S k j = ofv S k2 j) := fun j hj => by
    unfold smK hasB
    rw [if_pos h1, if_pos h2, if_pos h1, ixB_of hj (by decide), hsv_at hj, hsv_at hj, ofv_at hj, ofv_at hj]
    simp
  constructor
  · intro h j hj hh
    obtain ⟨q1, q2⟩ := (e j hj).mp (h j hj)
    exact ⟨by rw [← q1]; exact hh, q2.symm⟩
  · intro h
    have le : ∀ j, j < 1000 → ctK (hsv S k) 0 0 j ≤ ctK (hsv S k2) 0 0 j := fun j hj => by
      unfold ctK
      by_cases q : hsv S k j = true
      · rw [if_pos ⟨q, btN_0⟩, if_pos ⟨(h j hj q).1, btN_0⟩]; exact Nat.le_refl _
      · rw [if_neg (fun z => q z.1)]; exact Nat.zero_le _
    have eq := sum_eq 1000 le (show ct (hsv S k) 0 0 = ct (hsv S k2) 0 0 from a1.symm.trans (hz.trans b1))
    intro j hj
    rw [e j hj]
    cases q : hsv S k j with
    | true => exact ⟨(h j hj q).1.symm, (h j hj q).2.symm⟩
    | false =>
      have q2 : hsv S k2 j = false := by
        have := eq j hj
        unfold ctK at this
        rw [if_neg (fun z => by rw [q] at z; exact absurd z.1 (by decide))] at this
        cases r : hsv S k2 j with
        | false => rfl
        | true => rw [if_pos ⟨r, btN_0⟩] at this; cases this
      exact ⟨q2.symm, (a2 j q).trans (b2 j q2).symm⟩
set_option maxRecDepth 100000 in
set_option maxHeartbeats 4000000 in
theorem l_X11_sameElements {G : GG} {d bc bs : Nat} {h : Hp} {Q : Pst} {M M2 n k k2 : Nat} {x x2 : KUS} {nd nd2 : Nat → Nat} {el el2 : Nat → Int32} {ow ow2 : Nat → Bool} {o o2 : Int32} (hO : KU h k x) (hO2 : KU h k2 x2) (t1 : KU_tp x = some (nm 45 (nd (rtS n)))) (t2 : KU_tp x2 = some (nm 45 (nd2 (rtS n)))) (z1 : KU_sz x = n) (z2 : KU_sz x2 = n) (V1 : VT h M n nd el ow o) (V2 : VT h M2 n nd2 el2 ow2 o2) (hn : n ≤ 64) (hd : 4 ≤ d) (hq1 : (∀ j, j < n → el j = el2 j) → Q (oRet (vi (nI 1))) h) (hq0 : ∀ j, j < n → el j ≠ el2 j → Q (oRet (vi (nI 0))) h) : ∀ m i, i + m = n → (∀ j, j < i → el j = el2 j) → WP G m_X11_sameElements d 2 [(2, vi (nI i)), (0, vr (some (nm 42 k))), (1, vr (some (nm 42 k2)))] [] h bc bs Q := by
  intro m
  induction m with
  | zero =>
    intro i hi hs
    have hi : i = n := hi
    subst hi
    refine wp_iload_n (i := 2) dX11_sameElements_2 rfl rfl ?_
    refine wp_aload_n (i := 0) dX11_sameElements_3 rfl rfl ?_
    refine wp_get 10 2 (vi (nI i)) dX11_sameElements_4 hO.k0 (by decide) (by decide) fl_X11_103 (congrArg (fun z => toV (vi z)) (hO.f_sz.trans (congrArg nI z1))) ?_
    refine wp_icmp_geN 45 dX11_sameElements_7 (by decide) (by omega) (by omega) (fun c_7 => ?_) (fun c_7 => absurd c_7 (by omega))
    refine wp_iconst (nI 1) dX11_sameElements_45 (by decide) ?_
    refine wp_zreturn dX11_sameElements_46 rfl (by first | rfl | assumption) ?_
    exact hq1 hs
  | succ m ih =>
    intro i hi hs
    refine wp_iload_n (i := 2) dX11_sameElements_2 rfl rfl ?_
    refine wp_aload_n (i := 0) dX11_sameElements_3 rfl rfl ?_
    refine wp_get 10 2 (vi (nI n)) dX11_sameElements_4 hO.k0 (by decide) (by decide) fl_X11_103 (congrArg (fun z => toV (vi z)) (hO.f_sz.trans (congrArg nI z1))) ?_
    refine wp_icmp_geN 45 dX11_sameElements_7 (by decide) (by omega) (by omega) (fun c_7 => absurd c_7 (by omega)) (fun c_7 => ?_)
    refine wp_aload_n (i := 0) dX11_sameElements_10 rfl rfl ?_
    refine wp_get 10 1 (vr (some (nm 45 (nd (rtS n))))) dX11_sameElements_11 hO.k0 (by decide) (by decide) fl_X11_116 (congrArg (fun z => toV (vr z)) (hO.o_tp.trans t1)) ?_
    refine wp_aload_n (i := 0) dX11_sameElements_14 rfl rfl ?_
    refine wp_get 10 2 (vi (nI n)) dX11_sameElements_15 hO.k0 (by decide) (by decide) fl_X11_103 (congrArg (fun z => toV (vi z)) (hO.f_sz.trans (congrArg nI z1))) ?_
    refine wp_iload_n (i := 2) dX11_sameElements_18 rfl rfl ?_
    refine wp_cS (y' := m_X9_elementIn) [vr (some (nm 45 (nd (rtS n)))), vi (nI n), vi (nI i)] [] 0 0 dX11_sameElements_19 ml_X11_129 st_X9_elementIn ok_X9_elementIn rfl (Nat.le_of_ble_eq_true rfl) rfl (Nat.le_of_ble_eq_true rfl) (d' := d - 1) (by omega) (Nat.zero_le _) (Nat.zero_le _) (c_elIn V1 (by omega) hn (by omega) (cont_ret ?_))
    refine wp_aload_n (i := 1) dX11_sameElements_22 rfl rfl ?_
    refine wp_get 10 1 (vr (some (nm 45 (nd2 (rtS n))))) dX11_sameElements_23 hO2.k0 (by decide) (by decide) fl_X11_116 (congrArg (fun z => toV (vr z)) (hO2.o_tp.trans t2)) ?_
    refine wp_aload_n (i := 1) dX11_sameElements_26 rfl rfl ?_
    refine wp_get 10 2 (vi (nI n)) dX11_sameElements_27 hO2.k0 (by decide) (by decide) fl_X11_103 (congrArg (fun z => toV (vi z)) (hO2.f_sz.trans (congrArg nI z2))) ?_
    refine wp_iload_n (i := 2) dX11_sameElements_30 rfl rfl ?_
    refine wp_cS (y' := m_X9_elementIn) [vr (some (nm 45 (nd2 (rtS n)))), vi (nI n), vi (nI i)] [vi (el i)] 0 0 dX11_sameElements_31 ml_X11_129 st_X9_elementIn ok_X9_elementIn rfl (Nat.le_of_ble_eq_true rfl) rfl (Nat.le_of_ble_eq_true rfl) (d' := d - 1) (by omega) (Nat.zero_le _) (Nat.zero_le _) (c_elIn V2 (by omega) hn (by omega) (cont_ret ?_))
    refine wp_icmp_eq 39 dX11_sameElements_34 (by decide) (fun c_34 => ?_) (fun c_34 => ?_)
    · skip
      refine wp_iincN (a := i) (lv' := [(2, vi (nI (i + 1))), (0, vr (some (nm 42 k))), (1, vr (some (nm 42 k2)))]) 1 dX11_sameElements_39 rfl (by decide) (by decide) rfl ?_
      refine wp_goto 2 dX11_sameElements_42 (by decide) ?_
      refine wp_sub [(2, vi (nI (i + 1))), (0, vr (some (nm 42 k))), (1, vr (some (nm 42 k2)))] (sb_cons (.head _) (sb_cons (.tail _ (.head _)) (sb_cons (.tail _ (.tail _ (.head _))) sb_nil))) ?_
      refine ih (i + 1) (by omega) (fun j hj => ?_)
      by_cases q : j = i
      · rw [q]; exact c_34
      · exact hs j (by omega)
    · skip
      refine wp_iconst (nI 0) dX11_sameElements_37 (by decide) ?_
      refine wp_zreturn dX11_sameElements_38 rfl (by first | rfl | assumption) ?_
      exact hq0 i (by omega) c_34
set_option maxRecDepth 100000 in
set_option maxHeartbeats 4000000 in
theorem c_X11_sameElements {G : GG} {d bc bs : Nat} {h : Hp} {Q : Pst} {M M2 n k k2 : Nat} {x x2 : KUS} {nd nd2 : Nat → Nat} {el el2 : Nat → Int32} {ow ow2 : Nat → Bool} {o o2 : Int32} (hO : KU h k x) (hO2 : KU h k2 x2) (t1 : KU_tp x = some (nm 45 (nd (rtS n)))) (t2 : KU_tp x2 = some (nm 45 (nd2 (rtS n)))) (z1 : KU_sz x = n) (z2 : KU_sz x2 = n) (V1 : VT h M n nd el ow o) (V2 : VT h M2 n nd2 el2 ow2 o2) (hn : n ≤ 64) (hd : 4 ≤ d) (hq1 : (∀ j, j < n → el j = el2 j) → Q (oRet (vi (nI 1))) h) (hq0 : ∀ j, j < n → el j ≠ el2 j → Q (oRet (vi (nI 0))) h) : WP G m_X11_sameElements d 0 (aargs 0 [vr (some (nm 42 k)), vr (some (nm 42 k2))]) [] h bc bs Q := by
  refine wp_sub [(0, vr (some (nm 42 k))), (1, vr (some (nm 42 k2)))] (fun _ hz => hz) ?_
  refine wp_iconst (nI 0) dX11_sameElements_0 (by decide) ?_
  refine wp_istore_n (i := 2) (lv' := [(2, vi (nI 0)), (0, vr (some (nm 42 k))), (1, vr (some (nm 42 k2)))]) dX11_sameElements_1 rfl (by decide) rfl ?_
  exact l_X11_sameElements hO hO2 t1 t2 z1 z2 V1 V2 hn hd hq1 hq0 n 0 (Nat.zero_add n) (fun j hj => absurd hj (Nat.not_lt_zero _))
set_option maxRecDepth 100000 in
set_option maxHeartbeats 4000000 in
theorem l_X11_samePairs {G : GG} {d bc bs : Nat} {h : Hp} {Q : Pst} {M n k k2 q1 q2 : Nat} {x x2 : KUS} {hs hs2 : Nat → Bool} {of of2 : Nat → Int32} {mn2 L : Nat → Nat} {f g : Nat → Int32} (hO : KU h k x) (hO2 : KU h k2 x2) (p1 : KU_pk x = some q1) (p2 : KU_pe x = some q2) (t2 : KU_tp x2 = some (nm 45 (mn2 0))) (z1 : KU_sz x = n) (R1 : PRr h q1 n f) (R2 : PRr h q2 n g) (P : PLs hs of n L f g) (T2 : MTf h M hs2 of2 mn2) (hn : n ≤ 64) (hd : 7 ≤ d) (hq1 : (∀ j, j < 1000 → hs j = true → hs2 j = true ∧ of2 j = of j) → Q (oRet (vi (nI 1))) h) (hq0 : ∀ j, j < 1000 → hs j = true → ¬ (hs2 j = true ∧ of2 j = of j) → Q (oRet (vi (nI 0))) h) : ∀ m i, i + m = n → (∀ j, j < i → hs2 (L j) = true ∧ of2 (L j) = of (L j)) → WP G m_X11_samePairs d 2 [(2, vi (nI i)), (0, vr (some (nm 42 k))), (1, vr (some (nm 42 k2)))] [] h bc bs Q := by
  intro m
  induction m with
  | zero =>
    intro i hi hs9
    have hi : i = n := hi
    subst hi
    refine wp_iload_n (i := 2) dX11_samePairs_2 rfl rfl ?_
    refine wp_aload_n (i := 0) dX11_samePairs_3 rfl rfl ?_
    refine wp_get 10 2 (vi (nI i)) dX11_samePairs_4 hO.k0 (by decide) (by decide) fl_X11_103 (congrArg (fun z => toV (vi z)) (hO.f_sz.trans (congrArg nI z1))) ?_
    refine wp_icmp_geN 58 dX11_samePairs_7 (by decide) (by omega) (by omega) (fun c_7 => ?_) (fun c_7 => absurd c_7 (by omega))
    refine wp_iconst (nI 1) dX11_samePairs_58 (by decide) ?_
    refine wp_zreturn dX11_samePairs_59 rfl (by first | rfl | assumption) ?_
    refine hq1 (fun j hj hh => ?_)
    obtain ⟨s, s1, s2⟩ := P.2.2 j hj hh
    rw [← s2]; exact hs9 s s1
  | succ m ih =>
    intro i hi hs9
    obtain ⟨b1, b2, b3, b4⟩ := P.1 i (by omega)
    refine wp_iload_n (i := 2) dX11_samePairs_2 rfl rfl ?_
    refine wp_aload_n (i := 0) dX11_samePairs_3 rfl rfl ?_
    refine wp_get 10 2 (vi (nI n)) dX11_samePairs_4 hO.k0 (by decide) (by decide) fl_X11_103 (congrArg (fun z => toV (vi z)) (hO.f_sz.trans (congrArg nI z1))) ?_
    refine wp_icmp_geN 58 dX11_samePairs_7 (by decide) (by omega) (by omega) (fun c_7 => absurd c_7 (by omega)) (fun c_7 => ?_)
    refine wp_aload_n (i := 0) dX11_samePairs_10 rfl rfl ?_
    refine wp_iload_n (i := 2) dX11_samePairs_11 rfl rfl ?_
    refine wp_cV (y' := m_X8_plainKeyAt) 10 [vi (nI i)] [] 0 0 dX11_samePairs_12 ml_X11_518 im_X8_plainKeyAt se_X8_plainKeyAt (by decide) hO.k0 ok_X8_plainKeyAt rfl (Nat.le_of_ble_eq_true rfl) rfl (Nat.le_of_ble_eq_true rfl) (d' := d - 1) (by omega) (Nat.zero_le _) (Nat.zero_le _) (c_X8_plainKeyAt hO p1 R1 hn (by omega) (cont_ret ?_))
    rw [b3]
    refine wp_istore_n (i := 3) (lv' := [(3, vi (nI (L i))), (2, vi (nI i)), (0, vr (some (nm 42 k))), (1, vr (some (nm 42 k2)))]) dX11_samePairs_15 rfl (by decide) rfl ?_
    refine wp_aload_n (i := 1) dX11_samePairs_16 rfl rfl ?_
    refine wp_get 10 1 (vr (some (nm 45 (mn2 0)))) dX11_samePairs_17 hO2.k0 (by decide) (by decide) fl_X11_116 (congrArg (fun z => toV (vr z)) (hO2.o_tp.trans t2)) ?_
    refine wp_iload_n (i := 3) dX11_samePairs_20 rfl rfl ?_
    refine wp_cS (y' := m_X2_holderOf) [vr (some (nm 45 (mn2 0))), vi (nI (L i))] [] 0 0 dX11_samePairs_21 ml_X11_194 st_X2_holderOf ok_X2_holderOf rfl (Nat.le_of_ble_eq_true rfl) rfl (Nat.le_of_ble_eq_true rfl) (d' := d - 1) (by omega) (Nat.zero_le _) (Nat.zero_le _) (c_holdA (j := L i) T2 (fun n hn hb => ⟨rfl, ixB_nI hn hb (by omega)⟩) (by omega) (fun g_h => cont_ret ?_) (fun _ _ b_h2 b_h3 => cont_ret ?_))
    · have b_n : hs2 (L i) = false := by rw [ixB_of b1 (by decide), Bool.true_and] at g_h; exact g_h
      have b_c : ¬ (hs2 (L i) = true ∧ of2 (L i) = of (L i)) := fun z => by rw [b_n] at z; exact absurd z.1 (by decide)
      refine wp_astore (i := 4) (lv' := [(4, vr none), (3, vi (nI (L i))), (2, vi (nI i)), (0, vr (some (nm 42 k))), (1, vr (some (nm 42 k2)))]) dX11_samePairs_24 (by decide) rfl ?_
      refine wp_aload (i := 4) dX11_samePairs_26 rfl ?_
      refine wp_ifnull 50 dX11_samePairs_28 (by decide) (fun c_28 => ?_) (fun a_28 c_28 => absurd c_28 (fun z => nomatch z))
      refine wp_iconst (nI 0) dX11_samePairs_50 (by decide) ?_
      refine wp_zreturn dX11_samePairs_51 rfl (by first | rfl | assumption) ?_
      exact hq0 (L i) b1 b2 (by first | exact b_c | exact fun z => c_47 z.2)
    · obtain ⟨y, s0, hy, hwf, hs40, hsl, hel, hlv⟩ := hold_el T2 b_h2 b_h3
      refine wp_astore (i := 4) (lv' := [(4, vr (some (nm 45 (mn2 (sltN (L i) (hlF hs2 (L i) 4 0)))))), (3, vi (nI (L i))), (2, vi (nI i)), (0, vr (some (nm 42 k))), (1, vr (some (nm 42 k2)))]) dX11_samePairs_24 (by decide) rfl ?_
      refine wp_aload (i := 4) dX11_samePairs_26 rfl ?_
      refine wp_ifnull 50 dX11_samePairs_28 (by decide) (fun c_28 => absurd c_28 (fun z => nomatch z)) (fun a_28 c_28 => ?_)
      refine wp_aload (i := 4) dX11_samePairs_31 rfl ?_
      refine wp_aload (i := 4) dX11_samePairs_33 rfl ?_
      refine wp_iload_n (i := 3) dX11_samePairs_35 rfl rfl ?_
      refine wp_cV (y' := m_X3_slotOf) 5 [vi (nI (L i))] [vr (some (nm 45 (mn2 (sltN (L i) (hlF hs2 (L i) 4 0)))))] 0 0 dX11_samePairs_36 ml_X11_202 im_X3_slotOf se_X3_slotOf (by decide) hy.k0 ok_X3_slotOf rfl (Nat.le_of_ble_eq_true rfl) rfl (Nat.le_of_ble_eq_true rfl) (d' := d - 1) (by omega) (Nat.zero_le _) (Nat.zero_le _) (c_X3_slotOf hy hwf (by omega) (by omega) (cont_ret ?_))
      rw [hsl]
      refine wp_cV (y' := m_X3_elementAt) 5 [vi (nI s0)] [] 0 0 dX11_samePairs_39 ml_X11_207 im_X3_elementAt se_X3_elementAt (by decide) hy.k0 ok_X3_elementAt rfl (Nat.le_of_ble_eq_true rfl) rfl (Nat.le_of_ble_eq_true rfl) (d' := d - 1) (by omega) (Nat.zero_le _) (Nat.zero_le _) (c_X3_elementAt hy hwf.2.1 (p := s0) (by omega) (cont_ret ?_))
      rw [hel]
      refine wp_aload_n (i := 0) dX11_samePairs_42 rfl rfl ?_
      refine wp_iload_n (i := 2) dX11_samePairs_43 rfl rfl ?_
      refine wp_cV (y' := m_X8_plainElementAt) 10 [vi (nI i)] [vi (of2 (L i))] 0 0 dX11_samePairs_44 ml_X11_234 im_X8_plainElementAt se_X8_plainElementAt (by decide) hO.k0 ok_X8_plainElementAt rfl (Nat.le_of_ble_eq_true rfl) rfl (Nat.le_of_ble_eq_true rfl) (d' := d - 1) (by omega) (Nat.zero_le _) (Nat.zero_le _) (c_X8_plainElementAt hO p2 R2 hn (by omega) (cont_ret ?_))
      rw [b4]
      refine wp_icmp_eq 52 dX11_samePairs_47 (by decide) (fun c_47 => ?_) (fun c_47 => ?_)
      · skip
        refine wp_iincN (a := i) (lv' := [(2, vi (nI (i + 1))), (4, vr (some (nm 45 (mn2 (sltN (L i) (hlF hs2 (L i) 4 0)))))), (3, vi (nI (L i))), (0, vr (some (nm 42 k))), (1, vr (some (nm 42 k2)))]) 1 dX11_samePairs_52 rfl (by decide) (by decide) rfl ?_
        refine wp_goto 2 dX11_samePairs_55 (by decide) ?_
        refine wp_sub [(2, vi (nI (i + 1))), (0, vr (some (nm 42 k))), (1, vr (some (nm 42 k2)))] (sb_cons (.head _) (sb_cons (.tail _ (.tail _ (.tail _ (.head _)))) (sb_cons (.tail _ (.tail _ (.tail _ (.tail _ (.head _))))) sb_nil))) ?_
        refine ih (i + 1) (by omega) (fun j hj => ?_)
        by_cases q : j = i
        · rw [q]; exact ⟨b_h3, c_47⟩
        · exact hs9 j (by omega)
      · skip
        refine wp_iconst (nI 0) dX11_samePairs_50 (by decide) ?_
        refine wp_zreturn dX11_samePairs_51 rfl (by first | rfl | assumption) ?_
        exact hq0 (L i) b1 b2 (by first | exact b_c | exact fun z => c_47 z.2)
set_option maxRecDepth 100000 in
set_option maxHeartbeats 4000000 in
theorem c_X11_samePairs {G : GG} {d bc bs : Nat} {h : Hp} {Q : Pst} {M n k k2 q1 q2 : Nat} {x x2 : KUS} {hs hs2 : Nat → Bool} {of of2 : Nat → Int32} {mn2 L : Nat → Nat} {f g : Nat → Int32} (hO : KU h k x) (hO2 : KU h k2 x2) (p1 : KU_pk x = some q1) (p2 : KU_pe x = some q2) (t2 : KU_tp x2 = some (nm 45 (mn2 0))) (z1 : KU_sz x = n) (R1 : PRr h q1 n f) (R2 : PRr h q2 n g) (P : PLs hs of n L f g) (T2 : MTf h M hs2 of2 mn2) (hn : n ≤ 64) (hd : 7 ≤ d) (hq1 : (∀ j, j < 1000 → hs j = true → hs2 j = true ∧ of2 j = of j) → Q (oRet (vi (nI 1))) h) (hq0 : ∀ j, j < 1000 → hs j = true → ¬ (hs2 j = true ∧ of2 j = of j) → Q (oRet (vi (nI 0))) h) : WP G m_X11_samePairs d 0 (aargs 0 [vr (some (nm 42 k)), vr (some (nm 42 k2))]) [] h bc bs Q := by
  refine wp_sub [(0, vr (some (nm 42 k))), (1, vr (some (nm 42 k2)))] (fun _ hz => hz) ?_
  refine wp_iconst (nI 0) dX11_samePairs_0 (by decide) ?_
  refine wp_istore_n (i := 2) (lv' := [(2, vi (nI 0)), (0, vr (some (nm 42 k))), (1, vr (some (nm 42 k2)))]) dX11_samePairs_1 rfl (by decide) rfl ?_
  exact l_X11_samePairs hO hO2 p1 p2 t2 z1 R1 R2 P T2 hn hd hq1 hq0 n 0 (Nat.zero_add n) (fun j hj => absurd hj (Nat.not_lt_zero _))
theorem pv_m {S : SV} {k : Nat} (H : pvec (vp S k)) : sTy S k ≠ 109 := fun z => by
  rcases H with q | q
  · have q : sTy S k = 118 := q
    omega
  · have q : sTy S k = 111 := q
    omega
theorem c_live {G : GG} {d bc bs : Nat} {h : Hp} {Q : Pst} {v : Nat} {x : KUS} (hO : KU h v x) (hk4 : KU_kd x < 4) (h1 : KU_kd x < 2 → Q (oRet (vi (nI 1))) h) (h0 : ¬ KU_kd x < 2 → Q (oRet (vi (nI 0))) h) : WP G m_X8_isLiveVector d 0 (aargs 0 [vr (some (nm 42 v))]) [] h bc bs Q := by
  refine c_X8_isLiveVector hO hk4 ?_
  by_cases z : KU_kd x < 2
  · rw [decide_eq_true z]; exact h1 z
  · rw [decide_eq_false z]; exact h0 z
set_option maxRecDepth 100000 in
set_option maxHeartbeats 4000000 in
theorem c_X11_areSame {G : GG} {d bc bs : Nat} {h : Hp} {Q : Pst} {S : SV} {M : Nat} (hS : SVI S) (hC : CV h S M) (hr : sMd S < 700000) {u : Int32} {k : Nat} (hu : ixB u (sNv S) = true → u = nI k ∧ k < sNv S) {u2 : Int32} {k2 : Nat} (hu2 : ixB u2 (sNv S) = true → u2 = nI k2 ∧ k2 < sNv S) (hd : 12 ≤ d) (hbc : 6 ≤ bc) (hbs : 40 ≤ bs) (hq : KOV Q h ["java/lang/IndexOutOfBoundsException", "java/util/NoSuchElementException"] M (o_areSame S u k u2 k2)) : WP G m_X11_areSame d 0 (aargs 0 [vr (some (nm 40 0)), vi u, vi u2]) [] h bc bs Q := by
  have q8 : clN 10 = 5 := rfl
  have hn60 := hS.1
  obtain ⟨K, fK⟩ := hC.2.2.2.2.2.2
  refine wp_sub [(0, vr (some (nm 40 0))), (1, vi u), (2, vi u2)] (fun _ hz => hz) ?_
  refine wp_aload_n (i := 0) dX11_areSame_0 rfl rfl ?_
  refine wp_iload_n (i := 1) dX11_areSame_1 rfl rfl ?_
  refine wp_cV (y' := m_X11_valueNumbered) 12 [vi u] [] 1 6 dX11_areSame_2 ml_X11_87 im_X11_valueNumbered se_X11_valueNumbered (by decide) hC.1.1.1 ok_X11_valueNumbered rfl (Nat.le_of_ble_eq_true rfl) rfl (Nat.le_of_ble_eq_true rfl) (d' := d - 1) (by omega) (by omega) (by omega) (c_X11_valueNumbered hC.1 (by omega) (v := u) (t := k) hu (by omega) (by omega) (by omega) (fun g_s => cont_thr rfl ?_) (fun b_s eu hk => cont_ret ?_))
  · rw [show o_areSame S u k u2 k2 = (nI 1, nI 0, S) from by unfold o_areSame; rw [if_pos (by rw [g_s]; rfl)]] at hq
    exact (hq h M (Nat.le_refl _) (by omega) hC FRV.rf).1 0 _ rfl rfl
  · subst eu
    obtain ⟨⟨x, hO, hsz, hx⟩, hT⟩ := hC.2.2.1 k hk
    have hP := hS.2.1 k hk
    have hkd := VAP.kd hx
    have hk4 : KU_kd x < 4 := by rw [hkd]; exact (kdN_v hP.1).2.2.2.2.1
    have hz64 : sSz S k ≤ 64 := hP.2.1
    have hzs : KU_sz x = sSz S k := hsz
    refine wp_astore_n (i := 3) (lv' := [(3, vr (some (nm 42 k))), (0, vr (some (nm 40 0))), (1, vi (nI k)), (2, vi u2)]) dX11_areSame_5 rfl (by decide) rfl ?_
    refine wp_aload_n (i := 0) dX11_areSame_6 rfl rfl ?_
    refine wp_iload_n (i := 2) dX11_areSame_7 rfl rfl ?_
    refine wp_cV (y' := m_X11_valueNumbered) 12 [vi u2] [] 1 6 dX11_areSame_8 ml_X11_87 im_X11_valueNumbered se_X11_valueNumbered (by decide) hC.1.1.1 ok_X11_valueNumbered rfl (Nat.le_of_ble_eq_true rfl) rfl (Nat.le_of_ble_eq_true rfl) (d' := d - 1) (by omega) (by omega) (by omega) (c_X11_valueNumbered hC.1 (by omega) (v := u2) (t := k2) hu2 (by omega) (by omega) (by omega) (fun g_s => cont_thr rfl ?_) (fun b_s2 eu2 hk2 => cont_ret ?_))
    · rw [show o_areSame S (nI k) k u2 k2 = (nI 1, nI 0, S) from by unfold o_areSame; rw [if_pos (by rw [g_s, Bool.and_false])]] at hq
      exact (hq h M (Nat.le_refl _) (by omega) hC FRV.rf).1 0 _ rfl rfl
    · subst eu2
      obtain ⟨⟨x2, hO2, hsz2, hx2⟩, hT2⟩ := hC.2.2.1 k2 hk2
      have hP2 := hS.2.1 k2 hk2
      have hkd2 := VAP.kd hx2
      have hk42 : KU_kd x2 < 4 := by rw [hkd2]; exact (kdN_v hP2.1).2.2.2.2.1
      have hz642 : sSz S k2 ≤ 64 := hP2.2.1
      have hzs2 : KU_sz x2 = sSz S k2 := hsz2
      refine wp_astore (i := 4) (lv' := [(4, vr (some (nm 42 k2))), (3, vr (some (nm 42 k))), (0, vr (some (nm 40 0))), (1, vi (nI k)), (2, vi (nI k2))]) dX11_areSame_11 (by decide) rfl ?_
      refine wp_aload_n (i := 3) dX11_areSame_13 rfl rfl ?_
      refine wp_get 10 0 (vi (nI (KU_kd x))) dX11_areSame_14 hO.k0 (by decide) (by decide) fl_X11_179 (congrArg (fun z => toV (vi z)) (hO.f_kd)) ?_
      refine wp_iconst (nI 3) dX11_areSame_17 (by decide) ?_
      refine wp_icmp_eqN 30 dX11_areSame_18 (by decide) (by omega) (by decide) (fun c_18 => ?_) (fun c_18 => ?_)
      · skip
        refine wp_throwNL dX11_areSame_30 dX11_areSame_33 dX11_areSame_34 dX11_areSame_36 dX11_areSame_39 rfl sr_X11_247 rfl (by omega) (by omega) (by omega) ?_
        rw [show o_areSame S (nI k) k (nI k2) k2 = (nI 2, nI 0, S) from by unfold o_areSame; rw [if_neg (show ¬ (ixB (nI k) (sNv S) && ixB (nI k2) (sNv S)) = false by rw [b_s, b_s2]; decide), if_pos (by first | exact Or.inl ((kdN_v hP.1).2.2.2.1.mp (hkd.symm.trans c_18)) | exact Or.inr ((kdN_v hP2.1).2.2.2.1.mp (hkd2.symm.trans (by omega))))]] at hq
        exact (hq h M (Nat.le_refl _) (by omega) hC FRV.rf).1 1 _ rfl rfl
      · skip
        refine wp_aload (i := 4) dX11_areSame_21 rfl ?_
        refine wp_get 10 0 (vi (nI (KU_kd x2))) dX11_areSame_23 hO2.k0 (by decide) (by decide) fl_X11_179 (congrArg (fun z => toV (vi z)) (hO2.f_kd)) ?_
        refine wp_iconst (nI 3) dX11_areSame_26 (by decide) ?_
        refine wp_icmp_neN 40 dX11_areSame_27 (by decide) (by omega) (by decide) (fun c_27 => ?_) (fun c_27 => ?_)
        · skip
          refine wp_aload_n (i := 3) dX11_areSame_40 rfl rfl ?_
          refine wp_cV (y' := m_X8_isLiveVector) 10 [] [] 0 0 dX11_areSame_41 ml_X11_148 im_X8_isLiveVector se_X8_isLiveVector (by decide) hO.k0 ok_X8_isLiveVector rfl (Nat.le_of_ble_eq_true rfl) rfl (Nat.le_of_ble_eq_true rfl) (d' := d - 1) (by omega) (Nat.zero_le _) (Nat.zero_le _) (c_live hO hk4 (fun l_1 => cont_ret ?_) (fun l_1 => cont_ret ?_))
          · have ty : pvec (vp S k) := (kdN_v hP.1).2.2.2.2.2.mp (by rw [← hkd]; exact l_1)
            refine wp_aload (i := 4) dX11_areSame_44 rfl ?_
            refine wp_cV (y' := m_X8_isLiveVector) 10 [] [vi (nI 1)] 0 0 dX11_areSame_46 ml_X11_148 im_X8_isLiveVector se_X8_isLiveVector (by decide) hO2.k0 ok_X8_isLiveVector rfl (Nat.le_of_ble_eq_true rfl) rfl (Nat.le_of_ble_eq_true rfl) (d' := d - 1) (by omega) (Nat.zero_le _) (Nat.zero_le _) (c_live hO2 hk42 (fun l_12 => cont_ret ?_) (fun l_12 => cont_ret ?_))
            · have ty2 : pvec (vp S k2) := (kdN_v hP2.1).2.2.2.2.2.mp (by rw [← hkd2]; exact l_12)
              refine wp_icmp_neN 64 dX11_areSame_49 (by decide) (by decide) (by decide) (fun c_49 => absurd c_49 (by decide)) (fun c_49 => ?_)
              refine wp_aload_n (i := 3) dX11_areSame_52 rfl rfl ?_
              refine wp_get 10 2 (vi (nI (sSz S k))) dX11_areSame_53 hO.k0 (by decide) (by decide) fl_X11_103 (congrArg (fun z => toV (vi z)) (hO.f_sz.trans (congrArg nI hsz))) ?_
              refine wp_aload (i := 4) dX11_areSame_56 rfl ?_
              refine wp_get 10 2 (vi (nI (sSz S k2))) dX11_areSame_58 hO2.k0 (by decide) (by decide) fl_X11_103 (congrArg (fun z => toV (vi z)) (hO2.f_sz.trans (congrArg nI hsz2))) ?_
              refine wp_icmp_eqN 66 dX11_areSame_61 (by decide) (by omega) (by omega) (fun c_61 => ?_) (fun c_61 => ?_)
              · skip
                refine wp_aload_n (i := 3) dX11_areSame_66 rfl rfl ?_
                refine wp_cV (y' := m_X8_isLiveVector) 10 [] [] 0 0 dX11_areSame_67 ml_X11_148 im_X8_isLiveVector se_X8_isLiveVector (by decide) hO.k0 ok_X8_isLiveVector rfl (Nat.le_of_ble_eq_true rfl) rfl (Nat.le_of_ble_eq_true rfl) (d' := d - 1) (by omega) (Nat.zero_le _) (Nat.zero_le _) (c_live hO hk4 (fun l_9 => cont_ret ?_) (fun l_9 => absurd l_1 l_9))
                refine wp_if_eqN 82 dX11_areSame_70 (by decide) (by decide) (fun c_70 => absurd c_70 (by decide)) (fun c_70 => ?_)
                refine wp_aload_n (i := 3) dX11_areSame_73 rfl rfl ?_
                refine wp_aload (i := 4) dX11_areSame_74 rfl ?_
                refine wp_cS (y' := m_X11_sameElements) [vr (some (nm 42 k)), vr (some (nm 42 k2))] [] 0 0 dX11_areSame_76 ml_X11_249 st_X11_sameElements ok_X11_sameElements rfl (Nat.le_of_ble_eq_true rfl) rfl (Nat.le_of_ble_eq_true rfl) (d' := d - 1) (by omega) (Nat.zero_le _) (Nat.zero_le _) (c_X11_sameElements hO hO2 (VAP.top hx ty) ((VAP.top hx2 ty2).trans (by rw [c_61])) hzs (hzs2.trans c_61.symm) (hT.1 ty).1 (show VT h M (sSz S k) (ndv S k2) (elv S k2) (owv S k2) (onr k2 (vp S k2)) by rw [c_61]; exact (hT2.1 ty2).1) hz64 (by omega) (fun r_1 => cont_ret ?_) (fun j hj r_0 => cont_ret ?_))
                · have E9 : smA S k k2 (smN S k) = true := (same_v (pv_m ty) (pv_m ty2) c_61 hz64).mpr r_1
                  refine wp_goto 88 dX11_areSame_79 (by decide) ?_
                  refine wp_zreturn dX11_areSame_88 rfl (by first | rfl | assumption) ?_
                  rw [show o_areSame S (nI k) k (nI k2) k2 = (nI 0, bI true, S) from by unfold o_areSame; rw [if_neg (show ¬ (ixB (nI k) (sNv S) && ixB (nI k2) (sNv S)) = false by rw [b_s, b_s2]; decide), if_neg (fun z => z.elim (fun y => c_18 (hkd.trans ((kdN_v hP.1).2.2.2.1.mpr y))) (fun y => c_27 (hkd2.trans ((kdN_v hP2.1).2.2.2.1.mpr y)))), show (decide (decide (sTy S k = 109) = decide (sTy S k2 = 109)) && decide (sSz S k = sSz S k2) && smA S k k2 (smN S k)) = true by rw [E9, decide_eq_true c_61, show decide (sTy S k = 109) = false from decide_eq_false (pv_m ty), show decide (sTy S k2 = 109) = false from decide_eq_false (pv_m ty2)]; rfl]] at hq
                  exact (hq h M (Nat.le_refl _) (by omega) hC FRV.rf).2 rfl
                · have E9 : smA S k k2 (smN S k) = false := by
                    cases q : smA S k k2 (smN S k) with
                    | false => rfl
                    | true => exact absurd ((same_v (pv_m ty) (pv_m ty2) c_61 hz64).mp q j hj) r_0
                  refine wp_goto 88 dX11_areSame_79 (by decide) ?_
                  refine wp_zreturn dX11_areSame_88 rfl (by first | rfl | assumption) ?_
                  rw [show o_areSame S (nI k) k (nI k2) k2 = (nI 0, bI false, S) from by unfold o_areSame; rw [if_neg (show ¬ (ixB (nI k) (sNv S) && ixB (nI k2) (sNv S)) = false by rw [b_s, b_s2]; decide), if_neg (fun z => z.elim (fun y => c_18 (hkd.trans ((kdN_v hP.1).2.2.2.1.mpr y))) (fun y => c_27 (hkd2.trans ((kdN_v hP2.1).2.2.2.1.mpr y)))), show (decide (decide (sTy S k = 109) = decide (sTy S k2 = 109)) && decide (sSz S k = sSz S k2) && smA S k k2 (smN S k)) = false by rw [E9, decide_eq_true c_61, show decide (sTy S k = 109) = false from decide_eq_false (pv_m ty), show decide (sTy S k2 = 109) = false from decide_eq_false (pv_m ty2)]; rfl]] at hq
                  exact (hq h M (Nat.le_refl _) (by omega) hC FRV.rf).2 rfl
              · skip
                refine wp_iconst (nI 0) dX11_areSame_64 (by decide) ?_
                refine wp_zreturn dX11_areSame_65 rfl (by first | rfl | assumption) ?_
                rw [show o_areSame S (nI k) k (nI k2) k2 = (nI 0, bI false, S) from by unfold o_areSame; rw [if_neg (show ¬ (ixB (nI k) (sNv S) && ixB (nI k2) (sNv S)) = false by rw [b_s, b_s2]; decide), if_neg (fun z => z.elim (fun y => c_18 (hkd.trans ((kdN_v hP.1).2.2.2.1.mpr y))) (fun y => c_27 (hkd2.trans ((kdN_v hP2.1).2.2.2.1.mpr y)))), show (decide (decide (sTy S k = 109) = decide (sTy S k2 = 109)) && decide (sSz S k = sSz S k2) && smA S k k2 (smN S k)) = false by rw [decide_eq_false c_61, Bool.and_false]; rfl]] at hq
                exact (hq h M (Nat.le_refl _) (by omega) hC FRV.rf).2 rfl
            · have ty2 : sTy S k2 = 109 := by
                have q := hkd2
                have q2 := hk42
                exact (kdN_v hP2.1).2.2.1.mp (by omega)
              refine wp_icmp_neN 64 dX11_areSame_49 (by decide) (by decide) (by decide) (fun c_49 => ?_) (fun c_49 => absurd c_49 (by decide))
              refine wp_iconst (nI 0) dX11_areSame_64 (by decide) ?_
              refine wp_zreturn dX11_areSame_65 rfl (by first | rfl | assumption) ?_
              rw [show o_areSame S (nI k) k (nI k2) k2 = (nI 0, bI false, S) from by unfold o_areSame; rw [if_neg (show ¬ (ixB (nI k) (sNv S) && ixB (nI k2) (sNv S)) = false by rw [b_s, b_s2]; decide), if_neg (fun z => z.elim (fun y => c_18 (hkd.trans ((kdN_v hP.1).2.2.2.1.mpr y))) (fun y => c_27 (hkd2.trans ((kdN_v hP2.1).2.2.2.1.mpr y)))), show (decide (decide (sTy S k = 109) = decide (sTy S k2 = 109)) && decide (sSz S k = sSz S k2) && smA S k k2 (smN S k)) = false by rw [show decide (sTy S k = 109) = false from decide_eq_false (pv_m ty), show decide (sTy S k2 = 109) = true from decide_eq_true ty2]; rfl]] at hq
              exact (hq h M (Nat.le_refl _) (by omega) hC FRV.rf).2 rfl
          · have ty : sTy S k = 109 := by
              have q := hkd
              have q2 := hk4
              exact (kdN_v hP.1).2.2.1.mp (by omega)
            refine wp_aload (i := 4) dX11_areSame_44 rfl ?_
            refine wp_cV (y' := m_X8_isLiveVector) 10 [] [vi (nI 0)] 0 0 dX11_areSame_46 ml_X11_148 im_X8_isLiveVector se_X8_isLiveVector (by decide) hO2.k0 ok_X8_isLiveVector rfl (Nat.le_of_ble_eq_true rfl) rfl (Nat.le_of_ble_eq_true rfl) (d' := d - 1) (by omega) (Nat.zero_le _) (Nat.zero_le _) (c_live hO2 hk42 (fun l_12 => cont_ret ?_) (fun l_12 => cont_ret ?_))
            · have ty2 : pvec (vp S k2) := (kdN_v hP2.1).2.2.2.2.2.mp (by rw [← hkd2]; exact l_12)
              refine wp_icmp_neN 64 dX11_areSame_49 (by decide) (by decide) (by decide) (fun c_49 => ?_) (fun c_49 => absurd c_49 (by decide))
              refine wp_iconst (nI 0) dX11_areSame_64 (by decide) ?_
              refine wp_zreturn dX11_areSame_65 rfl (by first | rfl | assumption) ?_
              rw [show o_areSame S (nI k) k (nI k2) k2 = (nI 0, bI false, S) from by unfold o_areSame; rw [if_neg (show ¬ (ixB (nI k) (sNv S) && ixB (nI k2) (sNv S)) = false by rw [b_s, b_s2]; decide), if_neg (fun z => z.elim (fun y => c_18 (hkd.trans ((kdN_v hP.1).2.2.2.1.mpr y))) (fun y => c_27 (hkd2.trans ((kdN_v hP2.1).2.2.2.1.mpr y)))), show (decide (decide (sTy S k = 109) = decide (sTy S k2 = 109)) && decide (sSz S k = sSz S k2) && smA S k k2 (smN S k)) = false by rw [show decide (sTy S k = 109) = true from decide_eq_true ty, show decide (sTy S k2 = 109) = false from decide_eq_false (pv_m ty2)]; rfl]] at hq
              exact (hq h M (Nat.le_refl _) (by omega) hC FRV.rf).2 rfl
            · have ty2 : sTy S k2 = 109 := by
                have q := hkd2
                have q2 := hk42
                exact (kdN_v hP2.1).2.2.1.mp (by omega)
              refine wp_icmp_neN 64 dX11_areSame_49 (by decide) (by decide) (by decide) (fun c_49 => absurd c_49 (by decide)) (fun c_49 => ?_)
              refine wp_aload_n (i := 3) dX11_areSame_52 rfl rfl ?_
              refine wp_get 10 2 (vi (nI (sSz S k))) dX11_areSame_53 hO.k0 (by decide) (by decide) fl_X11_103 (congrArg (fun z => toV (vi z)) (hO.f_sz.trans (congrArg nI hsz))) ?_
              refine wp_aload (i := 4) dX11_areSame_56 rfl ?_
              refine wp_get 10 2 (vi (nI (sSz S k2))) dX11_areSame_58 hO2.k0 (by decide) (by decide) fl_X11_103 (congrArg (fun z => toV (vi z)) (hO2.f_sz.trans (congrArg nI hsz2))) ?_
              refine wp_icmp_eqN 66 dX11_areSame_61 (by decide) (by omega) (by omega) (fun c_61 => ?_) (fun c_61 => ?_)
              · skip
                refine wp_aload_n (i := 3) dX11_areSame_66 rfl rfl ?_
                refine wp_cV (y' := m_X8_isLiveVector) 10 [] [] 0 0 dX11_areSame_67 ml_X11_148 im_X8_isLiveVector se_X8_isLiveVector (by decide) hO.k0 ok_X8_isLiveVector rfl (Nat.le_of_ble_eq_true rfl) rfl (Nat.le_of_ble_eq_true rfl) (d' := d - 1) (by omega) (Nat.zero_le _) (Nat.zero_le _) (c_live hO hk4 (fun l_9 => absurd l_9 l_1) (fun l_9 => cont_ret ?_))
                refine wp_if_eqN 82 dX11_areSame_70 (by decide) (by decide) (fun c_70 => ?_) (fun c_70 => absurd c_70 (by decide))
                obtain ⟨-, -, v1, a, b, L, f, g, v2, v3, v4, v5, v6⟩ := VAP.m hx ty
                obtain ⟨-, -, w1, -⟩ := VAP.m hx2 ty2
                refine wp_aload_n (i := 3) dX11_areSame_82 rfl rfl ?_
                refine wp_aload (i := 4) dX11_areSame_83 rfl ?_
                refine wp_cS (y' := m_X11_samePairs) [vr (some (nm 42 k)), vr (some (nm 42 k2))] [] 0 0 dX11_areSame_85 ml_X11_253 st_X11_samePairs ok_X11_samePairs rfl (Nat.le_of_ble_eq_true rfl) rfl (Nat.le_of_ble_eq_true rfl) (d' := d - 1) (by omega) (Nat.zero_le _) (Nat.zero_le _) (c_X11_samePairs hO hO2 v2 v3 w1 hzs v4 v5 v6 (hT2.2 ty2) hz64 (by omega) (fun r_1 => cont_ret ?_) (fun j hj1 hj2 r_0 => cont_ret ?_))
                · have E9 : smA S k k2 (smN S k) = true := (same_m ty ty2 c_61 hP hP2).mpr r_1
                  refine wp_zreturn dX11_areSame_88 rfl (by first | rfl | assumption) ?_
                  rw [show o_areSame S (nI k) k (nI k2) k2 = (nI 0, bI true, S) from by unfold o_areSame; rw [if_neg (show ¬ (ixB (nI k) (sNv S) && ixB (nI k2) (sNv S)) = false by rw [b_s, b_s2]; decide), if_neg (fun z => z.elim (fun y => c_18 (hkd.trans ((kdN_v hP.1).2.2.2.1.mpr y))) (fun y => c_27 (hkd2.trans ((kdN_v hP2.1).2.2.2.1.mpr y)))), show (decide (decide (sTy S k = 109) = decide (sTy S k2 = 109)) && decide (sSz S k = sSz S k2) && smA S k k2 (smN S k)) = true by rw [E9, decide_eq_true c_61, show decide (sTy S k = 109) = true from decide_eq_true ty, show decide (sTy S k2 = 109) = true from decide_eq_true ty2]; rfl]] at hq
                  exact (hq h M (Nat.le_refl _) (by omega) hC FRV.rf).2 rfl
                · have E9 : smA S k k2 (smN S k) = false := by
                    cases q : smA S k k2 (smN S k) with
                    | false => rfl
                    | true => exact absurd ((same_m ty ty2 c_61 hP hP2).mp q j hj1 hj2) r_0
                  refine wp_zreturn dX11_areSame_88 rfl (by first | rfl | assumption) ?_
                  rw [show o_areSame S (nI k) k (nI k2) k2 = (nI 0, bI false, S) from by unfold o_areSame; rw [if_neg (show ¬ (ixB (nI k) (sNv S) && ixB (nI k2) (sNv S)) = false by rw [b_s, b_s2]; decide), if_neg (fun z => z.elim (fun y => c_18 (hkd.trans ((kdN_v hP.1).2.2.2.1.mpr y))) (fun y => c_27 (hkd2.trans ((kdN_v hP2.1).2.2.2.1.mpr y)))), show (decide (decide (sTy S k = 109) = decide (sTy S k2 = 109)) && decide (sSz S k = sSz S k2) && smA S k k2 (smN S k)) = false by rw [E9, decide_eq_true c_61, show decide (sTy S k = 109) = true from decide_eq_true ty, show decide (sTy S k2 = 109) = true from decide_eq_true ty2]; rfl]] at hq
                  exact (hq h M (Nat.le_refl _) (by omega) hC FRV.rf).2 rfl
              · skip
                refine wp_iconst (nI 0) dX11_areSame_64 (by decide) ?_
                refine wp_zreturn dX11_areSame_65 rfl (by first | rfl | assumption) ?_
                rw [show o_areSame S (nI k) k (nI k2) k2 = (nI 0, bI false, S) from by unfold o_areSame; rw [if_neg (show ¬ (ixB (nI k) (sNv S) && ixB (nI k2) (sNv S)) = false by rw [b_s, b_s2]; decide), if_neg (fun z => z.elim (fun y => c_18 (hkd.trans ((kdN_v hP.1).2.2.2.1.mpr y))) (fun y => c_27 (hkd2.trans ((kdN_v hP2.1).2.2.2.1.mpr y)))), show (decide (decide (sTy S k = 109) = decide (sTy S k2 = 109)) && decide (sSz S k = sSz S k2) && smA S k k2 (smN S k)) = false by rw [decide_eq_false c_61, Bool.and_false]; rfl]] at hq
                exact (hq h M (Nat.le_refl _) (by omega) hC FRV.rf).2 rfl
        · skip
          refine wp_throwNL dX11_areSame_30 dX11_areSame_33 dX11_areSame_34 dX11_areSame_36 dX11_areSame_39 rfl sr_X11_247 rfl (by omega) (by omega) (by omega) ?_
          rw [show o_areSame S (nI k) k (nI k2) k2 = (nI 2, nI 0, S) from by unfold o_areSame; rw [if_neg (show ¬ (ixB (nI k) (sNv S) && ixB (nI k2) (sNv S)) = false by rw [b_s, b_s2]; decide), if_pos (by first | exact Or.inl ((kdN_v hP.1).2.2.2.1.mp (hkd.symm.trans c_18)) | exact Or.inr ((kdN_v hP2.1).2.2.2.1.mp (hkd2.symm.trans (by omega))))]] at hq
          exact (hq h M (Nat.le_refl _) (by omega) hC FRV.rf).1 1 _ rfl rfl
