/-! The class: a new map, a key put in. -/
theorem ct_none {hs : Nat → Bool} {l b : Nat} (h : ∀ k, k < 1000 → hs k = false) : ct hs l b = 0 := by
  have : ct hs l b = sumN (fun _ => 0) 1000 := sumN_c 1000 (fun k hk => by
    unfold ctK; rw [if_neg (fun z => by rw [h k hk] at z; exact absurd z.1 (by decide))])
  rw [this, sum_zero]
abbrev s_map (S : SV) : SV := s_10 (s_2 (s_mapN S) (sMd S + 1)) (341 * sNv S) (sMd S + 1)
theorem map_f {S : SV} : sTy (s_map S) (sNv S) = 109 ∧ sSz (s_map S) (sNv S) = 0 ∧ (∀ j, hsv (s_map S) (sNv S) j = false) ∧ (∀ v, v < sNv S → vp (s_map S) v = vp S v) ∧ mnv (s_map S) (sNv S) 0 = sMd S + 1 ∧ (∀ i, 0 < i → mnv (s_map S) (sNv S) i = 0) := by
  refine ⟨va_up_self _ _ _, va_up_self _ _ _, fun j => ?_, fun v hv => ?_, ?_, fun i hi => ?_⟩
  · unfold hsv
    by_cases e : j < 1000
    · rw [if_pos e]
      show blk (sHs S) (fun _ => false) 1000 (sNv S) 1000 (1000 * sNv S + j) = _
      exact blk_i e
    · rw [if_neg e]
  · exact vp_ext (va_ne (by omega)) ((va_ne (by omega)).trans (va_ne (by omega))) (fun _ _ => rfl) (fun _ _ => rfl) (fun _ _ => rfl) (fun i hi => show blk (sHs S) (fun _ => false) 1000 (sNv S) 1000 (1000 * v + i) = _ from blk_o (by omega)) (fun i hi => show blk (sOf S) (fun _ => nI 0) 1000 (sNv S) 1000 (1000 * v + i) = _ from blk_o (by omega)) (fun i hi => (va_ne (by omega)).trans (show blk (sMn S) (fun _ => 0) 341 (sNv S) 341 (341 * v + i) = _ from blk_o (by omega)))
  · unfold mnv
    rw [if_pos (by decide)]; exact va_up_self _ _ _
  · unfold mnv
    by_cases e : i < 341
    · rw [if_pos e]
      refine (va_ne (by omega)).trans ?_
      show blk (sMn S) (fun _ => 0) 341 (sNv S) 341 (341 * sNv S + i) = _
      exact blk_i e
    · rw [if_neg e]
theorem MTf.one {h : Hp} {M k : Nat} {hs : Nat → Bool} {of : Nat → Int32} {mn : Nat → Nat} {x : KNS} (hs0 : ∀ j, hs j = false) (hk : mn 0 = k) (K : KN h k x) (P : MPx k 0 0 (fun _ => -1) (fun _ => nI 0) (fun _ => none) x) (hm : KN_mk x = nI 0) : MTf h M hs of mn := fun l b hl hb hp => by
  have c0 : ∀ l b, ct hs l b = 0 := fun l b => ct_none (fun k _ => hs0 k)
  have e : l = 0 := hp.resolve_right (by rw [c0]; decide)
  subst e
  have hb : b < 1 := hb
  have e2 : b = 0 := by omega
  subst e2
  show ∃ x, KN h (mn 0) x ∧ MNk M (mn 0) hs of mn 0 0 x
  rw [hk]
  obtain ⟨a1, a2, a3, a4, a5, a6, a7⟩ := P
  exact ⟨x, K, ⟨0, Nat.zero_le _, hm⟩, Or.inl ⟨by decide, ⟨a1, a2, by rw [c0]; exact a3, a4, a5, a6, fun p _ => ⟨rfl, rfl, rfl⟩⟩, fun p hp => Or.inl ⟨c0 _ _, (a7 p hp).1, (a7 p hp).2.1, (a7 p hp).2.2⟩⟩⟩
theorem w999 {w : Int32} (h0 : ¬ w < 0) : (w ≤ nI 999 → ixB w 1000 = true) ∧ (¬ w ≤ nI 999 → ixB w 1000 = false) := by
  obtain ⟨k, hk, rfl⟩ := nI_of h0
  refine ⟨fun z => ?_, fun z => ?_⟩
  · rw [i32_le, nI_toInt hk, nI_toInt (by decide)] at z
    exact ixB_of (by omega) (by decide)
  · exact ixB_b (by decide) (fun q => z (by
      rw [i32_lt, nI_toInt hk, nI_toInt (by decide)] at q
      rw [i32_le, nI_toInt hk, nI_toInt (by decide)]; omega))
set_option maxRecDepth 100000 in
set_option maxHeartbeats 4000000 in
theorem c_X11_map {G : GG} {d bc bs : Nat} {h : Hp} {Q : Pst} {S : SV} {M : Nat} (hS : SVI S) (hC : CV h S M) (hr : sMd S < 700000) (hd : 10 ≤ d) (hbc : 20 ≤ bc) (hbs : 400 ≤ bs) (hq : KOV Q h ["java/lang/IllegalStateException"] M (o_map S)) : WP G m_X11_map d 0 (aargs 0 [vr (some (nm 40 0))]) [] h bc bs Q := by
  have q8 : clN 10 = 5 := rfl
  have hn60 := hS.1
  obtain ⟨K, fK⟩ := hC.2.2.2.2.2.2
  refine wp_sub [(0, vr (some (nm 40 0)))] (fun _ hz => hz) ?_
  refine wp_aload_n (i := 0) dX11_map_0 rfl rfl ?_
  refine wp_cV (y' := m_X11_refuseMoreValues) 12 [] [] 1 6 dX11_map_1 ml_X11_76 im_X11_refuseMoreValues se_X11_refuseMoreValues (by decide) hC.1.1.1 ok_X11_refuseMoreValues rfl (Nat.le_of_ble_eq_true rfl) rfl (Nat.le_of_ble_eq_true rfl) (d' := d - 1) (by omega) (by omega) (by omega) (c_X11_refuseMoreValues hC.1 (by omega) (by omega) (by omega) (by omega) (fun g_m => cont_thr rfl ?_) (fun b_m => cont_void ?_))
  · rw [show o_map S = (nI 1, nI 0, S) from by unfold o_map; rw [if_pos (by omega)]] at hq
    exact (hq h M (Nat.le_refl _) (by omega) hC FRV.rf).1 0 _ rfl rfl
  · skip
    refine wp_aload_n (i := 0) dX11_map_4 rfl rfl ?_
    refine wp_aload_n (i := 0) dX11_map_5 rfl rfl ?_
    refine wp_get 12 2 (vr (some (nm 40 2))) dX11_map_6 hC.1.1.1 (by decide) (by decide) fl_X11_22 (congrArg (fun z => toV (vr z)) (hC.1.1.2.2.2.1)) ?_
    refine wp_iconst (nI 0) dX11_map_9 (by decide) ?_
    refine wp_cV (y' := m_X4_freshMapNode) 6 [vi (nI 0)] [vr (some (nm 40 0))] 4 91 dX11_map_10 ml_X11_182 im_X4_freshMapNode se_X4_freshMapNode (by decide) hC.2.1.1 ok_X4_freshMapNode rfl (Nat.le_of_ble_eq_true rfl) rfl (Nat.le_of_ble_eq_true rfl) (d' := d - 1) (by omega) (by omega) (by omega) (c_X4_freshMapNode (k := sMd S + 1) (lev := 0) (by decide) hC.2.1 (by omega) (hC.2.2.2.2.2.1 _ (Nat.lt_succ_self _)) (by omega) (by omega) (by omega) (fun h1 x K1 L1 L2 m1 M1 F1 => cont_ret ?_))
    have g1 : ∀ r i, 40 ≤ r → r ≤ 44 → (r ≠ 40 ∨ i ≠ 2) → ce h1 (nm r i) = ce h (nm r i) := fun r i r1 r2 r3 => F1 _ (by unfold W1 CNo nm; omega)
    refine wp_iconst (nI 0) dX11_map_13 (by decide) ?_
    refine wp_iconst (nI 0) dX11_map_14 (by decide) ?_
    refine wp_newarray 101 0 .int dX11_map_15 rfl rfl aw_int (nI_nn (by omega)) (nI_clamp (by omega)) (by omega) (by decide) pl_int (by omega) (by omega) (nm 43 K) ((ce_k (g1 _ _ (by decide) (by decide) (Or.inl (by decide)))).trans (fK K (Nat.le_refl _))) ?_
    refine wp_iconst (nI 0) dX11_map_17 (by decide) ?_
    refine wp_newarray 101 0 .int dX11_map_18 rfl rfl aw_int (nI_nn (by omega)) (nI_clamp (by omega)) (by omega) (by decide) pl_int (by omega) (by omega) (nm 43 (K + 1)) (by rw [gk_mk, if_neg (by unfold nm; omega)]; exact (ce_k (g1 _ _ (by decide) (by decide) (Or.inl (by decide)))).trans (fK (K + 1) (by omega))) ?_
    have nK : nm 43 K ≠ nm 43 (K + 1) := by unfold nm; omega
    have G2 : ∀ b, b ≠ nm 43 K → b ≠ nm 43 (K + 1) → ce (mk (mk h1 (nm 43 K) 101 0) (nm 43 (K + 1)) 101 0) b = ce h1 b := fun b hb hb2 => (ce_mk hb2).trans (ce_mk hb)
    have k2 : h_k (mk (mk h1 (nm 43 K) 101 0) (nm 43 (K + 1)) 101 0) (nm 43 K) = 101 := by rw [gk_mk, if_neg nK, gk_mk, if_pos rfl]
    have n2 : h_n (mk (mk h1 (nm 43 K) 101 0) (nm 43 (K + 1)) 101 0) (nm 43 K) = 0 := by rw [gn_mk, if_neg nK, gn_mk, if_pos rfl]
    have k3 : h_k (mk (mk h1 (nm 43 K) 101 0) (nm 43 (K + 1)) 101 0) (nm 43 (K + 1)) = 101 := by rw [gk_mk, if_pos rfl]
    have n3 : h_n (mk (mk h1 (nm 43 K) 101 0) (nm 43 (K + 1)) 101 0) (nm 43 (K + 1)) = 0 := by rw [gn_mk, if_pos rfl]
    generalize (mk (mk h1 (nm 43 K) 101 0) (nm 43 (K + 1)) 101 0) = h2 at G2 k2 n2 k3 n3 ⊢
    have g2 : ∀ r i, r ≠ 43 → r < 128 → ce h2 (nm r i) = ce h1 (nm r i) := fun r i r1 r2 => G2 _ (by unfold nm; omega) (by unfold nm; omega)
    have C2 : CVh h2 (sNv S) M := hC.1.frm ((g2 _ _ (by decide) (by decide)).trans (g1 _ _ (by decide) (by decide) (by decide))) ((g2 _ _ (by decide) (by decide)).trans (g1 _ _ (by decide) (by decide) (by decide)))
    have E := map_f (S := S)
    have K2 := K1.frm (g2 _ _ (by decide) (by decide)) (g2 _ _ (by decide) (by decide)) (g2 _ _ (by decide) (by decide)) (g2 _ _ (by decide) (by decide))
    refine wp_cV (y' := m_X11_keepMap) 12 [vr (some (nm 45 (sMd S + 1))), vi (nI 0), vr (some (nm 43 K)), vr (some (nm 43 (K + 1)))] [] 1 5 dX11_map_20 ml_X11_185 im_X11_keepMap se_X11_keepMap (by decide) (C2.1.1) ok_X11_keepMap rfl (Nat.le_of_ble_eq_true rfl) rfl (Nat.le_of_ble_eq_true rfl) (d' := d - 1) (by omega) (by omega) (by omega) (c_X11_keepMap C2 (by omega) (by omega) ((ce_k ((g2 _ _ (by decide) (by decide)).trans (g1 _ _ (by decide) (by decide) (Or.inl (by decide))))).trans (hC.2.2.2.1 _ (Nat.le_refl _))) (by omega) (by omega) (by omega) (fun h4 C4 K4 G4 V4 => cont_ret ?_))
    have F9 : Fr h h2 (VX K (sMd S) (sMd (s_map S))) := fun b hb => (G2 b (fun z => hb (Or.inr (Or.inl z))) (fun z => hb (Or.inr (Or.inr z)))).trans (F1 b (fun z => hb (Or.inl (by have e : sMd (s_map S) = sMd S + 1 := rfl; rw [e]; unfold W1 CNo at z; unfold VN; omega))))
    have E9 := hC.mapEnd (S' := s_map S) (a := K) (b := K + 1) (L := fun _ => 0) (f := fun _ => nI 0) (g := fun _ => nI 0) rfl E.1 E.2.1 E.2.2.2.1 (show sMd S ≤ sMd S + 1 by omega) fK (fun b hb => F9 b (fun z => hb (Or.inl z))) ⟨k2, n2, fun j hj => absurd hj (Nat.not_lt_zero _)⟩ ⟨k3, n3, fun j hj => absurd hj (Nat.not_lt_zero _)⟩ ⟨fun i hi => absurd hi (Nat.not_lt_zero _), fun i j hi => absurd hi (Nat.not_lt_zero _), fun k _ hk => by rw [E.2.2.1 k] at hk; cases hk⟩ (MTf.one E.2.2.1 E.2.2.2.2.1 K2 (L1 (by decide)) m1) (show MKR h2 (sMd S + 1) from M1.frm (g2 _ _ (by decide) (by decide))) C4 (by rw [E.2.2.2.2.1]; exact K4) G4 V4
    refine wp_ireturn dX11_map_23 rfl ?_
    rw [show o_map S = (nI 0, nI (sNv S), s_map S) from by unfold o_map; rw [if_neg (by omega)]] at hq
    exact (hq h4 M (Nat.le_refl _) (by omega) E9.1 E9.2).2 rfl
set_option maxRecDepth 100000 in
set_option maxHeartbeats 4000000 in
theorem c_X11_put {G : GG} {d bc bs : Nat} {h : Hp} {Q : Pst} {S : SV} {M : Nat} (hS : SVI S) (hC : CV h S M) (hr : sMd S < 700000) {u : Int32} {k : Nat} (hu : ixB u (sNv S) = true → u = nI k ∧ k < sNv S) {w : Int32} {j : Nat} (hw : ∀ n, n < 2 ^ 31 → ixB w n = true → w = nI j ∧ j < n) {e : Int32} (hd : 12 ≤ d) (hbc : 30 ≤ bc) (hbs : 900 ≤ bs) (hq : KOV Q h ["java/lang/IndexOutOfBoundsException", "java/lang/IllegalArgumentException", "java/lang/UnsupportedOperationException", "java/lang/IllegalStateException"] M (o_put S u k w j e)) : WP G m_X11_put d 0 (aargs 0 [vr (some (nm 40 0)), vi u, vi w, vi e]) [] h bc bs Q := by
  have q8 : clN 10 = 5 := rfl
  have hn60 := hS.1
  obtain ⟨K, fK⟩ := hC.2.2.2.2.2.2
  refine wp_sub [(0, vr (some (nm 40 0))), (1, vi u), (2, vi w), (3, vi e)] (fun _ hz => hz) ?_
  refine wp_aload_n (i := 0) dX11_put_0 rfl rfl ?_
  refine wp_iload_n (i := 1) dX11_put_1 rfl rfl ?_
  refine wp_cV (y' := m_X11_valueNumbered) 12 [vi u] [] 1 6 dX11_put_2 ml_X11_87 im_X11_valueNumbered se_X11_valueNumbered (by decide) hC.1.1.1 ok_X11_valueNumbered rfl (Nat.le_of_ble_eq_true rfl) rfl (Nat.le_of_ble_eq_true rfl) (d' := d - 1) (by omega) (by omega) (by omega) (c_X11_valueNumbered hC.1 (by omega) (v := u) (t := k) hu (by omega) (by omega) (by omega) (fun g_s => cont_thr rfl ?_) (fun b_s eu hk => cont_ret ?_))
  · rw [show o_put S u k w j e = (nI 1, nI 0, S) from by unfold o_put; rw [if_pos (by rw [g_s]; rfl)]] at hq
    exact (hq h M (Nat.le_refl _) (by omega) hC FRV.rf).1 0 _ rfl rfl
  · subst eu
    obtain ⟨⟨x, hO, hsz, hx⟩, hT⟩ := hC.2.2.1 k hk
    have hP := hS.2.1 k hk
    have hkd := VAP.kd hx
    have hk4 : KU_kd x < 4 := by rw [hkd]; exact (kdN_v hP.1).2.2.2.2.1
    have hz64 : sSz S k ≤ 64 := hP.2.1
    have hzs : KU_sz x = sSz S k := hsz
    refine wp_astore (i := 4) (lv' := [(4, vr (some (nm 42 k))), (0, vr (some (nm 40 0))), (1, vi (nI k)), (2, vi w), (3, vi e)]) dX11_put_5 (by decide) rfl ?_
    refine wp_iload_n (i := 2) dX11_put_7 rfl rfl ?_
    refine wp_if_lt 18 dX11_put_8 (by decide) (fun c_8 => ?_) (fun c_8 => ?_)
    · skip
      refine wp_throwL dX11_put_18 dX11_put_21 dX11_put_22 dX11_put_24 dX11_put_27 th_189 sr_X11_191 rfl (by omega) (by omega) (by omega) ?_
      rw [show o_put S (nI k) k w j e = (nI 2, nI 0, S) from by unfold o_put; rw [if_neg (by rw [b_s]; decide), if_pos (by rw [show ixB w 1000 = false from by first | exact ixB_a c_8 | exact (w999 c_8).2 c_15]; rfl)]] at hq
      exact (hq h M (Nat.le_refl _) (by omega) hC FRV.rf).1 1 _ rfl rfl
    · skip
      refine wp_iload_n (i := 2) dX11_put_11 rfl rfl ?_
      refine wp_sipush (nI 999) dX11_put_12 (by decide) ?_
      refine wp_icmp_le 28 dX11_put_15 (by decide) (fun c_15 => ?_) (fun c_15 => ?_)
      · have b_w := (w999 c_8).1 c_15
        obtain ⟨ew, b_j⟩ := hw 1000 (by decide) b_w
        subst ew
        refine wp_iload_n (i := 3) dX11_put_28 rfl rfl ?_
        refine wp_cS (y' := m_X11_refuseElement) [vi e] [] 1 6 dX11_put_29 ml_X11_91 st_X11_refuseElement ok_X11_refuseElement rfl (Nat.le_of_ble_eq_true rfl) rfl (Nat.le_of_ble_eq_true rfl) (d' := d - 1) (by omega) (by omega) (by omega) (c_X11_refuseElement (by omega) (by omega) (by omega) (fun g_e => cont_thr rfl ?_) (fun b_e => cont_void ?_))
        · rw [show o_put S (nI k) k (nI j) j e = (nI 2, nI 0, S) from by unfold o_put; rw [if_neg (by rw [b_s]; decide), if_pos (by rw [g_e, Bool.and_false])]] at hq
          exact (hq h M (Nat.le_refl _) (by omega) hC FRV.rf).1 1 _ rfl rfl
        · skip
          refine wp_aload (i := 4) dX11_put_32 rfl ?_
          refine wp_iconst (nI 2) dX11_put_34 (by decide) ?_
          refine wp_cS (y' := m_X11_refuseUnless) [vr (some (nm 42 k)), vi (nI 2)] [] 1 6 dX11_put_35 ml_X11_95 st_X11_refuseUnless ok_X11_refuseUnless rfl (Nat.le_of_ble_eq_true rfl) rfl (Nat.le_of_ble_eq_true rfl) (d' := d - 1) (by omega) (by omega) (by omega) (c_X11_refuseUnless hO (k := 2) hk4 (by decide) (by omega) (by omega) (by omega) (fun g_k => cont_thr rfl ?_) (fun b_k => cont_void ?_))
          · have g_t : sTy S k ≠ 109 := fun z => g_k (hkd.trans ((kdN_v hP.1).2.2.1.mpr z))
            rw [show o_put S (nI k) k (nI j) j e = (nI 3, nI 0, S) from by unfold o_put; rw [if_neg (by rw [b_s]; decide), if_neg (show ¬ (ixB (nI j) 1000 && elB e) = false by rw [ixB_of b_j (by decide), b_e]; decide), if_pos (Or.inl g_t)]] at hq
            exact (hq h M (Nat.le_refl _) (by omega) hC FRV.rf).1 2 _ rfl rfl
          · have ht : sTy S k = 109 := (kdN_v hP.1).2.2.1.mp (hkd.symm.trans b_k)
            obtain ⟨-, -, v1, a, b, L, f, g, v2, v3, v4, v5, v6⟩ := VAP.m hx ht
            refine wp_aload (i := 4) dX11_put_38 rfl ?_
            refine wp_get 10 1 (vr (some (nm 45 (mnv S k 0)))) dX11_put_40 hO.k0 (by decide) (by decide) fl_X11_116 (congrArg (fun z => toV (vr z)) (hO.o_tp.trans v1)) ?_
            refine wp_iload_n (i := 2) dX11_put_43 rfl rfl ?_
            refine wp_cS (y' := m_X2_holderOf) [vr (some (nm 45 (mnv S k 0))), vi (nI j)] [] 0 0 dX11_put_44 ml_X11_194 st_X2_holderOf ok_X2_holderOf rfl (Nat.le_of_ble_eq_true rfl) rfl (Nat.le_of_ble_eq_true rfl) (d' := d - 1) (by omega) (Nat.zero_le _) (Nat.zero_le _) (c_holdA (hT.2 ht) hw (by omega) (fun g_h => cont_ret ?_) (fun b_h1 eh b_h2 b_h3 => cont_ret ?_))
            · have h_n : hsv S k j = false := by rw [ixB_of b_j (by decide), Bool.true_and] at g_h; exact g_h
              have h_n2 : sHs S (1000 * k + j) = false := (hsv_at b_j).symm.trans h_n
              have hz40 : sSz S k ≤ 40 := (hP.2.2.2.1 ht).2.1
              refine wp_astore (i := 5) (lv' := [(5, vr none), (4, vr (some (nm 42 k))), (0, vr (some (nm 40 0))), (1, vi (nI k)), (2, vi (nI j)), (3, vi e)]) dX11_put_47 (by decide) rfl ?_
              refine wp_aload (i := 5) dX11_put_49 rfl ?_
              refine wp_ifnonnull 74 dX11_put_51 (by decide) (fun a_51 c_51 => absurd c_51 (fun z => nomatch z)) (fun c_51 => ?_)
              refine wp_aload (i := 4) dX11_put_54 rfl ?_
              refine wp_get 10 2 (vi (nI (sSz S k))) dX11_put_56 hO.k0 (by decide) (by decide) fl_X11_103 (congrArg (fun z => toV (vi z)) (hO.f_sz.trans (congrArg nI hsz))) ?_
              refine wp_bipush (nI 40) dX11_put_59 (by decide) ?_
              refine wp_icmp_ltN 74 dX11_put_61 (by decide) (by omega) (by decide) (fun c_61 => ?_) (fun c_61 => ?_)
              · skip
                refine wp_aload_n (i := 0) dX11_put_74 rfl rfl ?_
                refine wp_cV (y' := m_X11_refuseMoreValues) 12 [] [] 1 6 dX11_put_75 ml_X11_76 im_X11_refuseMoreValues se_X11_refuseMoreValues (by decide) hC.1.1.1 ok_X11_refuseMoreValues rfl (Nat.le_of_ble_eq_true rfl) rfl (Nat.le_of_ble_eq_true rfl) (d' := d - 1) (by omega) (by omega) (by omega) (c_X11_refuseMoreValues hC.1 (by omega) (by omega) (by omega) (by omega) (fun g_m => cont_thr rfl ?_) (fun b_m => cont_void ?_))
                · rw [show o_put S (nI k) k (nI j) j e = (nI 4, nI 0, S) from by unfold o_put; rw [if_neg (by rw [b_s]; decide), if_neg (show ¬ (ixB (nI j) 1000 && elB e) = false by rw [ixB_of b_j (by decide), b_e]; decide), if_neg (fun z => z.elim (fun y => y ht) (fun y => by omega)), if_pos (by omega)]] at hq
                  exact (hq h M (Nat.le_refl _) (by omega) hC FRV.rf).1 3 _ rfl rfl
                · skip
                  refine wp_aload (i := 5) dX11_put_78 rfl ?_
                  refine wp_ifnull 123 dX11_put_80 (by decide) (fun c_80 => ?_) (fun a_80 c_80 => absurd c_80 (fun z => nomatch z))
                  refine wp_aload (i := 5) dX11_put_123 rfl ?_
                  refine wp_ifnonnull 136 dX11_put_125 (by decide) (fun a_125 c_125 => absurd c_125 (fun z => nomatch z)) (fun c_125 => ?_)
                  refine wp_aload (i := 4) dX11_put_128 rfl ?_
                  refine wp_get 10 2 (vi (nI (sSz S k))) dX11_put_130 hO.k0 (by decide) (by decide) fl_X11_103 (congrArg (fun z => toV (vi z)) (hO.f_sz.trans (congrArg nI hsz))) ?_
                  refine wp_goto 142 dX11_put_133 (by decide) ?_
                  refine wp_istore (i := 6) (lv' := [(6, vi (nI (sSz S k))), (5, vr none), (4, vr (some (nm 42 k))), (0, vr (some (nm 40 0))), (1, vi (nI k)), (2, vi (nI j)), (3, vi e)]) dX11_put_142 (by decide) rfl ?_
                  refine wp_aload (i := 5) dX11_put_144 rfl ?_
                  refine wp_ifnonnull 159 dX11_put_146 (by decide) (fun a_146 c_146 => absurd c_146 (fun z => nomatch z)) (fun c_146 => ?_)
                  refine wp_aload (i := 4) dX11_put_149 rfl ?_
                  refine wp_get 10 2 (vi (nI (sSz S k))) dX11_put_151 hO.k0 (by decide) (by decide) fl_X11_103 (congrArg (fun z => toV (vi z)) (hO.f_sz.trans (congrArg nI hsz))) ?_
                  refine wp_iconst (nI 1) dX11_put_154 (by decide) ?_
                  refine wp_iaddN dX11_put_155 ?_
                  refine wp_goto 164 dX11_put_156 (by decide) ?_
                  refine wp_istore (i := 7) (lv' := [(7, vi (nI ((sSz S k) + 1))), (6, vi (nI (sSz S k))), (5, vr none), (4, vr (some (nm 42 k))), (0, vr (some (nm 40 0))), (1, vi (nI k)), (2, vi (nI j)), (3, vi e)]) dX11_put_164 (by decide) rfl ?_
                  have N := MNF.mk (key := j) (pt_f (e := e) hk b_j)
                  have ezz : (sSz S k + if sHs S (1000 * k + j) = true then 0 else 1) = (sSz S k + 1) := by rw [if_neg (by rw [h_n2]; decide)]
                  rw [ezz] at N
                  generalize hS9 : cnS (ptS S k j e) (sNv S) j 5 = S9 at N
                  have c40 : ct (va_up (hsv S k) j true) 0 0 ≤ 40 := by
                    have q := (hP.2.2.2.1 ht).1
                    have q2 := (hP.2.2.2.1 ht).2.1
                    have q3 : p_sz (vp S k) = sSz S k := rfl
                    rw [ct_pk b_j, btN_0, if_pos rfl]
                    have q4 : ct (hsv S k) 0 0 = sSz S k := q.symm
                    rw [if_neg (by rw [h_n]; decide)]; omega
                  refine wp_new 10 dX11_put_166 (by decide) kl_X11_9 ins_X8 ini_X8 (by omega) (by show 5 ≤ _; omega) (nm 42 (sNv S)) (hC.2.2.2.1 _ (Nat.le_refl _)) ?_
                  refine wp_dup dX11_put_169 ?_
                  have gm : ∀ b, b ≠ nm 42 (sNv S) → ce (mk h (nm 42 (sNv S)) 11 0) b = ce h b := fun b hb => ce_mk hb
                  have km : h_k (mk h (nm 42 (sNv S)) 11 0) (nm 42 (sNv S)) = 11 := by rw [gk_mk, if_pos rfl]
                  generalize (mk h (nm 42 (sNv S)) 11 0) = hm at gm km ⊢
                  refine wp_iconst (nI 2) dX11_put_170 (by decide) ?_
                  refine wp_aload_n (i := 0) dX11_put_171 rfl rfl ?_
                  refine wp_get 12 2 (vr (some (nm 40 2))) dX11_put_172 ((ce_k (gm (nm 40 0) (by unfold nm; omega))).trans hC.1.1.1) (by decide) (by decide) fl_X11_22 (congrArg (fun z => toV (vr z)) ((congrFun (ce_R (gm (nm 40 0) (by unfold nm; omega))) 2).trans hC.1.1.2.2.2.1)) ?_
                  refine wp_aload (i := 4) dX11_put_175 rfl ?_
                  refine wp_get 10 1 (vr (some (nm 45 (mnv S k 0)))) dX11_put_177 ((ce_k (gm (nm 42 k) (by unfold nm; omega))).trans hO.k0) (by decide) (by decide) fl_X11_116 (congrArg (fun z => toV (vr z)) ((congrFun (ce_R (gm (nm 42 k) (by unfold nm; omega))) 1).trans (hO.o_tp.trans v1))) ?_
                  refine wp_iload_n (i := 2) dX11_put_180 rfl rfl ?_
                  refine wp_iload_n (i := 3) dX11_put_181 rfl rfl ?_
                  refine wp_cS (y' := m_X2_withPair) [vr (some (nm 40 2)), vr (some (nm 45 (mnv S k 0))), vi (nI j), vi e] [vi (nI 2), vr (some (nm 42 (sNv S))), vr (some (nm 42 (sNv S)))] 20 460 dX11_put_182 ml_X11_216 st_X2_withPair ok_X2_withPair rfl (Nat.le_of_ble_eq_true rfl) rfl (Nat.le_of_ble_eq_true rfl) (d' := d - 1) (by omega) (by omega) (by omega) (c_pairN hC hk ht hr b_j N c40 (fun r i hri => gm _ (by unfold nm; omega)) (by omega) (by omega) (by omega) (fun h3 T3 M3 F3 => cont_ret ?_))
                  have g3 : ∀ b, ¬ VN (sMd S) (sMd S9) b → b ≠ nm 42 (sNv S) → ce h3 b = ce h b := fun b h1 h2 => (F3 b h1).trans (gm b h2)
                  refine wp_iload (i := 7) dX11_put_185 rfl ?_
                  refine wp_aload (i := 4) dX11_put_187 rfl ?_
                  refine wp_get 10 3 (vr (some (nm 43 a))) dX11_put_189 ((ce_k (g3 (nm 42 k) (by unfold VN nm; omega) (by unfold nm; omega))).trans hO.k0) (by decide) (by decide) fl_X11_210 (congrArg (fun z => toV (vr z)) ((congrFun (ce_R (g3 (nm 42 k) (by unfold VN nm; omega) (by unfold nm; omega))) 3).trans (hO.o_pk.trans v2))) ?_
                  refine wp_iload (i := 7) dX11_put_192 rfl ?_
                  refine wp_cS (y' := m_J7_copyOf_59c91) [vr (some (nm 43 a)), vi (nI ((sSz S k) + 1))] [vi (nI ((sSz S k) + 1)), vr (some (nm 45 (mnv S9 (sNv S) 0))), vi (nI 2), vr (some (nm 42 (sNv S))), vr (some (nm 42 (sNv S)))] 1 70 dX11_put_194 ml_X11_110 st_J7_copyOf_59c91 ok_J7_copyOf_59c91 rfl (Nat.le_of_ble_eq_true rfl) rfl (Nat.le_of_ble_eq_true rfl) (d' := d - 1) (by omega) (by omega) (by omega) (c_J7_copyI (q := nm 43 K) ((ce_k (g3 _ (by unfold VN nm; omega) (by unfold nm; omega))).trans v4.1) (by rw [ce_n (g3 _ (by unfold VN nm; omega) (by unfold nm; omega)), v4.2.1]; omega) (by omega) ((ce_k (g3 _ (by unfold VN nm; omega) (by unfold nm; omega))).trans (fK K (Nat.le_refl _))) (by omega) (by omega) (by omega) (fun h4 k4 n4 e4 _ F4 => cont_ret ?_))
                  have g4 : ∀ b, ¬ VX K (sMd S) (sMd S9) b → b ≠ nm 42 (sNv S) → ce h4 b = ce h b := fun b h1 h2 => (F4 b (fun z => h1 (Or.inr (Or.inl z)))).trans (g3 b (fun z => h1 (Or.inl z)) h2)
                  rw [ce_n (g3 _ (by unfold VN nm; omega) (by unfold nm; omega)), ce_I (g3 _ (by unfold VN nm; omega) (by unfold nm; omega)), v4.2.1] at e4
                  have bK : ∀ i, K ≤ i → nm 43 b ≠ nm 43 i := fun i hi z => by
                    have q := v5.1
                    rw [z, fK i hi] at q; cases q
                  have gb : ce h4 (nm 43 b) = ce h (nm 43 b) := g4 _ (fun z => by have q1 := bK K (Nat.le_refl _); have q2 := bK (K + 1) (by omega); unfold VX VN at z; rcases z with (z | z) | z | z <;> first | exact q1 z | exact q2 z | (unfold nm at z; omega)) (by unfold nm; omega)
                  refine wp_aload (i := 4) dX11_put_197 rfl ?_
                  refine wp_get 10 4 (vr (some (nm 43 b))) dX11_put_199 ((ce_k (g4 (nm 42 k) (by unfold VX VN nm; omega) (by unfold nm; omega))).trans hO.k0) (by decide) (by decide) fl_X11_106 (congrArg (fun z => toV (vr z)) ((congrFun (ce_R (g4 (nm 42 k) (by unfold VX VN nm; omega) (by unfold nm; omega))) 4).trans (hO.o_pe.trans v3))) ?_
                  refine wp_iload (i := 7) dX11_put_202 rfl ?_
                  refine wp_cS (y' := m_J7_copyOf_59c91) [vr (some (nm 43 b)), vi (nI ((sSz S k) + 1))] [vr (some (nm 43 K)), vi (nI ((sSz S k) + 1)), vr (some (nm 45 (mnv S9 (sNv S) 0))), vi (nI 2), vr (some (nm 42 (sNv S))), vr (some (nm 42 (sNv S)))] 1 70 dX11_put_204 ml_X11_110 st_J7_copyOf_59c91 ok_J7_copyOf_59c91 rfl (Nat.le_of_ble_eq_true rfl) rfl (Nat.le_of_ble_eq_true rfl) (d' := d - 1) (by omega) (by omega) (by omega) (c_J7_copyI (q := nm 43 (K + 1)) ((ce_k gb).trans v5.1) (by rw [ce_n gb, v5.2.1]; omega) (by omega) ((ce_k ((F4 _ (by unfold nm; omega)).trans (g3 _ (by unfold VN nm; omega) (by unfold nm; omega)))).trans (fK (K + 1) (by omega))) (by omega) (by omega) (by omega) (fun h5 k5 n5 e5 _ F5 => cont_ret ?_))
                  rw [ce_n gb, ce_I gb, v5.2.1] at e5
                  have g5 : ∀ b, ¬ VX K (sMd S) (sMd S9) b → b ≠ nm 42 (sNv S) → ce h5 b = ce h b := fun b h1 h2 => (F5 b (fun z => h1 (Or.inr (Or.inr z)))).trans (g4 b h1 h2)
                  have km5 : h_k h5 (nm 42 (sNv S)) = 11 := (ce_k (((F5 _ (by unfold nm; omega)).trans (F4 _ (by unfold nm; omega))).trans (F3 _ (by unfold VN nm; omega)))).trans km
                  refine wp_cI (y' := m_X8_init) [vi (nI 2), vr (some (nm 45 (mnv S9 (sNv S) 0))), vi (nI ((sSz S k) + 1)), vr (some (nm 43 K)), vr (some (nm 43 (K + 1)))] [vr (some (nm 42 (sNv S)))] 0 0 dX11_put_207 ml_X11_161 im_X8_init rfl rfl ok_X8_init rfl (Nat.le_of_ble_eq_true rfl) rfl (Nat.le_of_ble_eq_true rfl) (d' := d - 1) (by omega) (Nat.zero_le _) (Nat.zero_le _) (c_X8_init (v := sNv S) (kd := 2) km5 (by omega) (fun h6 K6 F6 => cont_void ?_))
                  refine wp_astore (i := 8) (lv' := [(8, vr (some (nm 42 (sNv S)))), (7, vi (nI ((sSz S k) + 1))), (6, vi (nI (sSz S k))), (5, vr none), (4, vr (some (nm 42 k))), (0, vr (some (nm 40 0))), (1, vi (nI k)), (2, vi (nI j)), (3, vi e)]) dX11_put_210 (by decide) rfl ?_
                  refine wp_aload (i := 8) dX11_put_212 rfl ?_
                  refine wp_iload (i := 6) dX11_put_214 rfl ?_
                  refine wp_iload_n (i := 2) dX11_put_216 rfl rfl ?_
                  refine wp_iload_n (i := 3) dX11_put_217 rfl rfl ?_
                  refine wp_cV (y' := m_X8_putPlainPair) 10 [vi (nI (sSz S k)), vi (nI j), vi e] [] 0 0 dX11_put_218 ml_X11_220 im_X8_putPlainPair se_X8_putPlainPair (by decide) K6.k0 ok_X8_putPlainPair rfl (Nat.le_of_ble_eq_true rfl) rfl (Nat.le_of_ble_eq_true rfl) (d' := d - 1) (by omega) (Nat.zero_le _) (Nat.zero_le _) (c_X8_putPlainPair (n := (sSz S k + 1)) K6 (q := nm 43 (K + 1)) (q2 := nm 43 K) rfl ((ce_k (F6 _ (by unfold nm; omega))).trans k5) ((ce_n (F6 _ (by unfold nm; omega))).trans n5) rfl ((ce_k ((F6 _ (by unfold nm; omega)).trans (F5 _ (by unfold nm; omega)))).trans k4) ((ce_n ((F6 _ (by unfold nm; omega)).trans (F5 _ (by unfold nm; omega)))).trans n4) (by unfold nm; omega) (by omega) (by omega) (by omega) (cont_void ?_))
                  have nK : nm 43 K ≠ nm 43 (K + 1) := by unfold nm; omega
                  have PRa : PRr (wI (wI h6 (nm 43 (K + 1)) (sSz S k) e) (nm 43 K) (sSz S k) (nI j)) (nm 43 K) (sSz S k + 1) (va_up f (sSz S k) (nI j)) := ⟨by rw [gk_wI, gk_wI, ce_k (F6 _ (by unfold nm; omega)), ce_k (F5 _ nK)]; exact k4, by rw [gn_wI, gn_wI, ce_n (F6 _ (by unfold nm; omega)), ce_n (F5 _ nK)]; exact n4, fun i hi => by
                    rw [gI_wI, va_up_app]
                    by_cases q : i = sSz S k
                    · rw [if_pos ⟨rfl, q⟩, if_pos q]
                    · rw [if_neg (fun y => q y.2), if_neg q, gI_wI, if_neg (fun y => nK y.1), ce_I (F6 _ (by unfold nm; omega)), ce_I (F5 _ nK), e4 i (by show i < min (sSz S k) _; omega)]; exact v4.2.2 i (by show i < sSz S k; omega)⟩
                  have PRb : PRr (wI (wI h6 (nm 43 (K + 1)) (sSz S k) e) (nm 43 K) (sSz S k) (nI j)) (nm 43 (K + 1)) (sSz S k + 1) (va_up g (sSz S k) e) := ⟨by rw [gk_wI, gk_wI, ce_k (F6 _ (by unfold nm; omega))]; exact k5, by rw [gn_wI, gn_wI, ce_n (F6 _ (by unfold nm; omega))]; exact n5, fun i hi => by
                    rw [gI_wI, if_neg (fun y => nK y.1.symm), gI_wI, va_up_app]
                    by_cases q : i = sSz S k
                    · rw [if_pos ⟨rfl, q⟩, if_pos q]
                    · rw [if_neg (fun y => q y.2), if_neg q, ce_I (F6 _ (by unfold nm; omega)), e5 i (by show i < min (sSz S k) _; omega)]; exact v5.2.2 i (by show i < sSz S k; omega)⟩
                  have G7 : ∀ b, b ≠ nm 43 K → b ≠ nm 43 (K + 1) → ce (wI (wI h6 (nm 43 (K + 1)) (sSz S k) e) (nm 43 K) (sSz S k) (nI j)) b = ce h6 b := fun b h1 h2 => (ce_wI h1).trans (ce_wI h2)
                  generalize (wI (wI h6 (nm 43 (K + 1)) (sSz S k) e) (nm 43 K) (sSz S k) (nI j)) = h7 at PRa PRb G7 ⊢
                  have F9 : Fr h h7 (fun b => VX K (sMd S) (sMd S9) b ∨ b = nm 42 (sNv S)) := fun b hb => ((G7 b (fun z => hb (Or.inl (Or.inr (Or.inl z)))) (fun z => hb (Or.inl (Or.inr (Or.inr z))))).trans (F6 b (fun z => hb (Or.inr z)))).trans (g5 b (fun z => hb (Or.inl z)) (fun z => hb (Or.inr z)))
                  have C7 : CVh h7 (sNv S) M := hC.1.frm (F9 _ (by unfold VX VN nm; omega)) (F9 _ (by unfold VX VN nm; omega))
                  have K7 := K6.frm (G7 _ (by unfold nm; omega) (by unfold nm; omega))
                  have g73 : ∀ r i, r ≠ 43 → r ≠ 42 → r < 128 → ce h7 (nm r i) = ce h3 (nm r i) := fun r i r1 r2 r3 => (((G7 _ (by unfold nm; omega) (by unfold nm; omega)).trans (F6 _ (by unfold nm; omega))).trans (F5 _ (by unfold nm; omega))).trans (F4 _ (by unfold nm; omega))
                  refine wp_aload_n (i := 0) dX11_put_221 rfl rfl ?_
                  refine wp_aload (i := 8) dX11_put_222 rfl ?_
                  refine wp_cV (y' := m_X11_keep) 12 [vr (some (nm 42 (sNv S)))] [] 0 0 dX11_put_224 ml_X11_164 im_X11_keep se_X11_keep (by decide) C7.1.1 ok_X11_keep rfl (Nat.le_of_ble_eq_true rfl) rfl (Nat.le_of_ble_eq_true rfl) (d' := d - 1) (by omega) (Nat.zero_le _) (Nat.zero_le _) (c_X11_keep C7 (by omega) K7 (fun h8 C8 G8 V8 => cont_ret ?_))
                  have PL := PLs.new (e := e) v6 b_j h_n
                  have E9 := hC.mapEnd N.1.1 N.1.2.1 N.1.2.2.1 N.1.2.2.2.2.2 N.le fK F9 PRa PRb (by rw [N.1.2.2.2.1, N.1.2.2.2.2.1]; exact PL) (T3.frm (fun l b r _ _ _ r1 r2 => g73 r _ (by omega) (by omega) (by omega))) (M3.frm (g73 _ _ (by decide) (by decide) (by decide))) C8 (K7.frm (G8 _ (by unfold nm; omega) (by unfold nm; omega))) (fun b h0 h1 _ => G8 b h0 h1) V8
                  refine wp_ireturn dX11_put_227 rfl ?_
                  rw [show o_put S (nI k) k (nI j) j e = (nI 0, nI (sNv S), cnS (ptS S k j e) (sNv S) j 5) from by unfold o_put; rw [if_neg (by rw [b_s]; decide), if_neg (show ¬ (ixB (nI j) 1000 && elB e) = false by rw [ixB_of b_j (by decide), b_e]; decide), if_neg (fun z => z.elim (fun y => y ht) (fun y => by omega)), if_neg (by omega), if_neg (fun z => by rw [h_n2] at z; exact absurd z.1 (by decide))]] at hq
                  rw [hS9] at hq
                  exact (hq h8 M (Nat.le_refl _) (by omega) E9.1 E9.2).2 rfl
              · skip
                refine wp_throwL dX11_put_64 dX11_put_67 dX11_put_68 dX11_put_70 dX11_put_73 th_152 sr_X11_200 rfl (by omega) (by omega) (by omega) ?_
                rw [show o_put S (nI k) k (nI j) j e = (nI 3, nI 0, S) from by unfold o_put; rw [if_neg (by rw [b_s]; decide), if_neg (show ¬ (ixB (nI j) 1000 && elB e) = false by rw [ixB_of b_j (by decide), b_e]; decide), if_pos (Or.inr ⟨h_n2, by omega⟩)]] at hq
                exact (hq h M (Nat.le_refl _) (by omega) hC FRV.rf).1 2 _ rfl rfl
            · have b_h4 : hsv S k j = true := b_h3
              have b_h5 : sHs S (1000 * k + j) = true := (hsv_at b_h2).symm.trans b_h4
              obtain ⟨y, s0, hy, hwf, hs40, hsl, hel, hlv⟩ := hold_el (hT.2 ht) b_h2 b_h3
              obtain ⟨s, s1, s2, s3, s4⟩ := PLs.sl v6 hz64 b_h2 b_h4
              refine wp_astore (i := 5) (lv' := [(5, vr (some (nm 45 (mnv S k (sltN j (hlF (hsv S k) j 4 0)))))), (4, vr (some (nm 42 k))), (0, vr (some (nm 40 0))), (1, vi (nI k)), (2, vi (nI j)), (3, vi e)]) dX11_put_47 (by decide) rfl ?_
              refine wp_aload (i := 5) dX11_put_49 rfl ?_
              refine wp_ifnonnull 74 dX11_put_51 (by decide) (fun a_51 c_51 => ?_) (fun c_51 => absurd c_51 (fun z => nomatch z))
              refine wp_aload_n (i := 0) dX11_put_74 rfl rfl ?_
              refine wp_cV (y' := m_X11_refuseMoreValues) 12 [] [] 1 6 dX11_put_75 ml_X11_76 im_X11_refuseMoreValues se_X11_refuseMoreValues (by decide) hC.1.1.1 ok_X11_refuseMoreValues rfl (Nat.le_of_ble_eq_true rfl) rfl (Nat.le_of_ble_eq_true rfl) (d' := d - 1) (by omega) (by omega) (by omega) (c_X11_refuseMoreValues hC.1 (by omega) (by omega) (by omega) (by omega) (fun g_m => cont_thr rfl ?_) (fun b_m => cont_void ?_))
              · rw [show o_put S (nI k) k (nI j) j e = (nI 4, nI 0, S) from by unfold o_put; rw [if_neg (by rw [b_s]; decide), if_neg (show ¬ (ixB (nI j) 1000 && elB e) = false by rw [ixB_of b_j (by decide), b_e]; decide), if_neg (fun z => z.elim (fun y => y ht) (fun y => by rw [b_h5] at y; exact absurd y.1 (by decide))), if_pos (by omega)]] at hq
                exact (hq h M (Nat.le_refl _) (by omega) hC FRV.rf).1 3 _ rfl rfl
              · skip
                refine wp_aload (i := 5) dX11_put_78 rfl ?_
                refine wp_ifnull 123 dX11_put_80 (by decide) (fun c_80 => absurd c_80 (fun z => nomatch z)) (fun a_80 c_80 => ?_)
                refine wp_aload (i := 5) dX11_put_83 rfl ?_
                refine wp_aload (i := 5) dX11_put_85 rfl ?_
                refine wp_iload_n (i := 2) dX11_put_87 rfl rfl ?_
                refine wp_cV (y' := m_X3_slotOf) 5 [vi (nI j)] [vr (some (nm 45 (mnv S k (sltN j (hlF (hsv S k) j 4 0)))))] 0 0 dX11_put_88 ml_X11_202 im_X3_slotOf se_X3_slotOf (by decide) hy.k0 ok_X3_slotOf rfl (Nat.le_of_ble_eq_true rfl) rfl (Nat.le_of_ble_eq_true rfl) (d' := d - 1) (by omega) (Nat.zero_le _) (Nat.zero_le _) (c_X3_slotOf hy hwf (by omega) (by omega) (cont_ret ?_))
                rw [hsl]
                refine wp_cV (y' := m_X3_elementAt) 5 [vi (nI s0)] [] 0 0 dX11_put_91 ml_X11_207 im_X3_elementAt se_X3_elementAt (by decide) hy.k0 ok_X3_elementAt rfl (Nat.le_of_ble_eq_true rfl) rfl (Nat.le_of_ble_eq_true rfl) (d' := d - 1) (by omega) (Nat.zero_le _) (Nat.zero_le _) (c_X3_elementAt hy hwf.2.1 (p := s0) (by omega) (cont_ret ?_))
                rw [hel]
                refine wp_iload_n (i := 3) dX11_put_94 rfl rfl ?_
                refine wp_icmp_ne 123 dX11_put_95 (by decide) (fun c_95 => ?_) (fun c_95 => ?_)
                · skip
                  refine wp_aload (i := 5) dX11_put_123 rfl ?_
                  refine wp_ifnonnull 136 dX11_put_125 (by decide) (fun a_125 c_125 => ?_) (fun c_125 => absurd c_125 (fun z => nomatch z))
                  refine wp_aload (i := 4) dX11_put_136 rfl ?_
                  refine wp_iload_n (i := 2) dX11_put_138 rfl rfl ?_
                  refine wp_cV (y' := m_X8_plainSlotOf) 10 [vi (nI j)] [] 0 0 dX11_put_139 ml_X11_213 im_X8_plainSlotOf se_X8_plainSlotOf (by decide) hO.k0 ok_X8_plainSlotOf rfl (Nat.le_of_ble_eq_true rfl) rfl (Nat.le_of_ble_eq_true rfl) (d' := d - 1) (by omega) (Nat.zero_le _) (Nat.zero_le _) (c_X8_slotM hO v2 v4 hz64 (cont_ret ?_))
                  rw [s2]
                  refine wp_istore (i := 6) (lv' := [(6, vi (nI s)), (5, vr (some (nm 45 (mnv S k (sltN j (hlF (hsv S k) j 4 0)))))), (4, vr (some (nm 42 k))), (0, vr (some (nm 40 0))), (1, vi (nI k)), (2, vi (nI j)), (3, vi e)]) dX11_put_142 (by decide) rfl ?_
                  refine wp_aload (i := 5) dX11_put_144 rfl ?_
                  refine wp_ifnonnull 159 dX11_put_146 (by decide) (fun a_146 c_146 => ?_) (fun c_146 => absurd c_146 (fun z => nomatch z))
                  refine wp_aload (i := 4) dX11_put_159 rfl ?_
                  refine wp_get 10 2 (vi (nI (sSz S k))) dX11_put_161 hO.k0 (by decide) (by decide) fl_X11_103 (congrArg (fun z => toV (vi z)) (hO.f_sz.trans (congrArg nI hsz))) ?_
                  refine wp_istore (i := 7) (lv' := [(7, vi (nI (sSz S k))), (6, vi (nI s)), (5, vr (some (nm 45 (mnv S k (sltN j (hlF (hsv S k) j 4 0)))))), (4, vr (some (nm 42 k))), (0, vr (some (nm 40 0))), (1, vi (nI k)), (2, vi (nI j)), (3, vi e)]) dX11_put_164 (by decide) rfl ?_
                  have N := MNF.mk (key := j) (pt_f (e := e) hk b_j)
                  have ezz : (sSz S k + if sHs S (1000 * k + j) = true then 0 else 1) = (sSz S k) := by rw [if_pos b_h5]; rfl
                  rw [ezz] at N
                  generalize hS9 : cnS (ptS S k j e) (sNv S) j 5 = S9 at N
                  have c40 : ct (va_up (hsv S k) j true) 0 0 ≤ 40 := by
                    have q := (hP.2.2.2.1 ht).1
                    have q2 := (hP.2.2.2.1 ht).2.1
                    have q3 : p_sz (vp S k) = sSz S k := rfl
                    rw [ct_pk b_j, btN_0, if_pos rfl]
                    have q4 : ct (hsv S k) 0 0 = sSz S k := q.symm
                    rw [if_pos b_h4]; omega
                  refine wp_new 10 dX11_put_166 (by decide) kl_X11_9 ins_X8 ini_X8 (by omega) (by show 5 ≤ _; omega) (nm 42 (sNv S)) (hC.2.2.2.1 _ (Nat.le_refl _)) ?_
                  refine wp_dup dX11_put_169 ?_
                  have gm : ∀ b, b ≠ nm 42 (sNv S) → ce (mk h (nm 42 (sNv S)) 11 0) b = ce h b := fun b hb => ce_mk hb
                  have km : h_k (mk h (nm 42 (sNv S)) 11 0) (nm 42 (sNv S)) = 11 := by rw [gk_mk, if_pos rfl]
                  generalize (mk h (nm 42 (sNv S)) 11 0) = hm at gm km ⊢
                  refine wp_iconst (nI 2) dX11_put_170 (by decide) ?_
                  refine wp_aload_n (i := 0) dX11_put_171 rfl rfl ?_
                  refine wp_get 12 2 (vr (some (nm 40 2))) dX11_put_172 ((ce_k (gm (nm 40 0) (by unfold nm; omega))).trans hC.1.1.1) (by decide) (by decide) fl_X11_22 (congrArg (fun z => toV (vr z)) ((congrFun (ce_R (gm (nm 40 0) (by unfold nm; omega))) 2).trans hC.1.1.2.2.2.1)) ?_
                  refine wp_aload (i := 4) dX11_put_175 rfl ?_
                  refine wp_get 10 1 (vr (some (nm 45 (mnv S k 0)))) dX11_put_177 ((ce_k (gm (nm 42 k) (by unfold nm; omega))).trans hO.k0) (by decide) (by decide) fl_X11_116 (congrArg (fun z => toV (vr z)) ((congrFun (ce_R (gm (nm 42 k) (by unfold nm; omega))) 1).trans (hO.o_tp.trans v1))) ?_
                  refine wp_iload_n (i := 2) dX11_put_180 rfl rfl ?_
                  refine wp_iload_n (i := 3) dX11_put_181 rfl rfl ?_
                  refine wp_cS (y' := m_X2_withPair) [vr (some (nm 40 2)), vr (some (nm 45 (mnv S k 0))), vi (nI j), vi e] [vi (nI 2), vr (some (nm 42 (sNv S))), vr (some (nm 42 (sNv S)))] 20 460 dX11_put_182 ml_X11_216 st_X2_withPair ok_X2_withPair rfl (Nat.le_of_ble_eq_true rfl) rfl (Nat.le_of_ble_eq_true rfl) (d' := d - 1) (by omega) (by omega) (by omega) (c_pairN hC hk ht hr b_j N c40 (fun r i hri => gm _ (by unfold nm; omega)) (by omega) (by omega) (by omega) (fun h3 T3 M3 F3 => cont_ret ?_))
                  have g3 : ∀ b, ¬ VN (sMd S) (sMd S9) b → b ≠ nm 42 (sNv S) → ce h3 b = ce h b := fun b h1 h2 => (F3 b h1).trans (gm b h2)
                  refine wp_iload (i := 7) dX11_put_185 rfl ?_
                  refine wp_aload (i := 4) dX11_put_187 rfl ?_
                  refine wp_get 10 3 (vr (some (nm 43 a))) dX11_put_189 ((ce_k (g3 (nm 42 k) (by unfold VN nm; omega) (by unfold nm; omega))).trans hO.k0) (by decide) (by decide) fl_X11_210 (congrArg (fun z => toV (vr z)) ((congrFun (ce_R (g3 (nm 42 k) (by unfold VN nm; omega) (by unfold nm; omega))) 3).trans (hO.o_pk.trans v2))) ?_
                  refine wp_iload (i := 7) dX11_put_192 rfl ?_
                  refine wp_cS (y' := m_J7_copyOf_59c91) [vr (some (nm 43 a)), vi (nI (sSz S k))] [vi (nI (sSz S k)), vr (some (nm 45 (mnv S9 (sNv S) 0))), vi (nI 2), vr (some (nm 42 (sNv S))), vr (some (nm 42 (sNv S)))] 1 70 dX11_put_194 ml_X11_110 st_J7_copyOf_59c91 ok_J7_copyOf_59c91 rfl (Nat.le_of_ble_eq_true rfl) rfl (Nat.le_of_ble_eq_true rfl) (d' := d - 1) (by omega) (by omega) (by omega) (c_J7_copyI (q := nm 43 K) ((ce_k (g3 _ (by unfold VN nm; omega) (by unfold nm; omega))).trans v4.1) (by rw [ce_n (g3 _ (by unfold VN nm; omega) (by unfold nm; omega)), v4.2.1]; omega) (by omega) ((ce_k (g3 _ (by unfold VN nm; omega) (by unfold nm; omega))).trans (fK K (Nat.le_refl _))) (by omega) (by omega) (by omega) (fun h4 k4 n4 e4 _ F4 => cont_ret ?_))
                  have g4 : ∀ b, ¬ VX K (sMd S) (sMd S9) b → b ≠ nm 42 (sNv S) → ce h4 b = ce h b := fun b h1 h2 => (F4 b (fun z => h1 (Or.inr (Or.inl z)))).trans (g3 b (fun z => h1 (Or.inl z)) h2)
                  rw [ce_n (g3 _ (by unfold VN nm; omega) (by unfold nm; omega)), ce_I (g3 _ (by unfold VN nm; omega) (by unfold nm; omega)), v4.2.1] at e4
                  have bK : ∀ i, K ≤ i → nm 43 b ≠ nm 43 i := fun i hi z => by
                    have q := v5.1
                    rw [z, fK i hi] at q; cases q
                  have gb : ce h4 (nm 43 b) = ce h (nm 43 b) := g4 _ (fun z => by have q1 := bK K (Nat.le_refl _); have q2 := bK (K + 1) (by omega); unfold VX VN at z; rcases z with (z | z) | z | z <;> first | exact q1 z | exact q2 z | (unfold nm at z; omega)) (by unfold nm; omega)
                  refine wp_aload (i := 4) dX11_put_197 rfl ?_
                  refine wp_get 10 4 (vr (some (nm 43 b))) dX11_put_199 ((ce_k (g4 (nm 42 k) (by unfold VX VN nm; omega) (by unfold nm; omega))).trans hO.k0) (by decide) (by decide) fl_X11_106 (congrArg (fun z => toV (vr z)) ((congrFun (ce_R (g4 (nm 42 k) (by unfold VX VN nm; omega) (by unfold nm; omega))) 4).trans (hO.o_pe.trans v3))) ?_
                  refine wp_iload (i := 7) dX11_put_202 rfl ?_
                  refine wp_cS (y' := m_J7_copyOf_59c91) [vr (some (nm 43 b)), vi (nI (sSz S k))] [vr (some (nm 43 K)), vi (nI (sSz S k)), vr (some (nm 45 (mnv S9 (sNv S) 0))), vi (nI 2), vr (some (nm 42 (sNv S))), vr (some (nm 42 (sNv S)))] 1 70 dX11_put_204 ml_X11_110 st_J7_copyOf_59c91 ok_J7_copyOf_59c91 rfl (Nat.le_of_ble_eq_true rfl) rfl (Nat.le_of_ble_eq_true rfl) (d' := d - 1) (by omega) (by omega) (by omega) (c_J7_copyI (q := nm 43 (K + 1)) ((ce_k gb).trans v5.1) (by rw [ce_n gb, v5.2.1]; omega) (by omega) ((ce_k ((F4 _ (by unfold nm; omega)).trans (g3 _ (by unfold VN nm; omega) (by unfold nm; omega)))).trans (fK (K + 1) (by omega))) (by omega) (by omega) (by omega) (fun h5 k5 n5 e5 _ F5 => cont_ret ?_))
                  rw [ce_n gb, ce_I gb, v5.2.1] at e5
                  have g5 : ∀ b, ¬ VX K (sMd S) (sMd S9) b → b ≠ nm 42 (sNv S) → ce h5 b = ce h b := fun b h1 h2 => (F5 b (fun z => h1 (Or.inr (Or.inr z)))).trans (g4 b h1 h2)
                  have km5 : h_k h5 (nm 42 (sNv S)) = 11 := (ce_k (((F5 _ (by unfold nm; omega)).trans (F4 _ (by unfold nm; omega))).trans (F3 _ (by unfold VN nm; omega)))).trans km
                  refine wp_cI (y' := m_X8_init) [vi (nI 2), vr (some (nm 45 (mnv S9 (sNv S) 0))), vi (nI (sSz S k)), vr (some (nm 43 K)), vr (some (nm 43 (K + 1)))] [vr (some (nm 42 (sNv S)))] 0 0 dX11_put_207 ml_X11_161 im_X8_init rfl rfl ok_X8_init rfl (Nat.le_of_ble_eq_true rfl) rfl (Nat.le_of_ble_eq_true rfl) (d' := d - 1) (by omega) (Nat.zero_le _) (Nat.zero_le _) (c_X8_init (v := sNv S) (kd := 2) km5 (by omega) (fun h6 K6 F6 => cont_void ?_))
                  refine wp_astore (i := 8) (lv' := [(8, vr (some (nm 42 (sNv S)))), (7, vi (nI (sSz S k))), (6, vi (nI s)), (5, vr (some (nm 45 (mnv S k (sltN j (hlF (hsv S k) j 4 0)))))), (4, vr (some (nm 42 k))), (0, vr (some (nm 40 0))), (1, vi (nI k)), (2, vi (nI j)), (3, vi e)]) dX11_put_210 (by decide) rfl ?_
                  refine wp_aload (i := 8) dX11_put_212 rfl ?_
                  refine wp_iload (i := 6) dX11_put_214 rfl ?_
                  refine wp_iload_n (i := 2) dX11_put_216 rfl rfl ?_
                  refine wp_iload_n (i := 3) dX11_put_217 rfl rfl ?_
                  refine wp_cV (y' := m_X8_putPlainPair) 10 [vi (nI s), vi (nI j), vi e] [] 0 0 dX11_put_218 ml_X11_220 im_X8_putPlainPair se_X8_putPlainPair (by decide) K6.k0 ok_X8_putPlainPair rfl (Nat.le_of_ble_eq_true rfl) rfl (Nat.le_of_ble_eq_true rfl) (d' := d - 1) (by omega) (Nat.zero_le _) (Nat.zero_le _) (c_X8_putPlainPair (n := (sSz S k)) K6 (q := nm 43 (K + 1)) (q2 := nm 43 K) rfl ((ce_k (F6 _ (by unfold nm; omega))).trans k5) ((ce_n (F6 _ (by unfold nm; omega))).trans n5) rfl ((ce_k ((F6 _ (by unfold nm; omega)).trans (F5 _ (by unfold nm; omega)))).trans k4) ((ce_n ((F6 _ (by unfold nm; omega)).trans (F5 _ (by unfold nm; omega)))).trans n4) (by unfold nm; omega) (by omega) (by omega) (by omega) (cont_void ?_))
                  have nK : nm 43 K ≠ nm 43 (K + 1) := by unfold nm; omega
                  have PRa : PRr (wI (wI h6 (nm 43 (K + 1)) s e) (nm 43 K) s (nI j)) (nm 43 K) (sSz S k) (va_up f s (nI j)) := ⟨by rw [gk_wI, gk_wI, ce_k (F6 _ (by unfold nm; omega)), ce_k (F5 _ nK)]; exact k4, by rw [gn_wI, gn_wI, ce_n (F6 _ (by unfold nm; omega)), ce_n (F5 _ nK)]; exact n4, fun i hi => by
                    rw [gI_wI, va_up_app]
                    by_cases q : i = s
                    · rw [if_pos ⟨rfl, q⟩, if_pos q]
                    · rw [if_neg (fun y => q y.2), if_neg q, gI_wI, if_neg (fun y => nK y.1), ce_I (F6 _ (by unfold nm; omega)), ce_I (F5 _ nK), e4 i (by show i < min (sSz S k) _; omega)]; exact v4.2.2 i (by show i < sSz S k; omega)⟩
                  have PRb : PRr (wI (wI h6 (nm 43 (K + 1)) s e) (nm 43 K) s (nI j)) (nm 43 (K + 1)) (sSz S k) (va_up g s e) := ⟨by rw [gk_wI, gk_wI, ce_k (F6 _ (by unfold nm; omega))]; exact k5, by rw [gn_wI, gn_wI, ce_n (F6 _ (by unfold nm; omega))]; exact n5, fun i hi => by
                    rw [gI_wI, if_neg (fun y => nK y.1.symm), gI_wI, va_up_app]
                    by_cases q : i = s
                    · rw [if_pos ⟨rfl, q⟩, if_pos q]
                    · rw [if_neg (fun y => q y.2), if_neg q, ce_I (F6 _ (by unfold nm; omega)), e5 i (by show i < min (sSz S k) _; omega)]; exact v5.2.2 i (by show i < sSz S k; omega)⟩
                  have G7 : ∀ b, b ≠ nm 43 K → b ≠ nm 43 (K + 1) → ce (wI (wI h6 (nm 43 (K + 1)) s e) (nm 43 K) s (nI j)) b = ce h6 b := fun b h1 h2 => (ce_wI h1).trans (ce_wI h2)
                  generalize (wI (wI h6 (nm 43 (K + 1)) s e) (nm 43 K) s (nI j)) = h7 at PRa PRb G7 ⊢
                  have F9 : Fr h h7 (fun b => VX K (sMd S) (sMd S9) b ∨ b = nm 42 (sNv S)) := fun b hb => ((G7 b (fun z => hb (Or.inl (Or.inr (Or.inl z)))) (fun z => hb (Or.inl (Or.inr (Or.inr z))))).trans (F6 b (fun z => hb (Or.inr z)))).trans (g5 b (fun z => hb (Or.inl z)) (fun z => hb (Or.inr z)))
                  have C7 : CVh h7 (sNv S) M := hC.1.frm (F9 _ (by unfold VX VN nm; omega)) (F9 _ (by unfold VX VN nm; omega))
                  have K7 := K6.frm (G7 _ (by unfold nm; omega) (by unfold nm; omega))
                  have g73 : ∀ r i, r ≠ 43 → r ≠ 42 → r < 128 → ce h7 (nm r i) = ce h3 (nm r i) := fun r i r1 r2 r3 => (((G7 _ (by unfold nm; omega) (by unfold nm; omega)).trans (F6 _ (by unfold nm; omega))).trans (F5 _ (by unfold nm; omega))).trans (F4 _ (by unfold nm; omega))
                  refine wp_aload_n (i := 0) dX11_put_221 rfl rfl ?_
                  refine wp_aload (i := 8) dX11_put_222 rfl ?_
                  refine wp_cV (y' := m_X11_keep) 12 [vr (some (nm 42 (sNv S)))] [] 0 0 dX11_put_224 ml_X11_164 im_X11_keep se_X11_keep (by decide) C7.1.1 ok_X11_keep rfl (Nat.le_of_ble_eq_true rfl) rfl (Nat.le_of_ble_eq_true rfl) (d' := d - 1) (by omega) (Nat.zero_le _) (Nat.zero_le _) (c_X11_keep C7 (by omega) K7 (fun h8 C8 G8 V8 => cont_ret ?_))
                  have PL := PLs.old (e := e) v6 s1 s3
                  have E9 := hC.mapEnd N.1.1 N.1.2.1 N.1.2.2.1 N.1.2.2.2.2.2 N.le fK F9 PRa PRb (by rw [N.1.2.2.2.1, N.1.2.2.2.2.1]; exact PL) (T3.frm (fun l b r _ _ _ r1 r2 => g73 r _ (by omega) (by omega) (by omega))) (M3.frm (g73 _ _ (by decide) (by decide) (by decide))) C8 (K7.frm (G8 _ (by unfold nm; omega) (by unfold nm; omega))) (fun b h0 h1 _ => G8 b h0 h1) V8
                  refine wp_ireturn dX11_put_227 rfl ?_
                  rw [show o_put S (nI k) k (nI j) j e = (nI 0, nI (sNv S), cnS (ptS S k j e) (sNv S) j 5) from by unfold o_put; rw [if_neg (by rw [b_s]; decide), if_neg (show ¬ (ixB (nI j) 1000 && elB e) = false by rw [ixB_of b_j (by decide), b_e]; decide), if_neg (fun z => z.elim (fun y => y ht) (fun y => by rw [b_h5] at y; exact absurd y.1 (by decide))), if_neg (by omega), if_neg (fun z => c_95 ((ofv_at b_h2).trans z.2))]] at hq
                  rw [hS9] at hq
                  exact (hq h8 M (Nat.le_refl _) (by omega) E9.1 E9.2).2 rfl
                · skip
                  refine wp_aload_n (i := 0) dX11_put_98 rfl rfl ?_
                  refine wp_aload (i := 4) dX11_put_99 rfl ?_
                  refine wp_get 10 1 (vr (some (nm 45 (mnv S k 0)))) dX11_put_101 hO.k0 (by decide) (by decide) fl_X11_116 (congrArg (fun z => toV (vr z)) (hO.o_tp.trans v1)) ?_
                  refine wp_aload (i := 4) dX11_put_104 rfl ?_
                  refine wp_get 10 2 (vi (nI (sSz S k))) dX11_put_106 hO.k0 (by decide) (by decide) fl_X11_103 (congrArg (fun z => toV (vi z)) (hO.f_sz.trans (congrArg nI hsz))) ?_
                  refine wp_aload (i := 4) dX11_put_109 rfl ?_
                  refine wp_get 10 3 (vr (some (nm 43 a))) dX11_put_111 hO.k0 (by decide) (by decide) fl_X11_210 (congrArg (fun z => toV (vr z)) (hO.o_pk.trans v2)) ?_
                  refine wp_aload (i := 4) dX11_put_114 rfl ?_
                  refine wp_get 10 4 (vr (some (nm 43 b))) dX11_put_116 hO.k0 (by decide) (by decide) fl_X11_106 (congrArg (fun z => toV (vr z)) (hO.o_pe.trans v3)) ?_
                  refine wp_cV (y' := m_X11_keepMap) 12 [vr (some (nm 45 (mnv S k 0))), vi (nI (sSz S k)), vr (some (nm 43 a)), vr (some (nm 43 b))] [] 1 5 dX11_put_119 ml_X11_185 im_X11_keepMap se_X11_keepMap (by decide) hC.1.1.1 ok_X11_keepMap rfl (Nat.le_of_ble_eq_true rfl) rfl (Nat.le_of_ble_eq_true rfl) (d' := d - 1) (by omega) (by omega) (by omega) (c_X11_keepMap hC.1 (by omega) (by omega) (hC.2.2.2.1 _ (Nat.le_refl _)) (by omega) (by omega) (by omega) (fun h4 C4 K4 G4 V4 => cont_ret ?_))
                  have e_o : sOf S (1000 * k + j) = e := (ofv_at b_h2).symm.trans c_95
                  have N := pt_f (e := e) hk b_h2
                  generalize hS9 : ptS S k j e = S9 at N
                  have q1 : ∀ i, va_up (hsv S k) j true i = hsv S k i := fun i => by
                    rw [va_up_app]
                    by_cases z : i = j
                    · rw [if_pos z, z, b_h4]
                    · rw [if_neg z]
                  have q2 : ∀ i, va_up (ofv S k) j e i = ofv S k i := fun i => by
                    rw [va_up_app]
                    by_cases z : i = j
                    · rw [if_pos z, z]; exact c_95.symm
                    · rw [if_neg z]
                  have q3 : hsv S9 (sNv S) = hsv S k := N.1.2.2.2.1.trans (funext q1)
                  have q4 : ofv S9 (sNv S) = ofv S k := N.1.2.2.2.2.1.trans (funext q2)
                  have q5 : mnv S9 (sNv S) = mnv S k := funext N.2.1
                  have E9 := hC.mapEnd N.1.1 N.1.2.1 (N.1.2.2.1.trans (by rw [if_pos b_h5]; rfl)) N.1.2.2.2.2.2 (by rw [N.2.2]; exact Nat.le_refl _) fK Fr.rf v4 v5 (by rw [q3, q4]; exact v6) (by rw [q3, q4, q5]; exact hT.2 ht) (by rw [N.2.2]; exact hC.2.1) C4 (by rw [q5]; exact K4) G4 V4
                  refine wp_ireturn dX11_put_122 rfl ?_
                  rw [show o_put S (nI k) k (nI j) j e = (nI 0, nI (sNv S), ptS S k j e) from by unfold o_put; rw [if_neg (by rw [b_s]; decide), if_neg (show ¬ (ixB (nI j) 1000 && elB e) = false by rw [ixB_of b_j (by decide), b_e]; decide), if_neg (fun z => z.elim (fun y => y ht) (fun y => by rw [b_h5] at y; exact absurd y.1 (by decide))), if_neg (by omega), if_pos ⟨b_h5, e_o⟩]] at hq
                  rw [hS9] at hq
                  exact (hq h4 M (Nat.le_refl _) (by omega) E9.1 E9.2).2 rfl
      · skip
        refine wp_throwL dX11_put_18 dX11_put_21 dX11_put_22 dX11_put_24 dX11_put_27 th_189 sr_X11_191 rfl (by omega) (by omega) (by omega) ?_
        rw [show o_put S (nI k) k w j e = (nI 2, nI 0, S) from by unfold o_put; rw [if_neg (by rw [b_s]; decide), if_pos (by rw [show ixB w 1000 = false from by first | exact ixB_a c_8 | exact (w999 c_8).2 c_15]; rfl)]] at hq
        exact (hq h M (Nat.le_refl _) (by omega) hC FRV.rf).1 1 _ rfl rfl
