/-! The class: its calls about maps. -/
theorem PLs.sl {hs : Nat → Bool} {of : Nat → Int32} {n j : Nat} {L : Nat → Nat} {f g : Nat → Int32} (H : PLs hs of n L f g) (hn : n ≤ 64) (hj : j < 1000) (hh : hs j = true) : ∃ s, s < n ∧ fsR f (nI j) n 0 = nI s ∧ L s = j ∧ g s = of j := by
  obtain ⟨i, i1, i2⟩ := H.2.2 j hj hh
  obtain ⟨s, s1, s2, s3, s4⟩ := fsR_y (f := f) (u := nI j) n 0 ⟨i, by omega, by omega, by rw [(H.1 i i1).2.2.1, i2]⟩
  obtain ⟨b1, b2, b3, b4⟩ := H.1 s (by omega)
  have e : L s = j := nI_j (by omega) (by omega) (by rw [← b3, s4])
  exact ⟨s, by omega, s3, e, by rw [b4, e]⟩
theorem ixsH {S : SV} {k j : Nat} {w : Int32} (hw : ∀ n, n < 2 ^ 31 → ixB w n = true → w = nI j ∧ j < n) (g : (ixB w 1000 && hsv S k j) = false) : (ixB w 1000 && sHs S (1000 * k + j)) = false := by
  cases e : ixB w 1000 with
  | false => rfl
  | true => rw [e, hsv_at (hw 1000 (by decide) e).2] at g; exact g
set_option maxRecDepth 100000 in
set_option maxHeartbeats 4000000 in
theorem c_X11_without {G : GG} {d bc bs : Nat} {h : Hp} {Q : Pst} {S : SV} {M : Nat} (hS : SVI S) (hC : CV h S M) (hr : sMd S < 700000) {u : Int32} {k : Nat} (hu : ixB u (sNv S) = true → u = nI k ∧ k < sNv S) {w : Int32} {j : Nat} (hw : ∀ n, n < 2 ^ 31 → ixB w n = true → w = nI j ∧ j < n) (hd : 12 ≤ d) (hbc : 30 ≤ bc) (hbs : 800 ≤ bs) (hq : KOV Q h ["java/lang/IndexOutOfBoundsException", "java/lang/UnsupportedOperationException", "java/util/NoSuchElementException", "java/lang/IllegalStateException"] M (o_without S u k w j)) : WP G m_X11_without d 0 (aargs 0 [vr (some (nm 40 0)), vi u, vi w]) [] h bc bs Q := by
  have q8 : clN 10 = 5 := rfl
  have hn60 := hS.1
  obtain ⟨K, fK⟩ := hC.2.2.2.2.2.2
  refine wp_sub [(0, vr (some (nm 40 0))), (1, vi u), (2, vi w)] (fun _ hz => hz) ?_
  refine wp_aload_n (i := 0) dX11_without_0 rfl rfl ?_
  refine wp_iload_n (i := 1) dX11_without_1 rfl rfl ?_
  refine wp_cV (y' := m_X11_valueNumbered) 12 [vi u] [] 1 6 dX11_without_2 ml_X11_87 im_X11_valueNumbered se_X11_valueNumbered (by decide) hC.1.1.1 ok_X11_valueNumbered rfl (Nat.le_of_ble_eq_true rfl) rfl (Nat.le_of_ble_eq_true rfl) (d' := d - 1) (by omega) (by omega) (by omega) (c_X11_valueNumbered hC.1 (by omega) (v := u) (t := k) hu (by omega) (by omega) (by omega) (fun g_s => cont_thr rfl ?_) (fun b_s eu hk => cont_ret ?_))
  · rw [show o_without S u k w j = (nI 1, nI 0, S) from by unfold o_without; rw [if_pos (by rw [g_s]; rfl)]] at hq
    exact (hq h M (Nat.le_refl _) (by omega) hC FRV.rf).1 0 _ rfl rfl
  · subst eu
    obtain ⟨⟨x, hO, hsz, hx⟩, hT⟩ := hC.2.2.1 k hk
    have hP := hS.2.1 k hk
    have hkd := VAP.kd hx
    have hk4 : KU_kd x < 4 := by rw [hkd]; exact (kdN_v hP.1).2.2.2.2.1
    have hz64 : sSz S k ≤ 64 := hP.2.1
    have hzs : KU_sz x = sSz S k := hsz
    refine wp_astore_n (i := 3) (lv' := [(3, vr (some (nm 42 k))), (0, vr (some (nm 40 0))), (1, vi (nI k)), (2, vi w)]) dX11_without_5 rfl (by decide) rfl ?_
    refine wp_aload_n (i := 3) dX11_without_6 rfl rfl ?_
    refine wp_iconst (nI 2) dX11_without_7 (by decide) ?_
    refine wp_cS (y' := m_X11_refuseUnless) [vr (some (nm 42 k)), vi (nI 2)] [] 1 6 dX11_without_8 ml_X11_95 st_X11_refuseUnless ok_X11_refuseUnless rfl (Nat.le_of_ble_eq_true rfl) rfl (Nat.le_of_ble_eq_true rfl) (d' := d - 1) (by omega) (by omega) (by omega) (c_X11_refuseUnless hO (k := 2) hk4 (by decide) (by omega) (by omega) (by omega) (fun g_k => cont_thr rfl ?_) (fun b_k => cont_void ?_))
    · have g_t : sTy S k ≠ 109 := fun z => g_k (hkd.trans ((kdN_v hP.1).2.2.1.mpr z))
      rw [show o_without S (nI k) k w j = (nI 2, nI 0, S) from by unfold o_without; rw [if_neg (by rw [b_s]; decide), if_pos g_t]] at hq
      exact (hq h M (Nat.le_refl _) (by omega) hC FRV.rf).1 1 _ rfl rfl
    · have ht : sTy S k = 109 := (kdN_v hP.1).2.2.1.mp (hkd.symm.trans b_k)
      obtain ⟨-, -, v1, a, b, L, f, g, v2, v3, v4, v5, v6⟩ := VAP.m hx ht
      refine wp_aload_n (i := 3) dX11_without_11 rfl rfl ?_
      refine wp_get 10 1 (vr (some (nm 45 (mnv S k 0)))) dX11_without_12 hO.k0 (by decide) (by decide) fl_X11_116 (congrArg (fun z => toV (vr z)) (hO.o_tp.trans v1)) ?_
      refine wp_iload_n (i := 2) dX11_without_15 rfl rfl ?_
      refine wp_cS (y' := m_X2_holderOf) [vr (some (nm 45 (mnv S k 0))), vi w] [] 0 0 dX11_without_16 ml_X11_194 st_X2_holderOf ok_X2_holderOf rfl (Nat.le_of_ble_eq_true rfl) rfl (Nat.le_of_ble_eq_true rfl) (d' := d - 1) (by omega) (Nat.zero_le _) (Nat.zero_le _) (c_holdA (hT.2 ht) hw (by omega) (fun g_h => cont_ret ?_) (fun b_h1 eh b_h2 b_h3 => cont_ret ?_))
      · have e_h := g_h
        refine wp_ifnonnull 32 dX11_without_19 (by decide) (fun a_19 c_19 => absurd c_19 (fun z => nomatch z)) (fun c_19 => ?_)
        refine wp_throwNL dX11_without_22 dX11_without_25 dX11_without_26 dX11_without_28 dX11_without_31 rfl sr_X11_224 rfl (by omega) (by omega) (by omega) ?_
        rw [show o_without S (nI k) k w j = (nI 3, nI 0, S) from by unfold o_without; rw [if_neg (by rw [b_s]; decide), if_neg (fun z => z ht), if_pos (ixsH hw e_h)]] at hq
        exact (hq h M (Nat.le_refl _) (by omega) hC FRV.rf).1 2 _ rfl rfl
      · have b_h4 : hsv S k j = true := b_h3
        have b_h5 : sHs S (1000 * k + j) = true := (hsv_at b_h2).symm.trans b_h4
        subst eh
        obtain ⟨y, s0, hy, hwf, hs40, hsl, hel, hlv⟩ := hold_el (hT.2 ht) b_h2 b_h3
        obtain ⟨s, s1, s2, s3, s4⟩ := PLs.sl v6 hz64 b_h2 b_h4
        refine wp_ifnonnull 32 dX11_without_19 (by decide) (fun a_19 c_19 => ?_) (fun c_19 => absurd c_19 (fun z => nomatch z))
        refine wp_aload_n (i := 0) dX11_without_32 rfl rfl ?_
        refine wp_cV (y' := m_X11_refuseMoreValues) 12 [] [] 1 6 dX11_without_33 ml_X11_76 im_X11_refuseMoreValues se_X11_refuseMoreValues (by decide) hC.1.1.1 ok_X11_refuseMoreValues rfl (Nat.le_of_ble_eq_true rfl) rfl (Nat.le_of_ble_eq_true rfl) (d' := d - 1) (by omega) (by omega) (by omega) (c_X11_refuseMoreValues hC.1 (by omega) (by omega) (by omega) (by omega) (fun g_m => cont_thr rfl ?_) (fun b_m => cont_void ?_))
        · rw [show o_without S (nI k) k (nI j) j = (nI 4, nI 0, S) from by unfold o_without; rw [if_neg (by rw [b_s]; decide), if_neg (fun z => z ht), if_neg (show ¬ (ixB (nI j) 1000 && sHs S (1000 * k + j)) = false by rw [ixB_of b_h2 (by decide), b_h5]; decide), if_pos (by omega)]] at hq
          exact (hq h M (Nat.le_refl _) (by omega) hC FRV.rf).1 3 _ rfl rfl
        · skip
          refine wp_aload_n (i := 3) dX11_without_36 rfl rfl ?_
          refine wp_iload_n (i := 2) dX11_without_37 rfl rfl ?_
          refine wp_cV (y' := m_X8_plainSlotOf) 10 [vi (nI j)] [] 0 0 dX11_without_38 ml_X11_213 im_X8_plainSlotOf se_X8_plainSlotOf (by decide) hO.k0 ok_X8_plainSlotOf rfl (Nat.le_of_ble_eq_true rfl) rfl (Nat.le_of_ble_eq_true rfl) (d' := d - 1) (by omega) (Nat.zero_le _) (Nat.zero_le _) (c_X8_slotM hO v2 v4 hz64 (cont_ret ?_))
          rw [s2]
          refine wp_istore (i := 4) (lv' := [(4, vi (nI s)), (3, vr (some (nm 42 k))), (0, vr (some (nm 40 0))), (1, vi (nI k)), (2, vi (nI j))]) dX11_without_41 (by decide) rfl ?_
          have N := MNF.mk (key := j) (wt_f hk b_h2)
          generalize hS9 : cnS (wtS S k j) (sNv S) j 5 = S9 at N
          refine wp_aload_n (i := 0) dX11_without_43 rfl rfl ?_
          refine wp_aload_n (i := 0) dX11_without_44 rfl rfl ?_
          refine wp_get 12 2 (vr (some (nm 40 2))) dX11_without_45 hC.1.1.1 (by decide) (by decide) fl_X11_22 (congrArg (fun z => toV (vr z)) (hC.1.1.2.2.2.1)) ?_
          refine wp_aload_n (i := 3) dX11_without_48 rfl rfl ?_
          refine wp_get 10 1 (vr (some (nm 45 (mnv S k 0)))) dX11_without_49 hO.k0 (by decide) (by decide) fl_X11_116 (congrArg (fun z => toV (vr z)) (hO.o_tp.trans v1)) ?_
          refine wp_iload_n (i := 2) dX11_without_52 rfl rfl ?_
          refine wp_cS (y' := m_X2_withoutKey) [vr (some (nm 40 2)), vr (some (nm 45 (mnv S k 0))), vi (nI j)] [vr (some (nm 40 0))] 20 460 dX11_without_53 ml_X11_226 st_X2_withoutKey ok_X2_withoutKey rfl (Nat.le_of_ble_eq_true rfl) rfl (Nat.le_of_ble_eq_true rfl) (d' := d - 1) (by omega) (by omega) (by omega) (c_lessK hC hk ht hr b_h2 b_h4 N (by omega) (by omega) (by omega) (fun h3 T3 M3 F3 => cont_ret ?_))
          have R3a := v4.frm (F3 (nm 43 a) (by unfold VN nm; omega))
          have R3b := v5.frm (F3 (nm 43 b) (by unfold VN nm; omega))
          refine wp_aload_n (i := 3) dX11_without_56 rfl rfl ?_
          refine wp_get 10 2 (vi (nI (sSz S k))) dX11_without_57 ((ce_k (F3 _ (by unfold VN nm; omega))).trans hO.k0) (by decide) (by decide) fl_X11_103 (congrArg (fun z => toV (vi z)) ((congrFun (ce_I (F3 (nm 42 k) (by unfold VN nm; omega))) 2).trans (hO.f_sz.trans (congrArg nI hsz)))) ?_
          refine wp_iconst (nI 1) dX11_without_60 (by decide) ?_
          refine wp_isubN dX11_without_61 (by omega) ?_
          refine wp_aload_n (i := 3) dX11_without_62 rfl rfl ?_
          refine wp_get 10 3 (vr (some (nm 43 a))) dX11_without_63 ((ce_k (F3 _ (by unfold VN nm; omega))).trans hO.k0) (by decide) (by decide) fl_X11_210 (congrArg (fun z => toV (vr z)) ((congrFun (ce_R (F3 (nm 42 k) (by unfold VN nm; omega))) 3).trans (hO.o_pk.trans v2))) ?_
          refine wp_iload (i := 4) dX11_without_66 rfl ?_
          refine wp_cS (y' := m_X11_rowWithout) [vr (some (nm 43 a)), vi (nI s)] [vi (nI ((sSz S k) - 1)), vr (some (nm 45 (mnv S9 (sNv S) 0))), vr (some (nm 40 0))] 1 64 dX11_without_68 ml_X11_229 st_X11_rowWithout ok_X11_rowWithout rfl (Nat.le_of_ble_eq_true rfl) rfl (Nat.le_of_ble_eq_true rfl) (d' := d - 1) (by omega) (by omega) (by omega) (c_X11_rowWithout (k := K) R3a (by omega) (by omega) (by omega) ((ce_k (F3 _ (by unfold VN nm; omega))).trans (fK K (Nat.le_refl _))) (by omega) (by omega) (by omega) (fun h4 R4a F4 => cont_ret ?_))
          have bK : nm 43 b ≠ nm 43 K := fun z => by
            have q := v5.1
            rw [z, fK K (Nat.le_refl _)] at q; cases q
          refine wp_aload_n (i := 3) dX11_without_71 rfl rfl ?_
          refine wp_get 10 4 (vr (some (nm 43 b))) dX11_without_72 ((ce_k ((F4 _ (by unfold nm; omega)).trans (F3 _ (by unfold VN nm; omega)))).trans hO.k0) (by decide) (by decide) fl_X11_106 (congrArg (fun z => toV (vr z)) ((congrFun (ce_R ((F4 (nm 42 k) (by unfold nm; omega)).trans (F3 (nm 42 k) (by unfold VN nm; omega)))) 4).trans (hO.o_pe.trans v3))) ?_
          refine wp_iload (i := 4) dX11_without_75 rfl ?_
          refine wp_cS (y' := m_X11_rowWithout) [vr (some (nm 43 b)), vi (nI s)] [vr (some (nm 43 K)), vi (nI ((sSz S k) - 1)), vr (some (nm 45 (mnv S9 (sNv S) 0))), vr (some (nm 40 0))] 1 64 dX11_without_77 ml_X11_229 st_X11_rowWithout ok_X11_rowWithout rfl (Nat.le_of_ble_eq_true rfl) rfl (Nat.le_of_ble_eq_true rfl) (d' := d - 1) (by omega) (by omega) (by omega) (c_X11_rowWithout (k := K + 1) (R3b.frm (F4 _ bK)) (by omega) (by omega) (by omega) ((ce_k ((F4 _ (by unfold nm; omega)).trans (F3 _ (by unfold VN nm; omega)))).trans (fK (K + 1) (by omega))) (by omega) (by omega) (by omega) (fun h5 R5b F5 => cont_ret ?_))
          have R5a := R4a.frm (F5 _ (by unfold nm; omega))
          have g5 : ∀ r i, r ≠ 43 → r < 128 → ce h5 (nm r i) = ce h3 (nm r i) := fun r i r1 r2 => (F5 _ (by unfold nm; omega)).trans (F4 _ (by unfold nm; omega))
          have F9 : Fr h h5 (VX K (sMd S) (sMd S9)) := fun b hb => ((F5 b (fun z => hb (Or.inr (Or.inr z)))).trans (F4 b (fun z => hb (Or.inr (Or.inl z))))).trans (F3 b (fun z => hb (Or.inl z)))
          have C5 : CVh h5 (sNv S) M := hC.1.frm (F9 _ (by unfold VX VN nm; omega)) (F9 _ (by unfold VX VN nm; omega))
          refine wp_cV (y' := m_X11_keepMap) 12 [vr (some (nm 45 (mnv S9 (sNv S) 0))), vi (nI ((sSz S k) - 1)), vr (some (nm 43 K)), vr (some (nm 43 (K + 1)))] [] 1 5 dX11_without_80 ml_X11_185 im_X11_keepMap se_X11_keepMap (by decide) (C5.1.1) ok_X11_keepMap rfl (Nat.le_of_ble_eq_true rfl) rfl (Nat.le_of_ble_eq_true rfl) (d' := d - 1) (by omega) (by omega) (by omega) (c_X11_keepMap C5 (by omega) (by omega) ((ce_k (F9 _ (by unfold VX VN nm; omega))).trans (hC.2.2.2.1 _ (Nat.le_refl _))) (by omega) (by omega) (by omega) (fun h6 C6 K6 G6 V6 => cont_ret ?_))
          have PL := v6.del s1 s3
          have E9 := hC.mapEnd N.1.1 N.1.2.1 N.1.2.2.1 N.1.2.2.2.2.2 N.le fK (fun b hb => F9 b (fun z => hb (Or.inl z))) R5a R5b (by rw [N.1.2.2.2.1, N.1.2.2.2.2.1]; exact PL) (T3.frm (fun l b r _ _ _ r1 r2 => g5 r _ (by omega) (by omega))) (M3.frm (g5 _ _ (by decide) (by decide))) C6 K6 G6 V6
          refine wp_ireturn dX11_without_83 rfl ?_
          rw [show o_without S (nI k) k (nI j) j = (nI 0, nI (sNv S), cnS (wtS S k j) (sNv S) j 5) from by unfold o_without; rw [if_neg (by rw [b_s]; decide), if_neg (fun z => z ht), if_neg (show ¬ (ixB (nI j) 1000 && sHs S (1000 * k + j)) = false by rw [ixB_of b_h2 (by decide), b_h5]; decide), if_neg (by omega)]] at hq
          rw [hS9] at hq
          exact (hq h6 M (Nat.le_refl _) (by omega) E9.1 E9.2).2 rfl
