/-! The class: its calls about vectors. -/
theorem WR2 {h h1 : Hp} {a K n j sz : Nat} {f : Nat → Int32} {e : Int32} (hP : PRr h (nm 43 a) sz f) (hj : j < n) (hn : n = sz ∨ (n = sz + 1 ∧ j = sz)) (k1 : h_k h1 (nm 43 K) = 101) (n1 : h_n h1 (nm 43 K) = n) (e1 : ∀ i, i < min (h_n h (nm 43 a)) n → h_I h1 (nm 43 K) i = h_I h (nm 43 a) i) : PRr (wI h1 (nm 43 K) j e) (nm 43 K) n (va_up f j e) := by
  refine ⟨k1, n1, fun i hi => ?_⟩
  rw [gI_wI, va_up_app]
  by_cases z : i = j
  · rw [if_pos ⟨rfl, z⟩, if_pos z]
  · rw [if_neg (fun y => z y.2), if_neg z, e1 i (by rw [hP.2.1]; omega)]; exact hP.2.2 i (by omega)
theorem nv_le {S S' : SV} {c k pl n' : Nat} {el' : Nat → Int32} (N : NVF S S' c k pl n' el') : sMd S ≤ sMd S' := by rw [N.2.2.2.2]; omega
/-- a vector with the nodes of another is kept -/
theorem CV.sameEnd {h h3 h4 : Hp} {S S' : SV} {M K a k : Nat} {el' : Nat → Int32} (hC : CV h S M) (hk : k < sNv S) (hv9 : pvec (vp S k)) (N : NVS S S' 118 k el') (he : ∀ j, j < sSz S k → el' j = elv S k j) (fK : FreeI h 43 K) (F3 : Fr h h3 (fun b => b = nm 43 K)) (R3 : PRr h3 (nm 43 a) (sSz S k) el') (C4 : CVh h4 (sNv S + 1) M) (K4 : KU h4 (sNv S) (0, some (nm 45 (ndv S k (rtS (sSz S k)))), sSz S k, none, some (nm 43 a))) (G4 : ∀ b, b ≠ nm 40 0 → b ≠ nm 40 1 → b ≠ nm 42 (sNv S) → ce h4 b = ce h3 b) (V4 : FRV h3 h4) : CV h4 S' M ∧ FRV h h4 := by
  have hT := (hC.2.2.1 k hk).2
  have g : ∀ r i, 45 ≤ r → r ≤ 48 → ce h3 (nm r i) = ce h (nm r i) := fun r i r1 r2 => F3 _ (by unfold nm; omega)
  refine hC.vecEnd (a := a) (ow := fun _ => true) N.1.1 N.1.2.1 N.1.2.2.1 N.1.2.2.2.1 N.1.2.2.2.2.1 (by rw [N.2.2]; exact Nat.le_refl _) fK (fun b hb => F3 b (fun z => hb (Or.inr (Or.inl z)))) R3 ((hT.vt hv9 g).cg N.2.1 he (fun _ _ _ => Or.inl rfl)) (fun s h1 h2 => ?_) (by rw [N.2.2]; exact hC.2.1.frm (F3 _ (by unfold nm; omega))) C4 ?_ G4 V4
  · rw [N.2.1 s h1 h2, ce_I (g 45 _ (by decide) (by decide))]
    exact ((hT.1 hv9).2 s h1 h2).mono (by omega)
  · rw [N.2.1 _ rtS_lt rtS_i]; exact K4
/-- an open vector is kept -/
theorem CV.openEnd {h h3 h4 : Hp} {S S' : SV} {M K k : Nat} (hC : CV h S M) (hn60 : sNv S < 60) (hk : k < sNv S) (hv9 : pvec (vp S k)) (hz : sSz S k ≤ 64) (N : NVS S S' 111 k (elv S k)) (fK : FreeI h 43 K) (F3 : Fr h h3 (fun b => b = nm 44 (sNv S) ∨ b = nm 42 (sNv S))) (k3 : h_k h3 (nm 44 (sNv S)) = 101) (n3 : h_n h3 (nm 44 (sNv S)) = 64) (e3 : ∀ j, j < sSz S k → h_I h3 (nm 44 (sNv S)) j = elv S k j) (K3 : KU h3 (sNv S) (1, some (nm 45 (ndv S k (rtS (sSz S k)))), sSz S k, none, some (nm 44 (sNv S)))) (C4 : CVh h4 (sNv S + 1) M) (G4 : ∀ b, b ≠ nm 40 0 → b ≠ nm 40 1 → ce h4 b = ce h3 b) (V4 : FRV h3 h4) : CV h4 S' M ∧ FRV h h4 := by
  have hT := (hC.2.2.1 k hk).2
  have ty : p_ty (vp S' (sNv S)) = 111 := N.1.2.1
  have sz : p_sz (vp S' (sNv S)) = sSz S k := N.1.2.2.1
  have el : p_el (vp S' (sNv S)) = elv S k := N.1.2.2.2.1
  have g4 : ∀ r i, r ≠ 40 → r < 128 → ce h4 (nm r i) = ce h3 (nm r i) := fun r i r1 r2 => G4 _ (by unfold nm; omega) (by unfold nm; omega)
  have g3 : ∀ r i, 45 ≤ r → r ≤ 48 → ce h3 (nm r i) = ce h (nm r i) := fun r i r1 r2 => F3 _ (by unfold nm; omega)
  have g : ∀ r i, 45 ≤ r → r ≤ 48 → ce h4 (nm r i) = ce h (nm r i) := fun r i r1 r2 => (g4 r i (by omega) (by omega)).trans (g3 r i r1 r2)
  have hOB : ∀ s, s < 21 → ith s (sSz S k) = true → OB (sNv S) (h_I h4 (nm 45 (ndv S k s)) 1) := fun s h1 h2 => by rw [ce_I (g 45 _ (by decide) (by decide))]; exact (hT.1 hv9).2 s h1 h2
  refine ⟨hC.addF (a := K) N.1.1 (by rw [N.2.2]; exact Nat.le_refl _) N.1.2.2.2.2.1 C4 (by rw [N.2.2]; exact (hC.2.1.frm (F3 _ (by unfold nm; omega))).frm (G4 _ (by unfold nm; omega) (by unfold nm; omega))) ⟨_, K3.frm (g4 _ _ (by decide) (by decide)), sz.symm, Or.inr (Or.inl ⟨ty, rfl, ?_, rfl, rfl, (ce_k (g4 _ _ (by decide) (by decide))).trans k3, (ce_n (g4 _ _ (by decide) (by decide))).trans n3, fun j hj => ?_⟩)⟩ ⟨fun _ => ⟨?_, fun s h1 h2 => ?_⟩, fun z => by rw [ty] at z; cases z⟩ (fun b hb => ?_) fK, (FRV.of F3 (fun a ha => Or.inr (Or.inr (by unfold nm at ha; omega)))).tr V4⟩
  · show some (nm 45 (ndv S k (rtS (sSz S k)))) = some (nm 45 (ndv S' (sNv S) (rtS (p_sz (vp S' (sNv S))))))
    rw [sz, N.2.1 _ rtS_lt rtS_i]
  · rw [sz] at hj
    rw [ce_I (g4 _ _ (by decide) (by decide)), el]; exact e3 j hj
  · rw [sz, el]
    refine (hT.vt hv9 g).cg N.2.1 (fun _ _ => rfl) (fun s h1 h2 => Or.inr ⟨fun z => ?_, fun z => ?_⟩)
    · exfalso
      rw [show onr (sNv S) (vp S' (sNv S)) = nI (sNv S) from if_pos ty] at z
      have z : h_I h4 (nm 45 (ndv S k s)) 1 = nI (sNv S) := z
      rcases hOB s h1 h2 with y | ⟨u, y1, y2⟩
      · rw [y] at z
        have := congrArg Int32.toInt z
        rw [nI_toInt (by omega)] at this
        have e1 : (-1 : Int32).toInt = -1 := by decide
        omega
      · rw [y2] at z
        have := congrArg Int32.toInt z
        rw [nI_toInt (by omega), nI_toInt (by omega)] at this
        omega
    · have : owv S' (sNv S) s = true := z
      rw [N.1.2.2.2.2.2 s] at this; cases this
  · rw [sz] at h2
    show OB (sNv S + 1) (h_I h4 (nm 45 (ndv S' (sNv S) s)) 1)
    rw [N.2.1 s h1 h2]; exact (hOB s h1 h2).mono (by omega)
  · have z1 : b ≠ nm 40 0 ∧ b ≠ nm 40 1 ∧ b ≠ nm 44 (sNv S) ∧ b ≠ nm 42 (sNv S) := by unfold VW at hb; omega
    exact (G4 b z1.1 z1.2.1).trans (F3 b (by omega))
theorem c_elIn {G : GG} {d bc bs : Nat} {h : Hp} {Q : Pst} {M n pl : Nat} {nd : Nat → Nat} {el : Nat → Int32} {ow : Nat → Bool} {o : Int32} (hV : VT h M n nd el ow o) (hpl : pl < n) (hn : n ≤ 64) (hd : 3 ≤ d) (hq : Q (oRet (vi (el pl))) h) : WP G m_X9_elementIn d 0 (aargs 0 [vr (some (nm 45 (nd (rtS n)))), vi (nI n), vi (nI pl)]) [] h bc bs Q := by
  rw [← rtS_p hpl]; exact c_X9_elementIn hV hpl hn hd hq
set_option maxRecDepth 100000 in
set_option maxHeartbeats 4000000 in
theorem c_X11_append {G : GG} {d bc bs : Nat} {h : Hp} {Q : Pst} {S : SV} {M : Nat} (hS : SVI S) (hC : CV h S M) (hr : sMd S < 700000) {u : Int32} {k : Nat} (hu : ixB u (sNv S) = true → u = nI k ∧ k < sNv S) {e : Int32} (hd : 10 ≤ d) (hbc : 20 ≤ bc) (hbs : 400 ≤ bs) (hq : KOV Q h ["java/lang/IndexOutOfBoundsException", "java/lang/IllegalArgumentException", "java/lang/UnsupportedOperationException", "java/lang/IllegalStateException"] M (o_append S u k e)) : WP G m_X11_append d 0 (aargs 0 [vr (some (nm 40 0)), vi u, vi e]) [] h bc bs Q := by
  have q8 : clN 10 = 5 := rfl
  have hn60 := hS.1
  obtain ⟨K, fK⟩ := hC.2.2.2.2.2.2
  refine wp_sub [(0, vr (some (nm 40 0))), (1, vi u), (2, vi e)] (fun _ hz => hz) ?_
  refine wp_aload_n (i := 0) dX11_append_0 rfl rfl ?_
  refine wp_iload_n (i := 1) dX11_append_1 rfl rfl ?_
  refine wp_cV (y' := m_X11_valueNumbered) 12 [vi u] [] 1 6 dX11_append_2 ml_X11_87 im_X11_valueNumbered se_X11_valueNumbered (by decide) hC.1.1.1 ok_X11_valueNumbered rfl (Nat.le_of_ble_eq_true rfl) rfl (Nat.le_of_ble_eq_true rfl) (d' := d - 1) (by omega) (by omega) (by omega) (c_X11_valueNumbered hC.1 (by omega) (v := u) (t := k) hu (by omega) (by omega) (by omega) (fun g_s => cont_thr rfl ?_) (fun b_s eu hk => cont_ret ?_))
  · rw [show o_append S u k e = (nI 1, nI 0, S) from by unfold o_append; rw [if_pos (by rw [g_s]; rfl)]] at hq
    exact (hq h M (Nat.le_refl _) (by omega) hC FRV.rf).1 0 _ rfl rfl
  · subst eu
    obtain ⟨⟨x, hO, hsz, hx⟩, hT⟩ := hC.2.2.1 k hk
    have hP := hS.2.1 k hk
    have hkd := VAP.kd hx
    have hk4 : KU_kd x < 4 := by rw [hkd]; exact (kdN_v hP.1).2.2.2.2.1
    have hz64 : sSz S k ≤ 64 := hP.2.1
    have hzs : KU_sz x = sSz S k := hsz
    refine wp_astore_n (i := 3) (lv' := [(3, vr (some (nm 42 k))), (0, vr (some (nm 40 0))), (1, vi (nI k)), (2, vi e)]) dX11_append_5 rfl (by decide) rfl ?_
    refine wp_iload_n (i := 2) dX11_append_6 rfl rfl ?_
    refine wp_cS (y' := m_X11_refuseElement) [vi e] [] 1 6 dX11_append_7 ml_X11_91 st_X11_refuseElement ok_X11_refuseElement rfl (Nat.le_of_ble_eq_true rfl) rfl (Nat.le_of_ble_eq_true rfl) (d' := d - 1) (by omega) (by omega) (by omega) (c_X11_refuseElement (by omega) (by omega) (by omega) (fun g_e => cont_thr rfl ?_) (fun b_e => cont_void ?_))
    · rw [show o_append S (nI k) k e = (nI 2, nI 0, S) from by unfold o_append; rw [if_neg (by rw [b_s]; decide), if_pos (by rw [g_e]; rfl)]] at hq
      exact (hq h M (Nat.le_refl _) (by omega) hC FRV.rf).1 1 _ rfl rfl
    · skip
      refine wp_aload_n (i := 3) dX11_append_10 rfl rfl ?_
      refine wp_iconst (nI 0) dX11_append_11 (by decide) ?_
      refine wp_cS (y' := m_X11_refuseUnless) [vr (some (nm 42 k)), vi (nI 0)] [] 1 6 dX11_append_12 ml_X11_95 st_X11_refuseUnless ok_X11_refuseUnless rfl (Nat.le_of_ble_eq_true rfl) rfl (Nat.le_of_ble_eq_true rfl) (d' := d - 1) (by omega) (by omega) (by omega) (c_X11_refuseUnless hO (k := 0) hk4 (by decide) (by omega) (by omega) (by omega) (fun g_k => cont_thr rfl ?_) (fun b_k => cont_void ?_))
      · have g_t : sTy S k ≠ 118 := fun z => g_k (hkd.trans ((kdN_v hP.1).1.mpr z))
        rw [show o_append S (nI k) k e = (nI 3, nI 0, S) from by unfold o_append; rw [if_neg (by rw [b_s]; decide), if_neg (by rw [b_e]; decide), if_pos (Or.inl g_t)]] at hq
        exact (hq h M (Nat.le_refl _) (by omega) hC FRV.rf).1 2 _ rfl rfl
      · have ht : sTy S k = 118 := (kdN_v hP.1).1.mp (hkd.symm.trans b_k)
        obtain ⟨-, -, v1, v2, a, v3, v4⟩ := VAP.v hx ht
        have hv9 : pvec (vp S k) := Or.inl ht
        refine wp_aload_n (i := 3) dX11_append_15 rfl rfl ?_
        refine wp_cS (y' := m_X11_refuseFull) [vr (some (nm 42 k))] [] 1 6 dX11_append_16 ml_X11_99 st_X11_refuseFull ok_X11_refuseFull rfl (Nat.le_of_ble_eq_true rfl) rfl (Nat.le_of_ble_eq_true rfl) (d' := d - 1) (by omega) (by omega) (by omega) (c_X11_refuseFull hO (by omega) (by omega) (by omega) (by omega) (fun g_f => cont_thr rfl ?_) (fun b_f => cont_void ?_))
        · rw [show o_append S (nI k) k e = (nI 3, nI 0, S) from by unfold o_append; rw [if_neg (by rw [b_s]; decide), if_neg (by rw [b_e]; decide), if_pos (Or.inr (by omega))]] at hq
          exact (hq h M (Nat.le_refl _) (by omega) hC FRV.rf).1 2 _ rfl rfl
        · skip
          refine wp_aload_n (i := 0) dX11_append_19 rfl rfl ?_
          refine wp_cV (y' := m_X11_refuseMoreValues) 12 [] [] 1 6 dX11_append_20 ml_X11_76 im_X11_refuseMoreValues se_X11_refuseMoreValues (by decide) hC.1.1.1 ok_X11_refuseMoreValues rfl (Nat.le_of_ble_eq_true rfl) rfl (Nat.le_of_ble_eq_true rfl) (d' := d - 1) (by omega) (by omega) (by omega) (c_X11_refuseMoreValues hC.1 (by omega) (by omega) (by omega) (by omega) (fun g_m => cont_thr rfl ?_) (fun b_m => cont_void ?_))
          · rw [show o_append S (nI k) k e = (nI 4, nI 0, S) from by unfold o_append; rw [if_neg (by rw [b_s]; decide), if_neg (by rw [b_e]; decide), if_neg (fun z => z.elim (fun y => y ht) (fun y => by omega)), if_pos (by omega)]] at hq
            exact (hq h M (Nat.le_refl _) (by omega) hC FRV.rf).1 3 _ rfl rfl
          · skip
            refine wp_aload_n (i := 3) dX11_append_23 rfl rfl ?_
            refine wp_get 10 2 (vi (nI (sSz S k))) dX11_append_24 hO.k0 (by decide) (by decide) fl_X11_103 (congrArg (fun z => toV (vi z)) (hO.f_sz.trans (congrArg nI hsz))) ?_
            refine wp_istore (i := 4) (lv' := [(4, vi (nI (sSz S k))), (3, vr (some (nm 42 k))), (0, vr (some (nm 40 0))), (1, vi (nI k)), (2, vi e)]) dX11_append_27 (by decide) rfl ?_
            refine wp_aload_n (i := 3) dX11_append_29 rfl rfl ?_
            refine wp_get 10 4 (vr (some (nm 43 a))) dX11_append_30 hO.k0 (by decide) (by decide) fl_X11_106 (congrArg (fun z => toV (vr z)) (hO.o_pe.trans v3)) ?_
            refine wp_iload (i := 4) dX11_append_33 rfl ?_
            refine wp_iconst (nI 1) dX11_append_35 (by decide) ?_
            refine wp_iaddN dX11_append_36 ?_
            refine wp_cS (y' := m_J7_copyOf_59c91) [vr (some (nm 43 a)), vi (nI ((sSz S k) + 1))] [] 1 70 dX11_append_37 ml_X11_110 st_J7_copyOf_59c91 ok_J7_copyOf_59c91 rfl (Nat.le_of_ble_eq_true rfl) rfl (Nat.le_of_ble_eq_true rfl) (d' := d - 1) (by omega) (by omega) (by omega) (c_J7_copyI (q := nm 43 K) v4.1 (by rw [v4.2.1]; omega) (by omega) (fK K (Nat.le_refl _)) (by omega) (by omega) (by omega) (fun h1 k1 n1 e1 e2 F1 => cont_ret ?_))
            refine wp_astore (i := 5) (lv' := [(5, vr (some (nm 43 K))), (4, vi (nI (sSz S k))), (3, vr (some (nm 42 k))), (0, vr (some (nm 40 0))), (1, vi (nI k)), (2, vi e)]) dX11_append_40 (by decide) rfl ?_
            refine wp_aload (i := 5) dX11_append_42 rfl ?_
            refine wp_iload (i := 4) dX11_append_44 rfl ?_
            refine wp_iload_n (i := 2) dX11_append_46 rfl rfl ?_
            refine wp_iastoreN ((sSz S k + 1)) dX11_append_47 k1 n1 (by omega) (by omega) ?_
            have R2 : PRr (wI h1 (nm 43 K) (sSz S k) e) (nm 43 K) (sSz S k + 1) (va_up (elv S k) (sSz S k) e) := WR2 v4 (Nat.lt_succ_self _) (Or.inr ⟨rfl, rfl⟩) k1 n1 e1
            have G2 : ∀ b, b ≠ nm 43 K → ce (wI h1 (nm 43 K) (sSz S k) e) b = ce h b := fun b hb => (ce_wI hb).trans (F1 b hb)
            generalize wI h1 (nm 43 K) (sSz S k) e = h2 at R2 G2 ⊢
            have N := NVF.append (c := 118) (e := e) hk (show sSz S k < 64 by omega)
            generalize hS9 : s_nf (s_4 (s_5 (s_dup S 118 k) (64 * sNv S + sSz S k) e) (sNv S) (sSz S k + 1)) (sNv S) k = S9 at N
            refine wp_aload_n (i := 0) dX11_append_48 rfl rfl ?_
            refine wp_aload_n (i := 0) dX11_append_49 rfl rfl ?_
            refine wp_get 12 2 (vr (some (nm 40 2))) dX11_append_50 ((ce_k (G2 _ (by unfold nm; omega))).trans hC.1.1.1) (by decide) (by decide) fl_X11_22 (congrArg (fun z => toV (vr z)) ((congrFun (ce_R (G2 (nm 40 0) (by unfold nm; omega))) 2).trans hC.1.1.2.2.2.1)) ?_
            refine wp_aload_n (i := 3) dX11_append_53 rfl rfl ?_
            refine wp_get 10 1 (vr (some (nm 45 (ndv S k (rtS (sSz S k)))))) dX11_append_54 ((ce_k (G2 _ (by unfold nm; omega))).trans hO.k0) (by decide) (by decide) fl_X11_116 (congrArg (fun z => toV (vr z)) ((congrFun (ce_R (G2 (nm 42 k) (by unfold nm; omega))) 1).trans (hO.o_tp.trans v1))) ?_
            refine wp_iload (i := 4) dX11_append_57 rfl ?_
            refine wp_iload_n (i := 2) dX11_append_59 rfl rfl ?_
            refine wp_iconst (-1) dX11_append_60 (by decide) ?_
            refine wp_cS (y' := m_X9_withOneMore) [vr (some (nm 40 2)), vr (some (nm 45 (ndv S k (rtS (sSz S k))))), vi (nI (sSz S k)), vi e, vi (-1)] [vr (some (nm 40 0))] 12 273 dX11_append_61 ml_X11_120 st_X9_withOneMore ok_X9_withOneMore rfl (Nat.le_of_ble_eq_true rfl) rfl (Nat.le_of_ble_eq_true rfl) (d' := d - 1) (by omega) (by omega) (by omega) (c_moreN hS hC hk hv9 hr (by omega) N (fun r i hri => G2 _ (by unfold nm; omega)) (by omega) (by omega) (by omega) (fun h3 V3 O3 M3 F3 => cont_ret ?_))
            have F9 : Fr h h3 (VX K (sMd S) (sMd S9)) := fun b hb => (F3 b (fun z => hb (Or.inl z))).trans (G2 b (fun z => hb (Or.inr (Or.inl z))))
            have g3 : ∀ b, ¬ VX K (sMd S) (sMd S9) b → ce h3 b = ce h b := F9
            have C3 : CVh h3 (sNv S) M := hC.1.frm (g3 _ (by unfold VX VN nm; omega)) (g3 _ (by unfold VX VN nm; omega))
            have R3 := R2.frm (F3 (nm 43 K) (by unfold VN nm; omega))
            refine wp_iload (i := 4) dX11_append_64 rfl ?_
            refine wp_iconst (nI 1) dX11_append_66 (by decide) ?_
            refine wp_iaddN dX11_append_67 ?_
            refine wp_aload (i := 5) dX11_append_68 rfl ?_
            refine wp_cV (y' := m_X11_keepVector) 12 [vr (some (nm 45 (ndv S9 (sNv S) (rtS (sSz S k + 1))))), vi (nI ((sSz S k) + 1)), vr (some (nm 43 K))] [] 1 5 dX11_append_70 ml_X11_83 im_X11_keepVector se_X11_keepVector (by decide) (C3.1.1) ok_X11_keepVector rfl (Nat.le_of_ble_eq_true rfl) rfl (Nat.le_of_ble_eq_true rfl) (d' := d - 1) (by omega) (by omega) (by omega) (c_X11_keepVector C3 (by omega) (by omega) ((ce_k (g3 _ (by unfold VX VN nm; omega))).trans (hC.2.2.2.1 _ (Nat.le_refl _))) (by omega) (by omega) (by omega) (fun h4 C4 K4 G4 V4 => cont_ret ?_))
            have E9 := hC.vecEnd N.1.1 N.1.2.1 N.1.2.2.1 N.1.2.2.2.1 N.1.2.2.2.2.1 (nv_le N) fK F9 R3 V3 O3 M3 C4 K4 G4 V4
            refine wp_ireturn dX11_append_73 rfl ?_
            rw [show o_append S (nI k) k e = (nI 0, nI (sNv S), s_nf (s_4 (s_5 (s_dup S 118 k) (64 * sNv S + sSz S k) e) (sNv S) (sSz S k + 1)) (sNv S) k) from by unfold o_append; rw [if_neg (by rw [b_s]; decide), if_neg (by rw [b_e]; decide), if_neg (fun z => z.elim (fun y => y ht) (fun y => by omega)), if_neg (by omega)]] at hq
            rw [hS9] at hq
            exact (hq h4 M (Nat.le_refl _) (by omega) E9.1 E9.2).2 rfl
set_option maxRecDepth 100000 in
set_option maxHeartbeats 4000000 in
theorem c_X11_set {G : GG} {d bc bs : Nat} {h : Hp} {Q : Pst} {S : SV} {M : Nat} (hS : SVI S) (hC : CV h S M) (hr : sMd S < 700000) {u : Int32} {k : Nat} (hu : ixB u (sNv S) = true → u = nI k ∧ k < sNv S) {i : Int32} {j : Nat} (hi : ixB i (sSz S k) = true → i = nI j ∧ j < sSz S k) {e : Int32} (hd : 10 ≤ d) (hbc : 20 ≤ bc) (hbs : 400 ≤ bs) (hq : KOV Q h ["java/lang/IndexOutOfBoundsException", "java/lang/IllegalArgumentException", "java/lang/UnsupportedOperationException", "java/util/NoSuchElementException", "java/lang/IllegalStateException"] M (o_set S u k i j e)) : WP G m_X11_set d 0 (aargs 0 [vr (some (nm 40 0)), vi u, vi i, vi e]) [] h bc bs Q := by
  have q8 : clN 10 = 5 := rfl
  have hn60 := hS.1
  obtain ⟨K, fK⟩ := hC.2.2.2.2.2.2
  refine wp_sub [(0, vr (some (nm 40 0))), (1, vi u), (2, vi i), (3, vi e)] (fun _ hz => hz) ?_
  refine wp_aload_n (i := 0) dX11_set_0 rfl rfl ?_
  refine wp_iload_n (i := 1) dX11_set_1 rfl rfl ?_
  refine wp_cV (y' := m_X11_valueNumbered) 12 [vi u] [] 1 6 dX11_set_2 ml_X11_87 im_X11_valueNumbered se_X11_valueNumbered (by decide) hC.1.1.1 ok_X11_valueNumbered rfl (Nat.le_of_ble_eq_true rfl) rfl (Nat.le_of_ble_eq_true rfl) (d' := d - 1) (by omega) (by omega) (by omega) (c_X11_valueNumbered hC.1 (by omega) (v := u) (t := k) hu (by omega) (by omega) (by omega) (fun g_s => cont_thr rfl ?_) (fun b_s eu hk => cont_ret ?_))
  · rw [show o_set S u k i j e = (nI 1, nI 0, S) from by unfold o_set; rw [if_pos (by rw [g_s]; rfl)]] at hq
    exact (hq h M (Nat.le_refl _) (by omega) hC FRV.rf).1 0 _ rfl rfl
  · subst eu
    obtain ⟨⟨x, hO, hsz, hx⟩, hT⟩ := hC.2.2.1 k hk
    have hP := hS.2.1 k hk
    have hkd := VAP.kd hx
    have hk4 : KU_kd x < 4 := by rw [hkd]; exact (kdN_v hP.1).2.2.2.2.1
    have hz64 : sSz S k ≤ 64 := hP.2.1
    have hzs : KU_sz x = sSz S k := hsz
    refine wp_astore (i := 4) (lv' := [(4, vr (some (nm 42 k))), (0, vr (some (nm 40 0))), (1, vi (nI k)), (2, vi i), (3, vi e)]) dX11_set_5 (by decide) rfl ?_
    refine wp_iload_n (i := 3) dX11_set_7 rfl rfl ?_
    refine wp_cS (y' := m_X11_refuseElement) [vi e] [] 1 6 dX11_set_8 ml_X11_91 st_X11_refuseElement ok_X11_refuseElement rfl (Nat.le_of_ble_eq_true rfl) rfl (Nat.le_of_ble_eq_true rfl) (d' := d - 1) (by omega) (by omega) (by omega) (c_X11_refuseElement (by omega) (by omega) (by omega) (fun g_e => cont_thr rfl ?_) (fun b_e => cont_void ?_))
    · rw [show o_set S (nI k) k i j e = (nI 2, nI 0, S) from by unfold o_set; rw [if_neg (by rw [b_s]; decide), if_pos (by rw [g_e]; rfl)]] at hq
      exact (hq h M (Nat.le_refl _) (by omega) hC FRV.rf).1 1 _ rfl rfl
    · skip
      refine wp_aload (i := 4) dX11_set_11 rfl ?_
      refine wp_iconst (nI 0) dX11_set_13 (by decide) ?_
      refine wp_cS (y' := m_X11_refuseUnless) [vr (some (nm 42 k)), vi (nI 0)] [] 1 6 dX11_set_14 ml_X11_95 st_X11_refuseUnless ok_X11_refuseUnless rfl (Nat.le_of_ble_eq_true rfl) rfl (Nat.le_of_ble_eq_true rfl) (d' := d - 1) (by omega) (by omega) (by omega) (c_X11_refuseUnless hO (k := 0) hk4 (by decide) (by omega) (by omega) (by omega) (fun g_k => cont_thr rfl ?_) (fun b_k => cont_void ?_))
      · have g_t : sTy S k ≠ 118 := fun z => g_k (hkd.trans ((kdN_v hP.1).1.mpr z))
        rw [show o_set S (nI k) k i j e = (nI 3, nI 0, S) from by unfold o_set; rw [if_neg (by rw [b_s]; decide), if_neg (by rw [b_e]; decide), if_pos g_t]] at hq
        exact (hq h M (Nat.le_refl _) (by omega) hC FRV.rf).1 2 _ rfl rfl
      · have ht : sTy S k = 118 := (kdN_v hP.1).1.mp (hkd.symm.trans b_k)
        obtain ⟨-, -, v1, v2, a, v3, v4⟩ := VAP.v hx ht
        have hv9 : pvec (vp S k) := Or.inl ht
        refine wp_aload (i := 4) dX11_set_17 rfl ?_
        refine wp_iload_n (i := 2) dX11_set_19 rfl rfl ?_
        refine wp_cS (y' := m_X11_refusePlace) [vr (some (nm 42 k)), vi i] [] 1 6 dX11_set_20 ml_X11_126 st_X11_refusePlace ok_X11_refusePlace rfl (Nat.le_of_ble_eq_true rfl) rfl (Nat.le_of_ble_eq_true rfl) (d' := d - 1) (by omega) (by omega) (by omega) (c_X11_refusePlace hO (by omega) (by omega) (by omega) (by omega) (fun g_p => cont_thr rfl ?_) (fun b_p => cont_void ?_))
        · rw [hzs] at g_p
          rw [show o_set S (nI k) k i j e = (nI 4, nI 0, S) from by unfold o_set; rw [if_neg (by rw [b_s]; decide), if_neg (by rw [b_e]; decide), if_neg (fun z => z ht), if_pos g_p]] at hq
          exact (hq h M (Nat.le_refl _) (by omega) hC FRV.rf).1 3 _ rfl rfl
        · rw [hzs] at b_p
          obtain ⟨ei, hj⟩ := hi b_p
          subst ei
          refine wp_aload_n (i := 0) dX11_set_23 rfl rfl ?_
          refine wp_cV (y' := m_X11_refuseMoreValues) 12 [] [] 1 6 dX11_set_24 ml_X11_76 im_X11_refuseMoreValues se_X11_refuseMoreValues (by decide) hC.1.1.1 ok_X11_refuseMoreValues rfl (Nat.le_of_ble_eq_true rfl) rfl (Nat.le_of_ble_eq_true rfl) (d' := d - 1) (by omega) (by omega) (by omega) (c_X11_refuseMoreValues hC.1 (by omega) (by omega) (by omega) (by omega) (fun g_m => cont_thr rfl ?_) (fun b_m => cont_void ?_))
          · rw [show o_set S (nI k) k (nI j) j e = (nI 5, nI 0, S) from by unfold o_set; rw [if_neg (by rw [b_s]; decide), if_neg (by rw [b_e]; decide), if_neg (fun z => z ht), if_neg (by rw [b_p]; decide), if_pos (by omega)]] at hq
            exact (hq h M (Nat.le_refl _) (by omega) hC FRV.rf).1 4 _ rfl rfl
          · skip
            refine wp_aload (i := 4) dX11_set_27 rfl ?_
            refine wp_get 10 2 (vi (nI (sSz S k))) dX11_set_29 hO.k0 (by decide) (by decide) fl_X11_103 (congrArg (fun z => toV (vi z)) (hO.f_sz.trans (congrArg nI hsz))) ?_
            refine wp_istore (i := 5) (lv' := [(5, vi (nI (sSz S k))), (4, vr (some (nm 42 k))), (0, vr (some (nm 40 0))), (1, vi (nI k)), (2, vi (nI j)), (3, vi e)]) dX11_set_32 (by decide) rfl ?_
            refine wp_aload (i := 4) dX11_set_34 rfl ?_
            refine wp_get 10 1 (vr (some (nm 45 (ndv S k (rtS (sSz S k)))))) dX11_set_36 hO.k0 (by decide) (by decide) fl_X11_116 (congrArg (fun z => toV (vr z)) (hO.o_tp.trans v1)) ?_
            refine wp_iload (i := 5) dX11_set_39 rfl ?_
            refine wp_iload_n (i := 2) dX11_set_41 rfl rfl ?_
            refine wp_cS (y' := m_X9_elementIn) [vr (some (nm 45 (ndv S k (rtS (sSz S k))))), vi (nI (sSz S k)), vi (nI j)] [] 0 0 dX11_set_42 ml_X11_129 st_X9_elementIn ok_X9_elementIn rfl (Nat.le_of_ble_eq_true rfl) rfl (Nat.le_of_ble_eq_true rfl) (d' := d - 1) (by omega) (Nat.zero_le _) (Nat.zero_le _) (c_elIn (hT.1 hv9).1 hj (by omega) (by omega) (cont_ret ?_))
            refine wp_iload_n (i := 3) dX11_set_45 rfl rfl ?_
            refine wp_icmp_ne 66 dX11_set_46 (by decide) (fun c_46 => ?_) (fun c_46 => ?_)
            · skip
              refine wp_aload (i := 4) dX11_set_66 rfl ?_
              refine wp_get 10 4 (vr (some (nm 43 a))) dX11_set_68 hO.k0 (by decide) (by decide) fl_X11_106 (congrArg (fun z => toV (vr z)) (hO.o_pe.trans v3)) ?_
              refine wp_iload (i := 5) dX11_set_71 rfl ?_
              refine wp_cS (y' := m_J7_copyOf_59c91) [vr (some (nm 43 a)), vi (nI (sSz S k))] [] 1 70 dX11_set_73 ml_X11_110 st_J7_copyOf_59c91 ok_J7_copyOf_59c91 rfl (Nat.le_of_ble_eq_true rfl) rfl (Nat.le_of_ble_eq_true rfl) (d' := d - 1) (by omega) (by omega) (by omega) (c_J7_copyI (q := nm 43 K) v4.1 (by rw [v4.2.1]; omega) (by omega) (fK K (Nat.le_refl _)) (by omega) (by omega) (by omega) (fun h1 k1 n1 e1 e2 F1 => cont_ret ?_))
              refine wp_astore (i := 6) (lv' := [(6, vr (some (nm 43 K))), (5, vi (nI (sSz S k))), (4, vr (some (nm 42 k))), (0, vr (some (nm 40 0))), (1, vi (nI k)), (2, vi (nI j)), (3, vi e)]) dX11_set_76 (by decide) rfl ?_
              refine wp_aload (i := 6) dX11_set_78 rfl ?_
              refine wp_iload_n (i := 2) dX11_set_80 rfl rfl ?_
              refine wp_iload_n (i := 3) dX11_set_81 rfl rfl ?_
              refine wp_iastoreN ((sSz S k)) dX11_set_82 k1 n1 (by omega) (by omega) ?_
              have R2 : PRr (wI h1 (nm 43 K) j e) (nm 43 K) (sSz S k) (va_up (elv S k) j e) := WR2 v4 hj (Or.inl rfl) k1 n1 e1
              have G2 : ∀ b, b ≠ nm 43 K → ce (wI h1 (nm 43 K) j e) b = ce h b := fun b hb => (ce_wI hb).trans (F1 b hb)
              generalize wI h1 (nm 43 K) j e = h2 at R2 G2 ⊢
              have N := NVF.set (c := 118) (e := e) hk hz64 hj c_46
              generalize hS9 : s_nf (s_5 (s_dup S 118 k) (64 * sNv S + j) e) (sNv S) k = S9 at N
              refine wp_aload_n (i := 0) dX11_set_83 rfl rfl ?_
              refine wp_aload_n (i := 0) dX11_set_84 rfl rfl ?_
              refine wp_get 12 2 (vr (some (nm 40 2))) dX11_set_85 ((ce_k (G2 _ (by unfold nm; omega))).trans hC.1.1.1) (by decide) (by decide) fl_X11_22 (congrArg (fun z => toV (vr z)) ((congrFun (ce_R (G2 (nm 40 0) (by unfold nm; omega))) 2).trans hC.1.1.2.2.2.1)) ?_
              refine wp_aload (i := 4) dX11_set_88 rfl ?_
              refine wp_get 10 1 (vr (some (nm 45 (ndv S k (rtS (sSz S k)))))) dX11_set_90 ((ce_k (G2 _ (by unfold nm; omega))).trans hO.k0) (by decide) (by decide) fl_X11_116 (congrArg (fun z => toV (vr z)) ((congrFun (ce_R (G2 (nm 42 k) (by unfold nm; omega))) 1).trans (hO.o_tp.trans v1))) ?_
              refine wp_iload (i := 5) dX11_set_93 rfl ?_
              refine wp_iload_n (i := 2) dX11_set_95 rfl rfl ?_
              refine wp_iload_n (i := 3) dX11_set_96 rfl rfl ?_
              refine wp_iconst (-1) dX11_set_97 (by decide) ?_
              refine wp_cS (y' := m_X9_withOther) [vr (some (nm 40 2)), vr (some (nm 45 (ndv S k (rtS (sSz S k))))), vi (nI (sSz S k)), vi (nI j), vi e, vi (-1)] [vr (some (nm 40 0))] 12 273 dX11_set_98 ml_X11_133 st_X9_withOther ok_X9_withOther rfl (Nat.le_of_ble_eq_true rfl) rfl (Nat.le_of_ble_eq_true rfl) (d' := d - 1) (by omega) (by omega) (by omega) (c_otherN hS hC hk hv9 hr hz64 hj N (fun r i hri => G2 _ (by unfold nm; omega)) (by omega) (by omega) (by omega) (fun h3 V3 O3 M3 F3 => cont_ret ?_))
              have F9 : Fr h h3 (VX K (sMd S) (sMd S9)) := fun b hb => (F3 b (fun z => hb (Or.inl z))).trans (G2 b (fun z => hb (Or.inr (Or.inl z))))
              have g3 : ∀ b, ¬ VX K (sMd S) (sMd S9) b → ce h3 b = ce h b := F9
              have C3 : CVh h3 (sNv S) M := hC.1.frm (g3 _ (by unfold VX VN nm; omega)) (g3 _ (by unfold VX VN nm; omega))
              have R3 := R2.frm (F3 (nm 43 K) (by unfold VN nm; omega))
              refine wp_iload (i := 5) dX11_set_101 rfl ?_
              refine wp_aload (i := 6) dX11_set_103 rfl ?_
              refine wp_cV (y' := m_X11_keepVector) 12 [vr (some (nm 45 (ndv S9 (sNv S) (rtS (sSz S k))))), vi (nI (sSz S k)), vr (some (nm 43 K))] [] 1 5 dX11_set_105 ml_X11_83 im_X11_keepVector se_X11_keepVector (by decide) (C3.1.1) ok_X11_keepVector rfl (Nat.le_of_ble_eq_true rfl) rfl (Nat.le_of_ble_eq_true rfl) (d' := d - 1) (by omega) (by omega) (by omega) (c_X11_keepVector C3 (by omega) (by omega) ((ce_k (g3 _ (by unfold VX VN nm; omega))).trans (hC.2.2.2.1 _ (Nat.le_refl _))) (by omega) (by omega) (by omega) (fun h4 C4 K4 G4 V4 => cont_ret ?_))
              have E9 := hC.vecEnd N.1.1 N.1.2.1 N.1.2.2.1 N.1.2.2.2.1 N.1.2.2.2.2.1 (nv_le N) fK F9 R3 V3 O3 M3 C4 K4 G4 V4
              refine wp_ireturn dX11_set_108 rfl ?_
              rw [show o_set S (nI k) k (nI j) j e = (nI 0, nI (sNv S), s_nf (s_5 (s_dup S 118 k) (64 * sNv S + j) e) (sNv S) k) from by unfold o_set; rw [if_neg (by rw [b_s]; decide), if_neg (by rw [b_e]; decide), if_neg (fun z => z ht), if_neg (by rw [b_p]; decide), if_neg (by omega)]] at hq
              rw [hS9] at hq
              exact (hq h4 M (Nat.le_refl _) (by omega) E9.1 E9.2).2 rfl
            · skip
              refine wp_aload_n (i := 0) dX11_set_49 rfl rfl ?_
              refine wp_aload (i := 4) dX11_set_50 rfl ?_
              refine wp_get 10 1 (vr (some (nm 45 (ndv S k (rtS (sSz S k)))))) dX11_set_52 hO.k0 (by decide) (by decide) fl_X11_116 (congrArg (fun z => toV (vr z)) (hO.o_tp.trans v1)) ?_
              refine wp_iload (i := 5) dX11_set_55 rfl ?_
              refine wp_aload (i := 4) dX11_set_57 rfl ?_
              refine wp_get 10 4 (vr (some (nm 43 a))) dX11_set_59 hO.k0 (by decide) (by decide) fl_X11_106 (congrArg (fun z => toV (vr z)) (hO.o_pe.trans v3)) ?_
              refine wp_cV (y' := m_X11_keepVector) 12 [vr (some (nm 45 (ndv S k (rtS (sSz S k))))), vi (nI (sSz S k)), vr (some (nm 43 a))] [] 1 5 dX11_set_62 ml_X11_83 im_X11_keepVector se_X11_keepVector (by decide) hC.1.1.1 ok_X11_keepVector rfl (Nat.le_of_ble_eq_true rfl) rfl (Nat.le_of_ble_eq_true rfl) (d' := d - 1) (by omega) (by omega) (by omega) (c_X11_keepVector hC.1 (by omega) (by omega) (hC.2.2.2.1 _ (Nat.le_refl _)) (by omega) (by omega) (by omega) (fun h4 C4 K4 G4 V4 => cont_ret ?_))
              have N := NVS.set (c := 118) hk (show j < 64 by omega) c_46
              generalize hS9 : s_nf (s_5 (s_dup S 118 k) (64 * sNv S + j) e) (sNv S) k = S9 at N
              have E9 := hC.sameEnd hk hv9 N (fun _ _ => rfl) fK Fr.rf v4 C4 K4 G4 V4
              refine wp_ireturn dX11_set_65 rfl ?_
              rw [show o_set S (nI k) k (nI j) j e = (nI 0, nI (sNv S), s_nf (s_5 (s_dup S 118 k) (64 * sNv S + j) e) (sNv S) k) from by unfold o_set; rw [if_neg (by rw [b_s]; decide), if_neg (by rw [b_e]; decide), if_neg (fun z => z ht), if_neg (by rw [b_p]; decide), if_neg (by omega)]] at hq
              rw [hS9] at hq
              exact (hq h4 M (Nat.le_refl _) (by omega) E9.1 E9.2).2 rfl
set_option maxRecDepth 100000 in
set_option maxHeartbeats 4000000 in
theorem c_X11_open {G : GG} {d bc bs : Nat} {h : Hp} {Q : Pst} {S : SV} {M : Nat} (hS : SVI S) (hC : CV h S M) (hr : sMd S < 700000) {u : Int32} {k : Nat} (hu : ixB u (sNv S) = true → u = nI k ∧ k < sNv S) (hd : 10 ≤ d) (hbc : 20 ≤ bc) (hbs : 400 ≤ bs) (hq : KOV Q h ["java/lang/IndexOutOfBoundsException", "java/lang/UnsupportedOperationException", "java/lang/IllegalStateException"] M (o_open S u k)) : WP G m_X11_open d 0 (aargs 0 [vr (some (nm 40 0)), vi u]) [] h bc bs Q := by
  have q8 : clN 10 = 5 := rfl
  have hn60 := hS.1
  obtain ⟨K, fK⟩ := hC.2.2.2.2.2.2
  refine wp_sub [(0, vr (some (nm 40 0))), (1, vi u)] (fun _ hz => hz) ?_
  refine wp_aload_n (i := 0) dX11_open_0 rfl rfl ?_
  refine wp_iload_n (i := 1) dX11_open_1 rfl rfl ?_
  refine wp_cV (y' := m_X11_valueNumbered) 12 [vi u] [] 1 6 dX11_open_2 ml_X11_87 im_X11_valueNumbered se_X11_valueNumbered (by decide) hC.1.1.1 ok_X11_valueNumbered rfl (Nat.le_of_ble_eq_true rfl) rfl (Nat.le_of_ble_eq_true rfl) (d' := d - 1) (by omega) (by omega) (by omega) (c_X11_valueNumbered hC.1 (by omega) (v := u) (t := k) hu (by omega) (by omega) (by omega) (fun g_s => cont_thr rfl ?_) (fun b_s eu hk => cont_ret ?_))
  · rw [show o_open S u k = (nI 1, nI 0, S) from by unfold o_open; rw [if_pos (by rw [g_s]; rfl)]] at hq
    exact (hq h M (Nat.le_refl _) (by omega) hC FRV.rf).1 0 _ rfl rfl
  · subst eu
    obtain ⟨⟨x, hO, hsz, hx⟩, hT⟩ := hC.2.2.1 k hk
    have hP := hS.2.1 k hk
    have hkd := VAP.kd hx
    have hk4 : KU_kd x < 4 := by rw [hkd]; exact (kdN_v hP.1).2.2.2.2.1
    have hz64 : sSz S k ≤ 64 := hP.2.1
    have hzs : KU_sz x = sSz S k := hsz
    refine wp_astore_n (i := 2) (lv' := [(2, vr (some (nm 42 k))), (0, vr (some (nm 40 0))), (1, vi (nI k))]) dX11_open_5 rfl (by decide) rfl ?_
    refine wp_aload_n (i := 2) dX11_open_6 rfl rfl ?_
    refine wp_iconst (nI 0) dX11_open_7 (by decide) ?_
    refine wp_cS (y' := m_X11_refuseUnless) [vr (some (nm 42 k)), vi (nI 0)] [] 1 6 dX11_open_8 ml_X11_95 st_X11_refuseUnless ok_X11_refuseUnless rfl (Nat.le_of_ble_eq_true rfl) rfl (Nat.le_of_ble_eq_true rfl) (d' := d - 1) (by omega) (by omega) (by omega) (c_X11_refuseUnless hO (k := 0) hk4 (by decide) (by omega) (by omega) (by omega) (fun g_k => cont_thr rfl ?_) (fun b_k => cont_void ?_))
    · have g_t : sTy S k ≠ 118 := fun z => g_k (hkd.trans ((kdN_v hP.1).1.mpr z))
      rw [show o_open S (nI k) k = (nI 2, nI 0, S) from by unfold o_open; rw [if_neg (by rw [b_s]; decide), if_pos g_t]] at hq
      exact (hq h M (Nat.le_refl _) (by omega) hC FRV.rf).1 1 _ rfl rfl
    · have ht : sTy S k = 118 := (kdN_v hP.1).1.mp (hkd.symm.trans b_k)
      obtain ⟨-, -, v1, v2, a, v3, v4⟩ := VAP.v hx ht
      have hv9 : pvec (vp S k) := Or.inl ht
      refine wp_aload_n (i := 0) dX11_open_11 rfl rfl ?_
      refine wp_cV (y' := m_X11_refuseMoreValues) 12 [] [] 1 6 dX11_open_12 ml_X11_76 im_X11_refuseMoreValues se_X11_refuseMoreValues (by decide) hC.1.1.1 ok_X11_refuseMoreValues rfl (Nat.le_of_ble_eq_true rfl) rfl (Nat.le_of_ble_eq_true rfl) (d' := d - 1) (by omega) (by omega) (by omega) (c_X11_refuseMoreValues hC.1 (by omega) (by omega) (by omega) (by omega) (fun g_m => cont_thr rfl ?_) (fun b_m => cont_void ?_))
      · rw [show o_open S (nI k) k = (nI 3, nI 0, S) from by unfold o_open; rw [if_neg (by rw [b_s]; decide), if_neg (fun z => z ht), if_pos (by omega)]] at hq
        exact (hq h M (Nat.le_refl _) (by omega) hC FRV.rf).1 2 _ rfl rfl
      · skip
        refine wp_aload_n (i := 2) dX11_open_15 rfl rfl ?_
        refine wp_get 10 4 (vr (some (nm 43 a))) dX11_open_16 hO.k0 (by decide) (by decide) fl_X11_106 (congrArg (fun z => toV (vr z)) (hO.o_pe.trans v3)) ?_
        refine wp_bipush (nI 64) dX11_open_19 (by decide) ?_
        refine wp_cS (y' := m_J7_copyOf_59c91) [vr (some (nm 43 a)), vi (nI 64)] [] 1 70 dX11_open_21 ml_X11_110 st_J7_copyOf_59c91 ok_J7_copyOf_59c91 rfl (Nat.le_of_ble_eq_true rfl) rfl (Nat.le_of_ble_eq_true rfl) (d' := d - 1) (by omega) (by omega) (by omega) (c_J7_copyI (q := nm 44 (sNv S)) v4.1 (by rw [v4.2.1]; omega) (by omega) (hC.2.2.2.2.1 _ (Nat.le_refl _)) (by omega) (by omega) (by omega) (fun h1 k1 n1 e1 e2 F1 => cont_ret ?_))
        have g1 : ∀ r i, r ≠ 44 → r < 128 → ce h1 (nm r i) = ce h (nm r i) := fun r i r1 r2 => F1 _ (by unfold nm; omega)
        refine wp_astore_n (i := 3) (lv' := [(3, vr (some (nm 44 (sNv S)))), (2, vr (some (nm 42 k))), (0, vr (some (nm 40 0))), (1, vi (nI k))]) dX11_open_24 rfl (by decide) rfl ?_
        refine wp_aload_n (i := 0) dX11_open_25 rfl rfl ?_
        refine wp_new 10 dX11_open_26 (by decide) kl_X11_9 ins_X8 ini_X8 (by omega) (by show 5 ≤ _; omega) (nm 42 (sNv S)) ((ce_k (g1 42 _ (by decide) (by decide))).trans (hC.2.2.2.1 _ (Nat.le_refl _))) ?_
        refine wp_dup dX11_open_29 ?_
        have gm : ce (mk h1 (nm 42 (sNv S)) 11 0) (nm 42 k) = ce h (nm 42 k) := (ce_mk (by unfold nm; omega)).trans (g1 42 k (by decide) (by decide))
        refine wp_iconst (nI 1) dX11_open_30 (by decide) ?_
        refine wp_aload_n (i := 2) dX11_open_31 rfl rfl ?_
        refine wp_get 10 1 (vr (some (nm 45 (ndv S k (rtS (sSz S k)))))) dX11_open_32 ((ce_k gm).trans hO.k0) (by decide) (by decide) fl_X11_116 (congrArg (fun z => toV (vr z)) ((congrFun (ce_R gm) 1).trans (hO.o_tp.trans v1))) ?_
        refine wp_aload_n (i := 2) dX11_open_35 rfl rfl ?_
        refine wp_get 10 2 (vi (nI (sSz S k))) dX11_open_36 ((ce_k gm).trans hO.k0) (by decide) (by decide) fl_X11_103 (congrArg (fun z => toV (vi z)) ((congrFun (ce_I gm) 2).trans (hO.f_sz.trans (congrArg nI hsz)))) ?_
        refine wp_null dX11_open_39 ?_
        refine wp_aload_n (i := 3) dX11_open_40 rfl rfl ?_
        refine wp_cI (y' := m_X8_init) [vi (nI 1), vr (some (nm 45 (ndv S k (rtS (sSz S k))))), vi (nI (sSz S k)), vr none, vr (some (nm 44 (sNv S)))] [vr (some (nm 42 (sNv S))), vr (some (nm 40 0))] 0 0 dX11_open_41 ml_X11_161 im_X8_init rfl rfl ok_X8_init rfl (Nat.le_of_ble_eq_true rfl) rfl (Nat.le_of_ble_eq_true rfl) (d' := d - 1) (by omega) (Nat.zero_le _) (Nat.zero_le _) (c_X8_init (v := sNv S) (kd := 1) (by rw [gk_mk, if_pos rfl]) (by omega) (fun h2 K2 F2 => cont_void ?_))
        have G2 : ∀ b, b ≠ nm 42 (sNv S) → ce h2 b = ce h1 b := fun b hb => (F2 b hb).trans (ce_mk hb)
        have C2 : CVh h2 (sNv S) M := (hC.1.frm (g1 _ _ (by decide) (by decide)) (g1 _ _ (by decide) (by decide))).frm (G2 _ (by unfold nm; omega)) (G2 _ (by unfold nm; omega))
        refine wp_cV (y' := m_X11_keep) 12 [vr (some (nm 42 (sNv S)))] [] 0 0 dX11_open_44 ml_X11_164 im_X11_keep se_X11_keep (by decide) (C2.1.1) ok_X11_keep rfl (Nat.le_of_ble_eq_true rfl) rfl (Nat.le_of_ble_eq_true rfl) (d' := d - 1) (by omega) (Nat.zero_le _) (Nat.zero_le _) (c_X11_keep C2 (by omega) K2 (fun h4 C4 G4 V4 => cont_ret ?_))
        have N := NVS.dup (c := 111) hk
        generalize hS9 : s_nf (s_dup S 111 k) (sNv S) k = S9 at N
        have e44 := G2 (nm 44 (sNv S)) (by unfold nm; omega)
        have E9 := hC.openEnd b_m hk hv9 hz64 N fK (fun b hb => (G2 b (fun z => hb (Or.inr z))).trans (F1 b (fun z => hb (Or.inl z)))) ((ce_k e44).trans k1) ((ce_n e44).trans n1) (fun j hj => by rw [ce_I e44, e1 j (by rw [v4.2.1]; omega)]; exact v4.2.2 j hj) K2 C4 G4 V4
        refine wp_ireturn dX11_open_47 rfl ?_
        rw [show o_open S (nI k) k = (nI 0, nI (sNv S), s_nf (s_dup S 111 k) (sNv S) k) from by unfold o_open; rw [if_neg (by rw [b_s]; decide), if_neg (fun z => z ht), if_neg (by omega)]] at hq
        rw [hS9] at hq
        exact (hq h4 M (Nat.le_refl _) (by omega) E9.1 E9.2).2 rfl
