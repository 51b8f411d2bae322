/-! The class: sharing. -/
set_option maxRecDepth 100000 in
set_option maxHeartbeats 4000000 in
theorem l_X11_sharing {G : GG} {d : Nat} {h hA : Hp} {Q : Pst} {S : SV} {M : Nat} (hS : SVI S) (hC : CV h S M) (hM : M < 900000) (hd : 12 ≤ d) (hqe : (o_sharing S).1 = nI 1 → ∀ h', CV h' S (M + 1) → FRV h h' → Q (oThr "java/util/NoSuchElementException") h') (hq : (o_sharing S).1 = nI 0 → ∀ h', CV h' S (M + 1) → FRV h h' → Q (oRet (vf (o_sharing S).2)) h') (wA : ∀ h', FM (M + 1) hA h' → CV h' S (M + 1) ∧ FRV h h') (i6 : ∀ n, h_I hA (nm 45 n) 6 = h_I h (nm 45 n) 6) : ∀ m i H D dif tot bc bs, i + m = sNv S → m + 1 ≤ bc → 6 * m + 6 ≤ bs → dif = (sgO S i).2.2 → tot = (sgO S i).2.1 → FM (M + 1) hA H → MKD H (M + 1) D → (∀ k, 0 < k → (D k = true ↔ mk0 hA (M + 1) k = true ∨ (sgO S i).1 k = true)) → WP G m_X11_sharing d 16 [(3, vi (nI i)), (0, vr (some (nm 40 0))), (1, vi (nI dif)), (2, vi (nI tot))] [] H bc bs Q := by
  have hn60 := hS.1
  intro m
  induction m with
  | zero =>
    intro i H D dif tot bc bs hi hbc hbs e1 e2 F hD hE
    have hi : i = sNv S := hi
    subst hi
    obtain ⟨C, V⟩ := wA H F
    have le := sgO_le (S := S) (sNv S)
    refine wp_iload_n (i := 3) dX11_sharing_16 rfl rfl ?_
    refine wp_aload_n (i := 0) dX11_sharing_17 rfl rfl ?_
    refine wp_get 12 1 (vi (nI (sNv S))) dX11_sharing_18 C.1.1.1 (by decide) (by decide) fl_X11_15 (congrArg (fun z => toV (vi z)) (C.1.1.2.2.1)) ?_
    refine wp_icmp_geN 62 dX11_sharing_21 (by decide) (by omega) (by omega) (fun c_21 => ?_) (fun c_21 => absurd c_21 (by omega))
    refine wp_iload_n (i := 2) dX11_sharing_62 rfl rfl ?_
    refine wp_if_neN 77 dX11_sharing_63 (by decide) (by omega) (fun c_63 => ?_) (fun c_63 => ?_)
    · skip
      refine wp_iload_n (i := 1) dX11_sharing_77 rfl rfl ?_
      refine wp_i2f dX11_sharing_78 ?_
      refine wp_iload_n (i := 2) dX11_sharing_79 rfl rfl ?_
      refine wp_i2f dX11_sharing_80 ?_
      refine wp_fdiv dX11_sharing_81 (fdiv_n (by omega) (by omega)) ?_
      refine wp_freturn dX11_sharing_82 rfl ?_
      have eo : o_sharing S = (nI 0, FP.fdiv (FP.i2f (nI dif)) (FP.i2f (nI tot))) := by unfold o_sharing; rw [if_neg (by omega), e1, e2]
      rw [eo] at hq
      exact hq rfl H C V
    · skip
      refine wp_throwN dX11_sharing_66 dX11_sharing_69 dX11_sharing_70 dX11_sharing_73 dX11_sharing_76 rfl sr_X11_498 rfl (by omega) (by omega) (by omega) ?_
      have eo : o_sharing S = (nI 1, FP.fconst0) := by unfold o_sharing; rw [if_pos (by omega)]
      exact hqe (by rw [eo]) H C V
  | succ m ih =>
    intro i H D dif tot bc bs hi hbc hbs e1 e2 F hD hE
    obtain ⟨C, V⟩ := wA H F
    have le := sgO_le (S := S) i
    have hiv : i < sNv S := by omega
    obtain ⟨⟨x, hO, hsz, hx⟩, hT⟩ := C.2.2.1 i hiv
    have N := NTV.of hS C hiv hx
    obtain ⟨tp, etp⟩ : ∃ tp, tp = KU_tp x := ⟨_, rfl⟩
    rw [← etp] at N
    have um : umN S i D = umN S i (sgO S i).1 := umN_c (fun s s1 s2 => by
      have q := hE _ s2
      have q0 : mk0 hA (M + 1) (ndN S i s) = false := decide_eq_false (fun z => hC.m0 hS hM hiv s1 s2 ((i6 _).symm.trans z))
      rw [q0] at q
      cases a : (sgO S i).1 (ndN S i s) with
      | true => exact q.mpr (Or.inr a)
      | false =>
        cases b : D (ndN S i s) with
        | false => rfl
        | true =>
          rcases q.mp b with y | y
          · cases y
          · rw [a] at y; cases y)
    obtain ⟨g1, g2, g3⟩ := sgO_f hS hiv
    have le2 := sgO_le (S := S) (i + 1)
    refine wp_iload_n (i := 3) dX11_sharing_16 rfl rfl ?_
    refine wp_aload_n (i := 0) dX11_sharing_17 rfl rfl ?_
    refine wp_get 12 1 (vi (nI (sNv S))) dX11_sharing_18 C.1.1.1 (by decide) (by decide) fl_X11_15 (congrArg (fun z => toV (vi z)) (C.1.1.2.2.1)) ?_
    refine wp_icmp_geN 62 dX11_sharing_21 (by decide) (by omega) (by omega) (fun c_21 => absurd c_21 (by omega)) (fun c_21 => ?_)
    refine wp_aload_n (i := 0) dX11_sharing_24 rfl rfl ?_
    refine wp_iload_n (i := 3) dX11_sharing_25 rfl rfl ?_
    refine wp_cV (y' := m_X11_valueNumbered) 12 [vi (nI i)] [] 1 6 dX11_sharing_26 ml_X11_87 im_X11_valueNumbered se_X11_valueNumbered (by decide) C.1.1.1 ok_X11_valueNumbered rfl (Nat.le_of_ble_eq_true rfl) rfl (Nat.le_of_ble_eq_true rfl) (d' := d - 1) (by omega) (by omega) (by omega) (c_X11_valueNumbered C.1 (by omega) (v := nI i) (t := i) (fun _ => ⟨rfl, hiv⟩) (by omega) (by omega) (by omega) (fun g_s => absurd g_s (by rw [ixB_of hiv (by omega)]; decide)) (fun _ _ _ => cont_ret ?_))
    refine wp_get 10 1 (vr tp) dX11_sharing_29 hO.k0 (by decide) (by decide) fl_X11_116 (congrArg (fun z => toV (vr z)) (hO.o_tp.trans etp.symm)) ?_
    refine wp_astore (i := 4) (lv' := [(4, vr tp), (3, vi (nI i)), (0, vr (some (nm 40 0))), (1, vi (nI dif)), (2, vi (nI tot))]) dX11_sharing_32 (by decide) rfl ?_
    refine wp_iload_n (i := 1) dX11_sharing_34 rfl rfl ?_
    refine wp_aload (i := 4) dX11_sharing_35 rfl ?_
    refine wp_aload_n (i := 0) dX11_sharing_37 rfl rfl ?_
    refine wp_get 12 3 (vi (nI (M + 1))) dX11_sharing_38 C.1.1.1 (by decide) (by decide) fl_X11_26 (congrArg (fun z => toV (vi z)) (C.1.1.2.2.2.2)) ?_
    refine wp_iconst (nI 1) dX11_sharing_41 (by decide) ?_
    refine wp_cS (y' := m_X11_markNodes) [vr tp, vi (nI (M + 1)), vi (nI 1)] [vi (nI dif)] 0 0 dX11_sharing_42 ml_X11_244 st_X11_markNodes ok_X11_markNodes rfl (Nat.le_of_ble_eq_true rfl) rfl (Nat.le_of_ble_eq_true rfl) (d' := d - 1) (by omega) (Nat.zero_le _) (Nat.zero_le _) (c_markV hS hiv (by omega) N hD (by omega) (fun h1 D1 F1 M1 E1 => cont_ret ?_))
    refine wp_iaddN dX11_sharing_45 ?_
    refine wp_istore_n (i := 1) (lv' := [(1, vi (nI (dif + (umN S i D)))), (4, vr tp), (3, vi (nI i)), (0, vr (some (nm 40 0))), (2, vi (nI tot))]) dX11_sharing_46 rfl (by decide) rfl ?_
    refine wp_iload_n (i := 2) dX11_sharing_47 rfl rfl ?_
    refine wp_aload (i := 4) dX11_sharing_48 rfl ?_
    refine wp_iconst (nI 1) dX11_sharing_50 (by decide) ?_
    refine wp_cS (y' := m_X11_countNodes) [vr tp, vi (nI 1)] [vi (nI tot)] 0 0 dX11_sharing_51 ml_X11_240 st_X11_countNodes ok_X11_countNodes rfl (Nat.le_of_ble_eq_true rfl) rfl (Nat.le_of_ble_eq_true rfl) (d' := d - 1) (by omega) (Nat.zero_le _) (Nat.zero_le _) (c_countV (N.fm F1) (by omega) (cont_ret ?_))
    refine wp_iaddN dX11_sharing_54 ?_
    refine wp_istore_n (i := 2) (lv' := [(2, vi (nI (tot + (nsN S i)))), (1, vi (nI (dif + (umN S i D)))), (4, vr tp), (3, vi (nI i)), (0, vr (some (nm 40 0)))]) dX11_sharing_55 rfl (by decide) rfl ?_
    refine wp_iincN (a := i) (lv' := [(3, vi (nI (i + 1))), (2, vi (nI (tot + (nsN S i)))), (1, vi (nI (dif + (umN S i D)))), (4, vr tp), (0, vr (some (nm 40 0)))]) 1 dX11_sharing_56 rfl (by decide) (by decide) rfl ?_
    refine wp_goto 16 dX11_sharing_59 (by decide) ?_
    refine wp_sub [(3, vi (nI (i + 1))), (0, vr (some (nm 40 0))), (1, vi (nI (dif + (umN S i D)))), (2, vi (nI (tot + (nsN S i))))] (sb_cons (.head _) (sb_cons (.tail _ (.tail _ (.tail _ (.tail _ (.head _))))) (sb_cons (.tail _ (.tail _ (.head _))) (sb_cons (.tail _ (.head _)) sb_nil)))) ?_
    refine ih (i + 1) h1 D1 (dif + umN S i D) (tot + nsN S i) _ _ (by omega) (by omega) (by omega) (by rw [g3, ← um, e1]) (by rw [g2, e2]) (F.tr F1) M1 (fun k hk => ?_)
    rw [E1 k, hE k hk, g1 k hk]
    constructor
    · rintro ((y | y) | ⟨s, s1, s2, s3⟩)
      · exact Or.inl y
      · exact Or.inr (Or.inl y)
      · exact Or.inr (Or.inr ⟨s, s1, s3⟩)
    · rintro (y | y | ⟨s, s1, s3⟩)
      · exact Or.inl (Or.inl y)
      · exact Or.inl (Or.inr y)
      · exact Or.inr ⟨s, s1, by omega, s3⟩
set_option maxRecDepth 100000 in
set_option maxHeartbeats 4000000 in
theorem c_X11_sharing {G : GG} {d bc bs : Nat} {h : Hp} {Q : Pst} {S : SV} {M : Nat} (hS : SVI S) (hC : CV h S M) (hM : M < 900000) (hd : 12 ≤ d) (hqe : (o_sharing S).1 = nI 1 → ∀ h', CV h' S (M + 1) → FRV h h' → Q (oThr "java/util/NoSuchElementException") h') (hq : (o_sharing S).1 = nI 0 → ∀ h', CV h' S (M + 1) → FRV h h' → Q (oRet (vf (o_sharing S).2)) h') (hbc : 80 ≤ bc) (hbs : 500 ≤ bs) : WP G m_X11_sharing d 0 (aargs 0 [vr (some (nm 40 0))]) [] h bc bs Q := by
  have hn60 := hS.1
  refine wp_sub [(0, vr (some (nm 40 0)))] (fun _ hz => hz) ?_
  refine wp_iconst (nI 0) dX11_sharing_0 (by decide) ?_
  refine wp_istore_n (i := 1) (lv' := [(1, vi (nI 0)), (0, vr (some (nm 40 0)))]) dX11_sharing_1 rfl (by decide) rfl ?_
  refine wp_iconst (nI 0) dX11_sharing_2 (by decide) ?_
  refine wp_istore_n (i := 2) (lv' := [(2, vi (nI 0)), (1, vi (nI 0)), (0, vr (some (nm 40 0)))]) dX11_sharing_3 rfl (by decide) rfl ?_
  refine wp_aload_n (i := 0) dX11_sharing_4 rfl rfl ?_
  refine wp_dup dX11_sharing_5 ?_
  refine wp_get 12 3 (vi (nI M)) dX11_sharing_6 hC.1.1.1 (by decide) (by decide) fl_X11_26 (congrArg (fun z => toV (vi z)) (hC.1.1.2.2.2.2)) ?_
  refine wp_iconst (nI 1) dX11_sharing_9 (by decide) ?_
  refine wp_iaddN dX11_sharing_10 ?_
  refine wp_putI 12 3 dX11_sharing_11 hC.1.1.1 (by decide) (by decide) (by decide) fl_X11_26 rfl (fun _ _ => rfl) rfl rfl ?_
  refine wp_iconst (nI 0) dX11_sharing_14 (by decide) ?_
  refine wp_istore_n (i := 3) (lv' := [(3, vi (nI 0)), (2, vi (nI 0)), (1, vi (nI 0)), (0, vr (some (nm 40 0)))]) dX11_sharing_15 rfl (by decide) rfl ?_
  refine wp_sub [(3, vi (nI 0)), (0, vr (some (nm 40 0))), (1, vi (nI 0)), (2, vi (nI 0))] (sb_cons (.head _) (sb_cons (.tail _ (.tail _ (.tail _ (.head _)))) (sb_cons (.tail _ (.tail _ (.head _))) (sb_cons (.tail _ (.head _)) sb_nil)))) ?_
  exact l_X11_sharing hS hC hM hd hqe hq (fun h1 F => hC.mark F) (fun n => by rw [gI_wI, if_neg (fun z => by have := z.1; unfold nm at this; omega)]) (sNv S) 0 _ (mk0 (wI h (nm 40 0) 3 (nI (M + 1))) (M + 1)) 0 0 _ _ (Nat.zero_add _) (by omega) (by omega) rfl rfl FM.rf mk0_d (fun k _ => ⟨Or.inl, fun z => z.resolve_right (fun y => nomatch y)⟩)
