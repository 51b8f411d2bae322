/-! The law: from its beginning. -/
def q00 : Nat → QIS := fun _ => ((0, 0, 0, 0, 0), [], false, 0, 0)
def r00 : Nat → ORS := fun _ => (0, 0, 0, 0, [])
def a00 : Nat → OAS := fun _ => (0, 0, 0, 0, false, 0, [])
def k00 : Nat → KRS := fun _ => (0, 0, 0, 0, 0, fun _ => 0, fun _ => 0)
def ka0 : Nat → KAS := fun _ => (0, 0, 0, false, 0, false, 0, fun _ => 0)
theorem RB_00 : RB 0 (RS0 r00 a00) := ⟨⟨by decide, by decide, by decide, Nat.le_refl _, Nat.le_refl _, Nat.le_refl _, fun q h => nomatch h⟩, fun t _ => ⟨Nat.le_refl _, Nat.le_refl _, Nat.le_refl _, fun q h => nomatch h⟩, fun r h => absurd h (Nat.not_lt_zero _), fun a h => absurd h (Nat.not_lt_zero _)⟩
theorem flg_00 : flg (RS0 r00 a00) = 0 := by
  have e : cgN OT0 6 0 = 0 := cgN_z 6 0 (fun j _ _ => rfl)
  show cgN OT0 6 0 + cgN OT0 6 0 + cgN OT0 6 0 = 0
  rw [e]
theorem RI_00 : RI 0 (RS0 r00 a00) := ⟨fun t _ => ⟨⟨Nat.le_refl _, fun _ r _ => ⟨rfl, rfl⟩⟩, fun r _ => ⟨by show elB 0 = true; decide, fun z => Bool.noConfusion z⟩, fun _ => cgN_z (y := OT0) 6 0 (fun j _ _ => rfl)⟩, ⟨fun j hj => absurd hj (Nat.not_lt_zero _), fun j hj => absurd hj (Nat.not_lt_zero _)⟩, ⟨fun _ => rfl, fun z => absurd z (Nat.lt_irrefl 0)⟩, fun r hr => absurd hr (Nat.not_lt_zero _)⟩
theorem PU_00 : PU 0 SV0 0 q00 (RS0 r00 a00) := ⟨WB.init.2, WB.init.1, Nat.le_refl _, QX.init, RB_00, by unfold LF; rw [flg_00]; exact Nat.le_refl _⟩
theorem LWH_00 {h : Hp} (f70 : ∀ i, h_k h (nm 70 i) = 0) (f71 : ∀ i, h_k h (nm 71 i) = 0) (f72 : ∀ i, h_k h (nm 72 i) = 0) (f73 : ∀ i, h_k h (nm 73 i) = 0) : LWH (mk (mk (mk h (nm 70 0) 119 60) (nm 70 1) 101 3) (nm 70 2) 102 3) 0 0 0 (fun _ => 0) (fun _ _ => 0) 0 0 (fun _ => false) := by
  have e2 : ∀ a, a ≠ nm 70 2 → ce (mk (mk (mk h (nm 70 0) 119 60) (nm 70 1) 101 3) (nm 70 2) 102 3) a = ce (mk (mk h (nm 70 0) 119 60) (nm 70 1) 101 3) a := fun a ha => ce_mk ha
  have e1 : ∀ a, a ≠ nm 70 1 → ce (mk (mk h (nm 70 0) 119 60) (nm 70 1) 101 3) a = ce (mk h (nm 70 0) 119 60) a := fun a ha => ce_mk ha
  have e0 : ∀ a, a ≠ nm 70 0 → ce (mk h (nm 70 0) 119 60) a = ce h a := fun a ha => ce_mk ha
  have eA : ∀ a, a ≠ nm 70 0 → a ≠ nm 70 1 → a ≠ nm 70 2 → ce (mk (mk (mk h (nm 70 0) 119 60) (nm 70 1) 101 3) (nm 70 2) 102 3) a = ce h a := fun a h0 h1 h2 => ((e2 a h2).trans (e1 a h1)).trans (e0 a h0)
  have eR := (e2 (nm 70 0) (by unfold nm; omega)).trans (e1 (nm 70 0) (by unfold nm; omega))
  have eM := e2 (nm 70 1) (by unfold nm; omega)
  have m1 := mk_R (h := mk h (nm 70 0) 119 60) (a := nm 70 1) (n := 3)
  refine ⟨⟨(ce_k eR).trans (gk_mk.trans (if_pos rfl)), (ce_n eR).trans (gn_mk.trans (if_pos rfl))⟩, fun v hv => absurd hv (Nat.not_lt_zero _), fun v w hv => absurd hv (Nat.not_lt_zero _), ⟨(ce_k eM).trans m1.1, (ce_n eM).trans m1.2.1, by rw [ce_I eM]; exact m1.2.2 0 (by decide), by rw [ce_I eM]; exact m1.2.2 1 (by decide), by rw [ce_I eM]; exact m1.2.2 2 (by decide)⟩, ⟨gk_mk.trans (if_pos rfl), gn_mk.trans (if_pos rfl), fun t _ => ?_⟩, fun i _ => ?_, fun i _ => ⟨?_, ?_⟩⟩
  · show va_up (h_I (mk (mk h (nm 70 0) 119 60) (nm 70 1) 101 3)) (nm 70 2) (fun _ => 0) (nm 70 2) t = 0
    rw [va_up_self]
  · exact (ce_k (eA _ (by unfold nm; omega) (by unfold nm; omega) (by unfold nm; omega))).trans (f71 i)
  · exact (ce_k (eA _ (by unfold nm; omega) (by unfold nm; omega) (by unfold nm; omega))).trans (f72 i)
  · exact (ce_k (eA _ (by unfold nm; omega) (by unfold nm; omega) (by unfold nm; omega))).trans (f73 i)
set_option maxRecDepth 100000 in
set_option maxHeartbeats 4000000 in
theorem l_all {G : GG} {h : Hp} {Q : Pst} (hL : slen G < 2 ^ 31) (hQ : ∀ h, Q (oRet (vi (nI 1))) h) (J : JC h) (hf : ∀ a, a % 128 ≠ 0 → h_k h a = 0) : WP G m_L_law 100 0 (aargs 0 [vr (some nS)]) [] h 1000000 5000000 Q := by
  refine wp_sub [(0, vr (some nS))] (fun _ hz => hz) ?_
  refine wp_new 12 dL_law_0 (by decide) kl_L_16 ins_X11 ini_X11 (by decide) (by decide) (nm 40 0) (hf _ (by unfold nm; omega)) ?_
  refine wp_dup dL_law_3 ?_
  refine wp_cI (y' := m_X11_init) [] [vr (some (nm 40 0))] 150 1500 dL_law_4 ml_L_220 im_X11_init rfl rfl ok_X11_init rfl (Nat.le_of_ble_eq_true rfl) rfl (Nat.le_of_ble_eq_true rfl) (d' := 99) (by decide) (by decide) (by decide) (c_X11_init (fun a h1 h2 _ => hf a (by omega)) J (by decide) (Nat.le_refl _) (Nat.le_refl _) (fun h1 c1 c2 c3 F1 => cont_void ?_))
  refine wp_astore_n (i := 1) (lv' := [(1, vr (some (nm 40 0))), (0, vr (some nS))]) dL_law_7 rfl (by decide) rfl ?_
  have f1 : ∀ a, a % 128 ≠ 0 → ¬ WCD a → h_k h1 a = 0 := fun a h0 h2 => (ce_k (F1 a h2)).trans (hf a h0)
  refine wp_bipush (nI 60) dL_law_8 (by decide) ?_
  refine wp_anewarrayA 60 dL_law_10 kl_L_221 (nI_nn (by decide)) (nI_clamp (by decide)) (by decide) (by decide) (by decide) (nm 70 0) (f1 _ (by unfold nm; omega) (by unfold WCD nm; omega)) ?_
  have f70 : ∀ i, h_k h1 (nm 70 i) = 0 := fun i => f1 _ (by unfold nm; omega) (by unfold WCD nm; omega)
  have f71 : ∀ i, h_k h1 (nm 71 i) = 0 := fun i => f1 _ (by unfold nm; omega) (by unfold WCD nm; omega)
  have f72 : ∀ i, h_k h1 (nm 72 i) = 0 := fun i => f1 _ (by unfold nm; omega) (by unfold WCD nm; omega)
  have f73 : ∀ i, h_k h1 (nm 73 i) = 0 := fun i => f1 _ (by unfold nm; omega) (by unfold WCD nm; omega)
  have c12 : clN 12 = 14 := rfl
  have g1 : h_k (mk h1 (nm 70 0) 119 60) (nm 70 1) = 0 := (ce_k (ce_mk (show nm 70 1 ≠ nm 70 0 by unfold nm; omega))).trans (f70 1)
  have g2 : h_k (mk (mk h1 (nm 70 0) 119 60) (nm 70 1) 101 3) (nm 70 2) = 0 := (ce_k (ce_mk (show nm 70 2 ≠ nm 70 1 by unfold nm; omega))).trans ((ce_k (ce_mk (show nm 70 2 ≠ nm 70 0 by unfold nm; omega))).trans (f70 2))
  have C1 : CLS h1 SV0 0 0 q00 (RS0 r00 a00) := ⟨⟨_, c3 k00 ka0, SIM.init⟩, c2 q00, c1⟩
  have C2 := ((C1.law (h' := mk h1 (nm 70 0) 119 60) (fun a ha => ce_mk (show a ≠ nm 70 0 by unfold nm; omega))).law (h' := mk (mk h1 (nm 70 0) 119 60) (nm 70 1) 101 3) (fun a ha => ce_mk (show a ≠ nm 70 1 by unfold nm; omega))).law (h' := mk (mk (mk h1 (nm 70 0) 119 60) (nm 70 1) 101 3) (nm 70 2) 102 3) (fun a ha => ce_mk (show a ≠ nm 70 2 by unfold nm; omega))
  have L0 : LSt 0 0 0 0 0 0 SV0 q00 (RS0 r00 a00) (fun _ => 0) (fun _ _ => 0) (fun _ => false) (mk (mk (mk h1 (nm 70 0) 119 60) (nm 70 1) 101 3) (nm 70 2) 102 3) := ⟨PU_00, Nat.le_refl _, fun v hv => absurd hv (Nat.not_lt_zero _), fun z => absurd z (Nat.lt_irrefl 0), fun s hs => absurd hs (Nat.not_lt_zero _), RI_00, fun t _ => rfl, C2, LWH_00 f70 f71 f72 f73⟩
  refine wp_astore_n (i := 2) (lv' := [(2, vr (some (nm 70 0))), (1, vr (some (nm 40 0))), (0, vr (some nS))]) dL_law_13 rfl (by decide) rfl ?_
  refine wp_iconst (nI 3) dL_law_14 (by decide) ?_
  refine wp_newarray 101 3 .int dL_law_15 rfl rfl aw_int (nI_nn (by omega)) (nI_clamp (by omega)) (by omega) (by decide) pl_int (by omega) (by omega) (nm 70 1) g1 ?_
  refine wp_astore_n (i := 3) (lv' := [(3, vr (some (nm 70 1))), (2, vr (some (nm 70 0))), (1, vr (some (nm 40 0))), (0, vr (some nS))]) dL_law_17 rfl (by decide) rfl ?_
  refine wp_iconst (nI 3) dL_law_18 (by decide) ?_
  refine wp_newarray 102 3 .boolean dL_law_19 rfl rfl aw_boolean (nI_nn (by omega)) (nI_clamp (by omega)) (by omega) (by decide) pl_boolean (by omega) (by omega) (nm 70 2) g2 ?_
  refine wp_astore (i := 4) (lv' := [(4, vr (some (nm 70 2))), (3, vr (some (nm 70 1))), (2, vr (some (nm 70 0))), (1, vr (some (nm 40 0))), (0, vr (some nS))]) dL_law_21 (by decide) rfl ?_
  refine wp_iconst (nI 1) dL_law_23 (by decide) ?_
  refine wp_istore (i := 5) (lv' := [(5, vi (nI 1)), (4, vr (some (nm 70 2))), (3, vr (some (nm 70 1))), (2, vr (some (nm 70 0))), (1, vr (some (nm 40 0))), (0, vr (some nS))]) dL_law_24 (by decide) rfl ?_
  refine wp_iconst (nI 0) dL_law_26 (by decide) ?_
  refine wp_istore (i := 6) (lv' := [(6, vi (nI 0)), (5, vi (nI 1)), (4, vr (some (nm 70 2))), (3, vr (some (nm 70 1))), (2, vr (some (nm 70 0))), (1, vr (some (nm 40 0))), (0, vr (some nS))]) dL_law_27 (by decide) rfl ?_
  refine wp_sub [(6, vi (nI 0)), (5, vi (nI 1)), (4, vr (some (nm 70 2))), (3, vr (some (nm 70 1))), (2, vr (some (nm 70 0))), (1, vr (some (nm 40 0))), (0, vr (some nS))] (sb_cons (.head _) (sb_cons (.tail _ (.head _)) (sb_cons (.tail _ (.tail _ (.head _))) (sb_cons (.tail _ (.tail _ (.tail _ (.head _)))) (sb_cons (.tail _ (.tail _ (.tail _ (.tail _ (.head _))))) (sb_cons (.tail _ (.tail _ (.tail _ (.tail _ (.tail _ (.head _)))))) (sb_cons (.tail _ (.tail _ (.tail _ (.tail _ (.tail _ (.tail _ (.head _))))))) sb_nil))))))) ?_
  exact l_law_all (X := 80000) (Y := 520000) hL (by decide) (fun K1 J1 c1 M1 n1 V1 x1 R1 ro1 rf1 op1 h9 bc1 bs1 L1 m1 z1 z2 => l_law_fin L1 hL (by decide) m1 z1 (by omega) hQ) 110 0 _ _ _ _ _ _ _ _ _ _ _ _ _ _ rfl L0 (by decide) (by decide) (by rw [flg_00]; decide)
