/-! The class: maps, nodes made on the way of a key. -/
set_option maxRecDepth 100000 in
set_option maxHeartbeats 4000000 in
theorem c_X4_freshMapNode {G : GG} {d bc bs : Nat} {h : Hp} {Q : Pst} {k c lev : Nat} (hl : lev ≤ 4) (hM : MKR h c) (hc : c < 1000000) (hf : FrN h k) (hd : 3 ≤ d) (hbc : 4 ≤ bc) (hbs : 91 ≤ bs) (hq : ∀ h' x, KN h' k x → (lev < 4 → MPx k lev 0 (fun _ => -1) (fun _ => nI 0) (fun _ => none) x) → (lev = 4 → RWx k 0 (fun _ => -1) (fun _ => nI 0) x) → KN_mk x = nI 0 → MKR h' (c + 1) → Fr h h' (W1 k) → Q (oRet (vr (some (nm 45 k)))) h') : WP G m_X4_freshMapNode d 0 (aargs 0 [vr (some (nm 40 2)), vi (nI lev)]) [] h bc bs Q := by
  have q5 : clN 5 = 7 := rfl
  refine wp_sub [(0, vr (some (nm 40 2))), (1, vi (nI lev))] (fun _ hz => hz) ?_
  by_cases h4 : lev < 4
  · refine wp_aload_n (i := 0) dX4_freshMapNode_0 rfl rfl ?_
    refine wp_dup dX4_freshMapNode_1 ?_
    refine wp_get 6 0 (vl ((nI c).toInt64)) dX4_freshMapNode_2 hM.1 (by decide) (by decide) fl_X4_9 (congrArg (fun z => toV (vl z)) (hM.2)) ?_
    refine wp_lconst (1) dX4_freshMapNode_5 (by decide) ?_
    refine wp_ladd dX4_freshMapNode_6 ?_
    refine wp_putL 6 0 dX4_freshMapNode_7 hM.1 (by decide) (by decide) (by decide) fl_X4_9 rfl (fun _ _ => rfl) rfl rfl ?_
    refine wp_iload_n (i := 1) dX4_freshMapNode_10 rfl rfl ?_
    refine wp_iconst (nI 4) dX4_freshMapNode_11 (by decide) ?_
    refine wp_icmp_ltN 19 dX4_freshMapNode_12 (by decide) (by omega) (by decide) (fun c_12 => ?_) (fun c_12 => absurd c_12 (by omega))
    refine wp_iconst (nI 0) dX4_freshMapNode_19 (by decide) ?_
    refine wp_istore_n (i := 2) (lv' := [(2, vi (nI 0)), (0, vr (some (nm 40 2))), (1, vi (nI lev))]) dX4_freshMapNode_20 rfl (by decide) rfl ?_
    refine wp_iload_n (i := 2) dX4_freshMapNode_21 rfl rfl ?_
    refine wp_if_eqN 30 dX4_freshMapNode_22 (by decide) (by decide) (fun c_22 => ?_) (fun c_22 => absurd c_22 (by decide))
    refine wp_iconst (nI 4) dX4_freshMapNode_30 (by decide) ?_
    refine wp_istore_n (i := 3) (lv' := [(3, vi (nI 4)), (2, vi (nI 0)), (0, vr (some (nm 40 2))), (1, vi (nI lev))]) dX4_freshMapNode_31 rfl (by decide) rfl ?_
    refine wp_iload_n (i := 3) dX4_freshMapNode_32 rfl rfl ?_
    refine wp_newarray 101 4 .int dX4_freshMapNode_33 rfl rfl aw_int (nI_nn (by omega)) (nI_clamp (by omega)) (by omega) (by decide) pl_int (by omega) (by omega) (nm 46 k) (by rw [gk_wL]; exact hf.2.1) ?_
    refine wp_astore (i := 4) (lv' := [(4, vr (some (nm 46 k))), (3, vi (nI 4)), (2, vi (nI 0)), (0, vr (some (nm 40 2))), (1, vi (nI lev))]) dX4_freshMapNode_35 (by decide) rfl ?_
    refine wp_aload (i := 4) dX4_freshMapNode_37 rfl ?_
    refine wp_iconst (-1) dX4_freshMapNode_39 (by decide) ?_
    refine wp_cS (y' := m_J7_fill_53178) [vr (some (nm 46 k)), vi (-1)] [] 0 0 dX4_freshMapNode_40 ml_X4_20 st_J7_fill_53178 ok_J7_fill_53178 rfl (Nat.le_of_ble_eq_true rfl) rfl (Nat.le_of_ble_eq_true rfl) (d' := d - 1) (by omega) (Nat.zero_le _) (Nat.zero_le _) (c_J7_fill (v := -1) (n := 4) (by decide) (by rw [gk_mk, if_pos rfl]) (by rw [gn_mk, if_pos rfl]) (fun h3 k3 n3 v3 f3 => cont_void ?_))
    have g3 : ∀ b, b ≠ nm 40 2 → b ≠ nm 46 k → ce h3 b = ce h b := fun b h0 h1 => (f3 b h1).trans ((ce_mk h1).trans (ce_wL h0))
    refine wp_new 5 dX4_freshMapNode_43 (by decide) kl_X4_15 ins_X3 ini_X3 (by omega) (by show 7 ≤ _; omega) (nm 45 k) ((ce_k (g3 (nm 45 k) (nm_ne (by decide) (by decide) (by decide)) (nm_ne (by decide) (by decide) (by decide)))).trans hf.1) ?_
    refine wp_dup dX4_freshMapNode_46 ?_
    refine wp_iload_n (i := 1) dX4_freshMapNode_47 rfl rfl ?_
    refine wp_iconst (-1) dX4_freshMapNode_48 (by decide) ?_
    refine wp_aload (i := 4) dX4_freshMapNode_49 rfl ?_
    refine wp_iload_n (i := 3) dX4_freshMapNode_51 rfl rfl ?_
    refine wp_newarray 101 4 .int dX4_freshMapNode_52 rfl rfl aw_int (nI_nn (by omega)) (nI_clamp (by omega)) (by omega) (by decide) pl_int (by omega) (by omega) (nm 47 k) (by rw [gk_mk, if_neg (nm_ne (by decide) (by decide) (by decide))]; exact ((ce_k (g3 (nm 47 k) (nm_ne (by decide) (by decide) (by decide)) (nm_ne (by decide) (by decide) (by decide)))).trans hf.2.2.1)) ?_
    refine wp_iload_n (i := 2) dX4_freshMapNode_54 rfl rfl ?_
    refine wp_if_eqN 62 dX4_freshMapNode_55 (by decide) (by decide) (fun c_55 => ?_) (fun c_55 => absurd c_55 (by decide))
    refine wp_iconst (nI 4) dX4_freshMapNode_62 (by decide) ?_
    refine wp_anewarray 116 4 dX4_freshMapNode_63 rfl (by decide) kl_X4_15 (nI_nn (by omega)) (nI_clamp (by omega)) (by omega) (by omega) (by omega) (nm 48 k) (by rw [gk_mk, if_neg (nm_ne (by decide) (by decide) (by decide)), gk_mk, if_neg (nm_ne (by decide) (by decide) (by decide))]; exact ((ce_k (g3 (nm 48 k) (nm_ne (by decide) (by decide) (by decide)) (nm_ne (by decide) (by decide) (by decide)))).trans hf.2.2.2)) ?_
    refine wp_cI (y' := m_X3_init) [vi (nI lev), vi (-1), vr (some (nm 46 k)), vr (some (nm 47 k)), vr (some (nm 48 k))] [vr (some (nm 45 k))] 0 0 dX4_freshMapNode_66 ml_X4_17 im_X3_init rfl rfl ok_X3_init rfl (Nat.le_of_ble_eq_true rfl) rfl (Nat.le_of_ble_eq_true rfl) (d' := d - 1) (by omega) (Nat.zero_le _) (Nat.zero_le _) (c_X3_init (k := k) (lev := lev) (by rw [gk_mk, if_neg (nm_ne (by decide) (by decide) (by decide))]; rw [gk_mk, if_neg (nm_ne (by decide) (by decide) (by decide))]; rw [gk_mk, if_pos rfl]) (by omega) (fun h7 K7 F7 => cont_void ?_))
    refine wp_areturn dX4_freshMapNode_69 rfl (Or.inl ⟨_, rfl⟩) ?_
    have e46 : ce (mk (mk (mk h3 (nm 45 k) 6 0) (nm 47 k) 101 4) (nm 48 k) 116 4) (nm 46 k) = ce h3 (nm 46 k) := (ce_mk (nm_ne (by decide) (by decide) (by decide))).trans ((ce_mk (nm_ne (by decide) (by decide) (by decide))).trans (ce_mk (nm_ne (by decide) (by decide) (by decide))))
    have e47 : ce (mk (mk (mk h3 (nm 45 k) 6 0) (nm 47 k) 101 4) (nm 48 k) 116 4) (nm 47 k) = ce (mk (mk h3 (nm 45 k) 6 0) (nm 47 k) 101 4) (nm 47 k) := ce_mk (nm_ne (by decide) (by decide) (by decide))
    have e9 : ∀ a, ¬ W1 k a → ce (mk (mk (mk h3 (nm 45 k) 6 0) (nm 47 k) 101 4) (nm 48 k) 116 4) a = ce h a := fun a ha => ((ce_mk (fun e => ha (Or.inl (by rw [e]; unfold CNo nm; omega)))).trans ((ce_mk (fun e => ha (Or.inl (by rw [e]; unfold CNo nm; omega)))).trans ((ce_mk (fun e => ha (Or.inl (by rw [e]; unfold CNo nm; omega)))).trans (g3 a (fun e => ha (Or.inr e)) (fun e => ha (Or.inl (by rw [e]; unfold CNo nm; omega)))))))
    have em : ce h7 (nm 40 2) = ce (wL h (nm 40 2) 0 ((nI c).toInt64 + 1)) (nm 40 2) := (F7 _ (fun e => by unfold nm at e; omega)).trans ((ce_mk (fun e => by unfold nm at e; omega)).trans ((ce_mk (fun e => by unfold nm at e; omega)).trans ((ce_mk (fun e => by unfold nm at e; omega)).trans ((f3 _ (fun e => by unfold nm at e; omega)).trans (ce_mk (fun e => by unfold nm at e; omega))))))
    exact hq _ _ K7 (fun _ => ⟨rfl, rfl, rfl, ⟨rfl, (ce_k e46).trans k3, (ce_n e46).trans n3⟩, ⟨rfl, (ce_k e47).trans (by rw [gk_mk, if_pos rfl]), (ce_n e47).trans (by rw [gn_mk, if_pos rfl])⟩, ⟨rfl, (show h_k (mk (mk (mk h3 (nm 45 k) 6 0) (nm 47 k) 101 4) (nm 48 k) 116 4) (nm 48 k) = 116 by rw [gk_mk, if_pos rfl]), (show h_n (mk (mk (mk h3 (nm 45 k) 6 0) (nm 47 k) 101 4) (nm 48 k) 116 4) (nm 48 k) = 4 by rw [gn_mk, if_pos rfl])⟩, fun q hq => ⟨(by show h_I (mk (mk (mk h3 (nm 45 k) 6 0) (nm 47 k) 101 4) (nm 48 k) 116 4) (nm 46 k) q = -1; rw [ce_I e46]; exact v3 q hq), (by show h_I (mk (mk (mk h3 (nm 45 k) 6 0) (nm 47 k) 101 4) (nm 48 k) 116 4) (nm 47 k) q = nI 0; rw [ce_I e47, gI_mk, if_pos rfl]; rfl), (show h_R (mk (mk (mk h3 (nm 45 k) 6 0) (nm 47 k) 101 4) (nm 48 k) 116 4) (nm 48 k) q = none from gR_mk.trans (if_pos rfl))⟩⟩) (fun z => absurd z (by omega)) rfl ((hM.s (by omega)).frm em) (fun a ha => (F7 a (fun e => ha (Or.inl (by rw [e]; unfold CNo nm; omega)))).trans (e9 a ha))
  · refine wp_aload_n (i := 0) dX4_freshMapNode_0 rfl rfl ?_
    refine wp_dup dX4_freshMapNode_1 ?_
    refine wp_get 6 0 (vl ((nI c).toInt64)) dX4_freshMapNode_2 hM.1 (by decide) (by decide) fl_X4_9 (congrArg (fun z => toV (vl z)) (hM.2)) ?_
    refine wp_lconst (1) dX4_freshMapNode_5 (by decide) ?_
    refine wp_ladd dX4_freshMapNode_6 ?_
    refine wp_putL 6 0 dX4_freshMapNode_7 hM.1 (by decide) (by decide) (by decide) fl_X4_9 rfl (fun _ _ => rfl) rfl rfl ?_
    refine wp_iload_n (i := 1) dX4_freshMapNode_10 rfl rfl ?_
    refine wp_iconst (nI 4) dX4_freshMapNode_11 (by decide) ?_
    refine wp_icmp_ltN 19 dX4_freshMapNode_12 (by decide) (by omega) (by decide) (fun c_12 => absurd c_12 (by omega)) (fun c_12 => ?_)
    refine wp_iconst (nI 1) dX4_freshMapNode_15 (by decide) ?_
    refine wp_goto 20 dX4_freshMapNode_16 (by decide) ?_
    refine wp_istore_n (i := 2) (lv' := [(2, vi (nI 1)), (0, vr (some (nm 40 2))), (1, vi (nI lev))]) dX4_freshMapNode_20 rfl (by decide) rfl ?_
    refine wp_iload_n (i := 2) dX4_freshMapNode_21 rfl rfl ?_
    refine wp_if_eqN 30 dX4_freshMapNode_22 (by decide) (by decide) (fun c_22 => absurd c_22 (by decide)) (fun c_22 => ?_)
    refine wp_bipush (nI 40) dX4_freshMapNode_25 (by decide) ?_
    refine wp_goto 31 dX4_freshMapNode_27 (by decide) ?_
    refine wp_istore_n (i := 3) (lv' := [(3, vi (nI 40)), (2, vi (nI 1)), (0, vr (some (nm 40 2))), (1, vi (nI lev))]) dX4_freshMapNode_31 rfl (by decide) rfl ?_
    refine wp_iload_n (i := 3) dX4_freshMapNode_32 rfl rfl ?_
    refine wp_newarray 101 40 .int dX4_freshMapNode_33 rfl rfl aw_int (nI_nn (by omega)) (nI_clamp (by omega)) (by omega) (by decide) pl_int (by omega) (by omega) (nm 46 k) (by rw [gk_wL]; exact hf.2.1) ?_
    refine wp_astore (i := 4) (lv' := [(4, vr (some (nm 46 k))), (3, vi (nI 40)), (2, vi (nI 1)), (0, vr (some (nm 40 2))), (1, vi (nI lev))]) dX4_freshMapNode_35 (by decide) rfl ?_
    refine wp_aload (i := 4) dX4_freshMapNode_37 rfl ?_
    refine wp_iconst (-1) dX4_freshMapNode_39 (by decide) ?_
    refine wp_cS (y' := m_J7_fill_53178) [vr (some (nm 46 k)), vi (-1)] [] 0 0 dX4_freshMapNode_40 ml_X4_20 st_J7_fill_53178 ok_J7_fill_53178 rfl (Nat.le_of_ble_eq_true rfl) rfl (Nat.le_of_ble_eq_true rfl) (d' := d - 1) (by omega) (Nat.zero_le _) (Nat.zero_le _) (c_J7_fill (v := -1) (n := 40) (by decide) (by rw [gk_mk, if_pos rfl]) (by rw [gn_mk, if_pos rfl]) (fun h3 k3 n3 v3 f3 => cont_void ?_))
    have g3 : ∀ b, b ≠ nm 40 2 → b ≠ nm 46 k → ce h3 b = ce h b := fun b h0 h1 => (f3 b h1).trans ((ce_mk h1).trans (ce_wL h0))
    refine wp_new 5 dX4_freshMapNode_43 (by decide) kl_X4_15 ins_X3 ini_X3 (by omega) (by show 7 ≤ _; omega) (nm 45 k) ((ce_k (g3 (nm 45 k) (nm_ne (by decide) (by decide) (by decide)) (nm_ne (by decide) (by decide) (by decide)))).trans hf.1) ?_
    refine wp_dup dX4_freshMapNode_46 ?_
    refine wp_iload_n (i := 1) dX4_freshMapNode_47 rfl rfl ?_
    refine wp_iconst (-1) dX4_freshMapNode_48 (by decide) ?_
    refine wp_aload (i := 4) dX4_freshMapNode_49 rfl ?_
    refine wp_iload_n (i := 3) dX4_freshMapNode_51 rfl rfl ?_
    refine wp_newarray 101 40 .int dX4_freshMapNode_52 rfl rfl aw_int (nI_nn (by omega)) (nI_clamp (by omega)) (by omega) (by decide) pl_int (by omega) (by omega) (nm 47 k) (by rw [gk_mk, if_neg (nm_ne (by decide) (by decide) (by decide))]; exact ((ce_k (g3 (nm 47 k) (nm_ne (by decide) (by decide) (by decide)) (nm_ne (by decide) (by decide) (by decide)))).trans hf.2.2.1)) ?_
    refine wp_iload_n (i := 2) dX4_freshMapNode_54 rfl rfl ?_
    refine wp_if_eqN 62 dX4_freshMapNode_55 (by decide) (by decide) (fun c_55 => absurd c_55 (by decide)) (fun c_55 => ?_)
    refine wp_null dX4_freshMapNode_58 ?_
    refine wp_goto 66 dX4_freshMapNode_59 (by decide) ?_
    refine wp_cI (y' := m_X3_init) [vi (nI lev), vi (-1), vr (some (nm 46 k)), vr (some (nm 47 k)), vr none] [vr (some (nm 45 k))] 0 0 dX4_freshMapNode_66 ml_X4_17 im_X3_init rfl rfl ok_X3_init rfl (Nat.le_of_ble_eq_true rfl) rfl (Nat.le_of_ble_eq_true rfl) (d' := d - 1) (by omega) (Nat.zero_le _) (Nat.zero_le _) (c_X3_init (k := k) (lev := lev) (by rw [gk_mk, if_neg (nm_ne (by decide) (by decide) (by decide))]; rw [gk_mk, if_pos rfl]) (by omega) (fun h7 K7 F7 => cont_void ?_))
    refine wp_areturn dX4_freshMapNode_69 rfl (Or.inl ⟨_, rfl⟩) ?_
    have hlev : lev = 4 := by omega
    have e46 : ce (mk (mk h3 (nm 45 k) 6 0) (nm 47 k) 101 40) (nm 46 k) = ce h3 (nm 46 k) := (ce_mk (nm_ne (by decide) (by decide) (by decide))).trans (ce_mk (nm_ne (by decide) (by decide) (by decide)))
    have e47 : ce (mk (mk h3 (nm 45 k) 6 0) (nm 47 k) 101 40) (nm 47 k) = ce (mk (mk h3 (nm 45 k) 6 0) (nm 47 k) 101 40) (nm 47 k) := rfl
    have e9 : ∀ a, ¬ W1 k a → ce (mk (mk h3 (nm 45 k) 6 0) (nm 47 k) 101 40) a = ce h a := fun a ha => ((ce_mk (fun e => ha (Or.inl (by rw [e]; unfold CNo nm; omega)))).trans ((ce_mk (fun e => ha (Or.inl (by rw [e]; unfold CNo nm; omega)))).trans (g3 a (fun e => ha (Or.inr e)) (fun e => ha (Or.inl (by rw [e]; unfold CNo nm; omega))))))
    have em : ce h7 (nm 40 2) = ce (wL h (nm 40 2) 0 ((nI c).toInt64 + 1)) (nm 40 2) := (F7 _ (fun e => by unfold nm at e; omega)).trans ((ce_mk (fun e => by unfold nm at e; omega)).trans ((ce_mk (fun e => by unfold nm at e; omega)).trans ((f3 _ (fun e => by unfold nm at e; omega)).trans (ce_mk (fun e => by unfold nm at e; omega)))))
    exact hq _ _ K7 (fun z => absurd z h4) (fun _ => ⟨hlev, rfl, rfl, ⟨rfl, (ce_k e46).trans k3, (ce_n e46).trans n3⟩, ⟨rfl, (ce_k e47).trans (by rw [gk_mk, if_pos rfl]), (ce_n e47).trans (by rw [gn_mk, if_pos rfl])⟩, rfl, fun q hq => ⟨(by show h_I (mk (mk h3 (nm 45 k) 6 0) (nm 47 k) 101 40) (nm 46 k) q = -1; rw [ce_I e46]; exact v3 q hq), (by show h_I (mk (mk h3 (nm 45 k) 6 0) (nm 47 k) 101 40) (nm 47 k) q = nI 0; rw [ce_I e47, gI_mk, if_pos rfl]; rfl)⟩⟩) rfl ((hM.s (by omega)).frm em) (fun a ha => (F7 a (fun e => ha (Or.inl (by rw [e]; unfold CNo nm; omega)))).trans (e9 a ha))
/-- a node made for one key -/
theorem MNk.one {M k l b k' : Nat} {hs : Nat → Bool} {of : Nat → Int32} {mn : Nat → Nat} {x : KNS} (hl : l ≤ 4) (hb : b < 2 ^ (2 * l)) (h1 : ct hs l b = 1) (hk : k' < 1000) (hh : hs k' = true) (he : btN k' l = b) (hm : KN_mk x = nI 0)
    (hP : l < 4 → MPx k l 0 (fun _ => -1) (fun _ => nI 0) (fun _ => none) x) (hR : l = 4 → RWx k 0 (fun _ => -1) (fun _ => nI 0) x) {p : Nat} (hp : p = if l < 4 then plN k' l else 0) :
    MNk M k hs of mn l b (KN_ukc (KN_uel (KN_uky x p (nI k')) p (of k')) 1) := by
  refine ⟨⟨0, Nat.zero_le _, hm⟩, ?_⟩
  by_cases h4 : l < 4
  · obtain ⟨a1, a2, a3, a4, a5, a6, a7⟩ := hP h4
    rw [if_pos h4] at hp
    refine Or.inl ⟨h4, ⟨a1, a2, h1.symm, a4, a5, a6, fun q _ => ⟨rfl, rfl, rfl⟩⟩, fun q hq => ?_⟩
    show PLx hs of mn l b q (va_up (KN_ky x) p (nI k') q) (va_up (KN_el x) p (of k') q) (KN_bl x q)
    have hle := ct_mono (hs := hs) (p := q) hb
    rw [va_up_app, va_up_app, (a7 q hq).2.2]
    by_cases e : q = p
    · rw [if_pos e, if_pos e]
      have eb : btN k' (l + 1) = b + 2 ^ (2 * l) * q := by rw [btN_s, he, e, hp]
      have := ct_pos hk hh eb
      exact Or.inr (Or.inl ⟨by omega, ⟨k', hk, hh, eb, rfl, rfl⟩, rfl⟩)
    · rw [if_neg e, if_neg e, (a7 q hq).1, (a7 q hq).2.1]
      refine Or.inl ⟨?_, rfl, rfl, rfl⟩
      by_cases z : 1 ≤ ct hs (l + 1) (b + 2 ^ (2 * l) * q)
      · obtain ⟨j, j1, j2, j3⟩ := ct_ex z
        have e2 := (btN_i hb).mp j3
        have ej := ct_un (by omega) j1 hk j2 hh e2.1 he
        exact absurd (by rw [hp, ← ej]; exact e2.2.symm) e
      · omega
  · have e4 : l = 4 := by omega
    subst e4
    obtain ⟨a1, a2, a3, a4, a5, a6, a7⟩ := hR rfl
    rw [if_neg h4] at hp
    subst hp
    refine Or.inr ⟨rfl, ⟨a1, a2, h1.symm, a4, a5, a6, fun q _ => ⟨rfl, rfl⟩⟩, by omega, fun _ => k', fun i hi => ?_, fun i j hi hj _ => by omega, fun j j1 j2 j3 => ⟨0, by omega, ct_un (by omega) hk j1 hh j2 he j3⟩, fun i hi h40 => ?_⟩
    · have hi0 : i = 0 := by omega
      subst hi0
      exact ⟨hk, hh, he, (show va_up (KN_ky x) 0 (nI k') 0 = nI k' from va_up_self _ _ _), (show va_up (KN_el x) 0 (of k') 0 = of k' from va_up_self _ _ _)⟩
    · show va_up (KN_ky x) 0 (nI k') i = -1
      rw [va_up_app, if_neg (by omega)]; exact (a7 i h40).1
set_option maxRecDepth 100000 in
set_option maxHeartbeats 4000000 in
theorem c_X2_lowered {G : GG} {d bc bs : Nat} {h : Hp} {Q : Pst} {M k0 k1 c l key : Nat} {hs : Nat → Bool} {of : Nat → Int32} {mn : Nat → Nat} {x0 : KNS} {nc : Nat} (hl : l < 4) (hk : key < 1000) (hO : KN h k0 (KN_ukc x0 nc)) (hx : MNk M k0 hs of mn l (btN key l) x0) (hM : MKR h c) (hc : c < 900000) (hne : k0 ≠ k1) (hf : FrN h k1) (hct : ct hs (l + 1) (btN key (l + 1)) = 1) (hd : 5 ≤ d) (hbc : 4 ≤ bc) (hbs : 91 ≤ bs) (hq : ∀ h' x1, KN h' k1 x1 → MNk M k1 hs of mn (l + 1) (btN key (l + 1)) x1 → MKR h' (c + 1) → Fr h h' (W1 k1) → Q (oRet (vr (some (nm 45 k1)))) h') : WP G m_X2_lowered d 0 (aargs 0 [vr (some (nm 40 2)), vr (some (nm 45 k0)), vi (nI (plN key l))]) [] h bc bs Q := by
  have p4 := plN_lt (k := key) (l := l)
  obtain ⟨r1, r2, r3, r4⟩ := hx.ra hl p4
  unfold PLx at r4
  rw [← btN_s] at r4
  obtain ⟨k', b1, b2, b3, b4, b5⟩ : ∃ k', k' < 1000 ∧ hs k' = true ∧ btN k' (l + 1) = btN key (l + 1) ∧ KN_ky x0 (plN key l) = nI k' ∧ KN_el x0 (plN key l) = of k' := by
    rcases r4 with z | z | z
    · omega
    · exact z.2.1
    · omega
  rw [b4] at r1
  rw [b5] at r2
  replace r1 : kyA (KN_ukc x0 nc) (plN key l) = nI k' := r1
  replace r2 : elA (KN_ukc x0 nc) (plN key l) = of k' := r2
  have q4 := plN_lt (k := k') (l := l + 1)
  refine wp_sub [(0, vr (some (nm 40 2))), (1, vr (some (nm 45 k0))), (2, vi (nI (plN key l)))] (fun _ hz => hz) ?_
  refine wp_aload_n (i := 1) dX2_lowered_0 rfl rfl ?_
  refine wp_iload_n (i := 2) dX2_lowered_1 rfl rfl ?_
  refine wp_cV (y' := m_X3_keyAt) 5 [vi (nI (plN key l))] [] 0 0 dX2_lowered_2 ml_X2_38 im_X3_keyAt se_X3_keyAt (by decide) hO.k0 ok_X3_keyAt rfl (Nat.le_of_ble_eq_true rfl) rfl (Nat.le_of_ble_eq_true rfl) (d' := d - 1) (by omega) (Nat.zero_le _) (Nat.zero_le _) (c_X3_keyAt hO hx.wf.1 (by omega) (cont_ret ?_))
  rw [r1]
  refine wp_istore_n (i := 3) (lv' := [(3, vi (nI k')), (0, vr (some (nm 40 2))), (1, vr (some (nm 45 k0))), (2, vi (nI (plN key l)))]) dX2_lowered_5 rfl (by decide) rfl ?_
  refine wp_aload_n (i := 0) dX2_lowered_6 rfl rfl ?_
  refine wp_aload_n (i := 1) dX2_lowered_7 rfl rfl ?_
  refine wp_get 5 0 (vi (nI l)) dX2_lowered_8 hO.k0 (by decide) (by decide) fl_X2_15 (congrArg (fun z => toV (vi z)) (hO.f_lev.trans (congrArg nI hx.lev))) ?_
  refine wp_iconst (nI 1) dX2_lowered_11 (by decide) ?_
  refine wp_iaddN dX2_lowered_12 ?_
  refine wp_cV (y' := m_X4_freshMapNode) 6 [vi (nI (l + 1))] [] 4 91 dX2_lowered_13 ml_X2_59 im_X4_freshMapNode se_X4_freshMapNode (by decide) hM.1 ok_X4_freshMapNode rfl (Nat.le_of_ble_eq_true rfl) rfl (Nat.le_of_ble_eq_true rfl) (d' := d - 1) (by omega) (by omega) (by omega) (c_X4_freshMapNode (k := k1) (lev := l + 1) (by omega) hM (by omega) hf (by omega) (by omega) (by omega) (fun h1 x1 K1 P1 R1 m1 M1 F1 => cont_ret ?_))
  have O2 := hO.frm (F1 _ (W1_n (fun z => hne z.2.2) (by omega) (by decide))) (F1 _ (W1_n (fun z => hne z.2.2) (by omega) (by decide))) (F1 _ (W1_n (fun z => hne z.2.2) (by omega) (by decide))) (F1 _ (W1_n (fun z => hne z.2.2) (by omega) (by decide)))
  have lv1 : KN_lev x1 = l + 1 := by
    by_cases e : l + 1 < 4
    · exact (P1 e).1
    · rw [(R1 (by omega)).1]; omega
  refine wp_astore (i := 4) (lv' := [(4, vr (some (nm 45 k1))), (3, vi (nI k')), (0, vr (some (nm 40 2))), (1, vr (some (nm 45 k0))), (2, vi (nI (plN key l)))]) dX2_lowered_16 (by decide) rfl ?_
  refine wp_aload (i := 4) dX2_lowered_18 rfl ?_
  refine wp_aload (i := 4) dX2_lowered_20 rfl ?_
  refine wp_get 5 0 (vi (nI (l + 1))) dX2_lowered_22 K1.k0 (by decide) (by decide) fl_X2_15 (congrArg (fun z => toV (vi z)) (K1.f_lev.trans (congrArg nI lv1))) ?_
  refine wp_iconst (nI 4) dX2_lowered_25 (by decide) ?_
  refine wp_icmp_geN 41 dX2_lowered_26 (by decide) (by omega) (by decide) (fun c_26 => ?_) (fun c_26 => ?_)
  · skip
    refine wp_iconst (nI 0) dX2_lowered_41 (by decide) ?_
    refine wp_iload_n (i := 3) dX2_lowered_42 rfl rfl ?_
    refine wp_aload_n (i := 1) dX2_lowered_43 rfl rfl ?_
    refine wp_iload_n (i := 2) dX2_lowered_44 rfl rfl ?_
    refine wp_cV (y' := m_X3_elementAt) 5 [vi (nI (plN key l))] [vi (nI k'), vi (nI 0), vr (some (nm 45 k1))] 0 0 dX2_lowered_45 ml_X2_62 im_X3_elementAt se_X3_elementAt (by decide) O2.k0 ok_X3_elementAt rfl (Nat.le_of_ble_eq_true rfl) rfl (Nat.le_of_ble_eq_true rfl) (d' := d - 1) (by omega) (Nat.zero_le _) (Nat.zero_le _) (c_X3_elementAt O2 hx.wf.2.1 (by omega) (cont_ret ?_))
    rw [r2]
    have RR := R1 (by omega)
    refine wp_cV (y' := m_X3_putPair) 5 [vi (nI 0), vi (nI k'), vi (of k')] [] 0 0 dX2_lowered_48 ml_X2_44 im_X3_putPair se_X3_putPair (by decide) K1.k0 ok_X3_putPair rfl (Nat.le_of_ble_eq_true rfl) rfl (Nat.le_of_ble_eq_true rfl) (d' := d - 1) (by omega) (Nat.zero_le _) (Nat.zero_le _) (c_X3_putPair K1 RR.2.2.2.2.1.1 RR.2.2.2.2.1.2.1 (by rw [RR.2.2.2.2.1.2.2]; decide) RR.2.2.2.1.1 RR.2.2.2.1.2.1 (RR.2.2.2.1.2.2.trans RR.2.2.2.2.1.2.2.symm) (by rw [RR.2.2.2.2.1.2.2]; decide) (by omega) (fun h5 O5 F5 => cont_void ?_))
    refine wp_aload (i := 4) dX2_lowered_51 rfl ?_
    refine wp_iconst (nI 1) dX2_lowered_53 (by decide) ?_
    refine wp_putI 5 5 dX2_lowered_54 O5.k0 (by decide) (by decide) (by decide) fl_X2_41 rfl (fun _ _ => rfl) rfl rfl ?_
    refine wp_aload (i := 4) dX2_lowered_57 rfl ?_
    refine wp_areturn dX2_lowered_59 rfl (Or.inl ⟨_, rfl⟩) ?_
    have F8 : Fr h (wI h5 (nm 45 k1) 5 (nI 1)) (W1 k1) := fun a ha => (ce_wI (fun e => ha (Or.inl (by rw [e]; unfold CNo nm; omega)))).trans ((F5 a (fun z => ha (Or.inl z))).trans (F1 a ha))
    exact hq _ _ O5.wkc (MNk.one (by omega) (btN_lt key (l + 1)) hct b1 b2 b3 m1 P1 R1 (by first | rw [if_pos (show l + 1 < 4 by omega)] | rw [if_neg (show ¬ l + 1 < 4 by omega)])) ((M1.frm (F5 _ (CNo_n (by omega) (by decide)))).frm (ce_wI (nm_ne (by decide) (by decide) (by decide)))) F8
  · skip
    refine wp_iload_n (i := 3) dX2_lowered_29 rfl rfl ?_
    refine wp_aload (i := 4) dX2_lowered_30 rfl ?_
    refine wp_get 5 0 (vi (nI (l + 1))) dX2_lowered_32 K1.k0 (by decide) (by decide) fl_X2_15 (congrArg (fun z => toV (vi z)) (K1.f_lev.trans (congrArg nI lv1))) ?_
    refine wp_cS (y' := m_X2_placeOf) [vi (nI k'), vi (nI (l + 1))] [vr (some (nm 45 k1))] 0 0 dX2_lowered_35 ml_X2_19 st_X2_placeOf ok_X2_placeOf rfl (Nat.le_of_ble_eq_true rfl) rfl (Nat.le_of_ble_eq_true rfl) (d' := d - 1) (by omega) (Nat.zero_le _) (Nat.zero_le _) (c_X2_placeOf (by omega) (by omega) (cont_ret ?_))
    refine wp_goto 42 dX2_lowered_38 (by decide) ?_
    refine wp_iload_n (i := 3) dX2_lowered_42 rfl rfl ?_
    refine wp_aload_n (i := 1) dX2_lowered_43 rfl rfl ?_
    refine wp_iload_n (i := 2) dX2_lowered_44 rfl rfl ?_
    refine wp_cV (y' := m_X3_elementAt) 5 [vi (nI (plN key l))] [vi (nI k'), vi (nI (plN k' (l + 1))), vr (some (nm 45 k1))] 0 0 dX2_lowered_45 ml_X2_62 im_X3_elementAt se_X3_elementAt (by decide) O2.k0 ok_X3_elementAt rfl (Nat.le_of_ble_eq_true rfl) rfl (Nat.le_of_ble_eq_true rfl) (d' := d - 1) (by omega) (Nat.zero_le _) (Nat.zero_le _) (c_X3_elementAt O2 hx.wf.2.1 (by omega) (cont_ret ?_))
    rw [r2]
    have RR := P1 (by omega)
    refine wp_cV (y' := m_X3_putPair) 5 [vi (nI (plN k' (l + 1))), vi (nI k'), vi (of k')] [] 0 0 dX2_lowered_48 ml_X2_44 im_X3_putPair se_X3_putPair (by decide) K1.k0 ok_X3_putPair rfl (Nat.le_of_ble_eq_true rfl) rfl (Nat.le_of_ble_eq_true rfl) (d' := d - 1) (by omega) (Nat.zero_le _) (Nat.zero_le _) (c_X3_putPair K1 RR.2.2.2.2.1.1 RR.2.2.2.2.1.2.1 (by rw [RR.2.2.2.2.1.2.2]; decide) RR.2.2.2.1.1 RR.2.2.2.1.2.1 (RR.2.2.2.1.2.2.trans RR.2.2.2.2.1.2.2.symm) (by rw [RR.2.2.2.2.1.2.2]; omega) (by omega) (fun h5 O5 F5 => cont_void ?_))
    refine wp_aload (i := 4) dX2_lowered_51 rfl ?_
    refine wp_iconst (nI 1) dX2_lowered_53 (by decide) ?_
    refine wp_putI 5 5 dX2_lowered_54 O5.k0 (by decide) (by decide) (by decide) fl_X2_41 rfl (fun _ _ => rfl) rfl rfl ?_
    refine wp_aload (i := 4) dX2_lowered_57 rfl ?_
    refine wp_areturn dX2_lowered_59 rfl (Or.inl ⟨_, rfl⟩) ?_
    have F8 : Fr h (wI h5 (nm 45 k1) 5 (nI 1)) (W1 k1) := fun a ha => (ce_wI (fun e => ha (Or.inl (by rw [e]; unfold CNo nm; omega)))).trans ((F5 a (fun z => ha (Or.inl z))).trans (F1 a ha))
    exact hq _ _ O5.wkc (MNk.one (by omega) (btN_lt key (l + 1)) hct b1 b2 b3 m1 P1 R1 (by first | rw [if_pos (show l + 1 < 4 by omega)] | rw [if_neg (show ¬ l + 1 < 4 by omega)])) ((M1.frm (F5 _ (CNo_n (by omega) (by decide)))).frm (ce_wI (nm_ne (by decide) (by decide) (by decide)))) F8
