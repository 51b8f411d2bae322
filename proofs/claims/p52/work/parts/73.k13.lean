/-! The class: addReference, addAgent. -/
theorem SIM.addR {X : CS} {S : RS} (H : SIM X S) {v lo hi : Int32} : SIM (CS_urr (CS_urn X (CS_rn X + 1)) (va_up (CS_rr X) (CS_rn X) (v, lo, hi, 1, 2, va_up (fun _ => 0) 0 v, fun _ => 0))) (RS_urr (RS_urn S (RS_rn S + 1)) (va_up (RS_rr S) (RS_rn S) (lo, hi, 2, v, [(0, v)]))) := by
  obtain ⟨⟨a1, a0⟩, a2, a3, a4, a5⟩ := H
  refine ⟨⟨congrArg (· + 1) a1, a0⟩, fun u hu => ?_, a3, a4, a5⟩
  show SR (va_up (CS_rr X) (CS_rn X) _ u) (va_up (RS_rr S) (RS_rn S) _ u)
  rw [a1, va_up_app, va_up_app]
  by_cases e : u = RS_rn S
  · rw [if_pos e, if_pos e]
    refine ⟨rfl, rfl, rfl, rfl, rfl, fun j hj => ?_⟩
    have hj : j = 0 := by have : j < 1 := hj; omega
    subst hj
    exact ⟨(show va_up (fun _ => (0 : Int32)) 0 v 0 = v from va_up_self _ _ _), rfl⟩
  · rw [if_neg e, if_neg e]; exact a2 u (by have : u < RS_rn S + 1 := hu; omega)
theorem SIM.addA {X : CS} {S : RS} (H : SIM X S) {v lo hi md : Int32} {fe : Bool} (hf : fe = decide (md = nI 102)) : SIM (CS_uaa (CS_uan X (CS_an X + 1)) (va_up (CS_aa X) (CS_an X) (v, lo, hi, fe, 0, false, 0, fun _ => 0))) (RS_uaa (RS_uan S (RS_an S + 1)) (va_up (RS_aa S) (RS_an S) (v, lo, hi, md, false, 0, []))) := by
  obtain ⟨⟨a1, a2, a0⟩, b2, b3, b4, b5⟩ := H
  refine ⟨⟨a1, congrArg (· + 1) a2, a0⟩, b2, fun u hu => ?_, b4, b5⟩
  show SA (va_up (CS_aa X) (CS_an X) _ u) (va_up (RS_aa S) (RS_an S) _ u)
  rw [a2, va_up_app, va_up_app]
  by_cases e : u = RS_an S
  · rw [if_pos e, if_pos e]
    exact ⟨rfl, rfl, rfl, hf, rfl, rfl, rfl, fun j hj => absurd hj (Nat.not_lt_zero _)⟩
  · rw [if_neg e, if_neg e]; exact b3 u (by have : u < RS_an S + 1 := hu; omega)
set_option maxRecDepth 100000 in
set_option maxHeartbeats 4000000 in
theorem c_X11_addReference {G : GG} {d bc bs : Nat} {h : Hp} {Q : Pst} {X : CS} {S : RS} (hR : CR h X) (hs : SIM X S) {n : Nat} (hB : RB n S) {v lo hi : Int32} (hd : 12 ≤ d) (hbc : 6 ≤ bc) (hbs : 60 ≤ bs) (hq : KO Q h ["java/lang/IllegalArgumentException", "java/lang/IllegalStateException"] (o_addReference S v lo hi)) : WP G m_X11_addReference d 0 (aargs 0 [vr (some (nm 40 0)), vi v, vi lo, vi hi]) [] h bc bs Q := by
  have hG := FRK.rf (h := h)
  have hrn : CS_rn X = RS_rn S := hs.1.1
  have han : CS_an X = RS_an S := hs.1.2.1
  have hbi : CS_bi X = RS_bg S := hs.1.2.2.1
  have hpr : CS_pr X = RS_mo S := hs.1.2.2.2.1
  have hlg : CS_lg X = RS_lg S := hs.1.2.2.2.2
  have hb0 := hB.1
  have q7 : clN 7 = 7 := rfl
  have q3 : clN 3 = 7 := rfl
  refine wp_sub [(0, vr (some (nm 40 0))), (1, vi v), (2, vi lo), (3, vi hi)] (fun _ hz => hz) ?_
  refine wp_iload_n (i := 1) dX11_addReference_0 rfl rfl ?_
  refine wp_iload_n (i := 2) dX11_addReference_1 rfl rfl ?_
  refine wp_iload_n (i := 3) dX11_addReference_2 rfl rfl ?_
  refine wp_cS (y' := m_X11_refuseBounds) [vi v, vi lo, vi hi] [] 1 6 dX11_addReference_3 ml_X11_317 st_X11_refuseBounds ok_X11_refuseBounds rfl (Nat.le_of_ble_eq_true rfl) rfl (Nat.le_of_ble_eq_true rfl) (d' := d - 1) (by omega) (by omega) (by omega) (c_X11_refuseBounds (by omega) (by omega) (by omega) (fun g_b => cont_thr rfl ?_) (fun b_b => cont_void ?_))
  · exact hq.1 0 _ (congrArg (fun z => z.1) (show o_addReference S v lo hi = (nI 1, nI 0, S) from by unfold o_addReference; rw [if_pos g_b])) rfl
  · skip
    refine wp_aload_n (i := 0) dX11_addReference_6 rfl rfl ?_
    refine wp_get 12 7 (vi (nI (CS_rn X))) dX11_addReference_7 hR.mk (by decide) (by decide) fl_X11_44 (congrArg (fun z => toV (vi z)) (hR.i7)) ?_
    refine wp_bipush (nI 6) dX11_addReference_10 (by decide) ?_
    refine wp_icmp_ltN 26 dX11_addReference_12 (by decide) (by omega) (by decide) (fun c_12 => ?_) (fun c_12 => ?_)
    · skip
      refine wp_aload_n (i := 0) dX11_addReference_26 rfl rfl ?_
      refine wp_get 12 6 (vr (some (nm 40 6))) dX11_addReference_27 hR.mk (by decide) (by decide) fl_X11_40 (congrArg (fun z => toV (vr z)) (hR.f6)) ?_
      refine wp_aload_n (i := 0) dX11_addReference_30 rfl rfl ?_
      refine wp_get 12 7 (vi (nI (CS_rn X))) dX11_addReference_31 hR.mk (by decide) (by decide) fl_X11_44 (congrArg (fun z => toV (vi z)) (hR.i7)) ?_
      refine wp_new 7 dX11_addReference_34 (by decide) kl_X11_38 ins_X5 ini_X5 (by omega) (by show 7 ≤ _; omega) (nm 53 (CS_rn X)) (hR.2.2.2.2.2.1 _ (Nat.le_refl _)) ?_
      refine wp_dup dX11_addReference_37 ?_
      refine wp_iload_n (i := 1) dX11_addReference_38 rfl rfl ?_
      refine wp_iload_n (i := 2) dX11_addReference_39 rfl rfl ?_
      refine wp_iload_n (i := 3) dX11_addReference_40 rfl rfl ?_
      refine wp_cI (y' := m_X5_init) [vi v, vi lo, vi hi] [vr (some (nm 53 (CS_rn X))), vi (nI (CS_rn X)), vr (some (nm 40 6))] 2 20 dX11_addReference_41 ml_X11_325 im_X5_init rfl rfl ok_X5_init rfl (Nat.le_of_ble_eq_true rfl) rfl (Nat.le_of_ble_eq_true rfl) (d' := d - 1) (by omega) (by omega) (by omega) (c_X5_init (r := CS_rn X) (hR.2.2.2.2.2.2.1 _ (Nat.le_refl _)) (hR.2.2.2.2.2.2.2.1 _ (Nat.le_refl _)) (by omega) (by omega) (by omega) (fun h1 K1 F1 => cont_void ?_))
      have ep : ce h1 (nm 40 0) = ce h (nm 40 0) := F1 _ (CRf_n (by omega) (by decide))
      have ea : ce h1 (nm 40 6) = ce h (nm 40 6) := F1 _ (CRf_n (by omega) (by decide))
      refine wp_aastoreN 7 6 dX11_addReference_44 ((arTy_112 ((ce_k ea).trans hR.k6))) (by decide) ((ce_n ea).trans hR.n6) (by omega) (by decide) (fun v hv => by cases hv; exact K1.k0) ?_
      refine wp_aload_n (i := 0) dX11_addReference_45 rfl rfl ?_
      refine wp_dup dX11_addReference_46 ?_
      refine wp_get 12 7 (vi (nI (CS_rn X))) dX11_addReference_47 ((ce_k ep).trans hR.mk) (by decide) (by decide) fl_X11_44 (congrArg (fun z => toV (vi z)) ((congrFun (ce_I ep) 7).trans hR.i7)) ?_
      refine wp_iconst (nI 1) dX11_addReference_50 (by decide) ?_
      refine wp_iaddN dX11_addReference_51 ?_
      refine wp_putI 12 7 dX11_addReference_52 ((ce_k ep).trans hR.mk) (by decide) (by decide) (by decide) fl_X11_44 rfl (fun _ _ => rfl) rfl rfl ?_
      refine wp_aload_n (i := 0) dX11_addReference_55 rfl rfl ?_
      refine wp_get 12 7 (vi (nI (CS_rn X + 1))) dX11_addReference_56 ((ce_k ep).trans hR.mk) (by decide) (by decide) fl_X11_44 (congrArg (fun z => toV (vi z)) (by rw [gI_wI, if_pos ⟨rfl, rfl⟩])) ?_
      refine wp_iconst (nI 1) dX11_addReference_59 (by decide) ?_
      refine wp_isubN dX11_addReference_60 (by omega) ?_
      refine wp_ireturn dX11_addReference_61 rfl ?_
      obtain ⟨R9, G9⟩ := hR.addR (by omega) F1 K1
      have e : CS_rn X + 1 - 1 = RS_rn S := by omega
      rw [show o_addReference S v lo hi = (nI 0, nI (RS_rn S), RS_urr (RS_urn S (RS_rn S + 1)) (va_up (RS_rr S) (RS_rn S) (lo, hi, 2, v, [(0, v)]))) from by unfold o_addReference; rw [if_neg (by rw [b_b]; decide), if_neg (by omega)]] at hq
      have hz := hq.2 rfl _ _ R9 hs.addR G9
      rw [e]
      exact hz
    · skip
      refine wp_throw dX11_addReference_15 dX11_addReference_18 dX11_addReference_19 dX11_addReference_22 dX11_addReference_25 th_320 sr_X11_322 rfl (by omega) (by omega) (by omega) ?_
      exact hq.1 1 _ (congrArg (fun z => z.1) (show o_addReference S v lo hi = (nI 2, nI 0, S) from by unfold o_addReference; rw [if_neg (by rw [b_b]; decide), if_pos (by omega)])) rfl
set_option maxRecDepth 100000 in
set_option maxHeartbeats 4000000 in
theorem c_X11_addAgent {G : GG} {d bc bs : Nat} {h : Hp} {Q : Pst} {X : CS} {S : RS} (hR : CR h X) (hs : SIM X S) {n : Nat} (hB : RB n S) {v lo hi : Int32} {md : Nat} (hmd : md < 65536) (hd : 12 ≤ d) (hbc : 6 ≤ bc) (hbs : 60 ≤ bs) (hq : KO Q h ["java/lang/IllegalArgumentException", "java/lang/IllegalStateException"] (o_addAgent S v lo hi (nI md))) : WP G m_X11_addAgent d 0 (aargs 0 [vr (some (nm 40 0)), vi v, vi lo, vi hi, vi (nI md)]) [] h bc bs Q := by
  have hG := FRK.rf (h := h)
  have hrn : CS_rn X = RS_rn S := hs.1.1
  have han : CS_an X = RS_an S := hs.1.2.1
  have hbi : CS_bi X = RS_bg S := hs.1.2.2.1
  have hpr : CS_pr X = RS_mo S := hs.1.2.2.2.1
  have hlg : CS_lg X = RS_lg S := hs.1.2.2.2.2
  have hb0 := hB.1
  have q7 : clN 7 = 7 := rfl
  have q3 : clN 3 = 7 := rfl
  refine wp_sub [(0, vr (some (nm 40 0))), (1, vi v), (2, vi lo), (3, vi hi), (4, vi (nI md))] (fun _ hz => hz) ?_
  refine wp_iload_n (i := 1) dX11_addAgent_0 rfl rfl ?_
  refine wp_iload_n (i := 2) dX11_addAgent_1 rfl rfl ?_
  refine wp_iload_n (i := 3) dX11_addAgent_2 rfl rfl ?_
  refine wp_cS (y' := m_X11_refuseBounds) [vi v, vi lo, vi hi] [] 1 6 dX11_addAgent_3 ml_X11_317 st_X11_refuseBounds ok_X11_refuseBounds rfl (Nat.le_of_ble_eq_true rfl) rfl (Nat.le_of_ble_eq_true rfl) (d' := d - 1) (by omega) (by omega) (by omega) (c_X11_refuseBounds (by omega) (by omega) (by omega) (fun g_b => cont_thr rfl ?_) (fun b_b => cont_void ?_))
  · exact hq.1 0 _ (congrArg (fun z => z.1) (show o_addAgent S v lo hi (nI md) = (nI 1, nI 0, S) from by unfold o_addAgent; rw [if_pos (Or.inl g_b)])) rfl
  · skip
    refine wp_iload (i := 4) dX11_addAgent_6 rfl ?_
    refine wp_bipush (nI 102) dX11_addAgent_8 (by decide) ?_
    refine wp_icmp_eqN 31 dX11_addAgent_10 (by decide) (by omega) (by decide) (fun c_10 => ?_) (fun c_10 => ?_)
    · skip
      refine wp_aload_n (i := 0) dX11_addAgent_31 rfl rfl ?_
      refine wp_get 12 13 (vi (nI (CS_an X))) dX11_addAgent_32 hR.mk (by decide) (by decide) fl_X11_72 (congrArg (fun z => toV (vi z)) (hR.i13)) ?_
      refine wp_iconst (nI 4) dX11_addAgent_35 (by decide) ?_
      refine wp_icmp_ltN 50 dX11_addAgent_36 (by decide) (by omega) (by decide) (fun c_36 => ?_) (fun c_36 => ?_)
      · skip
        refine wp_aload_n (i := 0) dX11_addAgent_50 rfl rfl ?_
        refine wp_get 12 12 (vr (some (nm 40 12))) dX11_addAgent_51 hR.mk (by decide) (by decide) fl_X11_68 (congrArg (fun z => toV (vr z)) (hR.f12)) ?_
        refine wp_aload_n (i := 0) dX11_addAgent_54 rfl rfl ?_
        refine wp_get 12 13 (vi (nI (CS_an X))) dX11_addAgent_55 hR.mk (by decide) (by decide) fl_X11_72 (congrArg (fun z => toV (vi z)) (hR.i13)) ?_
        refine wp_new 3 dX11_addAgent_58 (by decide) kl_X11_66 ins_X0 ini_X0 (by omega) (by show 7 ≤ _; omega) (nm 65 (CS_an X)) (hR.2.2.2.2.2.2.2.2.1 _ (Nat.le_refl _)) ?_
        refine wp_dup dX11_addAgent_61 ?_
        refine wp_iload_n (i := 1) dX11_addAgent_62 rfl rfl ?_
        refine wp_iload_n (i := 2) dX11_addAgent_63 rfl rfl ?_
        refine wp_iload_n (i := 3) dX11_addAgent_64 rfl rfl ?_
        refine wp_iload (i := 4) dX11_addAgent_65 rfl ?_
        refine wp_bipush (nI 102) dX11_addAgent_67 (by decide) ?_
        refine wp_icmp_neN 76 dX11_addAgent_69 (by decide) (by omega) (by decide) (fun c_69 => absurd c_69 (fun z => z c_10)) (fun c_69 => ?_)
        refine wp_iconst (nI 1) dX11_addAgent_72 (by decide) ?_
        refine wp_goto 77 dX11_addAgent_73 (by decide) ?_
        refine wp_cI (y' := m_X0_init) [vi v, vi lo, vi hi, vi (nI 1)] [vr (some (nm 65 (CS_an X))), vi (nI (CS_an X)), vr (some (nm 40 12))] 2 20 dX11_addAgent_77 ml_X11_451 im_X0_init rfl rfl ok_X0_init rfl (Nat.le_of_ble_eq_true rfl) rfl (Nat.le_of_ble_eq_true rfl) (d' := d - 1) (by omega) (by omega) (by omega) (c_X0_init (a := CS_an X) (fe := true) (hR.2.2.2.2.2.2.2.2.2.1 _ (Nat.le_refl _)) (hR.2.2.2.2.2.2.2.2.2.2.1 _ (Nat.le_refl _)) (by omega) (by omega) (by omega) (fun h1 K1 F1 => cont_void ?_))
        have ep : ce h1 (nm 40 0) = ce h (nm 40 0) := F1 _ (CA_n (by omega) (by decide))
        have ea : ce h1 (nm 40 12) = ce h (nm 40 12) := F1 _ (CA_n (by omega) (by decide))
        refine wp_aastoreN 3 4 dX11_addAgent_80 ((arTy_114 ((ce_k ea).trans hR.k12))) (by decide) ((ce_n ea).trans hR.n12) (by omega) (by decide) (fun v hv => by cases hv; exact K1.k0) ?_
        refine wp_aload_n (i := 0) dX11_addAgent_81 rfl rfl ?_
        refine wp_dup dX11_addAgent_82 ?_
        refine wp_get 12 13 (vi (nI (CS_an X))) dX11_addAgent_83 ((ce_k ep).trans hR.mk) (by decide) (by decide) fl_X11_72 (congrArg (fun z => toV (vi z)) ((congrFun (ce_I ep) 13).trans hR.i13)) ?_
        refine wp_iconst (nI 1) dX11_addAgent_86 (by decide) ?_
        refine wp_iaddN dX11_addAgent_87 ?_
        refine wp_putI 12 13 dX11_addAgent_88 ((ce_k ep).trans hR.mk) (by decide) (by decide) (by decide) fl_X11_72 rfl (fun _ _ => rfl) rfl rfl ?_
        refine wp_aload_n (i := 0) dX11_addAgent_91 rfl rfl ?_
        refine wp_get 12 13 (vi (nI (CS_an X + 1))) dX11_addAgent_92 ((ce_k ep).trans hR.mk) (by decide) (by decide) fl_X11_72 (congrArg (fun z => toV (vi z)) (by rw [gI_wI, if_pos ⟨rfl, rfl⟩])) ?_
        refine wp_iconst (nI 1) dX11_addAgent_95 (by decide) ?_
        refine wp_isubN dX11_addAgent_96 (by omega) ?_
        refine wp_ireturn dX11_addAgent_97 rfl ?_
        obtain ⟨R9, G9⟩ := hR.addA (by omega) F1 K1
        have e : CS_an X + 1 - 1 = RS_an S := by omega
        rw [show o_addAgent S v lo hi (nI md) = (nI 0, nI (RS_an S), RS_uaa (RS_uan S (RS_an S + 1)) (va_up (RS_aa S) (RS_an S) (v, lo, hi, nI md, false, 0, []))) from by unfold o_addAgent; rw [if_neg (fun z => z.elim (fun y => absurd (b_b.symm.trans y) (by decide)) (fun y => y.1 (by rw [c_10]))), if_neg (by omega)]] at hq
        have hz := hq.2 rfl _ _ R9 (hs.addA (by rw [c_10]; rfl)) G9
        rw [e]
        exact hz
      · skip
        refine wp_throw dX11_addAgent_39 dX11_addAgent_42 dX11_addAgent_43 dX11_addAgent_46 dX11_addAgent_49 th_320 sr_X11_449 rfl (by omega) (by omega) (by omega) ?_
        exact hq.1 1 _ (congrArg (fun z => z.1) (show o_addAgent S v lo hi (nI md) = (nI 2, nI 0, S) from by unfold o_addAgent; rw [if_neg (fun z => z.elim (fun y => absurd (b_b.symm.trans y) (by decide)) (fun y => y.1 (by rw [c_10]))), if_pos (by omega)])) rfl
    · skip
      refine wp_iload (i := 4) dX11_addAgent_13 rfl ?_
      refine wp_bipush (nI 99) dX11_addAgent_15 (by decide) ?_
      refine wp_icmp_eqN 31 dX11_addAgent_17 (by decide) (by omega) (by decide) (fun c_17 => ?_) (fun c_17 => ?_)
      · skip
        refine wp_aload_n (i := 0) dX11_addAgent_31 rfl rfl ?_
        refine wp_get 12 13 (vi (nI (CS_an X))) dX11_addAgent_32 hR.mk (by decide) (by decide) fl_X11_72 (congrArg (fun z => toV (vi z)) (hR.i13)) ?_
        refine wp_iconst (nI 4) dX11_addAgent_35 (by decide) ?_
        refine wp_icmp_ltN 50 dX11_addAgent_36 (by decide) (by omega) (by decide) (fun c_36 => ?_) (fun c_36 => ?_)
        · skip
          refine wp_aload_n (i := 0) dX11_addAgent_50 rfl rfl ?_
          refine wp_get 12 12 (vr (some (nm 40 12))) dX11_addAgent_51 hR.mk (by decide) (by decide) fl_X11_68 (congrArg (fun z => toV (vr z)) (hR.f12)) ?_
          refine wp_aload_n (i := 0) dX11_addAgent_54 rfl rfl ?_
          refine wp_get 12 13 (vi (nI (CS_an X))) dX11_addAgent_55 hR.mk (by decide) (by decide) fl_X11_72 (congrArg (fun z => toV (vi z)) (hR.i13)) ?_
          refine wp_new 3 dX11_addAgent_58 (by decide) kl_X11_66 ins_X0 ini_X0 (by omega) (by show 7 ≤ _; omega) (nm 65 (CS_an X)) (hR.2.2.2.2.2.2.2.2.1 _ (Nat.le_refl _)) ?_
          refine wp_dup dX11_addAgent_61 ?_
          refine wp_iload_n (i := 1) dX11_addAgent_62 rfl rfl ?_
          refine wp_iload_n (i := 2) dX11_addAgent_63 rfl rfl ?_
          refine wp_iload_n (i := 3) dX11_addAgent_64 rfl rfl ?_
          refine wp_iload (i := 4) dX11_addAgent_65 rfl ?_
          refine wp_bipush (nI 102) dX11_addAgent_67 (by decide) ?_
          refine wp_icmp_neN 76 dX11_addAgent_69 (by decide) (by omega) (by decide) (fun c_69 => ?_) (fun c_69 => absurd c_69 (by omega))
          refine wp_iconst (nI 0) dX11_addAgent_76 (by decide) ?_
          refine wp_cI (y' := m_X0_init) [vi v, vi lo, vi hi, vi (nI 0)] [vr (some (nm 65 (CS_an X))), vi (nI (CS_an X)), vr (some (nm 40 12))] 2 20 dX11_addAgent_77 ml_X11_451 im_X0_init rfl rfl ok_X0_init rfl (Nat.le_of_ble_eq_true rfl) rfl (Nat.le_of_ble_eq_true rfl) (d' := d - 1) (by omega) (by omega) (by omega) (c_X0_init (a := CS_an X) (fe := false) (hR.2.2.2.2.2.2.2.2.2.1 _ (Nat.le_refl _)) (hR.2.2.2.2.2.2.2.2.2.2.1 _ (Nat.le_refl _)) (by omega) (by omega) (by omega) (fun h1 K1 F1 => cont_void ?_))
          have ep : ce h1 (nm 40 0) = ce h (nm 40 0) := F1 _ (CA_n (by omega) (by decide))
          have ea : ce h1 (nm 40 12) = ce h (nm 40 12) := F1 _ (CA_n (by omega) (by decide))
          refine wp_aastoreN 3 4 dX11_addAgent_80 ((arTy_114 ((ce_k ea).trans hR.k12))) (by decide) ((ce_n ea).trans hR.n12) (by omega) (by decide) (fun v hv => by cases hv; exact K1.k0) ?_
          refine wp_aload_n (i := 0) dX11_addAgent_81 rfl rfl ?_
          refine wp_dup dX11_addAgent_82 ?_
          refine wp_get 12 13 (vi (nI (CS_an X))) dX11_addAgent_83 ((ce_k ep).trans hR.mk) (by decide) (by decide) fl_X11_72 (congrArg (fun z => toV (vi z)) ((congrFun (ce_I ep) 13).trans hR.i13)) ?_
          refine wp_iconst (nI 1) dX11_addAgent_86 (by decide) ?_
          refine wp_iaddN dX11_addAgent_87 ?_
          refine wp_putI 12 13 dX11_addAgent_88 ((ce_k ep).trans hR.mk) (by decide) (by decide) (by decide) fl_X11_72 rfl (fun _ _ => rfl) rfl rfl ?_
          refine wp_aload_n (i := 0) dX11_addAgent_91 rfl rfl ?_
          refine wp_get 12 13 (vi (nI (CS_an X + 1))) dX11_addAgent_92 ((ce_k ep).trans hR.mk) (by decide) (by decide) fl_X11_72 (congrArg (fun z => toV (vi z)) (by rw [gI_wI, if_pos ⟨rfl, rfl⟩])) ?_
          refine wp_iconst (nI 1) dX11_addAgent_95 (by decide) ?_
          refine wp_isubN dX11_addAgent_96 (by omega) ?_
          refine wp_ireturn dX11_addAgent_97 rfl ?_
          obtain ⟨R9, G9⟩ := hR.addA (by omega) F1 K1
          have e : CS_an X + 1 - 1 = RS_an S := by omega
          rw [show o_addAgent S v lo hi (nI md) = (nI 0, nI (RS_an S), RS_uaa (RS_uan S (RS_an S + 1)) (va_up (RS_aa S) (RS_an S) (v, lo, hi, nI md, false, 0, []))) from by unfold o_addAgent; rw [if_neg (fun z => z.elim (fun y => absurd (b_b.symm.trans y) (by decide)) (fun y => y.2 (by rw [c_17]))), if_neg (by omega)]] at hq
          have hz := hq.2 rfl _ _ R9 (hs.addA (by rw [c_17]; rfl)) G9
          rw [e]
          exact hz
        · skip
          refine wp_throw dX11_addAgent_39 dX11_addAgent_42 dX11_addAgent_43 dX11_addAgent_46 dX11_addAgent_49 th_320 sr_X11_449 rfl (by omega) (by omega) (by omega) ?_
          exact hq.1 1 _ (congrArg (fun z => z.1) (show o_addAgent S v lo hi (nI md) = (nI 2, nI 0, S) from by unfold o_addAgent; rw [if_neg (fun z => z.elim (fun y => absurd (b_b.symm.trans y) (by decide)) (fun y => y.2 (by rw [c_17]))), if_pos (by omega)])) rfl
      · skip
        refine wp_throw dX11_addAgent_20 dX11_addAgent_23 dX11_addAgent_24 dX11_addAgent_27 dX11_addAgent_30 th_189 sr_X11_447 rfl (by omega) (by omega) (by omega) ?_
        exact hq.1 0 _ (congrArg (fun z => z.1) (show o_addAgent S v lo hi (nI md) = (nI 1, nI 0, S) from by unfold o_addAgent; rw [if_pos (Or.inr ⟨fun z => c_10 (nI_j (by omega) (by decide) z), fun z => c_17 (nI_j (by omega) (by decide) z)⟩)])) rfl
