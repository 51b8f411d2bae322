/-! The model: send. -/
theorem in99 {z : Int32} (h : inB z (-99) (nI 99) = true) : -128 ≤ z.toInt ∧ z.toInt ≤ 127 := by
  unfold inB at h
  have h1 := Bool.and_eq_true_iff.mp h
  have a := i32_le.mp (of_decide_eq_true h1.1)
  have b := i32_le.mp (of_decide_eq_true h1.2)
  have c : (-99 : Int32).toInt = -99 := by decide
  have d : (nI 99).toInt = 99 := by decide
  omega
def o_send (S : RS) (v : Int32) (t : Nat) (w : Int32) (a : Nat) (z : Int32) : Int32 × Int32 × RS :=
  if (v ≠ -1 ∧ (!ixB v 3) = true) ∨ inB z (-99) (nI 99) = false then (nI 1, nI 0, S) else if (!ixB w (RS_an S)) = true then (nI 2, nI 0, S) else if v ≠ -1 ∧ (!OT_op (RS_tt S t)) = true then (nI 3, nI 0, S)
  else if v = -1 then (nI 0, nI (tkL (OA_row (RS_aa S a)) z).length, RS_uaa1 S a (OA_urow (RS_aa S a) (tkL (OA_row (RS_aa S a)) z)))
  else (nI 0, nI (OA_row (RS_aa S a)).length, RS_utt1 S t (OT_usq (RS_tt S t) (OT_sq (RS_tt S t) ++ [(a, z)])))
set_option maxRecDepth 100000 in
set_option maxHeartbeats 4000000 in
theorem c_X16_send {G : GG} {d bc bs : Nat} {h : Hp} {Q : Pst} {S : RS} (hR : MR h S) {n : Nat} (hB : RB n S) (hP : PO2 h) {v : Int32} {t : Nat} (hv : ixB v 3 = true → v = nI t ∧ t < 3) {w : Int32} {a : Nat} (hw : ixB w (RS_an S) = true → w = nI a ∧ a < RS_an S) {z : Int32} (J : JC h) (hbc : 2 ≤ bc) (hbs : 1300 ≤ bs) (hd : 12 ≤ d) (hq : RO Q h (o_send S v t w a z)) : WP G m_X16_send d 0 (aargs 0 [vr (some (nm 1 0)), vi v, vi w, vi z]) [] h bc bs Q := by
  refine wp_sub [(0, vr (some (nm 1 0))), (1, vi v), (2, vi w), (3, vi z)] (fun _ hz => hz) ?_
  have hG := FRR.rf (h := h)
  have hB16 := hB.h16
  have hbb := hB.1
  refine wp_aload_n (i := 0) dX16_send_0 rfl rfl ?_
  refine wp_iconst (nI 0) dX16_send_1 (by decide) ?_
  refine wp_putI 17 0 dX16_send_2 hR.mk (by decide) (by decide) (by decide) fl_X16_63 rfl (fun _ _ => rfl) rfl rfl ?_
  have hR1 := hR.w0 (x := (nI 0))
  have hG2 := hG.tr (FRR.w0 (x := (nI 0)))
  have hP3 := PO2.m (a := nm 1 0) (k := 0) (x := (nI 0)) hP
  refine wp_aload_n (i := 0) dX16_send_5 rfl rfl ?_
  refine wp_iload_n (i := 1) dX16_send_6 rfl rfl ?_
  refine wp_iconst (-1) dX16_send_7 (by decide) ?_
  refine wp_icmp_eq 18 dX16_send_8 (by decide) (fun c_8 => ?_) (fun c_8 => ?_)
  · skip
    refine wp_iload_n (i := 3) dX16_send_18 rfl rfl ?_
    refine wp_bipush (-99) dX16_send_19 (by decide) ?_
    refine wp_bipush (nI 99) dX16_send_21 (by decide) ?_
    refine wp_cS (y' := m_X16_in) [vi z, vi (-99), vi (nI 99)] [vr (some (nm 1 0))] 0 0 dX16_send_23 ml_X16_70 st_X16_in ok_X16_in rfl (Nat.le_of_ble_eq_true rfl) rfl (Nat.le_of_ble_eq_true rfl) (d' := d - 1) (by omega) (Nat.zero_le _) (Nat.zero_le _) (c_X16_in z (-99) (nI 99) (cont_ret ?_))
    refine wp_if_neB 33 dX16_send_26 (by decide) (fun c_26 => ?_) (fun c_26 => ?_)
    · skip
      refine wp_iconst (nI 0) dX16_send_33 (by decide) ?_
      refine wp_iconst (nI 1) dX16_send_34 (by decide) ?_
      refine wp_cV (y' := m_X16_fails) 17 [vi (nI 0), vi (nI 1)] [] 0 0 dX16_send_35 ml_X16_102 im_X16_fails se_X16_fails (by decide) hR1.mk ok_X16_fails rfl (Nat.le_of_ble_eq_true rfl) rfl (Nat.le_of_ble_eq_true rfl) (d' := d - 1) (by omega) (Nat.zero_le _) (Nat.zero_le _) (c_flF hR1.mk wI_ss (nI 1) (by decide) (cont_ret ?_))
      have g_1 : ¬ ((v ≠ -1 ∧ (!ixB v 3) = true) ∨ inB z (-99) (nI 99) = false) := by exact fun y => y.elim (fun y => by first | exact y.1 c_8 | exact Bool.false_ne_true (c_15.symm.trans y.2)) (fun y => Bool.false_ne_true (y.symm.trans c_26))
      refine wp_if_neN 80 dX16_send_38 (by decide) (by decide) (fun c_38 => absurd c_38 (by decide)) (fun c_38 => ?_)
      have hz9 : inB z (-99) (nI 99) = true := c_26
      have hz := in99 hz9
      have hz1 := hz.1
      have hz2 := hz.2
      refine wp_aload_n (i := 0) dX16_send_41 rfl rfl ?_
      refine wp_aload_n (i := 0) dX16_send_42 rfl rfl ?_
      refine wp_iload_n (i := 2) dX16_send_43 rfl rfl ?_
      refine wp_cV (y' := m_X16_noAgent) 17 [vi w] [vr (some (nm 1 0))] 0 0 dX16_send_44 ml_X16_357 im_X16_noAgent se_X16_noAgent (by decide) hR1.mk ok_X16_noAgent rfl (Nat.le_of_ble_eq_true rfl) rfl (Nat.le_of_ble_eq_true rfl) (d' := d - 1) (by omega) (Nat.zero_le _) (Nat.zero_le _) (c_X16_noAgent hR1 w (by omega) (cont_ret ?_))
      refine wp_iconst (nI 2) dX16_send_47 (by decide) ?_
      refine wp_cV (y' := m_X16_fails) 17 [vi (bI (!ixB w (RS_an S))), vi (nI 2)] [] 0 0 dX16_send_48 ml_X16_102 im_X16_fails se_X16_fails (by decide) hR1.mk ok_X16_fails rfl (Nat.le_of_ble_eq_true rfl) rfl (Nat.le_of_ble_eq_true rfl) (d' := d - 1) (by omega) (Nat.zero_le _) (Nat.zero_le _) (c_flB hR1.mk wI_ss (!ixB w (RS_an S)) (nI 2) (by decide) (fun c_48 => cont_ret ?_) (fun c_48 => cont_ret ?_))
      · have g_2 : (!ixB w (RS_an S)) = true := by first | exact c_48 | exact of_decide_eq_true c_48 | omega | (simp at c_48 ⊢; grind)
        have hR7 := hR1.w0 (x := nI 2)
        have hG8 := hG2.tr (FRR.w0 (x := nI 2))
        have hP9 := PO2.m (a := nm 1 0) (k := 0) (x := nI 2) hP3
        refine wp_if_neN 80 dX16_send_51 (by decide) (by decide) (fun c_51 => ?_) (fun c_51 => absurd c_51 (by decide))
        refine wp_iconst (nI 0) dX16_send_80 (by decide) ?_
        refine wp_ireturn dX16_send_81 rfl ?_
        rw [show o_send S v t w a z = (nI 2, nI 0, S) from by unfold o_send; rw [if_neg g_1, if_pos g_2]] at hq
        exact hq _ hG8 wI_ss hR7 hP9
      · have g_2 : ¬ ((!ixB w (RS_an S)) = true) := by first | exact fun z => Bool.false_ne_true (c_48.symm.trans z) | exact of_decide_eq_false c_48 | omega | (simp at c_48 ⊢; grind)
        obtain ⟨ew, ha⟩ := hw (nt_g g_2)
        subst ew
        have ha16 : a < 16 := by have := hB.1.2.2.1; omega
        have hb1 := hB.2.2.2 a ha
        have J1 := J.w (a := nm 1 0) (k := 0) (x := nI 0) (by unfold nm; omega)
        refine wp_if_neN 80 dX16_send_51 (by decide) (by decide) (fun c_51 => absurd c_51 (by decide)) (fun c_51 => ?_)
        refine wp_aload_n (i := 0) dX16_send_54 rfl rfl ?_
        refine wp_iload_n (i := 1) dX16_send_55 rfl rfl ?_
        refine wp_iconst (-1) dX16_send_56 (by decide) ?_
        refine wp_icmp_eq 72 dX16_send_57 (by decide) (fun c_57 => ?_) (fun c_57 => absurd c_57 (fun y => y c_8))
        refine wp_iconst (nI 0) dX16_send_72 (by decide) ?_
        refine wp_iconst (nI 3) dX16_send_73 (by decide) ?_
        refine wp_cV (y' := m_X16_fails) 17 [vi (nI 0), vi (nI 3)] [] 0 0 dX16_send_74 ml_X16_102 im_X16_fails se_X16_fails (by decide) hR1.mk ok_X16_fails rfl (Nat.le_of_ble_eq_true rfl) rfl (Nat.le_of_ble_eq_true rfl) (d' := d - 1) (by omega) (Nat.zero_le _) (Nat.zero_le _) (c_flF hR1.mk wI_ss (nI 3) (by decide) (cont_ret ?_))
        have g_3 : ¬ (v ≠ -1 ∧ (!OT_op (RS_tt S t)) = true) := by exact fun y => by first | exact y.1 c_8 | exact Bool.false_ne_true (c_65.symm.trans y.2)
        refine wp_if_eqN 82 dX16_send_77 (by decide) (by decide) (fun c_77 => ?_) (fun c_77 => absurd c_77 (by decide))
        refine wp_iload_n (i := 1) dX16_send_82 rfl rfl ?_
        refine wp_iconst (-1) dX16_send_83 (by decide) ?_
        refine wp_icmp_ne 105 dX16_send_84 (by decide) (fun c_84 => absurd c_84 (fun y => y c_8)) (fun c_84 => ?_)
        refine wp_aload_n (i := 0) dX16_send_87 rfl rfl ?_
        refine wp_get 17 18 (vr (some (nm 1 18))) dX16_send_88 hR1.mk (by decide) (by decide) fl_X16_60 (congrArg (fun z => toV (vr z)) (hR1.ref 18 (by decide) (by decide) (by decide) (by decide))) ?_
        refine wp_iload_n (i := 2) dX16_send_91 rfl rfl ?_
        refine wp_cV (y' := m_Jx4a65c_get_915e3) 2 [vi (nI a)] [] 0 0 dX16_send_92 ml_X16_201 im_Jx4a65c_get_915e3 se_Jx4a65c_get_915e3 (by decide) hR1.al.k ok_Jx4a65c_get_915e3 rfl (Nat.le_of_ble_eq_true rfl) rfl (Nat.le_of_ble_eq_true rfl) (d' := d - 1) (by omega) (Nat.zero_le _) (Nat.zero_le _) (c_LO_get hR1.al ha (by omega) (cont_ret ?_))
        refine wp_castC 13 dX16_send_95 (by decide) kl_X16_346 (fun a ha => by cases ha; exact (hR1.a ha).k0) ?_
        refine wp_iload_n (i := 3) dX16_send_98 rfl rfl ?_
        refine wp_cV (y' := m_X12_take) 13 [vi z] [] 1 40 dX16_send_99 ml_X16_348 im_X12_take se_X12_take (by decide) (hR1.a ha).k0 ok_X12_take rfl (Nat.le_of_ble_eq_true rfl) rfl (Nat.le_of_ble_eq_true rfl) (d' := d - 1) (by omega) (by omega) (by omega) (c_X12_take (hR1.a ha) J1 (by omega) hb1.1 hz1 hz2 (by omega) (Nat.le_refl _) (Nat.le_refl _) (fun h15 hO13 hF14 => cont_void ?_))
        refine wp_goto 133 dX16_send_102 (by decide) ?_
        refine wp_aload_n (i := 0) dX16_send_133 rfl rfl ?_
        refine wp_get 17 18 (vr (some (nm 1 18))) dX16_send_134 ((ce_k (hF14 (nm 1 0) (WAg_n (by omega) (by decide)))).trans hR1.mk) (by decide) (by decide) fl_X16_60 (congrArg (fun z => toV (vr z)) ((congrFun (ce_R (hF14 (nm 1 0) (WAg_n (by omega) (by decide)))) 18).trans (hR1.ref 18 (by decide) (by decide) (by decide) (by decide)))) ?_
        refine wp_iload_n (i := 2) dX16_send_137 rfl rfl ?_
        have hP16 := (hP3).oA hF14
        have hR17 := hR1.upA ha hF14 hO13 hB16
        have hG18 := hG2.tr (FRR.oA hF14)
        refine wp_cV (y' := m_Jx4a65c_get_915e3) 2 [vi (nI a)] [] 0 0 dX16_send_138 ml_X16_201 im_Jx4a65c_get_915e3 se_Jx4a65c_get_915e3 (by decide) hR17.al.k ok_Jx4a65c_get_915e3 rfl (Nat.le_of_ble_eq_true rfl) rfl (Nat.le_of_ble_eq_true rfl) (d' := d - 1) (by omega) (Nat.zero_le _) (Nat.zero_le _) (c_LO_get hR17.al ha (by omega) (cont_ret ?_))
        refine wp_castC 13 dX16_send_141 (by decide) kl_X16_346 (fun a ha => by cases ha; exact (hR17.a ha).k0) ?_
        refine wp_get 13 6 (vr (some (nm 14 a))) dX16_send_144 (hR17.a ha).k0 (by decide) (by decide) fl_X16_360 (congrArg (fun z => toV (vr z)) ((hR17.a ha).r7_6)) ?_
        refine wp_cV (y' := m_Jx4a65c_size_8abf5) 2 [] [] 0 0 dX16_send_147 ml_X16_168 im_Jx4a65c_size_8abf5 se_Jx4a65c_size_8abf5 (by decide) (LNm.k (hR17.a ha).N8) ok_Jx4a65c_size_8abf5 rfl (Nat.le_of_ble_eq_true rfl) rfl (Nat.le_of_ble_eq_true rfl) (d' := d - 1) (by omega) (Nat.zero_le _) (Nat.zero_le _) (c_LN_size (hR17.a ha).N8 (cont_ret ?_))
        refine wp_ireturn dX16_send_150 rfl ?_
        rw [show RS_aa (RS_uaa1 S a (OA_urow (RS_aa S a) (tkL (OA_row (RS_aa S a)) z))) a = (OA_urow (RS_aa S a) (tkL (OA_row (RS_aa S a)) z)) from va_up_self _ _ _]
        rw [show o_send S v t (nI a) a z = (nI 0, (nI (tkL (OA_row (RS_aa S a)) z).length), RS_uaa1 S a (OA_urow (RS_aa S a) (tkL (OA_row (RS_aa S a)) z))) from by unfold o_send; rw [if_neg g_1, if_neg g_2, if_neg g_3, if_pos c_8] <;> rfl] at hq
        exact hq _ hG18 ((th_oA hF14).trans wI_ss) hR17 hP16
    · skip
      refine wp_iconst (nI 1) dX16_send_29 (by decide) ?_
      refine wp_goto 34 dX16_send_30 (by decide) ?_
      refine wp_iconst (nI 1) dX16_send_34 (by decide) ?_
      refine wp_cV (y' := m_X16_fails) 17 [vi (nI 1), vi (nI 1)] [] 0 0 dX16_send_35 ml_X16_102 im_X16_fails se_X16_fails (by decide) hR1.mk ok_X16_fails rfl (Nat.le_of_ble_eq_true rfl) rfl (Nat.le_of_ble_eq_true rfl) (d' := d - 1) (by omega) (Nat.zero_le _) (Nat.zero_le _) (c_flT hR1.mk wI_ss (nI 1) (by decide) (cont_ret ?_))
      have g_1 : (v ≠ -1 ∧ (!ixB v 3) = true) ∨ inB z (-99) (nI 99) = false := by first | exact Or.inl ⟨c_8, c_15⟩ | exact Or.inr c_26
      have hR19 := hR1.w0 (x := nI 1)
      have hG20 := hG2.tr (FRR.w0 (x := nI 1))
      have hP21 := PO2.m (a := nm 1 0) (k := 0) (x := nI 1) hP3
      refine wp_if_neN 80 dX16_send_38 (by decide) (by decide) (fun c_38 => ?_) (fun c_38 => absurd c_38 (by decide))
      refine wp_iconst (nI 0) dX16_send_80 (by decide) ?_
      refine wp_ireturn dX16_send_81 rfl ?_
      rw [show o_send S v t w a z = (nI 1, nI 0, S) from by unfold o_send; rw [if_pos g_1]] at hq
      exact hq _ hG20 wI_ss hR19 hP21
  · skip
    refine wp_iload_n (i := 1) dX16_send_11 rfl rfl ?_
    refine wp_cS (y' := m_X16_noTransaction) [vi v] [vr (some (nm 1 0))] 0 0 dX16_send_12 ml_X16_250 st_X16_noTransaction ok_X16_noTransaction rfl (Nat.le_of_ble_eq_true rfl) rfl (Nat.le_of_ble_eq_true rfl) (d' := d - 1) (by omega) (Nat.zero_le _) (Nat.zero_le _) (c_X16_noTransaction v (by omega) (cont_ret ?_))
    refine wp_if_neB 29 dX16_send_15 (by decide) (fun c_15 => ?_) (fun c_15 => ?_)
    · skip
      refine wp_iconst (nI 1) dX16_send_29 (by decide) ?_
      refine wp_goto 34 dX16_send_30 (by decide) ?_
      refine wp_iconst (nI 1) dX16_send_34 (by decide) ?_
      refine wp_cV (y' := m_X16_fails) 17 [vi (nI 1), vi (nI 1)] [] 0 0 dX16_send_35 ml_X16_102 im_X16_fails se_X16_fails (by decide) hR1.mk ok_X16_fails rfl (Nat.le_of_ble_eq_true rfl) rfl (Nat.le_of_ble_eq_true rfl) (d' := d - 1) (by omega) (Nat.zero_le _) (Nat.zero_le _) (c_flT hR1.mk wI_ss (nI 1) (by decide) (cont_ret ?_))
      have g_1 : (v ≠ -1 ∧ (!ixB v 3) = true) ∨ inB z (-99) (nI 99) = false := by first | exact Or.inl ⟨c_8, c_15⟩ | exact Or.inr c_26
      have hR22 := hR1.w0 (x := nI 1)
      have hG23 := hG2.tr (FRR.w0 (x := nI 1))
      have hP24 := PO2.m (a := nm 1 0) (k := 0) (x := nI 1) hP3
      refine wp_if_neN 80 dX16_send_38 (by decide) (by decide) (fun c_38 => ?_) (fun c_38 => absurd c_38 (by decide))
      refine wp_iconst (nI 0) dX16_send_80 (by decide) ?_
      refine wp_ireturn dX16_send_81 rfl ?_
      rw [show o_send S v t w a z = (nI 1, nI 0, S) from by unfold o_send; rw [if_pos g_1]] at hq
      exact hq _ hG23 wI_ss hR22 hP24
    · skip
      refine wp_iload_n (i := 3) dX16_send_18 rfl rfl ?_
      refine wp_bipush (-99) dX16_send_19 (by decide) ?_
      refine wp_bipush (nI 99) dX16_send_21 (by decide) ?_
      refine wp_cS (y' := m_X16_in) [vi z, vi (-99), vi (nI 99)] [vr (some (nm 1 0))] 0 0 dX16_send_23 ml_X16_70 st_X16_in ok_X16_in rfl (Nat.le_of_ble_eq_true rfl) rfl (Nat.le_of_ble_eq_true rfl) (d' := d - 1) (by omega) (Nat.zero_le _) (Nat.zero_le _) (c_X16_in z (-99) (nI 99) (cont_ret ?_))
      refine wp_if_neB 33 dX16_send_26 (by decide) (fun c_26 => ?_) (fun c_26 => ?_)
      · skip
        refine wp_iconst (nI 0) dX16_send_33 (by decide) ?_
        refine wp_iconst (nI 1) dX16_send_34 (by decide) ?_
        refine wp_cV (y' := m_X16_fails) 17 [vi (nI 0), vi (nI 1)] [] 0 0 dX16_send_35 ml_X16_102 im_X16_fails se_X16_fails (by decide) hR1.mk ok_X16_fails rfl (Nat.le_of_ble_eq_true rfl) rfl (Nat.le_of_ble_eq_true rfl) (d' := d - 1) (by omega) (Nat.zero_le _) (Nat.zero_le _) (c_flF hR1.mk wI_ss (nI 1) (by decide) (cont_ret ?_))
        have g_1 : ¬ ((v ≠ -1 ∧ (!ixB v 3) = true) ∨ inB z (-99) (nI 99) = false) := by exact fun y => y.elim (fun y => by first | exact y.1 c_8 | exact Bool.false_ne_true (c_15.symm.trans y.2)) (fun y => Bool.false_ne_true (y.symm.trans c_26))
        refine wp_if_neN 80 dX16_send_38 (by decide) (by decide) (fun c_38 => absurd c_38 (by decide)) (fun c_38 => ?_)
        have hz9 : inB z (-99) (nI 99) = true := c_26
        have hz := in99 hz9
        have hz1 := hz.1
        have hz2 := hz.2
        obtain ⟨ev, ht⟩ := hv (nt_g (fun y => g_1 (Or.inl ⟨c_8, y⟩)))
        subst ev
        refine wp_aload_n (i := 0) dX16_send_41 rfl rfl ?_
        refine wp_aload_n (i := 0) dX16_send_42 rfl rfl ?_
        refine wp_iload_n (i := 2) dX16_send_43 rfl rfl ?_
        refine wp_cV (y' := m_X16_noAgent) 17 [vi w] [vr (some (nm 1 0))] 0 0 dX16_send_44 ml_X16_357 im_X16_noAgent se_X16_noAgent (by decide) hR1.mk ok_X16_noAgent rfl (Nat.le_of_ble_eq_true rfl) rfl (Nat.le_of_ble_eq_true rfl) (d' := d - 1) (by omega) (Nat.zero_le _) (Nat.zero_le _) (c_X16_noAgent hR1 w (by omega) (cont_ret ?_))
        refine wp_iconst (nI 2) dX16_send_47 (by decide) ?_
        refine wp_cV (y' := m_X16_fails) 17 [vi (bI (!ixB w (RS_an S))), vi (nI 2)] [] 0 0 dX16_send_48 ml_X16_102 im_X16_fails se_X16_fails (by decide) hR1.mk ok_X16_fails rfl (Nat.le_of_ble_eq_true rfl) rfl (Nat.le_of_ble_eq_true rfl) (d' := d - 1) (by omega) (Nat.zero_le _) (Nat.zero_le _) (c_flB hR1.mk wI_ss (!ixB w (RS_an S)) (nI 2) (by decide) (fun c_48 => cont_ret ?_) (fun c_48 => cont_ret ?_))
        · have g_2 : (!ixB w (RS_an S)) = true := by first | exact c_48 | exact of_decide_eq_true c_48 | omega | (simp at c_48 ⊢; grind)
          have hR28 := hR1.w0 (x := nI 2)
          have hG29 := hG2.tr (FRR.w0 (x := nI 2))
          have hP30 := PO2.m (a := nm 1 0) (k := 0) (x := nI 2) hP3
          refine wp_if_neN 80 dX16_send_51 (by decide) (by decide) (fun c_51 => ?_) (fun c_51 => absurd c_51 (by decide))
          refine wp_iconst (nI 0) dX16_send_80 (by decide) ?_
          refine wp_ireturn dX16_send_81 rfl ?_
          rw [show o_send S (nI t) t w a z = (nI 2, nI 0, S) from by unfold o_send; rw [if_neg g_1, if_pos g_2]] at hq
          exact hq _ hG29 wI_ss hR28 hP30
        · have g_2 : ¬ ((!ixB w (RS_an S)) = true) := by first | exact fun z => Bool.false_ne_true (c_48.symm.trans z) | exact of_decide_eq_false c_48 | omega | (simp at c_48 ⊢; grind)
          obtain ⟨ew, ha⟩ := hw (nt_g g_2)
          subst ew
          have ha16 : a < 16 := by have := hB.1.2.2.1; omega
          have hb1 := hB.2.2.2 a ha
          have J1 := J.w (a := nm 1 0) (k := 0) (x := nI 0) (by unfold nm; omega)
          refine wp_if_neN 80 dX16_send_51 (by decide) (by decide) (fun c_51 => absurd c_51 (by decide)) (fun c_51 => ?_)
          refine wp_aload_n (i := 0) dX16_send_54 rfl rfl ?_
          refine wp_iload_n (i := 1) dX16_send_55 rfl rfl ?_
          refine wp_iconst (-1) dX16_send_56 (by decide) ?_
          refine wp_icmp_eq 72 dX16_send_57 (by decide) (fun c_57 => absurd c_57 (nI_m1 (by omega))) (fun c_57 => ?_)
          refine wp_aload_n (i := 0) dX16_send_60 rfl rfl ?_
          refine wp_iload_n (i := 1) dX16_send_61 rfl rfl ?_
          refine wp_cV (y' := m_X16_isClosed) 17 [vi (nI t)] [vr (some (nm 1 0))] 0 0 dX16_send_62 ml_X16_274 im_X16_isClosed se_X16_isClosed (by decide) hR1.mk ok_X16_isClosed rfl (Nat.le_of_ble_eq_true rfl) rfl (Nat.le_of_ble_eq_true rfl) (d' := d - 1) (by omega) (Nat.zero_le _) (Nat.zero_le _) (c_X16_isClosed hR1 ht (cont_ret ?_))
          refine wp_if_eqB 72 dX16_send_65 (by decide) (fun c_65 => ?_) (fun c_65 => ?_)
          · skip
            refine wp_iconst (nI 0) dX16_send_72 (by decide) ?_
            refine wp_iconst (nI 3) dX16_send_73 (by decide) ?_
            refine wp_cV (y' := m_X16_fails) 17 [vi (nI 0), vi (nI 3)] [] 0 0 dX16_send_74 ml_X16_102 im_X16_fails se_X16_fails (by decide) hR1.mk ok_X16_fails rfl (Nat.le_of_ble_eq_true rfl) rfl (Nat.le_of_ble_eq_true rfl) (d' := d - 1) (by omega) (Nat.zero_le _) (Nat.zero_le _) (c_flF hR1.mk wI_ss (nI 3) (by decide) (cont_ret ?_))
            have g_3 : ¬ ((nI t) ≠ -1 ∧ (!OT_op (RS_tt S t)) = true) := by exact fun y => by first | exact y.1 c_8 | exact Bool.false_ne_true (c_65.symm.trans y.2)
            refine wp_if_eqN 82 dX16_send_77 (by decide) (by decide) (fun c_77 => ?_) (fun c_77 => absurd c_77 (by decide))
            refine wp_iload_n (i := 1) dX16_send_82 rfl rfl ?_
            refine wp_iconst (-1) dX16_send_83 (by decide) ?_
            refine wp_icmp_ne 105 dX16_send_84 (by decide) (fun c_84 => ?_) (fun c_84 => absurd c_84 (nI_m1 (by omega)))
            obtain ⟨⟨K, hK⟩, K3, hK3⟩ := id hP
            have hb2 := hB.2.1 t ht
            have hll := L2_len (OT_sq (RS_tt S t))
            refine wp_iconst (nI 2) dX16_send_105 (by decide) ?_
            refine wp_newarray 101 2 .int dX16_send_106 rfl rfl aw_int (nI_nn (by omega)) (nI_clamp (by omega)) (by omega) (by decide) pl_int (by omega) (by omega) (nm 22 K) (hK K (Nat.le_refl _)) ?_
            refine wp_dup dX16_send_108 ?_
            refine wp_iconst (nI 0) dX16_send_109 (by decide) ?_
            refine wp_iload_n (i := 2) dX16_send_110 rfl rfl ?_
            refine wp_iastoreN 2 dX16_send_111 (show h_k (mk (wI h (nm 1 0) 0 (nI 0)) (nm 22 K) 101 2) (nm 22 K) = 101 by rw [gk_mk, if_pos rfl]) (show h_n (mk (wI h (nm 1 0) 0 (nI 0)) (nm 22 K) 101 2) (nm 22 K) = 2 by rw [gn_mk, if_pos rfl]) (by decide) (by decide) ?_
            refine wp_dup dX16_send_112 ?_
            refine wp_iconst (nI 1) dX16_send_113 (by decide) ?_
            refine wp_iload_n (i := 3) dX16_send_114 rfl rfl ?_
            refine wp_iastoreN 2 dX16_send_115 (show h_k (mk (wI h (nm 1 0) 0 (nI 0)) (nm 22 K) 101 2) (nm 22 K) = 101 by rw [gk_mk, if_pos rfl]) (show h_n (mk (wI h (nm 1 0) 0 (nI 0)) (nm 22 K) 101 2) (nm 22 K) = 2 by rw [gn_mk, if_pos rfl]) (by decide) (by decide) ?_
            have E := PEr.mk2 (h := wI h (nm 1 0) 0 (nI 0)) (K := K) (a := nI a) (b := z)
            have c2 : ∀ b, b ≠ nm 22 K → ce (wI (wI (mk (wI h (nm 1 0) 0 (nI 0)) (nm 22 K) 101 2) (nm 22 K) 0 (nI a)) (nm 22 K) 1 z) b = ce (wI h (nm 1 0) 0 (nI 0)) b := fun b hb => ce_row2 hb
            have hkf : h_k (wI h (nm 1 0) 0 (nI 0)) (nm 22 K) = 0 := hK K (Nat.le_refl _)
            have hRr := hR1.row hkf c2
            have hGr := hG2.tr (FRR.row hkf c2)
            have hPr := PO2.row (h := wI h (nm 1 0) 0 (nI 0)) hK hK3 c2
            refine wp_astore (i := 4) (lv' := [(4, vr (some (nm 22 K))), (0, vr (some (nm 1 0))), (1, vi (nI t)), (2, vi (nI a)), (3, vi z)]) dX16_send_116 (by decide) rfl ?_
            refine wp_aload_n (i := 0) dX16_send_118 rfl rfl ?_
            refine wp_get 17 17 (vr (some (nm 1 17))) dX16_send_119 hRr.mk (by decide) (by decide) fl_X16_56 (congrArg (fun z => toV (vr z)) (hRr.ref 17 (by decide) (by decide) (by decide) (by decide))) ?_
            refine wp_iload_n (i := 1) dX16_send_122 rfl rfl ?_
            refine wp_aaloadN 3 (some (nm 6 t)) dX16_send_123 (arTy_117 hRr.k17) hRr.tn (by omega) (by decide) (hRr.tr ht) ?_
            refine wp_get 16 9 (vr (some (nm 12 t))) dX16_send_124 (hRr.t ht).k0 (by decide) (by decide) fl_X16_343 (congrArg (fun z => toV (vr z)) ((hRr.t ht).r10_9)) ?_
            refine wp_aload (i := 4) dX16_send_127 rfl ?_
            refine wp_cV (y' := m_Jx4a65c_add_9ea2d) 2 [vr (some (nm 22 K))] [] 1 (10 + 2 * ((OT_sq (RS_tt S t)).map (fun q => [nI q.1, q.2])).length) dX16_send_129 ml_X16_175 im_Jx4a65c_add_9ea2d se_Jx4a65c_add_9ea2d (by decide) (hRr.t ht).L21.k ok_Jx4a65c_add_9ea2d rfl (Nat.le_of_ble_eq_true rfl) rfl (Nat.le_of_ble_eq_true rfl) (d' := d - 1) (by omega) (by omega) (by omega) (c_LP_add (hRr.t ht).L21 E (by rw [L2_len]; omega) (by decide) (by decide) (by omega) (Nat.le_refl _) (Nat.le_refl _) (fun h4 hL hC => cont_ret ?_))
            rw [← L2_app (q := (a, z))] at hL
            have hO34 := (hRr.t ht).usq (v := OT_sq (RS_tt S t) ++ [(a, z)]) hL (hC _ (by unfold nm; omega) (fun z => by unfold nm; omega)) (hC _ (by unfold nm; omega) (fun z => by unfold nm; omega)) (hC _ (by unfold nm; omega) (fun z => by unfold nm; omega)) (hC _ (by unfold nm; omega) (fun z => by unfold nm; omega)) (hC _ (by unfold nm; omega) (fun z => by unfold nm; omega)) (hC _ (by unfold nm; omega) (fun z => by unfold nm; omega))
            have hF35 : Fr _ _ (WT t) := Fr.of hC (by unfold WT nm; omega) (fun z => by unfold WT nm; omega)
            refine wp_pop dX16_send_132 ?_
            refine wp_aload_n (i := 0) dX16_send_133 rfl rfl ?_
            refine wp_get 17 18 (vr (some (nm 1 18))) dX16_send_134 ((ce_k (hF35 (nm 1 0) (WT_n (by omega) (by decide)))).trans hRr.mk) (by decide) (by decide) fl_X16_60 (congrArg (fun z => toV (vr z)) ((congrFun (ce_R (hF35 (nm 1 0) (WT_n (by omega) (by decide)))) 18).trans (hRr.ref 18 (by decide) (by decide) (by decide) (by decide)))) ?_
            refine wp_iload_n (i := 2) dX16_send_137 rfl rfl ?_
            have hP36 := (hPr).oT hF35
            have hR37 := hRr.upT ht hF35 hO34 hB16
            have hG38 := hGr.tr (FRR.oT hF35)
            refine wp_cV (y' := m_Jx4a65c_get_915e3) 2 [vi (nI a)] [] 0 0 dX16_send_138 ml_X16_201 im_Jx4a65c_get_915e3 se_Jx4a65c_get_915e3 (by decide) hR37.al.k ok_Jx4a65c_get_915e3 rfl (Nat.le_of_ble_eq_true rfl) rfl (Nat.le_of_ble_eq_true rfl) (d' := d - 1) (by omega) (Nat.zero_le _) (Nat.zero_le _) (c_LO_get hR37.al ha (by omega) (cont_ret ?_))
            refine wp_castC 13 dX16_send_141 (by decide) kl_X16_346 (fun a ha => by cases ha; exact (hR37.a ha).k0) ?_
            refine wp_get 13 6 (vr (some (nm 14 a))) dX16_send_144 (hR37.a ha).k0 (by decide) (by decide) fl_X16_360 (congrArg (fun z => toV (vr z)) ((hR37.a ha).r7_6)) ?_
            refine wp_cV (y' := m_Jx4a65c_size_8abf5) 2 [] [] 0 0 dX16_send_147 ml_X16_168 im_Jx4a65c_size_8abf5 se_Jx4a65c_size_8abf5 (by decide) (LNm.k (hR37.a ha).N8) ok_Jx4a65c_size_8abf5 rfl (Nat.le_of_ble_eq_true rfl) rfl (Nat.le_of_ble_eq_true rfl) (d' := d - 1) (by omega) (Nat.zero_le _) (Nat.zero_le _) (c_LN_size (hR37.a ha).N8 (cont_ret ?_))
            refine wp_ireturn dX16_send_150 rfl ?_
            rw [show o_send S (nI t) t (nI a) a z = (nI 0, (nI ((OA_row (RS_aa (RS_utt1 S t (OT_usq (RS_tt S t) (OT_sq (RS_tt S t) ++ [(a, z)]))) a)).length)), RS_utt1 S t (OT_usq (RS_tt S t) (OT_sq (RS_tt S t) ++ [(a, z)]))) from by unfold o_send; rw [if_neg g_1, if_neg g_2, if_neg g_3, if_neg (nI_m1 (by omega))] <;> rfl] at hq
            exact hq _ hG38 ((th_oT hF35).trans ((th_row c2).trans wI_ss)) hR37 hP36
          · skip
            refine wp_iconst (nI 1) dX16_send_68 (by decide) ?_
            refine wp_goto 73 dX16_send_69 (by decide) ?_
            refine wp_iconst (nI 3) dX16_send_73 (by decide) ?_
            refine wp_cV (y' := m_X16_fails) 17 [vi (nI 1), vi (nI 3)] [] 0 0 dX16_send_74 ml_X16_102 im_X16_fails se_X16_fails (by decide) hR1.mk ok_X16_fails rfl (Nat.le_of_ble_eq_true rfl) rfl (Nat.le_of_ble_eq_true rfl) (d' := d - 1) (by omega) (Nat.zero_le _) (Nat.zero_le _) (c_flT hR1.mk wI_ss (nI 3) (by decide) (cont_ret ?_))
            have g_3 : (nI t) ≠ -1 ∧ (!OT_op (RS_tt S t)) = true := by exact ⟨nI_m1 (by omega), c_65⟩
            have hR39 := hR1.w0 (x := nI 3)
            have hG40 := hG2.tr (FRR.w0 (x := nI 3))
            have hP41 := PO2.m (a := nm 1 0) (k := 0) (x := nI 3) hP3
            refine wp_if_eqN 82 dX16_send_77 (by decide) (by decide) (fun c_77 => absurd c_77 (by decide)) (fun c_77 => ?_)
            refine wp_iconst (nI 0) dX16_send_80 (by decide) ?_
            refine wp_ireturn dX16_send_81 rfl ?_
            rw [show o_send S (nI t) t (nI a) a z = (nI 3, nI 0, S) from by unfold o_send; rw [if_neg g_1, if_neg g_2, if_pos g_3]] at hq
            exact hq _ hG40 wI_ss hR39 hP41
      · skip
        refine wp_iconst (nI 1) dX16_send_29 (by decide) ?_
        refine wp_goto 34 dX16_send_30 (by decide) ?_
        refine wp_iconst (nI 1) dX16_send_34 (by decide) ?_
        refine wp_cV (y' := m_X16_fails) 17 [vi (nI 1), vi (nI 1)] [] 0 0 dX16_send_35 ml_X16_102 im_X16_fails se_X16_fails (by decide) hR1.mk ok_X16_fails rfl (Nat.le_of_ble_eq_true rfl) rfl (Nat.le_of_ble_eq_true rfl) (d' := d - 1) (by omega) (Nat.zero_le _) (Nat.zero_le _) (c_flT hR1.mk wI_ss (nI 1) (by decide) (cont_ret ?_))
        have g_1 : (v ≠ -1 ∧ (!ixB v 3) = true) ∨ inB z (-99) (nI 99) = false := by first | exact Or.inl ⟨c_8, c_15⟩ | exact Or.inr c_26
        have hR42 := hR1.w0 (x := nI 1)
        have hG43 := hG2.tr (FRR.w0 (x := nI 1))
        have hP44 := PO2.m (a := nm 1 0) (k := 0) (x := nI 1) hP3
        refine wp_if_neN 80 dX16_send_38 (by decide) (by decide) (fun c_38 => ?_) (fun c_38 => absurd c_38 (by decide))
        refine wp_iconst (nI 0) dX16_send_80 (by decide) ?_
        refine wp_ireturn dX16_send_81 rfl ?_
        rw [show o_send S v t w a z = (nI 1, nI 0, S) from by unfold o_send; rw [if_pos g_1]] at hq
        exact hq _ hG43 wI_ss hR42 hP44
