/-! The model: references, transactions, one call after another. -/
theorem th_m {h : Hp} {k : Nat} {x : Int32} (hk : (0 : Nat) ≠ k) : h_I (wI h (nm 1 0) k x) (nm 1 0) 0 = h_I h (nm 1 0) 0 := by rw [gI_wI, if_neg (fun z => hk z.2)]
theorem th_oT {h h' : Hp} {t : Nat} (hF : Fr h h' (WT t)) : h_I h' (nm 1 0) 0 = h_I h (nm 1 0) 0 := th_fr hF
theorem th_oR {h h' : Hp} {t : Nat} (hF : Fr h h' (WRf t)) : h_I h' (nm 1 0) 0 = h_I h (nm 1 0) 0 := by rw [ce_I (hF _ (WRf_n (by omega) (by decide)))]
theorem th_oA {h h' : Hp} {t : Nat} (hF : Fr h h' (WAg t)) : h_I h' (nm 1 0) 0 = h_I h (nm 1 0) 0 := by rw [ce_I (hF _ (WAg_n (by omega) (by decide)))]
def o_begin (S : RS) (v : Int32) (t : Nat) : Int32 × Int32 × RS :=
  if (!ixB v 3) = true then (nI 1, nI 0, S) else if OT_op (RS_tt S t) = true then (nI 2, nI 0, S)
  else (nI 0, nI (RS_mo S), RS_ubg (RS_utt1 S t (fgt (OT_ubk (OT_uag (OT_upt (OT_uop (RS_tt S t) true) (RS_mo S)) (RS_bg S)) 0))) (RS_bg S + 1))
def o_write (S : RS) (v : Int32) (t : Nat) (u : Int32) (r : Nat) (x : Int32) : Int32 × Int32 × RS :=
  if (!ixB v 3) = true then (nI 1, nI 0, S) else if (!ixB u (RS_rn S)) = true then (nI 2, nI 0, S) else if (!OT_op (RS_tt S t)) = true then (nI 3, nI 0, S)
  else if OT_ad (RS_tt S t) r = true ∨ (!elB x) = true then (nI 4, nI 0, S)
  else if OT_pt (RS_tt S t) < (lastq (RS_rr S r)).1 then (nI 0, nI 0, RS_utt1 S t (sbk (RS_tt S t) (RS_mo S)))
  else if (gos t r true 3 S).1 = false then (nI 0, nI 0, (gos t r true 3 S).2)
  else (nI 0, nI 1, RS_utt1 (gos t r true 3 S).2 t (OT_uwn (OT_uwr (RS_tt (gos t r true 3 S).2 t) r true) r x))
def o_ensure (S : RS) (v : Int32) (t : Nat) (u : Int32) (r : Nat) : Int32 × Int32 × RS :=
  if (!ixB v 3) = true then (nI 1, nI 0, S) else if (!ixB u (RS_rn S)) = true then (nI 2, nI 0, S) else if (!OT_op (RS_tt S t)) = true then (nI 3, nI 0, S)
  else if OT_pt (RS_tt S t) < (lastq (RS_rr S r)).1 then (nI 0, nI 0, RS_utt1 S t (sbk (RS_tt S t) (RS_mo S)))
  else if (gos t r false 3 S).1 = false then (nI 0, nI 0, (gos t r false 3 S).2)
  else (nI 0, nI 1, RS_utt1 (gos t r false 3 S).2 t (OT_uen (RS_tt (gos t r false 3 S).2 t) r true))
def adz (x : OTS) (r : Nat) (y : Int32) : Int32 := (if OT_wr x r = true then OT_wn x r else OT_sm x r) + (if inB y (-99) (nI 99) = true then y else nI 0)
def o_add (S : RS) (v : Int32) (t : Nat) (u : Int32) (r : Nat) (y : Int32) : Int32 × Int32 × RS :=
  if (!ixB v 3) = true then (nI 1, nI 0, S) else if (!ixB u (RS_rn S)) = true then (nI 2, nI 0, S) else if (!OT_op (RS_tt S t)) = true then (nI 3, nI 0, S)
  else if inB y (-99) (nI 99) = false ∨ (!elB (adz (RS_tt S t) r y)) = true then (nI 4, nI 0, S)
  else if OT_wr (RS_tt S t) r = true then (nI 0, nI 1, RS_utt1 S t (OT_uwn (RS_tt S t) r (adz (RS_tt S t) r y)))
  else (nI 0, nI 1, RS_utt1 S t (OT_usm (OT_uad (RS_tt S t) r true) r (adz (RS_tt S t) r y)))
def o_end (S : RS) (v : Int32) (t : Nat) : Int32 × Int32 × RS :=
  if (!ixB v 3) = true then (nI 1, nI 0, S) else if (!OT_op (RS_tt S t)) = true then (nI 2, nI 0, S)
  else (nI 0, nI (OT_bk (RS_tt S t)), RS_utt1 S t (fgt (OT_uop (RS_tt S t) false)))
def o_sentBack (S : RS) (v : Int32) (t : Nat) : Int32 × Int32 × RS :=
  if (!ixB v 3) = true then (nI 1, nI 0, S) else (nI 0, nI (OT_bk (RS_tt S t)), S)
def o_valueOf (S : RS) (u : Int32) (r : Nat) : Int32 × Int32 × RS :=
  if (!ixB u (RS_rn S)) = true then (nI 1, nI 0, S) else (nI 0, (lastq (RS_rr S r)).2, S)
def o_history (S : RS) (u : Int32) (r : Nat) : Int32 × Int32 × RS :=
  if (!ixB u (RS_rn S)) = true then (nI 1, nI 0, S) else (nI 0, nI (OR_hs (RS_rr S r)).length, S)
def o_moment (S : RS) : Int32 × Int32 × RS := (nI 0, nI (RS_mo S), S)
def o_logged (S : RS) : Int32 × Int32 × RS := (nI 0, nI (RS_lg S).length, S)
theorem lgL_len {l : List (Nat × Nat × Int32 × Int32)} : (lgL l).length = l.length := List.length_map _
set_option maxRecDepth 100000 in
set_option maxHeartbeats 4000000 in
theorem c_X16_begin {G : GG} {d bc bs : Nat} {h : Hp} {Q : Pst} {S : RS} (hR : MR h S) {n : Nat} (hB : RB n S) (hP : PO2 h) {v : Int32} {t : Nat} (hv : ixB v 3 = true → v = nI t ∧ t < 3) (hd : 7 ≤ d) (hq : RO Q h (o_begin S v t)) : WP G m_X16_begin d 0 (aargs 0 [vr (some (nm 1 0)), vi v]) [] h bc bs Q := by
  refine wp_sub [(0, vr (some (nm 1 0))), (1, vi v)] (fun _ hz => hz) ?_
  have hG := FRR.rf (h := h)
  have hB16 := hB.h16
  have hbb := hB.1
  refine wp_aload_n (i := 0) dX16_begin_0 rfl rfl ?_
  refine wp_iconst (nI 0) dX16_begin_1 (by decide) ?_
  refine wp_putI 17 0 dX16_begin_2 hR.mk (by decide) (by decide) (by decide) fl_X16_63 rfl (fun _ _ => rfl) rfl rfl ?_
  have hR1 := hR.w0 (x := (nI 0))
  have hG2 := hG.tr (FRR.w0 (x := (nI 0)))
  have hP3 := PO2.m (a := nm 1 0) (k := 0) (x := (nI 0)) hP
  refine wp_aload_n (i := 0) dX16_begin_5 rfl rfl ?_
  refine wp_iload_n (i := 1) dX16_begin_6 rfl rfl ?_
  refine wp_cS (y' := m_X16_noTransaction) [vi v] [vr (some (nm 1 0))] 0 0 dX16_begin_7 ml_X16_250 st_X16_noTransaction ok_X16_noTransaction rfl (Nat.le_of_ble_eq_true rfl) rfl (Nat.le_of_ble_eq_true rfl) (d' := d - 1) (by omega) (Nat.zero_le _) (Nat.zero_le _) (c_X16_noTransaction v (by omega) (cont_ret ?_))
  refine wp_iconst (nI 1) dX16_begin_10 (by decide) ?_
  refine wp_cV (y' := m_X16_fails) 17 [vi (bI (!ixB v 3)), vi (nI 1)] [] 0 0 dX16_begin_11 ml_X16_102 im_X16_fails se_X16_fails (by decide) hR1.mk ok_X16_fails rfl (Nat.le_of_ble_eq_true rfl) rfl (Nat.le_of_ble_eq_true rfl) (d' := d - 1) (by omega) (Nat.zero_le _) (Nat.zero_le _) (c_flB hR1.mk wI_ss (!ixB v 3) (nI 1) (by decide) (fun c_11 => cont_ret ?_) (fun c_11 => cont_ret ?_))
  · have g_1 : (!ixB v 3) = true := by first | exact c_11 | exact of_decide_eq_true c_11 | omega | (simp at c_11 ⊢; grind)
    have hR4 := hR1.w0 (x := nI 1)
    have hG5 := hG2.tr (FRR.w0 (x := nI 1))
    have hP6 := PO2.m (a := nm 1 0) (k := 0) (x := nI 1) hP3
    refine wp_if_neN 34 dX16_begin_14 (by decide) (by decide) (fun c_14 => ?_) (fun c_14 => absurd c_14 (by decide))
    refine wp_iconst (nI 0) dX16_begin_34 (by decide) ?_
    refine wp_ireturn dX16_begin_35 rfl ?_
    rw [show o_begin S v t = (nI 1, nI 0, S) from by unfold o_begin; rw [if_pos g_1]] at hq
    exact hq _ hG5 wI_ss hR4 hP6
  · have g_1 : ¬ ((!ixB v 3) = true) := by first | exact fun z => Bool.false_ne_true (c_11.symm.trans z) | exact of_decide_eq_false c_11 | omega | (simp at c_11 ⊢; grind)
    obtain ⟨ev, ht⟩ := hv (nt_g g_1)
    subst ev
    refine wp_if_neN 34 dX16_begin_14 (by decide) (by decide) (fun c_14 => absurd c_14 (by decide)) (fun c_14 => ?_)
    refine wp_aload_n (i := 0) dX16_begin_17 rfl rfl ?_
    refine wp_aload_n (i := 0) dX16_begin_18 rfl rfl ?_
    refine wp_get 17 17 (vr (some (nm 1 17))) dX16_begin_19 hR1.mk (by decide) (by decide) fl_X16_56 (congrArg (fun z => toV (vr z)) (hR1.ref 17 (by decide) (by decide) (by decide) (by decide))) ?_
    refine wp_iload_n (i := 1) dX16_begin_22 rfl rfl ?_
    refine wp_aaloadN 3 (some (nm 6 t)) dX16_begin_23 (arTy_117 hR1.k17) hR1.tn (by omega) (by decide) (hR1.tr (by omega)) ?_
    refine wp_get 16 0 (vi (bI (OT_op (RS_tt S t)))) dX16_begin_24 (hR1.t (by omega)).k0 (by decide) (by decide) fl_X16_246 (congrArg (fun z => toV (vi z)) ((hR1.t (by omega)).f_op)) ?_
    refine wp_iconst (nI 2) dX16_begin_27 (by decide) ?_
    refine wp_cV (y' := m_X16_fails) 17 [vi (bI (OT_op (RS_tt S t))), vi (nI 2)] [] 0 0 dX16_begin_28 ml_X16_102 im_X16_fails se_X16_fails (by decide) hR1.mk ok_X16_fails rfl (Nat.le_of_ble_eq_true rfl) rfl (Nat.le_of_ble_eq_true rfl) (d' := d - 1) (by omega) (Nat.zero_le _) (Nat.zero_le _) (c_flB hR1.mk wI_ss (OT_op (RS_tt S t)) (nI 2) (by decide) (fun c_28 => cont_ret ?_) (fun c_28 => cont_ret ?_))
    · have g_2 : OT_op (RS_tt S t) = true := by first | exact c_28 | exact of_decide_eq_true c_28 | omega | (simp at c_28 ⊢; grind)
      have hR7 := hR1.w0 (x := nI 2)
      have hG8 := hG2.tr (FRR.w0 (x := nI 2))
      have hP9 := PO2.m (a := nm 1 0) (k := 0) (x := nI 2) hP3
      refine wp_if_eqN 36 dX16_begin_31 (by decide) (by decide) (fun c_31 => absurd c_31 (by decide)) (fun c_31 => ?_)
      refine wp_iconst (nI 0) dX16_begin_34 (by decide) ?_
      refine wp_ireturn dX16_begin_35 rfl ?_
      rw [show o_begin S (nI t) t = (nI 2, nI 0, S) from by unfold o_begin; rw [if_neg g_1, if_pos g_2]] at hq
      exact hq _ hG8 wI_ss hR7 hP9
    · have g_2 : ¬ (OT_op (RS_tt S t) = true) := by first | exact fun z => Bool.false_ne_true (c_28.symm.trans z) | exact of_decide_eq_false c_28 | omega | (simp at c_28 ⊢; grind)
      refine wp_if_eqN 36 dX16_begin_31 (by decide) (by decide) (fun c_31 => ?_) (fun c_31 => absurd c_31 (by decide))
      refine wp_aload_n (i := 0) dX16_begin_36 rfl rfl ?_
      refine wp_get 17 17 (vr (some (nm 1 17))) dX16_begin_37 hR1.mk (by decide) (by decide) fl_X16_56 (congrArg (fun z => toV (vr z)) (hR1.ref 17 (by decide) (by decide) (by decide) (by decide))) ?_
      refine wp_iload_n (i := 1) dX16_begin_40 rfl rfl ?_
      refine wp_aaloadN 3 (some (nm 6 t)) dX16_begin_41 (arTy_117 hR1.k17) hR1.tn (by omega) (by decide) (hR1.tr (by omega)) ?_
      refine wp_astore_n (i := 2) (lv' := [(2, vr (some (nm 6 t))), (0, vr (some (nm 1 0))), (1, vi (nI t))]) dX16_begin_42 rfl (by decide) rfl ?_
      refine wp_aload_n (i := 2) dX16_begin_43 rfl rfl ?_
      refine wp_iconst (nI 1) dX16_begin_44 (by decide) ?_
      refine wp_putI 16 0 dX16_begin_45 (hR1.t (by omega)).k0 (by decide) (by decide) (by decide) fl_X16_246 rfl (fun _ _ => rfl) rfl rfl ?_
      have hO10 := (hR1.t (by omega))
      have hF11 := hO10.rfT
      have hO12 := hO10.wop (v := true)
      have hF13 := hF11.wI (b := nm 6 t) (k := 0) (x := bI (true)) (by unfold WT nm; omega)
      refine wp_aload_n (i := 2) dX16_begin_48 rfl rfl ?_
      refine wp_aload_n (i := 0) dX16_begin_49 rfl rfl ?_
      refine wp_get 17 15 (vi (nI (RS_mo S))) dX16_begin_50 ((ce_k (hF13 (nm 1 0) (WT_n (by omega) (by decide)))).trans hR1.mk) (by decide) (by decide) fl_X16_253 (congrArg (fun z => toV (vi z)) ((congrFun (ce_I (hF13 (nm 1 0) (WT_n (by omega) (by decide)))) 15).trans (hR1.mo))) ?_
      refine wp_putI 16 1 dX16_begin_53 hO12.k0 (by decide) (by decide) (by decide) fl_X16_256 rfl (fun _ _ => rfl) rfl rfl ?_
      have hO14 := hO12.wpt (v := (RS_mo S))
      have hF15 := hF13.wI (b := nm 6 t) (k := 1) (x := nI ((RS_mo S))) (by unfold WT nm; omega)
      refine wp_aload_n (i := 2) dX16_begin_56 rfl rfl ?_
      refine wp_aload_n (i := 0) dX16_begin_57 rfl rfl ?_
      refine wp_get 17 16 (vi (nI (RS_bg S))) dX16_begin_58 ((ce_k (hF15 (nm 1 0) (WT_n (by omega) (by decide)))).trans hR1.mk) (by decide) (by decide) fl_X16_259 (congrArg (fun z => toV (vi z)) ((congrFun (ce_I (hF15 (nm 1 0) (WT_n (by omega) (by decide)))) 16).trans (hR1.bg))) ?_
      refine wp_putI 16 2 dX16_begin_61 hO14.k0 (by decide) (by decide) (by decide) fl_X16_262 rfl (fun _ _ => rfl) rfl rfl ?_
      have hO16 := hO14.wag (v := (RS_bg S))
      have hF17 := hF15.wI (b := nm 6 t) (k := 2) (x := nI ((RS_bg S))) (by unfold WT nm; omega)
      refine wp_aload_n (i := 2) dX16_begin_64 rfl rfl ?_
      refine wp_iconst (nI 0) dX16_begin_65 (by decide) ?_
      refine wp_putI 16 3 dX16_begin_66 hO16.k0 (by decide) (by decide) (by decide) fl_X16_265 rfl (fun _ _ => rfl) rfl rfl ?_
      have hO18 := hO16.wbk (v := 0)
      have hF19 := hF17.wI (b := nm 6 t) (k := 3) (x := nI (0)) (by unfold WT nm; omega)
      refine wp_aload_n (i := 2) dX16_begin_69 rfl rfl ?_
      refine wp_cV (y' := m_X15_forget) 16 [] [] 0 0 dX16_begin_70 ml_X16_268 im_X15_forget se_X15_forget (by decide) hO18.k0 ok_X15_forget rfl (Nat.le_of_ble_eq_true rfl) rfl (Nat.le_of_ble_eq_true rfl) (d' := d - 1) (by omega) (Nat.zero_le _) (Nat.zero_le _) (c_X15_forget hO18 (by omega) (by omega) (fun h23 hO20 hF21 => cont_void ?_))
      have hF22 := hF19.tr hF21
      refine wp_aload_n (i := 0) dX16_begin_73 rfl rfl ?_
      refine wp_dup dX16_begin_74 ?_
      refine wp_get 17 16 (vi (nI (RS_bg S))) dX16_begin_75 ((ce_k (hF22 (nm 1 0) (WT_n (by omega) (by decide)))).trans hR1.mk) (by decide) (by decide) fl_X16_259 (congrArg (fun z => toV (vi z)) ((congrFun (ce_I (hF22 (nm 1 0) (WT_n (by omega) (by decide)))) 16).trans (hR1.bg))) ?_
      refine wp_iconst (nI 1) dX16_begin_78 (by decide) ?_
      refine wp_iaddN dX16_begin_79 ?_
      refine wp_putI 17 16 dX16_begin_80 ((ce_k (hF22 (nm 1 0) (WT_n (by omega) (by decide)))).trans hR1.mk) (by decide) (by decide) (by decide) fl_X16_259 rfl (fun _ _ => rfl) rfl rfl ?_
      have hP24 := (hP3).oT hF22
      have hR25 := hR1.upT (by omega) hF22 hO20 hB16
      have hG26 := hG2.tr (FRR.oT hF22)
      have hR27 := hR25.wbg (x := ((RS_bg S) + 1))
      have hG28 := hG26.tr (FRR.w16 (x := nI ((RS_bg S) + 1)))
      have hP29 := PO2.m (a := nm 1 0) (k := 16) (x := (nI ((RS_bg S) + 1))) hP24
      refine wp_aload_n (i := 0) dX16_begin_83 rfl rfl ?_
      refine wp_get 17 15 (vi (nI (RS_mo (RS_ubg (RS_utt1 S t (fgt (OT_ubk (OT_uag (OT_upt (OT_uop (RS_tt S t) true) (RS_mo S)) (RS_bg S)) 0))) ((RS_bg S) + 1))))) dX16_begin_84 hR27.mk (by decide) (by decide) fl_X16_253 (congrArg (fun z => toV (vi z)) (hR27.mo)) ?_
      refine wp_ireturn dX16_begin_87 rfl ?_
      rw [show o_begin S (nI t) t = (nI 0, (nI (RS_mo (RS_ubg (RS_utt1 S t (fgt (OT_ubk (OT_uag (OT_upt (OT_uop (RS_tt S t) true) (RS_mo S)) (RS_bg S)) 0))) ((RS_bg S) + 1)))), RS_ubg (RS_utt1 S t (fgt (OT_ubk (OT_uag (OT_upt (OT_uop (RS_tt S t) true) (RS_mo S)) (RS_bg S)) 0))) ((RS_bg S) + 1)) from by unfold o_begin; rw [if_neg g_1, if_neg g_2] <;> rfl] at hq
      exact hq _ hG28 ((th_m (by decide)).trans ((th_oT hF22).trans wI_ss)) hR27 hP29
set_option maxRecDepth 100000 in
set_option maxHeartbeats 4000000 in
theorem c_X16_end {G : GG} {d bc bs : Nat} {h : Hp} {Q : Pst} {S : RS} (hR : MR h S) {n : Nat} (hB : RB n S) (hP : PO2 h) {v : Int32} {t : Nat} (hv : ixB v 3 = true → v = nI t ∧ t < 3) (hd : 7 ≤ d) (hq : RO Q h (o_end S v t)) : WP G m_X16_end d 0 (aargs 0 [vr (some (nm 1 0)), vi v]) [] h bc bs Q := by
  refine wp_sub [(0, vr (some (nm 1 0))), (1, vi v)] (fun _ hz => hz) ?_
  have hG := FRR.rf (h := h)
  have hB16 := hB.h16
  have hbb := hB.1
  refine wp_aload_n (i := 0) dX16_end_0 rfl rfl ?_
  refine wp_iconst (nI 0) dX16_end_1 (by decide) ?_
  refine wp_putI 17 0 dX16_end_2 hR.mk (by decide) (by decide) (by decide) fl_X16_63 rfl (fun _ _ => rfl) rfl rfl ?_
  have hR1 := hR.w0 (x := (nI 0))
  have hG2 := hG.tr (FRR.w0 (x := (nI 0)))
  have hP3 := PO2.m (a := nm 1 0) (k := 0) (x := (nI 0)) hP
  refine wp_aload_n (i := 0) dX16_end_5 rfl rfl ?_
  refine wp_iload_n (i := 1) dX16_end_6 rfl rfl ?_
  refine wp_cS (y' := m_X16_noTransaction) [vi v] [vr (some (nm 1 0))] 0 0 dX16_end_7 ml_X16_250 st_X16_noTransaction ok_X16_noTransaction rfl (Nat.le_of_ble_eq_true rfl) rfl (Nat.le_of_ble_eq_true rfl) (d' := d - 1) (by omega) (Nat.zero_le _) (Nat.zero_le _) (c_X16_noTransaction v (by omega) (cont_ret ?_))
  refine wp_iconst (nI 1) dX16_end_10 (by decide) ?_
  refine wp_cV (y' := m_X16_fails) 17 [vi (bI (!ixB v 3)), vi (nI 1)] [] 0 0 dX16_end_11 ml_X16_102 im_X16_fails se_X16_fails (by decide) hR1.mk ok_X16_fails rfl (Nat.le_of_ble_eq_true rfl) rfl (Nat.le_of_ble_eq_true rfl) (d' := d - 1) (by omega) (Nat.zero_le _) (Nat.zero_le _) (c_flB hR1.mk wI_ss (!ixB v 3) (nI 1) (by decide) (fun c_11 => cont_ret ?_) (fun c_11 => cont_ret ?_))
  · have g_1 : (!ixB v 3) = true := by first | exact c_11 | exact of_decide_eq_true c_11 | omega | (simp at c_11 ⊢; grind)
    have hR4 := hR1.w0 (x := nI 1)
    have hG5 := hG2.tr (FRR.w0 (x := nI 1))
    have hP6 := PO2.m (a := nm 1 0) (k := 0) (x := nI 1) hP3
    refine wp_if_neN 30 dX16_end_14 (by decide) (by decide) (fun c_14 => ?_) (fun c_14 => absurd c_14 (by decide))
    refine wp_iconst (nI 0) dX16_end_30 (by decide) ?_
    refine wp_ireturn dX16_end_31 rfl ?_
    rw [show o_end S v t = (nI 1, nI 0, S) from by unfold o_end; rw [if_pos g_1]] at hq
    exact hq _ hG5 wI_ss hR4 hP6
  · have g_1 : ¬ ((!ixB v 3) = true) := by first | exact fun z => Bool.false_ne_true (c_11.symm.trans z) | exact of_decide_eq_false c_11 | omega | (simp at c_11 ⊢; grind)
    obtain ⟨ev, ht⟩ := hv (nt_g g_1)
    subst ev
    refine wp_if_neN 30 dX16_end_14 (by decide) (by decide) (fun c_14 => absurd c_14 (by decide)) (fun c_14 => ?_)
    refine wp_aload_n (i := 0) dX16_end_17 rfl rfl ?_
    refine wp_aload_n (i := 0) dX16_end_18 rfl rfl ?_
    refine wp_iload_n (i := 1) dX16_end_19 rfl rfl ?_
    refine wp_cV (y' := m_X16_isClosed) 17 [vi (nI t)] [vr (some (nm 1 0))] 0 0 dX16_end_20 ml_X16_274 im_X16_isClosed se_X16_isClosed (by decide) hR1.mk ok_X16_isClosed rfl (Nat.le_of_ble_eq_true rfl) rfl (Nat.le_of_ble_eq_true rfl) (d' := d - 1) (by omega) (Nat.zero_le _) (Nat.zero_le _) (c_X16_isClosed hR1 (by omega) (cont_ret ?_))
    refine wp_iconst (nI 2) dX16_end_23 (by decide) ?_
    refine wp_cV (y' := m_X16_fails) 17 [vi (bI (!OT_op (RS_tt S t))), vi (nI 2)] [] 0 0 dX16_end_24 ml_X16_102 im_X16_fails se_X16_fails (by decide) hR1.mk ok_X16_fails rfl (Nat.le_of_ble_eq_true rfl) rfl (Nat.le_of_ble_eq_true rfl) (d' := d - 1) (by omega) (Nat.zero_le _) (Nat.zero_le _) (c_flB hR1.mk wI_ss (!OT_op (RS_tt S t)) (nI 2) (by decide) (fun c_24 => cont_ret ?_) (fun c_24 => cont_ret ?_))
    · have g_2 : (!OT_op (RS_tt S t)) = true := by first | exact c_24 | exact of_decide_eq_true c_24 | omega | (simp at c_24 ⊢; grind)
      have hR7 := hR1.w0 (x := nI 2)
      have hG8 := hG2.tr (FRR.w0 (x := nI 2))
      have hP9 := PO2.m (a := nm 1 0) (k := 0) (x := nI 2) hP3
      refine wp_if_eqN 32 dX16_end_27 (by decide) (by decide) (fun c_27 => absurd c_27 (by decide)) (fun c_27 => ?_)
      refine wp_iconst (nI 0) dX16_end_30 (by decide) ?_
      refine wp_ireturn dX16_end_31 rfl ?_
      rw [show o_end S (nI t) t = (nI 2, nI 0, S) from by unfold o_end; rw [if_neg g_1, if_pos g_2]] at hq
      exact hq _ hG8 wI_ss hR7 hP9
    · have g_2 : ¬ ((!OT_op (RS_tt S t)) = true) := by first | exact fun z => Bool.false_ne_true (c_24.symm.trans z) | exact of_decide_eq_false c_24 | omega | (simp at c_24 ⊢; grind)
      refine wp_if_eqN 32 dX16_end_27 (by decide) (by decide) (fun c_27 => ?_) (fun c_27 => absurd c_27 (by decide))
      refine wp_aload_n (i := 0) dX16_end_32 rfl rfl ?_
      refine wp_get 17 17 (vr (some (nm 1 17))) dX16_end_33 hR1.mk (by decide) (by decide) fl_X16_56 (congrArg (fun z => toV (vr z)) (hR1.ref 17 (by decide) (by decide) (by decide) (by decide))) ?_
      refine wp_iload_n (i := 1) dX16_end_36 rfl rfl ?_
      refine wp_aaloadN 3 (some (nm 6 t)) dX16_end_37 (arTy_117 hR1.k17) hR1.tn (by omega) (by decide) (hR1.tr (by omega)) ?_
      refine wp_iconst (nI 0) dX16_end_38 (by decide) ?_
      refine wp_putI 16 0 dX16_end_39 (hR1.t (by omega)).k0 (by decide) (by decide) (by decide) fl_X16_246 rfl (fun _ _ => rfl) rfl rfl ?_
      have hO10 := (hR1.t (by omega))
      have hF11 := hO10.rfT
      have hO12 := hO10.wop (v := false)
      have hF13 := hF11.wI (b := nm 6 t) (k := 0) (x := bI (false)) (by unfold WT nm; omega)
      refine wp_aload_n (i := 0) dX16_end_42 rfl rfl ?_
      refine wp_get 17 17 (vr (some (nm 1 17))) dX16_end_43 ((ce_k (hF13 (nm 1 0) (WT_n (by omega) (by decide)))).trans hR1.mk) (by decide) (by decide) fl_X16_56 (congrArg (fun z => toV (vr z)) ((congrFun (ce_R (hF13 (nm 1 0) (WT_n (by omega) (by decide)))) 17).trans (hR1.ref 17 (by decide) (by decide) (by decide) (by decide)))) ?_
      refine wp_iload_n (i := 1) dX16_end_46 rfl rfl ?_
      refine wp_aaloadN 3 (some (nm 6 t)) dX16_end_47 (arTy_117 ((ce_k (hF13 (nm 1 17) (WT_n (by omega) (by decide)))).trans hR1.k17)) ((ce_n (hF13 (nm 1 17) (WT_n (by omega) (by decide)))).trans hR1.tn) (by omega) (by decide) ((congrFun (ce_R (hF13 (nm 1 17) (WT_n (by omega) (by decide)))) t).trans (hR1.tr (by omega))) ?_
      refine wp_cV (y' := m_X15_forget) 16 [] [] 0 0 dX16_end_48 ml_X16_268 im_X15_forget se_X15_forget (by decide) hO12.k0 ok_X15_forget rfl (Nat.le_of_ble_eq_true rfl) rfl (Nat.le_of_ble_eq_true rfl) (d' := d - 1) (by omega) (Nat.zero_le _) (Nat.zero_le _) (c_X15_forget hO12 (by omega) (by omega) (fun h17 hO14 hF15 => cont_void ?_))
      have hF16 := hF13.tr hF15
      refine wp_aload_n (i := 0) dX16_end_51 rfl rfl ?_
      refine wp_get 17 17 (vr (some (nm 1 17))) dX16_end_52 ((ce_k (hF16 (nm 1 0) (WT_n (by omega) (by decide)))).trans hR1.mk) (by decide) (by decide) fl_X16_56 (congrArg (fun z => toV (vr z)) ((congrFun (ce_R (hF16 (nm 1 0) (WT_n (by omega) (by decide)))) 17).trans (hR1.ref 17 (by decide) (by decide) (by decide) (by decide)))) ?_
      refine wp_iload_n (i := 1) dX16_end_55 rfl rfl ?_
      refine wp_aaloadN 3 (some (nm 6 t)) dX16_end_56 (arTy_117 ((ce_k (hF16 (nm 1 17) (WT_n (by omega) (by decide)))).trans hR1.k17)) ((ce_n (hF16 (nm 1 17) (WT_n (by omega) (by decide)))).trans hR1.tn) (by omega) (by decide) ((congrFun (ce_R (hF16 (nm 1 17) (WT_n (by omega) (by decide)))) t).trans (hR1.tr (by omega))) ?_
      refine wp_get 16 3 (vi (nI (OT_bk (fgt (OT_uop (RS_tt S t) false))))) dX16_end_57 hO14.k0 (by decide) (by decide) fl_X16_265 (congrArg (fun z => toV (vi z)) (hO14.f_bk)) ?_
      refine wp_ireturn dX16_end_60 rfl ?_
      have hP18 := (hP3).oT hF16
      have hR19 := hR1.upT (by omega) hF16 hO14 hB16
      have hG20 := hG2.tr (FRR.oT hF16)
      rw [show o_end S (nI t) t = (nI 0, (nI (OT_bk (fgt (OT_uop (RS_tt S t) false)))), RS_utt1 S t (fgt (OT_uop (RS_tt S t) false))) from by unfold o_end; rw [if_neg g_1, if_neg g_2] <;> rfl] at hq
      exact hq _ hG20 ((th_oT hF16).trans wI_ss) hR19 hP18
set_option maxRecDepth 100000 in
set_option maxHeartbeats 4000000 in
theorem c_X16_sentBack {G : GG} {d bc bs : Nat} {h : Hp} {Q : Pst} {S : RS} (hR : MR h S) {n : Nat} (hB : RB n S) (hP : PO2 h) {v : Int32} {t : Nat} (hv : ixB v 3 = true → v = nI t ∧ t < 3) (hd : 7 ≤ d) (hq : RO Q h (o_sentBack S v t)) : WP G m_X16_sentBack d 0 (aargs 0 [vr (some (nm 1 0)), vi v]) [] h bc bs Q := by
  refine wp_sub [(0, vr (some (nm 1 0))), (1, vi v)] (fun _ hz => hz) ?_
  have hG := FRR.rf (h := h)
  have hB16 := hB.h16
  have hbb := hB.1
  refine wp_aload_n (i := 0) dX16_sentBack_0 rfl rfl ?_
  refine wp_iconst (nI 0) dX16_sentBack_1 (by decide) ?_
  refine wp_putI 17 0 dX16_sentBack_2 hR.mk (by decide) (by decide) (by decide) fl_X16_63 rfl (fun _ _ => rfl) rfl rfl ?_
  have hR1 := hR.w0 (x := (nI 0))
  have hG2 := hG.tr (FRR.w0 (x := (nI 0)))
  have hP3 := PO2.m (a := nm 1 0) (k := 0) (x := (nI 0)) hP
  refine wp_aload_n (i := 0) dX16_sentBack_5 rfl rfl ?_
  refine wp_iload_n (i := 1) dX16_sentBack_6 rfl rfl ?_
  refine wp_cS (y' := m_X16_noTransaction) [vi v] [vr (some (nm 1 0))] 0 0 dX16_sentBack_7 ml_X16_250 st_X16_noTransaction ok_X16_noTransaction rfl (Nat.le_of_ble_eq_true rfl) rfl (Nat.le_of_ble_eq_true rfl) (d' := d - 1) (by omega) (Nat.zero_le _) (Nat.zero_le _) (c_X16_noTransaction v (by omega) (cont_ret ?_))
  refine wp_iconst (nI 1) dX16_sentBack_10 (by decide) ?_
  refine wp_cV (y' := m_X16_fails) 17 [vi (bI (!ixB v 3)), vi (nI 1)] [] 0 0 dX16_sentBack_11 ml_X16_102 im_X16_fails se_X16_fails (by decide) hR1.mk ok_X16_fails rfl (Nat.le_of_ble_eq_true rfl) rfl (Nat.le_of_ble_eq_true rfl) (d' := d - 1) (by omega) (Nat.zero_le _) (Nat.zero_le _) (c_flB hR1.mk wI_ss (!ixB v 3) (nI 1) (by decide) (fun c_11 => cont_ret ?_) (fun c_11 => cont_ret ?_))
  · have g_1 : (!ixB v 3) = true := by first | exact c_11 | exact of_decide_eq_true c_11 | omega | (simp at c_11 ⊢; grind)
    have hR4 := hR1.w0 (x := nI 1)
    have hG5 := hG2.tr (FRR.w0 (x := nI 1))
    have hP6 := PO2.m (a := nm 1 0) (k := 0) (x := nI 1) hP3
    refine wp_if_eqN 21 dX16_sentBack_14 (by decide) (by decide) (fun c_14 => absurd c_14 (by decide)) (fun c_14 => ?_)
    refine wp_iconst (nI 0) dX16_sentBack_17 (by decide) ?_
    refine wp_goto 30 dX16_sentBack_18 (by decide) ?_
    refine wp_ireturn dX16_sentBack_30 rfl ?_
    rw [show o_sentBack S v t = (nI 1, nI 0, S) from by unfold o_sentBack; rw [if_pos g_1]] at hq
    exact hq _ hG5 wI_ss hR4 hP6
  · have g_1 : ¬ ((!ixB v 3) = true) := by first | exact fun z => Bool.false_ne_true (c_11.symm.trans z) | exact of_decide_eq_false c_11 | omega | (simp at c_11 ⊢; grind)
    obtain ⟨ev, ht⟩ := hv (nt_g g_1)
    subst ev
    refine wp_if_eqN 21 dX16_sentBack_14 (by decide) (by decide) (fun c_14 => ?_) (fun c_14 => absurd c_14 (by decide))
    refine wp_aload_n (i := 0) dX16_sentBack_21 rfl rfl ?_
    refine wp_get 17 17 (vr (some (nm 1 17))) dX16_sentBack_22 hR1.mk (by decide) (by decide) fl_X16_56 (congrArg (fun z => toV (vr z)) (hR1.ref 17 (by decide) (by decide) (by decide) (by decide))) ?_
    refine wp_iload_n (i := 1) dX16_sentBack_25 rfl rfl ?_
    refine wp_aaloadN 3 (some (nm 6 t)) dX16_sentBack_26 (arTy_117 hR1.k17) hR1.tn (by omega) (by decide) (hR1.tr (by omega)) ?_
    refine wp_get 16 3 (vi (nI (OT_bk (RS_tt S t)))) dX16_sentBack_27 (hR1.t (by omega)).k0 (by decide) (by decide) fl_X16_265 (congrArg (fun z => toV (vi z)) ((hR1.t (by omega)).f_bk)) ?_
    refine wp_ireturn dX16_sentBack_30 rfl ?_
    rw [show o_sentBack S (nI t) t = (nI 0, (nI (OT_bk (RS_tt S t))), S) from by unfold o_sentBack; rw [if_neg g_1] <;> rfl] at hq
    exact hq _ hG2 wI_ss hR1 hP3
set_option maxRecDepth 100000 in
set_option maxHeartbeats 4000000 in
theorem c_X16_valueOf {G : GG} {d bc bs : Nat} {h : Hp} {Q : Pst} {S : RS} (hR : MR h S) {n : Nat} (hB : RB n S) (hP : PO2 h) {u : Int32} {r : Nat} (hu : ixB u (RS_rn S) = true → u = nI r ∧ r < RS_rn S) (hd : 7 ≤ d) (hq : RO Q h (o_valueOf S u r)) : WP G m_X16_valueOf d 0 (aargs 0 [vr (some (nm 1 0)), vi u]) [] h bc bs Q := by
  refine wp_sub [(0, vr (some (nm 1 0))), (1, vi u)] (fun _ hz => hz) ?_
  have hG := FRR.rf (h := h)
  have hB16 := hB.h16
  have hbb := hB.1
  refine wp_aload_n (i := 0) dX16_valueOf_0 rfl rfl ?_
  refine wp_iconst (nI 0) dX16_valueOf_1 (by decide) ?_
  refine wp_putI 17 0 dX16_valueOf_2 hR.mk (by decide) (by decide) (by decide) fl_X16_63 rfl (fun _ _ => rfl) rfl rfl ?_
  have hR1 := hR.w0 (x := (nI 0))
  have hG2 := hG.tr (FRR.w0 (x := (nI 0)))
  have hP3 := PO2.m (a := nm 1 0) (k := 0) (x := (nI 0)) hP
  refine wp_aload_n (i := 0) dX16_valueOf_5 rfl rfl ?_
  refine wp_aload_n (i := 0) dX16_valueOf_6 rfl rfl ?_
  refine wp_iload_n (i := 1) dX16_valueOf_7 rfl rfl ?_
  refine wp_cV (y' := m_X16_noReference) 17 [vi u] [vr (some (nm 1 0))] 0 0 dX16_valueOf_8 ml_X16_271 im_X16_noReference se_X16_noReference (by decide) hR1.mk ok_X16_noReference rfl (Nat.le_of_ble_eq_true rfl) rfl (Nat.le_of_ble_eq_true rfl) (d' := d - 1) (by omega) (Nat.zero_le _) (Nat.zero_le _) (c_X16_noReference hR1 u (by omega) (cont_ret ?_))
  refine wp_iconst (nI 1) dX16_valueOf_11 (by decide) ?_
  refine wp_cV (y' := m_X16_fails) 17 [vi (bI (!ixB u (RS_rn S))), vi (nI 1)] [] 0 0 dX16_valueOf_12 ml_X16_102 im_X16_fails se_X16_fails (by decide) hR1.mk ok_X16_fails rfl (Nat.le_of_ble_eq_true rfl) rfl (Nat.le_of_ble_eq_true rfl) (d' := d - 1) (by omega) (Nat.zero_le _) (Nat.zero_le _) (c_flB hR1.mk wI_ss (!ixB u (RS_rn S)) (nI 1) (by decide) (fun c_12 => cont_ret ?_) (fun c_12 => cont_ret ?_))
  · have g_1 : (!ixB u (RS_rn S)) = true := by first | exact c_12 | exact of_decide_eq_true c_12 | omega | (simp at c_12 ⊢; grind)
    have hR4 := hR1.w0 (x := nI 1)
    have hG5 := hG2.tr (FRR.w0 (x := nI 1))
    have hP6 := PO2.m (a := nm 1 0) (k := 0) (x := nI 1) hP3
    refine wp_if_eqN 22 dX16_valueOf_15 (by decide) (by decide) (fun c_15 => absurd c_15 (by decide)) (fun c_15 => ?_)
    refine wp_iconst (nI 0) dX16_valueOf_18 (by decide) ?_
    refine wp_goto 38 dX16_valueOf_19 (by decide) ?_
    refine wp_ireturn dX16_valueOf_38 rfl ?_
    rw [show o_valueOf S u r = (nI 1, nI 0, S) from by unfold o_valueOf; rw [if_pos g_1]] at hq
    exact hq _ hG5 wI_ss hR4 hP6
  · have g_1 : ¬ ((!ixB u (RS_rn S)) = true) := by first | exact fun z => Bool.false_ne_true (c_12.symm.trans z) | exact of_decide_eq_false c_12 | omega | (simp at c_12 ⊢; grind)
    obtain ⟨eu, hr⟩ := hu (nt_g g_1)
    subst eu
    have hb1 := hB.2.2.1 r hr
    refine wp_if_eqN 22 dX16_valueOf_15 (by decide) (by decide) (fun c_15 => ?_) (fun c_15 => absurd c_15 (by decide))
    refine wp_aload_n (i := 0) dX16_valueOf_22 rfl rfl ?_
    refine wp_get 17 13 (vr (some (nm 1 13))) dX16_valueOf_23 hR1.mk (by decide) (by decide) fl_X16_47 (congrArg (fun z => toV (vr z)) (hR1.ref 13 (by decide) (by decide) (by decide) (by decide))) ?_
    refine wp_iload_n (i := 1) dX16_valueOf_26 rfl rfl ?_
    refine wp_cV (y' := m_Jx4a65c_get_915e3) 2 [vi (nI r)] [] 0 0 dX16_valueOf_27 ml_X16_201 im_Jx4a65c_get_915e3 se_Jx4a65c_get_915e3 (by decide) hR1.rl.k ok_Jx4a65c_get_915e3 rfl (Nat.le_of_ble_eq_true rfl) rfl (Nat.le_of_ble_eq_true rfl) (d' := d - 1) (by omega) (Nat.zero_le _) (Nat.zero_le _) (c_LO_get hR1.rl (by omega) (by omega) (cont_ret ?_))
    refine wp_castC 14 dX16_valueOf_30 (by decide) kl_X16_238 (fun a ha => by cases ha; exact (hR1.r (by omega)).k0) ?_
    refine wp_cV (y' := m_X13_last) 14 [] [] 0 0 dX16_valueOf_33 ml_X16_315 im_X13_last se_X13_last (by decide) (hR1.r (by omega)).k0 ok_X13_last rfl (Nat.le_of_ble_eq_true rfl) rfl (Nat.le_of_ble_eq_true rfl) (d' := d - 1) (by omega) (Nat.zero_le _) (Nat.zero_le _) (c_X13_last (hR1.r (by omega)) hb1.1 (by omega) (fun ra7 E8 => cont_ret ?_))
    refine wp_iconst (nI 1) dX16_valueOf_36 (by decide) ?_
    refine wp_ialoadN 2 ((lastq (RS_rr S r)).2) dX16_valueOf_37 E8.2.1 E8.2.2.1 (by decide) (by decide) (E8.2.2.2 1 (Nat.le_of_ble_eq_true rfl)) ?_
    refine wp_ireturn dX16_valueOf_38 rfl ?_
    rw [show o_valueOf S (nI r) r = (nI 0, ((lastq (RS_rr S r)).2), S) from by unfold o_valueOf; rw [if_neg g_1] <;> rfl] at hq
    exact hq _ hG2 wI_ss hR1 hP3
set_option maxRecDepth 100000 in
set_option maxHeartbeats 4000000 in
theorem c_X16_history {G : GG} {d bc bs : Nat} {h : Hp} {Q : Pst} {S : RS} (hR : MR h S) {n : Nat} (hB : RB n S) (hP : PO2 h) {u : Int32} {r : Nat} (hu : ixB u (RS_rn S) = true → u = nI r ∧ r < RS_rn S) (hd : 7 ≤ d) (hq : RO Q h (o_history S u r)) : WP G m_X16_history d 0 (aargs 0 [vr (some (nm 1 0)), vi u]) [] h bc bs Q := by
  refine wp_sub [(0, vr (some (nm 1 0))), (1, vi u)] (fun _ hz => hz) ?_
  have hG := FRR.rf (h := h)
  have hB16 := hB.h16
  have hbb := hB.1
  refine wp_aload_n (i := 0) dX16_history_0 rfl rfl ?_
  refine wp_iconst (nI 0) dX16_history_1 (by decide) ?_
  refine wp_putI 17 0 dX16_history_2 hR.mk (by decide) (by decide) (by decide) fl_X16_63 rfl (fun _ _ => rfl) rfl rfl ?_
  have hR1 := hR.w0 (x := (nI 0))
  have hG2 := hG.tr (FRR.w0 (x := (nI 0)))
  have hP3 := PO2.m (a := nm 1 0) (k := 0) (x := (nI 0)) hP
  refine wp_aload_n (i := 0) dX16_history_5 rfl rfl ?_
  refine wp_aload_n (i := 0) dX16_history_6 rfl rfl ?_
  refine wp_iload_n (i := 1) dX16_history_7 rfl rfl ?_
  refine wp_cV (y' := m_X16_noReference) 17 [vi u] [vr (some (nm 1 0))] 0 0 dX16_history_8 ml_X16_271 im_X16_noReference se_X16_noReference (by decide) hR1.mk ok_X16_noReference rfl (Nat.le_of_ble_eq_true rfl) rfl (Nat.le_of_ble_eq_true rfl) (d' := d - 1) (by omega) (Nat.zero_le _) (Nat.zero_le _) (c_X16_noReference hR1 u (by omega) (cont_ret ?_))
  refine wp_iconst (nI 1) dX16_history_11 (by decide) ?_
  refine wp_cV (y' := m_X16_fails) 17 [vi (bI (!ixB u (RS_rn S))), vi (nI 1)] [] 0 0 dX16_history_12 ml_X16_102 im_X16_fails se_X16_fails (by decide) hR1.mk ok_X16_fails rfl (Nat.le_of_ble_eq_true rfl) rfl (Nat.le_of_ble_eq_true rfl) (d' := d - 1) (by omega) (Nat.zero_le _) (Nat.zero_le _) (c_flB hR1.mk wI_ss (!ixB u (RS_rn S)) (nI 1) (by decide) (fun c_12 => cont_ret ?_) (fun c_12 => cont_ret ?_))
  · have g_1 : (!ixB u (RS_rn S)) = true := by first | exact c_12 | exact of_decide_eq_true c_12 | omega | (simp at c_12 ⊢; grind)
    have hR4 := hR1.w0 (x := nI 1)
    have hG5 := hG2.tr (FRR.w0 (x := nI 1))
    have hP6 := PO2.m (a := nm 1 0) (k := 0) (x := nI 1) hP3
    refine wp_if_eqN 22 dX16_history_15 (by decide) (by decide) (fun c_15 => absurd c_15 (by decide)) (fun c_15 => ?_)
    refine wp_iconst (nI 0) dX16_history_18 (by decide) ?_
    refine wp_goto 39 dX16_history_19 (by decide) ?_
    refine wp_ireturn dX16_history_39 rfl ?_
    rw [show o_history S u r = (nI 1, nI 0, S) from by unfold o_history; rw [if_pos g_1]] at hq
    exact hq _ hG5 wI_ss hR4 hP6
  · have g_1 : ¬ ((!ixB u (RS_rn S)) = true) := by first | exact fun z => Bool.false_ne_true (c_12.symm.trans z) | exact of_decide_eq_false c_12 | omega | (simp at c_12 ⊢; grind)
    obtain ⟨eu, hr⟩ := hu (nt_g g_1)
    subst eu
    have hb1 := hB.2.2.1 r hr
    refine wp_if_eqN 22 dX16_history_15 (by decide) (by decide) (fun c_15 => ?_) (fun c_15 => absurd c_15 (by decide))
    refine wp_aload_n (i := 0) dX16_history_22 rfl rfl ?_
    refine wp_get 17 13 (vr (some (nm 1 13))) dX16_history_23 hR1.mk (by decide) (by decide) fl_X16_47 (congrArg (fun z => toV (vr z)) (hR1.ref 13 (by decide) (by decide) (by decide) (by decide))) ?_
    refine wp_iload_n (i := 1) dX16_history_26 rfl rfl ?_
    refine wp_cV (y' := m_Jx4a65c_get_915e3) 2 [vi (nI r)] [] 0 0 dX16_history_27 ml_X16_201 im_Jx4a65c_get_915e3 se_Jx4a65c_get_915e3 (by decide) hR1.rl.k ok_Jx4a65c_get_915e3 rfl (Nat.le_of_ble_eq_true rfl) rfl (Nat.le_of_ble_eq_true rfl) (d' := d - 1) (by omega) (Nat.zero_le _) (Nat.zero_le _) (c_LO_get hR1.rl (by omega) (by omega) (cont_ret ?_))
    refine wp_castC 14 dX16_history_30 (by decide) kl_X16_238 (fun a ha => by cases ha; exact (hR1.r (by omega)).k0) ?_
    refine wp_get 14 3 (vr (some (nm 5 r))) dX16_history_33 (hR1.r (by omega)).k0 (by decide) (by decide) fl_X16_286 (congrArg (fun z => toV (vr z)) ((hR1.r (by omega)).r4_3)) ?_
    refine wp_cV (y' := m_Jx4a65c_size_8abf5) 2 [] [] 0 0 dX16_history_36 ml_X16_168 im_Jx4a65c_size_8abf5 se_Jx4a65c_size_8abf5 (by decide) (hR1.r (by omega)).L6.k ok_Jx4a65c_size_8abf5 rfl (Nat.le_of_ble_eq_true rfl) rfl (Nat.le_of_ble_eq_true rfl) (d' := d - 1) (by omega) (Nat.zero_le _) (Nat.zero_le _) (c_LP_size (hR1.r (by omega)).L6 (cont_ret ?_))
    rw [L2_len]
    refine wp_ireturn dX16_history_39 rfl ?_
    rw [show o_history S (nI r) r = (nI 0, (nI (OR_hs (RS_rr S r)).length), S) from by unfold o_history; rw [if_neg g_1] <;> rfl] at hq
    exact hq _ hG2 wI_ss hR1 hP3
set_option maxRecDepth 100000 in
set_option maxHeartbeats 4000000 in
theorem c_X16_moment {G : GG} {d bc bs : Nat} {h : Hp} {Q : Pst} {S : RS} (hR : MR h S) {n : Nat} (hB : RB n S) (hP : PO2 h) (hd : 7 ≤ d) (hq : RO Q h (o_moment S)) : WP G m_X16_moment d 0 (aargs 0 [vr (some (nm 1 0))]) [] h bc bs Q := by
  refine wp_sub [(0, vr (some (nm 1 0)))] (fun _ hz => hz) ?_
  have hG := FRR.rf (h := h)
  have hB16 := hB.h16
  have hbb := hB.1
  refine wp_aload_n (i := 0) dX16_moment_0 rfl rfl ?_
  refine wp_iconst (nI 0) dX16_moment_1 (by decide) ?_
  refine wp_putI 17 0 dX16_moment_2 hR.mk (by decide) (by decide) (by decide) fl_X16_63 rfl (fun _ _ => rfl) rfl rfl ?_
  have hR1 := hR.w0 (x := (nI 0))
  have hG2 := hG.tr (FRR.w0 (x := (nI 0)))
  have hP3 := PO2.m (a := nm 1 0) (k := 0) (x := (nI 0)) hP
  refine wp_aload_n (i := 0) dX16_moment_5 rfl rfl ?_
  refine wp_get 17 15 (vi (nI (RS_mo S))) dX16_moment_6 hR1.mk (by decide) (by decide) fl_X16_253 (congrArg (fun z => toV (vi z)) (hR1.mo)) ?_
  refine wp_ireturn dX16_moment_9 rfl ?_
  rw [show o_moment S = (nI 0, (nI (RS_mo S)), S) from by unfold o_moment; rfl] at hq
  exact hq _ hG2 wI_ss hR1 hP3
set_option maxRecDepth 100000 in
set_option maxHeartbeats 4000000 in
theorem c_X16_logged {G : GG} {d bc bs : Nat} {h : Hp} {Q : Pst} {S : RS} (hR : MR h S) {n : Nat} (hB : RB n S) (hP : PO2 h) (hd : 7 ≤ d) (hq : RO Q h (o_logged S)) : WP G m_X16_logged d 0 (aargs 0 [vr (some (nm 1 0))]) [] h bc bs Q := by
  refine wp_sub [(0, vr (some (nm 1 0)))] (fun _ hz => hz) ?_
  have hG := FRR.rf (h := h)
  have hB16 := hB.h16
  have hbb := hB.1
  refine wp_aload_n (i := 0) dX16_logged_0 rfl rfl ?_
  refine wp_iconst (nI 0) dX16_logged_1 (by decide) ?_
  refine wp_putI 17 0 dX16_logged_2 hR.mk (by decide) (by decide) (by decide) fl_X16_63 rfl (fun _ _ => rfl) rfl rfl ?_
  have hR1 := hR.w0 (x := (nI 0))
  have hG2 := hG.tr (FRR.w0 (x := (nI 0)))
  have hP3 := PO2.m (a := nm 1 0) (k := 0) (x := (nI 0)) hP
  refine wp_aload_n (i := 0) dX16_logged_5 rfl rfl ?_
  refine wp_get 17 14 (vr (some (nm 1 14))) dX16_logged_6 hR1.mk (by decide) (by decide) fl_X16_50 (congrArg (fun z => toV (vr z)) (hR1.ref 14 (by decide) (by decide) (by decide) (by decide))) ?_
  refine wp_cV (y' := m_Jx4a65c_size_8abf5) 2 [] [] 0 0 dX16_logged_9 ml_X16_168 im_Jx4a65c_size_8abf5 se_Jx4a65c_size_8abf5 (by decide) hR1.lg.k ok_Jx4a65c_size_8abf5 rfl (Nat.le_of_ble_eq_true rfl) rfl (Nat.le_of_ble_eq_true rfl) (d' := d - 1) (by omega) (Nat.zero_le _) (Nat.zero_le _) (c_LP_size hR1.lg (cont_ret ?_))
  rw [lgL_len]
  refine wp_ireturn dX16_logged_12 rfl ?_
  rw [show o_logged S = (nI 0, (nI ((RS_lg S)).length), S) from by unfold o_logged; rfl] at hq
  exact hq _ hG2 wI_ss hR1 hP3
set_option maxRecDepth 100000 in
set_option maxHeartbeats 4000000 in
theorem c_X16_ensure {G : GG} {d bc bs : Nat} {h : Hp} {Q : Pst} {S : RS} (hR : MR h S) {n : Nat} (hB : RB n S) (hP : PO2 h) {v : Int32} {t : Nat} (hv : ixB v 3 = true → v = nI t ∧ t < 3) {u : Int32} {r : Nat} (hu : ixB u (RS_rn S) = true → u = nI r ∧ r < RS_rn S) (hd : 7 ≤ d) (hq : RO Q h (o_ensure S v t u r)) : WP G m_X16_ensure d 0 (aargs 0 [vr (some (nm 1 0)), vi v, vi u]) [] h bc bs Q := by
  refine wp_sub [(0, vr (some (nm 1 0))), (1, vi v), (2, vi u)] (fun _ hz => hz) ?_
  have hG := FRR.rf (h := h)
  have hB16 := hB.h16
  have hbb := hB.1
  refine wp_aload_n (i := 0) dX16_ensure_0 rfl rfl ?_
  refine wp_iconst (nI 0) dX16_ensure_1 (by decide) ?_
  refine wp_putI 17 0 dX16_ensure_2 hR.mk (by decide) (by decide) (by decide) fl_X16_63 rfl (fun _ _ => rfl) rfl rfl ?_
  have hR1 := hR.w0 (x := (nI 0))
  have hG2 := hG.tr (FRR.w0 (x := (nI 0)))
  have hP3 := PO2.m (a := nm 1 0) (k := 0) (x := (nI 0)) hP
  refine wp_aload_n (i := 0) dX16_ensure_5 rfl rfl ?_
  refine wp_iload_n (i := 1) dX16_ensure_6 rfl rfl ?_
  refine wp_iload_n (i := 2) dX16_ensure_7 rfl rfl ?_
  refine wp_cV (y' := m_X16_cannot) 17 [vi v, vi u] [] 0 0 dX16_ensure_8 ml_X16_277 im_X16_cannot se_X16_cannot (by decide) hR1.mk ok_X16_cannot rfl (Nat.le_of_ble_eq_true rfl) rfl (Nat.le_of_ble_eq_true rfl) (d' := d - 1) (by omega) (Nat.zero_le _) (Nat.zero_le _) (c_X16_cannot hR1 hP3 wI_ss hv hu (by omega) (fun g_1 => cont_ret ?_) (fun g_1 g_2 => cont_ret ?_) (fun g_1 g_2 g_3 => cont_ret ?_) (fun g_1 g_2 g_3 => cont_ret ?_))
  · have hR4 := hR1.w0 (x := nI 1)
    have hG5 := hG2.tr (FRR.w0 (x := nI 1))
    have hP6 := PO2.m (a := nm 1 0) (k := 0) (x := nI 1) hP3
    refine wp_if_neN 33 dX16_ensure_11 (by decide) (by decide) (fun c_11 => ?_) (fun c_11 => absurd c_11 (by decide))
    refine wp_iconst (nI 0) dX16_ensure_33 (by decide) ?_
    refine wp_zreturn dX16_ensure_34 rfl (by first | rfl | assumption | decide) ?_
    rw [show o_ensure S v t u r = (nI 1, nI 0, S) from by unfold o_ensure; rw [if_pos g_1]] at hq
    exact hq _ hG5 wI_ss hR4 hP6
  · obtain ⟨ev, ht⟩ := hv (nt_g g_1)
    subst ev
    have hR7 := hR1.w0 (x := nI 2)
    have hG8 := hG2.tr (FRR.w0 (x := nI 2))
    have hP9 := PO2.m (a := nm 1 0) (k := 0) (x := nI 2) hP3
    refine wp_if_neN 33 dX16_ensure_11 (by decide) (by decide) (fun c_11 => ?_) (fun c_11 => absurd c_11 (by decide))
    refine wp_iconst (nI 0) dX16_ensure_33 (by decide) ?_
    refine wp_zreturn dX16_ensure_34 rfl (by first | rfl | assumption | decide) ?_
    rw [show o_ensure S (nI t) t u r = (nI 2, nI 0, S) from by unfold o_ensure; rw [if_neg g_1, if_pos g_2]] at hq
    exact hq _ hG8 wI_ss hR7 hP9
  · obtain ⟨ev, ht⟩ := hv (nt_g g_1)
    subst ev
    obtain ⟨eu, hr⟩ := hu (nt_g g_2)
    subst eu
    have hR10 := hR1.w0 (x := nI 3)
    have hG11 := hG2.tr (FRR.w0 (x := nI 3))
    have hP12 := PO2.m (a := nm 1 0) (k := 0) (x := nI 3) hP3
    refine wp_if_neN 33 dX16_ensure_11 (by decide) (by decide) (fun c_11 => ?_) (fun c_11 => absurd c_11 (by decide))
    refine wp_iconst (nI 0) dX16_ensure_33 (by decide) ?_
    refine wp_zreturn dX16_ensure_34 rfl (by first | rfl | assumption | decide) ?_
    rw [show o_ensure S (nI t) t (nI r) r = (nI 3, nI 0, S) from by unfold o_ensure; rw [if_neg g_1, if_neg g_2, if_pos g_3]] at hq
    exact hq _ hG11 wI_ss hR10 hP12
  · obtain ⟨ev, ht⟩ := hv (nt_g g_1)
    subst ev
    obtain ⟨eu, hr⟩ := hu (nt_g g_2)
    subst eu
    refine wp_if_neN 33 dX16_ensure_11 (by decide) (by decide) (fun c_11 => absurd c_11 (by decide)) (fun c_11 => ?_)
    have hr6 : r < 6 := by have := hB.1.2.1; omega
    have hrr := hr
    have htt := ht
    refine wp_aload_n (i := 0) dX16_ensure_14 rfl rfl ?_
    refine wp_iload_n (i := 1) dX16_ensure_15 rfl rfl ?_
    refine wp_iload_n (i := 2) dX16_ensure_16 rfl rfl ?_
    refine wp_cV (y' := m_X16_isLate) 17 [vi (nI t), vi (nI r)] [] 0 0 dX16_ensure_17 ml_X16_322 im_X16_isLate se_X16_isLate (by decide) hR1.mk ok_X16_isLate rfl (Nat.le_of_ble_eq_true rfl) rfl (Nat.le_of_ble_eq_true rfl) (d' := d - 1) (by omega) (Nat.zero_le _) (Nat.zero_le _) (c_X16_isLate hR1 hB ht hr (by omega) (fun l_17 h15 hO13 hF14 => cont_ret ?_) (fun l_17 => cont_ret ?_))
    · skip
      refine wp_if_neN 33 dX16_ensure_20 (by decide) (by decide) (fun c_20 => ?_) (fun c_20 => absurd c_20 (by decide))
      refine wp_iconst (nI 0) dX16_ensure_33 (by decide) ?_
      refine wp_zreturn dX16_ensure_34 rfl (by first | rfl | assumption | decide) ?_
      have hP16 := (hP3).oT hF14
      have hR17 := hR1.upT (by omega) hF14 hO13 hB16
      have hG18 := hG2.tr (FRR.oT hF14)
      rw [show o_ensure S (nI t) t (nI r) r = (nI 0, (nI 0), RS_utt1 S t (sbk (RS_tt S t) (RS_mo S))) from by unfold o_ensure; rw [if_neg g_1, if_neg g_2, if_neg g_3, if_pos l_17] <;> rfl] at hq
      exact hq _ hG18 ((th_oT hF14).trans wI_ss) hR17 hP16
    · skip
      refine wp_if_neN 33 dX16_ensure_20 (by decide) (by decide) (fun c_20 => absurd c_20 (by decide)) (fun c_20 => ?_)
      refine wp_aload_n (i := 0) dX16_ensure_23 rfl rfl ?_
      refine wp_iload_n (i := 1) dX16_ensure_24 rfl rfl ?_
      refine wp_iload_n (i := 2) dX16_ensure_25 rfl rfl ?_
      refine wp_iconst (nI 0) dX16_ensure_26 (by decide) ?_
      refine wp_cV (y' := m_X16_goesOn) 17 [vi (nI t), vi (nI r), vi (nI 0)] [] 0 0 dX16_ensure_27 ml_X16_325 im_X16_goesOn se_X16_goesOn (by decide) hR1.mk ok_X16_goesOn rfl (Nat.le_of_ble_eq_true rfl) rfl (Nat.le_of_ble_eq_true rfl) (d' := d - 1) (by omega) (Nat.zero_le _) (Nat.zero_le _) (c_X16_goesOn hR1 hB hP3 false (by omega) (by omega) (by omega) (fun h19 hR20 hB21 hP22 hG23 hth24 => cont_ret ?_))
      have hG25 := hG2.tr hG23
      refine wp_if_neB 35 dX16_ensure_30 (by decide) (fun c_30 => ?_) (fun c_30 => ?_)
      · skip
        refine wp_aload_n (i := 0) dX16_ensure_35 rfl rfl ?_
        refine wp_get 17 17 (vr (some (nm 1 17))) dX16_ensure_36 hR20.mk (by decide) (by decide) fl_X16_56 (congrArg (fun z => toV (vr z)) (hR20.ref 17 (by decide) (by decide) (by decide) (by decide))) ?_
        refine wp_iload_n (i := 1) dX16_ensure_39 rfl rfl ?_
        refine wp_aaloadN 3 (some (nm 6 t)) dX16_ensure_40 (arTy_117 hR20.k17) hR20.tn (by omega) (by decide) (hR20.tr (by omega)) ?_
        refine wp_get 16 6 (vr (some (nm 9 t))) dX16_ensure_41 (hR20.t (by omega)).k0 (by decide) (by decide) fl_X16_312 (congrArg (fun z => toV (vr z)) ((hR20.t (by omega)).r7_6)) ?_
        refine wp_iload_n (i := 2) dX16_ensure_44 rfl rfl ?_
        refine wp_iconst (nI 1) dX16_ensure_45 (by decide) ?_
        refine wp_zastoreN 6 dX16_ensure_46 (hR20.t (by omega)).k15 (hR20.t (by omega)).n15 (by omega) (by decide) (by decide) ?_
        have hO26 := (hR20.t (by omega))
        have hF27 := hO26.rfT
        have hO28 := hO26.wen (j := r) (v := true)
        have hF29 := hF27.wI (b := nm 9 t) (k := r) (x := bI (true)) (by unfold WT nm; omega)
        refine wp_iconst (nI 1) dX16_ensure_47 (by decide) ?_
        refine wp_zreturn dX16_ensure_48 rfl (by first | rfl | assumption | decide) ?_
        have hP30 := (hP22).oT hF29
        have hR31 := hR20.upT (by omega) hF29 hO28 hB21.h16
        have hG32 := hG25.tr (FRR.oT hF29)
        rw [show o_ensure S (nI t) t (nI r) r = (nI 0, (nI 1), RS_utt1 ((gos t r false 3 S).2) t (OT_uen (RS_tt ((gos t r false 3 S).2) t) r true)) from by unfold o_ensure; rw [if_neg g_1, if_neg g_2, if_neg g_3, if_neg l_17, if_neg (fun z => Bool.false_ne_true (z.symm.trans c_30))] <;> rfl] at hq
        exact hq _ hG32 ((th_oT hF29).trans (hth24.trans wI_ss)) hR31 hP30
      · skip
        refine wp_iconst (nI 0) dX16_ensure_33 (by decide) ?_
        refine wp_zreturn dX16_ensure_34 rfl (by first | rfl | assumption | decide) ?_
        rw [show o_ensure S (nI t) t (nI r) r = (nI 0, (nI 0), (gos t r false 3 S).2) from by unfold o_ensure; rw [if_neg g_1, if_neg g_2, if_neg g_3, if_neg l_17, if_pos c_30] <;> rfl] at hq
        exact hq _ hG25 (hth24.trans wI_ss) hR20 hP22
set_option maxRecDepth 100000 in
set_option maxHeartbeats 4000000 in
theorem c_X16_write {G : GG} {d bc bs : Nat} {h : Hp} {Q : Pst} {S : RS} (hR : MR h S) {n : Nat} (hB : RB n S) (hP : PO2 h) {v : Int32} {t : Nat} (hv : ixB v 3 = true → v = nI t ∧ t < 3) {u : Int32} {r : Nat} (hu : ixB u (RS_rn S) = true → u = nI r ∧ r < RS_rn S) {x : Int32} (hd : 7 ≤ d) (hq : RO Q h (o_write S v t u r x)) : WP G m_X16_write d 0 (aargs 0 [vr (some (nm 1 0)), vi v, vi u, vi x]) [] h bc bs Q := by
  refine wp_sub [(0, vr (some (nm 1 0))), (1, vi v), (2, vi u), (3, vi x)] (fun _ hz => hz) ?_
  have hG := FRR.rf (h := h)
  have hB16 := hB.h16
  have hbb := hB.1
  refine wp_aload_n (i := 0) dX16_write_0 rfl rfl ?_
  refine wp_iconst (nI 0) dX16_write_1 (by decide) ?_
  refine wp_putI 17 0 dX16_write_2 hR.mk (by decide) (by decide) (by decide) fl_X16_63 rfl (fun _ _ => rfl) rfl rfl ?_
  have hR1 := hR.w0 (x := (nI 0))
  have hG2 := hG.tr (FRR.w0 (x := (nI 0)))
  have hP3 := PO2.m (a := nm 1 0) (k := 0) (x := (nI 0)) hP
  refine wp_aload_n (i := 0) dX16_write_5 rfl rfl ?_
  refine wp_iload_n (i := 1) dX16_write_6 rfl rfl ?_
  refine wp_iload_n (i := 2) dX16_write_7 rfl rfl ?_
  refine wp_cV (y' := m_X16_cannot) 17 [vi v, vi u] [] 0 0 dX16_write_8 ml_X16_277 im_X16_cannot se_X16_cannot (by decide) hR1.mk ok_X16_cannot rfl (Nat.le_of_ble_eq_true rfl) rfl (Nat.le_of_ble_eq_true rfl) (d' := d - 1) (by omega) (Nat.zero_le _) (Nat.zero_le _) (c_X16_cannot hR1 hP3 wI_ss hv hu (by omega) (fun g_1 => cont_ret ?_) (fun g_1 g_2 => cont_ret ?_) (fun g_1 g_2 g_3 => cont_ret ?_) (fun g_1 g_2 g_3 => cont_ret ?_))
  · have hR4 := hR1.w0 (x := nI 1)
    have hG5 := hG2.tr (FRR.w0 (x := nI 1))
    have hP6 := PO2.m (a := nm 1 0) (k := 0) (x := nI 1) hP3
    refine wp_if_neN 67 dX16_write_11 (by decide) (by decide) (fun c_11 => ?_) (fun c_11 => absurd c_11 (by decide))
    refine wp_iconst (nI 0) dX16_write_67 (by decide) ?_
    refine wp_zreturn dX16_write_68 rfl (by first | rfl | assumption | decide) ?_
    rw [show o_write S v t u r x = (nI 1, nI 0, S) from by unfold o_write; rw [if_pos g_1]] at hq
    exact hq _ hG5 wI_ss hR4 hP6
  · obtain ⟨ev, ht⟩ := hv (nt_g g_1)
    subst ev
    have hR7 := hR1.w0 (x := nI 2)
    have hG8 := hG2.tr (FRR.w0 (x := nI 2))
    have hP9 := PO2.m (a := nm 1 0) (k := 0) (x := nI 2) hP3
    refine wp_if_neN 67 dX16_write_11 (by decide) (by decide) (fun c_11 => ?_) (fun c_11 => absurd c_11 (by decide))
    refine wp_iconst (nI 0) dX16_write_67 (by decide) ?_
    refine wp_zreturn dX16_write_68 rfl (by first | rfl | assumption | decide) ?_
    rw [show o_write S (nI t) t u r x = (nI 2, nI 0, S) from by unfold o_write; rw [if_neg g_1, if_pos g_2]] at hq
    exact hq _ hG8 wI_ss hR7 hP9
  · obtain ⟨ev, ht⟩ := hv (nt_g g_1)
    subst ev
    obtain ⟨eu, hr⟩ := hu (nt_g g_2)
    subst eu
    have hR10 := hR1.w0 (x := nI 3)
    have hG11 := hG2.tr (FRR.w0 (x := nI 3))
    have hP12 := PO2.m (a := nm 1 0) (k := 0) (x := nI 3) hP3
    refine wp_if_neN 67 dX16_write_11 (by decide) (by decide) (fun c_11 => ?_) (fun c_11 => absurd c_11 (by decide))
    refine wp_iconst (nI 0) dX16_write_67 (by decide) ?_
    refine wp_zreturn dX16_write_68 rfl (by first | rfl | assumption | decide) ?_
    rw [show o_write S (nI t) t (nI r) r x = (nI 3, nI 0, S) from by unfold o_write; rw [if_neg g_1, if_neg g_2, if_pos g_3]] at hq
    exact hq _ hG11 wI_ss hR10 hP12
  · obtain ⟨ev, ht⟩ := hv (nt_g g_1)
    subst ev
    obtain ⟨eu, hr⟩ := hu (nt_g g_2)
    subst eu
    refine wp_if_neN 67 dX16_write_11 (by decide) (by decide) (fun c_11 => absurd c_11 (by decide)) (fun c_11 => ?_)
    have hr6 : r < 6 := by have := hB.1.2.1; omega
    have hrr := hr
    have htt := ht
    refine wp_aload_n (i := 0) dX16_write_14 rfl rfl ?_
    refine wp_aload_n (i := 0) dX16_write_15 rfl rfl ?_
    refine wp_get 17 17 (vr (some (nm 1 17))) dX16_write_16 hR1.mk (by decide) (by decide) fl_X16_56 (congrArg (fun z => toV (vr z)) (hR1.ref 17 (by decide) (by decide) (by decide) (by decide))) ?_
    refine wp_iload_n (i := 1) dX16_write_19 rfl rfl ?_
    refine wp_aaloadN 3 (some (nm 6 t)) dX16_write_20 (arTy_117 hR1.k17) hR1.tn (by omega) (by decide) (hR1.tr (by omega)) ?_
    refine wp_get 16 7 (vr (some (nm 10 t))) dX16_write_21 (hR1.t (by omega)).k0 (by decide) (by decide) fl_X16_319 (congrArg (fun z => toV (vr z)) ((hR1.t (by omega)).r8_7)) ?_
    refine wp_iload_n (i := 2) dX16_write_24 rfl rfl ?_
    refine wp_zaloadN 6 (bI (OT_ad (RS_tt S t) r)) dX16_write_25 (hR1.t (by omega)).k17 (hR1.t (by omega)).n17 (by omega) (by decide) ((hR1.t (by omega)).a_ad r) ?_
    refine wp_if_neB 36 dX16_write_26 (by decide) (fun c_26 => ?_) (fun c_26 => ?_)
    · skip
      refine wp_iconst (nI 1) dX16_write_36 (by decide) ?_
      refine wp_goto 41 dX16_write_37 (by decide) ?_
      refine wp_iconst (nI 4) dX16_write_41 (by decide) ?_
      refine wp_cV (y' := m_X16_fails) 17 [vi (nI 1), vi (nI 4)] [] 0 0 dX16_write_42 ml_X16_102 im_X16_fails se_X16_fails (by decide) hR1.mk ok_X16_fails rfl (Nat.le_of_ble_eq_true rfl) rfl (Nat.le_of_ble_eq_true rfl) (d' := d - 1) (by omega) (Nat.zero_le _) (Nat.zero_le _) (c_flT hR1.mk wI_ss (nI 4) (by decide) (cont_ret ?_))
      have g_4 : OT_ad (RS_tt S t) r = true ∨ (!elB x) = true := by first | exact Or.inl c_26 | exact Or.inr c_33
      have hR13 := hR1.w0 (x := nI 4)
      have hG14 := hG2.tr (FRR.w0 (x := nI 4))
      have hP15 := PO2.m (a := nm 1 0) (k := 0) (x := nI 4) hP3
      refine wp_if_neN 67 dX16_write_45 (by decide) (by decide) (fun c_45 => ?_) (fun c_45 => absurd c_45 (by decide))
      refine wp_iconst (nI 0) dX16_write_67 (by decide) ?_
      refine wp_zreturn dX16_write_68 rfl (by first | rfl | assumption | decide) ?_
      rw [show o_write S (nI t) t (nI r) r x = (nI 4, nI 0, S) from by unfold o_write; rw [if_neg g_1, if_neg g_2, if_neg g_3, if_pos g_4]] at hq
      exact hq _ hG14 wI_ss hR13 hP15
    · skip
      refine wp_iload_n (i := 3) dX16_write_29 rfl rfl ?_
      refine wp_cS (y' := m_X16_noElement) [vi x] [vr (some (nm 1 0))] 0 0 dX16_write_30 ml_X16_118 st_X16_noElement ok_X16_noElement rfl (Nat.le_of_ble_eq_true rfl) rfl (Nat.le_of_ble_eq_true rfl) (d' := d - 1) (by omega) (Nat.zero_le _) (Nat.zero_le _) (c_X16_noElement x (by omega) (cont_ret ?_))
      refine wp_if_eqB 40 dX16_write_33 (by decide) (fun c_33 => ?_) (fun c_33 => ?_)
      · skip
        refine wp_iconst (nI 0) dX16_write_40 (by decide) ?_
        refine wp_iconst (nI 4) dX16_write_41 (by decide) ?_
        refine wp_cV (y' := m_X16_fails) 17 [vi (nI 0), vi (nI 4)] [] 0 0 dX16_write_42 ml_X16_102 im_X16_fails se_X16_fails (by decide) hR1.mk ok_X16_fails rfl (Nat.le_of_ble_eq_true rfl) rfl (Nat.le_of_ble_eq_true rfl) (d' := d - 1) (by omega) (Nat.zero_le _) (Nat.zero_le _) (c_flF hR1.mk wI_ss (nI 4) (by decide) (cont_ret ?_))
        have g_4 : ¬ (OT_ad (RS_tt S t) r = true ∨ (!elB x) = true) := by exact fun z => z.elim (fun y => Bool.false_ne_true (c_26.symm.trans y)) (fun y => Bool.false_ne_true (c_33.symm.trans y))
        refine wp_if_neN 67 dX16_write_45 (by decide) (by decide) (fun c_45 => absurd c_45 (by decide)) (fun c_45 => ?_)
        refine wp_aload_n (i := 0) dX16_write_48 rfl rfl ?_
        refine wp_iload_n (i := 1) dX16_write_49 rfl rfl ?_
        refine wp_iload_n (i := 2) dX16_write_50 rfl rfl ?_
        refine wp_cV (y' := m_X16_isLate) 17 [vi (nI t), vi (nI r)] [] 0 0 dX16_write_51 ml_X16_322 im_X16_isLate se_X16_isLate (by decide) hR1.mk ok_X16_isLate rfl (Nat.le_of_ble_eq_true rfl) rfl (Nat.le_of_ble_eq_true rfl) (d' := d - 1) (by omega) (Nat.zero_le _) (Nat.zero_le _) (c_X16_isLate hR1 hB ht hr (by omega) (fun l_51 h21 hO19 hF20 => cont_ret ?_) (fun l_51 => cont_ret ?_))
        · skip
          refine wp_if_neN 67 dX16_write_54 (by decide) (by decide) (fun c_54 => ?_) (fun c_54 => absurd c_54 (by decide))
          refine wp_iconst (nI 0) dX16_write_67 (by decide) ?_
          refine wp_zreturn dX16_write_68 rfl (by first | rfl | assumption | decide) ?_
          have hP22 := (hP3).oT hF20
          have hR23 := hR1.upT (by omega) hF20 hO19 hB16
          have hG24 := hG2.tr (FRR.oT hF20)
          rw [show o_write S (nI t) t (nI r) r x = (nI 0, (nI 0), RS_utt1 S t (sbk (RS_tt S t) (RS_mo S))) from by unfold o_write; rw [if_neg g_1, if_neg g_2, if_neg g_3, if_neg g_4, if_pos l_51] <;> rfl] at hq
          exact hq _ hG24 ((th_oT hF20).trans wI_ss) hR23 hP22
        · skip
          refine wp_if_neN 67 dX16_write_54 (by decide) (by decide) (fun c_54 => absurd c_54 (by decide)) (fun c_54 => ?_)
          refine wp_aload_n (i := 0) dX16_write_57 rfl rfl ?_
          refine wp_iload_n (i := 1) dX16_write_58 rfl rfl ?_
          refine wp_iload_n (i := 2) dX16_write_59 rfl rfl ?_
          refine wp_iconst (nI 1) dX16_write_60 (by decide) ?_
          refine wp_cV (y' := m_X16_goesOn) 17 [vi (nI t), vi (nI r), vi (nI 1)] [] 0 0 dX16_write_61 ml_X16_325 im_X16_goesOn se_X16_goesOn (by decide) hR1.mk ok_X16_goesOn rfl (Nat.le_of_ble_eq_true rfl) rfl (Nat.le_of_ble_eq_true rfl) (d' := d - 1) (by omega) (Nat.zero_le _) (Nat.zero_le _) (c_X16_goesOn hR1 hB hP3 true (by omega) (by omega) (by omega) (fun h25 hR26 hB27 hP28 hG29 hth30 => cont_ret ?_))
          have hG31 := hG2.tr hG29
          refine wp_if_neB 69 dX16_write_64 (by decide) (fun c_64 => ?_) (fun c_64 => ?_)
          · skip
            refine wp_aload_n (i := 0) dX16_write_69 rfl rfl ?_
            refine wp_get 17 17 (vr (some (nm 1 17))) dX16_write_70 hR26.mk (by decide) (by decide) fl_X16_56 (congrArg (fun z => toV (vr z)) (hR26.ref 17 (by decide) (by decide) (by decide) (by decide))) ?_
            refine wp_iload_n (i := 1) dX16_write_73 rfl rfl ?_
            refine wp_aaloadN 3 (some (nm 6 t)) dX16_write_74 (arTy_117 hR26.k17) hR26.tn (by omega) (by decide) (hR26.tr (by omega)) ?_
            refine wp_get 16 4 (vr (some (nm 7 t))) dX16_write_75 (hR26.t (by omega)).k0 (by decide) (by decide) fl_X16_280 (congrArg (fun z => toV (vr z)) ((hR26.t (by omega)).r5_4)) ?_
            refine wp_iload_n (i := 2) dX16_write_78 rfl rfl ?_
            refine wp_iconst (nI 1) dX16_write_79 (by decide) ?_
            refine wp_zastoreN 6 dX16_write_80 (hR26.t (by omega)).k11 (hR26.t (by omega)).n11 (by omega) (by decide) (by decide) ?_
            have hO32 := (hR26.t (by omega))
            have hF33 := hO32.rfT
            have hO34 := hO32.wwr (j := r) (v := true)
            have hF35 := hF33.wI (b := nm 7 t) (k := r) (x := bI (true)) (by unfold WT nm; omega)
            refine wp_aload_n (i := 0) dX16_write_81 rfl rfl ?_
            refine wp_get 17 17 (vr (some (nm 1 17))) dX16_write_82 ((ce_k (hF35 (nm 1 0) (WT_n (by omega) (by decide)))).trans hR26.mk) (by decide) (by decide) fl_X16_56 (congrArg (fun z => toV (vr z)) ((congrFun (ce_R (hF35 (nm 1 0) (WT_n (by omega) (by decide)))) 17).trans (hR26.ref 17 (by decide) (by decide) (by decide) (by decide)))) ?_
            refine wp_iload_n (i := 1) dX16_write_85 rfl rfl ?_
            refine wp_aaloadN 3 (some (nm 6 t)) dX16_write_86 (arTy_117 ((ce_k (hF35 (nm 1 17) (WT_n (by omega) (by decide)))).trans hR26.k17)) ((ce_n (hF35 (nm 1 17) (WT_n (by omega) (by decide)))).trans hR26.tn) (by omega) (by decide) ((congrFun (ce_R (hF35 (nm 1 17) (WT_n (by omega) (by decide)))) t).trans (hR26.tr (by omega))) ?_
            refine wp_get 16 5 (vr (some (nm 8 t))) dX16_write_87 hO34.k0 (by decide) (by decide) fl_X16_283 (congrArg (fun z => toV (vr z)) (hO34.r6_5)) ?_
            refine wp_iload_n (i := 2) dX16_write_90 rfl rfl ?_
            refine wp_iload_n (i := 3) dX16_write_91 rfl rfl ?_
            refine wp_iastoreN 6 dX16_write_92 hO34.k13 hO34.n13 (by omega) (by decide) ?_
            have hO36 := hO34.wwn (j := r) (v := x)
            have hF37 := hF35.wI (b := nm 8 t) (k := r) (x := x) (by unfold WT nm; omega)
            refine wp_iconst (nI 1) dX16_write_93 (by decide) ?_
            refine wp_zreturn dX16_write_94 rfl (by first | rfl | assumption | decide) ?_
            have hP38 := (hP28).oT hF37
            have hR39 := hR26.upT (by omega) hF37 hO36 hB27.h16
            have hG40 := hG31.tr (FRR.oT hF37)
            rw [show o_write S (nI t) t (nI r) r x = (nI 0, (nI 1), RS_utt1 ((gos t r true 3 S).2) t (OT_uwn (OT_uwr (RS_tt ((gos t r true 3 S).2) t) r true) r x)) from by unfold o_write; rw [if_neg g_1, if_neg g_2, if_neg g_3, if_neg g_4, if_neg l_51, if_neg (fun z => Bool.false_ne_true (z.symm.trans c_64))] <;> rfl] at hq
            exact hq _ hG40 ((th_oT hF37).trans (hth30.trans wI_ss)) hR39 hP38
          · skip
            refine wp_iconst (nI 0) dX16_write_67 (by decide) ?_
            refine wp_zreturn dX16_write_68 rfl (by first | rfl | assumption | decide) ?_
            rw [show o_write S (nI t) t (nI r) r x = (nI 0, (nI 0), (gos t r true 3 S).2) from by unfold o_write; rw [if_neg g_1, if_neg g_2, if_neg g_3, if_neg g_4, if_neg l_51, if_pos c_64] <;> rfl] at hq
            exact hq _ hG31 (hth30.trans wI_ss) hR26 hP28
      · skip
        refine wp_iconst (nI 1) dX16_write_36 (by decide) ?_
        refine wp_goto 41 dX16_write_37 (by decide) ?_
        refine wp_iconst (nI 4) dX16_write_41 (by decide) ?_
        refine wp_cV (y' := m_X16_fails) 17 [vi (nI 1), vi (nI 4)] [] 0 0 dX16_write_42 ml_X16_102 im_X16_fails se_X16_fails (by decide) hR1.mk ok_X16_fails rfl (Nat.le_of_ble_eq_true rfl) rfl (Nat.le_of_ble_eq_true rfl) (d' := d - 1) (by omega) (Nat.zero_le _) (Nat.zero_le _) (c_flT hR1.mk wI_ss (nI 4) (by decide) (cont_ret ?_))
        have g_4 : OT_ad (RS_tt S t) r = true ∨ (!elB x) = true := by first | exact Or.inl c_26 | exact Or.inr c_33
        have hR41 := hR1.w0 (x := nI 4)
        have hG42 := hG2.tr (FRR.w0 (x := nI 4))
        have hP43 := PO2.m (a := nm 1 0) (k := 0) (x := nI 4) hP3
        refine wp_if_neN 67 dX16_write_45 (by decide) (by decide) (fun c_45 => ?_) (fun c_45 => absurd c_45 (by decide))
        refine wp_iconst (nI 0) dX16_write_67 (by decide) ?_
        refine wp_zreturn dX16_write_68 rfl (by first | rfl | assumption | decide) ?_
        rw [show o_write S (nI t) t (nI r) r x = (nI 4, nI 0, S) from by unfold o_write; rw [if_neg g_1, if_neg g_2, if_neg g_3, if_pos g_4]] at hq
        exact hq _ hG42 wI_ss hR41 hP43
set_option maxRecDepth 100000 in
set_option maxHeartbeats 4000000 in
theorem c_X16_add {G : GG} {d bc bs : Nat} {h : Hp} {Q : Pst} {S : RS} (hR : MR h S) {n : Nat} (hB : RB n S) (hP : PO2 h) {v : Int32} {t : Nat} (hv : ixB v 3 = true → v = nI t ∧ t < 3) {u : Int32} {r : Nat} (hu : ixB u (RS_rn S) = true → u = nI r ∧ r < RS_rn S) {y : Int32} (hd : 7 ≤ d) (hq : RO Q h (o_add S v t u r y)) : WP G m_X16_add d 0 (aargs 0 [vr (some (nm 1 0)), vi v, vi u, vi y]) [] h bc bs Q := by
  refine wp_sub [(0, vr (some (nm 1 0))), (1, vi v), (2, vi u), (3, vi y)] (fun _ hz => hz) ?_
  have hG := FRR.rf (h := h)
  have hB16 := hB.h16
  have hbb := hB.1
  refine wp_aload_n (i := 0) dX16_add_0 rfl rfl ?_
  refine wp_iconst (nI 0) dX16_add_1 (by decide) ?_
  refine wp_putI 17 0 dX16_add_2 hR.mk (by decide) (by decide) (by decide) fl_X16_63 rfl (fun _ _ => rfl) rfl rfl ?_
  have hR1 := hR.w0 (x := (nI 0))
  have hG2 := hG.tr (FRR.w0 (x := (nI 0)))
  have hP3 := PO2.m (a := nm 1 0) (k := 0) (x := (nI 0)) hP
  refine wp_aload_n (i := 0) dX16_add_5 rfl rfl ?_
  refine wp_iload_n (i := 1) dX16_add_6 rfl rfl ?_
  refine wp_iload_n (i := 2) dX16_add_7 rfl rfl ?_
  refine wp_cV (y' := m_X16_cannot) 17 [vi v, vi u] [] 0 0 dX16_add_8 ml_X16_277 im_X16_cannot se_X16_cannot (by decide) hR1.mk ok_X16_cannot rfl (Nat.le_of_ble_eq_true rfl) rfl (Nat.le_of_ble_eq_true rfl) (d' := d - 1) (by omega) (Nat.zero_le _) (Nat.zero_le _) (c_X16_cannot hR1 hP3 wI_ss hv hu (by omega) (fun g_1 => cont_ret ?_) (fun g_1 g_2 => cont_ret ?_) (fun g_1 g_2 g_3 => cont_ret ?_) (fun g_1 g_2 g_3 => cont_ret ?_))
  · have hR4 := hR1.w0 (x := nI 1)
    have hG5 := hG2.tr (FRR.w0 (x := nI 1))
    have hP6 := PO2.m (a := nm 1 0) (k := 0) (x := nI 1) hP3
    refine wp_if_eqN 16 dX16_add_11 (by decide) (by decide) (fun c_11 => absurd c_11 (by decide)) (fun c_11 => ?_)
    refine wp_iconst (nI 0) dX16_add_14 (by decide) ?_
    refine wp_zreturn dX16_add_15 rfl (by first | rfl | assumption | decide) ?_
    rw [show o_add S v t u r y = (nI 1, nI 0, S) from by unfold o_add; rw [if_pos g_1]] at hq
    exact hq _ hG5 wI_ss hR4 hP6
  · obtain ⟨ev, ht⟩ := hv (nt_g g_1)
    subst ev
    have hR7 := hR1.w0 (x := nI 2)
    have hG8 := hG2.tr (FRR.w0 (x := nI 2))
    have hP9 := PO2.m (a := nm 1 0) (k := 0) (x := nI 2) hP3
    refine wp_if_eqN 16 dX16_add_11 (by decide) (by decide) (fun c_11 => absurd c_11 (by decide)) (fun c_11 => ?_)
    refine wp_iconst (nI 0) dX16_add_14 (by decide) ?_
    refine wp_zreturn dX16_add_15 rfl (by first | rfl | assumption | decide) ?_
    rw [show o_add S (nI t) t u r y = (nI 2, nI 0, S) from by unfold o_add; rw [if_neg g_1, if_pos g_2]] at hq
    exact hq _ hG8 wI_ss hR7 hP9
  · obtain ⟨ev, ht⟩ := hv (nt_g g_1)
    subst ev
    obtain ⟨eu, hr⟩ := hu (nt_g g_2)
    subst eu
    have hR10 := hR1.w0 (x := nI 3)
    have hG11 := hG2.tr (FRR.w0 (x := nI 3))
    have hP12 := PO2.m (a := nm 1 0) (k := 0) (x := nI 3) hP3
    refine wp_if_eqN 16 dX16_add_11 (by decide) (by decide) (fun c_11 => absurd c_11 (by decide)) (fun c_11 => ?_)
    refine wp_iconst (nI 0) dX16_add_14 (by decide) ?_
    refine wp_zreturn dX16_add_15 rfl (by first | rfl | assumption | decide) ?_
    rw [show o_add S (nI t) t (nI r) r y = (nI 3, nI 0, S) from by unfold o_add; rw [if_neg g_1, if_neg g_2, if_pos g_3]] at hq
    exact hq _ hG11 wI_ss hR10 hP12
  · obtain ⟨ev, ht⟩ := hv (nt_g g_1)
    subst ev
    obtain ⟨eu, hr⟩ := hu (nt_g g_2)
    subst eu
    refine wp_if_eqN 16 dX16_add_11 (by decide) (by decide) (fun c_11 => ?_) (fun c_11 => absurd c_11 (by decide))
    have hr6 : r < 6 := by have := hB.1.2.1; omega
    have hrr := hr
    have htt := ht
    refine wp_aload_n (i := 0) dX16_add_16 rfl rfl ?_
    refine wp_get 17 17 (vr (some (nm 1 17))) dX16_add_17 hR1.mk (by decide) (by decide) fl_X16_56 (congrArg (fun z => toV (vr z)) (hR1.ref 17 (by decide) (by decide) (by decide) (by decide))) ?_
    refine wp_iload_n (i := 1) dX16_add_20 rfl rfl ?_
    refine wp_aaloadN 3 (some (nm 6 t)) dX16_add_21 (arTy_117 hR1.k17) hR1.tn (by omega) (by decide) (hR1.tr (by omega)) ?_
    refine wp_astore (i := 4) (lv' := [(4, vr (some (nm 6 t))), (0, vr (some (nm 1 0))), (1, vi (nI t)), (2, vi (nI r)), (3, vi y)]) dX16_add_22 (by decide) rfl ?_
    refine wp_aload (i := 4) dX16_add_24 rfl ?_
    refine wp_get 16 4 (vr (some (nm 7 t))) dX16_add_26 (hR1.t (by omega)).k0 (by decide) (by decide) fl_X16_280 (congrArg (fun z => toV (vr z)) ((hR1.t (by omega)).r5_4)) ?_
    refine wp_iload_n (i := 2) dX16_add_29 rfl rfl ?_
    refine wp_zaloadN 6 (bI (OT_wr (RS_tt S t) r)) dX16_add_30 (hR1.t (by omega)).k11 (hR1.t (by omega)).n11 (by omega) (by decide) ((hR1.t (by omega)).a_wr r) ?_
    refine wp_if_eqB 44 dX16_add_31 (by decide) (fun c_31 => ?_) (fun c_31 => ?_)
    · skip
      refine wp_aload (i := 4) dX16_add_44 rfl ?_
      refine wp_get 16 8 (vr (some (nm 11 t))) dX16_add_46 (hR1.t (by omega)).k0 (by decide) (by decide) fl_X16_309 (congrArg (fun z => toV (vr z)) ((hR1.t (by omega)).r9_8)) ?_
      refine wp_iload_n (i := 2) dX16_add_49 rfl rfl ?_
      refine wp_ialoadN 6 (OT_sm (RS_tt S t) r) dX16_add_50 (hR1.t (by omega)).k19 (hR1.t (by omega)).n19 (by omega) (by decide) ((hR1.t (by omega)).a_sm r) ?_
      refine wp_iload_n (i := 3) dX16_add_51 rfl rfl ?_
      refine wp_bipush (-99) dX16_add_52 (by decide) ?_
      refine wp_bipush (nI 99) dX16_add_54 (by decide) ?_
      refine wp_cS (y' := m_X16_in) [vi y, vi (-99), vi (nI 99)] [vi (OT_sm (RS_tt S t) r)] 0 0 dX16_add_56 ml_X16_70 st_X16_in ok_X16_in rfl (Nat.le_of_ble_eq_true rfl) rfl (Nat.le_of_ble_eq_true rfl) (d' := d - 1) (by omega) (Nat.zero_le _) (Nat.zero_le _) (c_X16_in y (-99) (nI 99) (cont_ret ?_))
      refine wp_if_eqB 66 dX16_add_59 (by decide) (fun c_59 => ?_) (fun c_59 => ?_)
      · skip
        refine wp_iconst (nI 0) dX16_add_66 (by decide) ?_
        refine wp_iadd dX16_add_67 ?_
        refine wp_topi (fun x_68 e_68 => ?_)
        refine wp_istore (i := 5) (lv' := [(5, vi x_68), (4, vr (some (nm 6 t))), (0, vr (some (nm 1 0))), (1, vi (nI t)), (2, vi (nI r)), (3, vi y)]) dX16_add_68 (by decide) rfl ?_
        have ez : x_68 = adz (RS_tt S t) r y := by rw [e_68]; unfold adz; rw [c_31, c_59]; rfl
        refine wp_aload_n (i := 0) dX16_add_70 rfl rfl ?_
        refine wp_iload_n (i := 3) dX16_add_71 rfl rfl ?_
        refine wp_bipush (-99) dX16_add_72 (by decide) ?_
        refine wp_bipush (nI 99) dX16_add_74 (by decide) ?_
        refine wp_cS (y' := m_X16_in) [vi y, vi (-99), vi (nI 99)] [vr (some (nm 1 0))] 0 0 dX16_add_76 ml_X16_70 st_X16_in ok_X16_in rfl (Nat.le_of_ble_eq_true rfl) rfl (Nat.le_of_ble_eq_true rfl) (d' := d - 1) (by omega) (Nat.zero_le _) (Nat.zero_le _) (c_X16_in y (-99) (nI 99) (cont_ret ?_))
        refine wp_if_eqB 90 dX16_add_79 (by decide) (fun c_79 => ?_) (fun c_79 => ?_)
        · skip
          refine wp_iconst (nI 1) dX16_add_90 (by decide) ?_
          refine wp_goto 95 dX16_add_91 (by decide) ?_
          refine wp_iconst (nI 4) dX16_add_95 (by decide) ?_
          refine wp_cV (y' := m_X16_fails) 17 [vi (nI 1), vi (nI 4)] [] 0 0 dX16_add_96 ml_X16_102 im_X16_fails se_X16_fails (by decide) hR1.mk ok_X16_fails rfl (Nat.le_of_ble_eq_true rfl) rfl (Nat.le_of_ble_eq_true rfl) (d' := d - 1) (by omega) (Nat.zero_le _) (Nat.zero_le _) (c_flT hR1.mk wI_ss (nI 4) (by decide) (cont_ret ?_))
          have g_4 : inB y (-99) (nI 99) = false ∨ (!elB (adz (RS_tt S t) r y)) = true := by first | exact Or.inl c_79 | exact Or.inr (ez ▸ c_87)
          have hR13 := hR1.w0 (x := nI 4)
          have hG14 := hG2.tr (FRR.w0 (x := nI 4))
          have hP15 := PO2.m (a := nm 1 0) (k := 0) (x := nI 4) hP3
          refine wp_if_eqN 104 dX16_add_99 (by decide) (by decide) (fun c_99 => absurd c_99 (by decide)) (fun c_99 => ?_)
          refine wp_iconst (nI 0) dX16_add_102 (by decide) ?_
          refine wp_zreturn dX16_add_103 rfl (by first | rfl | assumption | decide) ?_
          rw [show o_add S (nI t) t (nI r) r y = (nI 4, nI 0, S) from by unfold o_add; rw [if_neg g_1, if_neg g_2, if_neg g_3, if_pos g_4]] at hq
          exact hq _ hG14 wI_ss hR13 hP15
        · skip
          refine wp_iload (i := 5) dX16_add_82 rfl ?_
          refine wp_cS (y' := m_X16_noElement) [vi x_68] [vr (some (nm 1 0))] 0 0 dX16_add_84 ml_X16_118 st_X16_noElement ok_X16_noElement rfl (Nat.le_of_ble_eq_true rfl) rfl (Nat.le_of_ble_eq_true rfl) (d' := d - 1) (by omega) (Nat.zero_le _) (Nat.zero_le _) (c_X16_noElement x_68 (by omega) (cont_ret ?_))
          refine wp_if_eqB 94 dX16_add_87 (by decide) (fun c_87 => ?_) (fun c_87 => ?_)
          · skip
            refine wp_iconst (nI 0) dX16_add_94 (by decide) ?_
            refine wp_iconst (nI 4) dX16_add_95 (by decide) ?_
            refine wp_cV (y' := m_X16_fails) 17 [vi (nI 0), vi (nI 4)] [] 0 0 dX16_add_96 ml_X16_102 im_X16_fails se_X16_fails (by decide) hR1.mk ok_X16_fails rfl (Nat.le_of_ble_eq_true rfl) rfl (Nat.le_of_ble_eq_true rfl) (d' := d - 1) (by omega) (Nat.zero_le _) (Nat.zero_le _) (c_flF hR1.mk wI_ss (nI 4) (by decide) (cont_ret ?_))
            have g_4 : ¬ (inB y (-99) (nI 99) = false ∨ (!elB (adz (RS_tt S t) r y)) = true) := by exact fun z => z.elim (fun q => Bool.false_ne_true (q.symm.trans c_79)) (fun q => Bool.false_ne_true (c_87.symm.trans (ez ▸ q)))
            refine wp_if_eqN 104 dX16_add_99 (by decide) (by decide) (fun c_99 => ?_) (fun c_99 => absurd c_99 (by decide))
            refine wp_aload (i := 4) dX16_add_104 rfl ?_
            refine wp_get 16 4 (vr (some (nm 7 t))) dX16_add_106 (hR1.t (by omega)).k0 (by decide) (by decide) fl_X16_280 (congrArg (fun z => toV (vr z)) ((hR1.t (by omega)).r5_4)) ?_
            refine wp_iload_n (i := 2) dX16_add_109 rfl rfl ?_
            refine wp_zaloadN 6 (bI (OT_wr (RS_tt S t) r)) dX16_add_110 (hR1.t (by omega)).k11 (hR1.t (by omega)).n11 (by omega) (by decide) ((hR1.t (by omega)).a_wr r) ?_
            refine wp_if_eqB 126 dX16_add_111 (by decide) (fun c_111 => ?_) (fun c_111 => ?_)
            · skip
              refine wp_aload (i := 4) dX16_add_126 rfl ?_
              refine wp_get 16 7 (vr (some (nm 10 t))) dX16_add_128 (hR1.t (by omega)).k0 (by decide) (by decide) fl_X16_319 (congrArg (fun z => toV (vr z)) ((hR1.t (by omega)).r8_7)) ?_
              refine wp_iload_n (i := 2) dX16_add_131 rfl rfl ?_
              refine wp_iconst (nI 1) dX16_add_132 (by decide) ?_
              refine wp_zastoreN 6 dX16_add_133 (hR1.t (by omega)).k17 (hR1.t (by omega)).n17 (by omega) (by decide) (by decide) ?_
              have hO19 := (hR1.t (by omega))
              have hF20 := hO19.rfT
              have hO21 := hO19.wad (j := r) (v := true)
              have hF22 := hF20.wI (b := nm 10 t) (k := r) (x := bI (true)) (by unfold WT nm; omega)
              refine wp_aload (i := 4) dX16_add_134 rfl ?_
              refine wp_get 16 8 (vr (some (nm 11 t))) dX16_add_136 hO21.k0 (by decide) (by decide) fl_X16_309 (congrArg (fun z => toV (vr z)) (hO21.r9_8)) ?_
              refine wp_iload_n (i := 2) dX16_add_139 rfl rfl ?_
              refine wp_iload (i := 5) dX16_add_140 rfl ?_
              refine wp_iastoreN 6 dX16_add_142 hO21.k19 hO21.n19 (by omega) (by decide) ?_
              have hO23 := hO21.wsm (j := r) (v := x_68)
              have hF24 := hF22.wI (b := nm 11 t) (k := r) (x := x_68) (by unfold WT nm; omega)
              refine wp_iconst (nI 1) dX16_add_143 (by decide) ?_
              refine wp_zreturn dX16_add_144 rfl (by first | rfl | assumption | decide) ?_
              have hP25 := (hP3).oT hF24
              have hR26 := hR1.upT (by omega) hF24 hO23 hB16
              have hG27 := hG2.tr (FRR.oT hF24)
              rw [show o_add S (nI t) t (nI r) r y = (nI 0, (nI 1), RS_utt1 S t (OT_usm (OT_uad (RS_tt S t) r true) r x_68)) from by unfold o_add; rw [if_neg g_1, if_neg g_2, if_neg g_3, if_neg g_4, if_neg (fun z => Bool.false_ne_true (c_111.symm.trans z)), ← ez] <;> rfl] at hq
              exact hq _ hG27 ((th_oT hF24).trans wI_ss) hR26 hP25
            · skip
              refine wp_aload (i := 4) dX16_add_114 rfl ?_
              refine wp_get 16 5 (vr (some (nm 8 t))) dX16_add_116 (hR1.t (by omega)).k0 (by decide) (by decide) fl_X16_283 (congrArg (fun z => toV (vr z)) ((hR1.t (by omega)).r6_5)) ?_
              refine wp_iload_n (i := 2) dX16_add_119 rfl rfl ?_
              refine wp_iload (i := 5) dX16_add_120 rfl ?_
              refine wp_iastoreN 6 dX16_add_122 (hR1.t (by omega)).k13 (hR1.t (by omega)).n13 (by omega) (by decide) ?_
              have hO28 := (hR1.t (by omega))
              have hF29 := hO28.rfT
              have hO30 := hO28.wwn (j := r) (v := x_68)
              have hF31 := hF29.wI (b := nm 8 t) (k := r) (x := x_68) (by unfold WT nm; omega)
              refine wp_goto 143 dX16_add_123 (by decide) ?_
              refine wp_iconst (nI 1) dX16_add_143 (by decide) ?_
              refine wp_zreturn dX16_add_144 rfl (by first | rfl | assumption | decide) ?_
              have hP32 := (hP3).oT hF31
              have hR33 := hR1.upT (by omega) hF31 hO30 hB16
              have hG34 := hG2.tr (FRR.oT hF31)
              rw [show o_add S (nI t) t (nI r) r y = (nI 0, (nI 1), RS_utt1 S t (OT_uwn (RS_tt S t) r x_68)) from by unfold o_add; rw [if_neg g_1, if_neg g_2, if_neg g_3, if_neg g_4, if_pos c_111, ← ez] <;> rfl] at hq
              exact hq _ hG34 ((th_oT hF31).trans wI_ss) hR33 hP32
          · skip
            refine wp_iconst (nI 1) dX16_add_90 (by decide) ?_
            refine wp_goto 95 dX16_add_91 (by decide) ?_
            refine wp_iconst (nI 4) dX16_add_95 (by decide) ?_
            refine wp_cV (y' := m_X16_fails) 17 [vi (nI 1), vi (nI 4)] [] 0 0 dX16_add_96 ml_X16_102 im_X16_fails se_X16_fails (by decide) hR1.mk ok_X16_fails rfl (Nat.le_of_ble_eq_true rfl) rfl (Nat.le_of_ble_eq_true rfl) (d' := d - 1) (by omega) (Nat.zero_le _) (Nat.zero_le _) (c_flT hR1.mk wI_ss (nI 4) (by decide) (cont_ret ?_))
            have g_4 : inB y (-99) (nI 99) = false ∨ (!elB (adz (RS_tt S t) r y)) = true := by first | exact Or.inl c_79 | exact Or.inr (ez ▸ c_87)
            have hR35 := hR1.w0 (x := nI 4)
            have hG36 := hG2.tr (FRR.w0 (x := nI 4))
            have hP37 := PO2.m (a := nm 1 0) (k := 0) (x := nI 4) hP3
            refine wp_if_eqN 104 dX16_add_99 (by decide) (by decide) (fun c_99 => absurd c_99 (by decide)) (fun c_99 => ?_)
            refine wp_iconst (nI 0) dX16_add_102 (by decide) ?_
            refine wp_zreturn dX16_add_103 rfl (by first | rfl | assumption | decide) ?_
            rw [show o_add S (nI t) t (nI r) r y = (nI 4, nI 0, S) from by unfold o_add; rw [if_neg g_1, if_neg g_2, if_neg g_3, if_pos g_4]] at hq
            exact hq _ hG36 wI_ss hR35 hP37
      · skip
        refine wp_iload_n (i := 3) dX16_add_62 rfl rfl ?_
        refine wp_goto 67 dX16_add_63 (by decide) ?_
        refine wp_iadd dX16_add_67 ?_
        refine wp_topi (fun x_68 e_68 => ?_)
        refine wp_istore (i := 5) (lv' := [(5, vi x_68), (4, vr (some (nm 6 t))), (0, vr (some (nm 1 0))), (1, vi (nI t)), (2, vi (nI r)), (3, vi y)]) dX16_add_68 (by decide) rfl ?_
        have ez : x_68 = adz (RS_tt S t) r y := by rw [e_68]; unfold adz; rw [c_31, c_59]; rfl
        refine wp_aload_n (i := 0) dX16_add_70 rfl rfl ?_
        refine wp_iload_n (i := 3) dX16_add_71 rfl rfl ?_
        refine wp_bipush (-99) dX16_add_72 (by decide) ?_
        refine wp_bipush (nI 99) dX16_add_74 (by decide) ?_
        refine wp_cS (y' := m_X16_in) [vi y, vi (-99), vi (nI 99)] [vr (some (nm 1 0))] 0 0 dX16_add_76 ml_X16_70 st_X16_in ok_X16_in rfl (Nat.le_of_ble_eq_true rfl) rfl (Nat.le_of_ble_eq_true rfl) (d' := d - 1) (by omega) (Nat.zero_le _) (Nat.zero_le _) (c_X16_in y (-99) (nI 99) (cont_ret ?_))
        refine wp_if_eqB 90 dX16_add_79 (by decide) (fun c_79 => ?_) (fun c_79 => ?_)
        · skip
          refine wp_iconst (nI 1) dX16_add_90 (by decide) ?_
          refine wp_goto 95 dX16_add_91 (by decide) ?_
          refine wp_iconst (nI 4) dX16_add_95 (by decide) ?_
          refine wp_cV (y' := m_X16_fails) 17 [vi (nI 1), vi (nI 4)] [] 0 0 dX16_add_96 ml_X16_102 im_X16_fails se_X16_fails (by decide) hR1.mk ok_X16_fails rfl (Nat.le_of_ble_eq_true rfl) rfl (Nat.le_of_ble_eq_true rfl) (d' := d - 1) (by omega) (Nat.zero_le _) (Nat.zero_le _) (c_flT hR1.mk wI_ss (nI 4) (by decide) (cont_ret ?_))
          have g_4 : inB y (-99) (nI 99) = false ∨ (!elB (adz (RS_tt S t) r y)) = true := by first | exact Or.inl c_79 | exact Or.inr (ez ▸ c_87)
          have hR38 := hR1.w0 (x := nI 4)
          have hG39 := hG2.tr (FRR.w0 (x := nI 4))
          have hP40 := PO2.m (a := nm 1 0) (k := 0) (x := nI 4) hP3
          refine wp_if_eqN 104 dX16_add_99 (by decide) (by decide) (fun c_99 => absurd c_99 (by decide)) (fun c_99 => ?_)
          refine wp_iconst (nI 0) dX16_add_102 (by decide) ?_
          refine wp_zreturn dX16_add_103 rfl (by first | rfl | assumption | decide) ?_
          rw [show o_add S (nI t) t (nI r) r y = (nI 4, nI 0, S) from by unfold o_add; rw [if_neg g_1, if_neg g_2, if_neg g_3, if_pos g_4]] at hq
          exact hq _ hG39 wI_ss hR38 hP40
        · skip
          refine wp_iload (i := 5) dX16_add_82 rfl ?_
          refine wp_cS (y' := m_X16_noElement) [vi x_68] [vr (some (nm 1 0))] 0 0 dX16_add_84 ml_X16_118 st_X16_noElement ok_X16_noElement rfl (Nat.le_of_ble_eq_true rfl) rfl (Nat.le_of_ble_eq_true rfl) (d' := d - 1) (by omega) (Nat.zero_le _) (Nat.zero_le _) (c_X16_noElement x_68 (by omega) (cont_ret ?_))
          refine wp_if_eqB 94 dX16_add_87 (by decide) (fun c_87 => ?_) (fun c_87 => ?_)
          · skip
            refine wp_iconst (nI 0) dX16_add_94 (by decide) ?_
            refine wp_iconst (nI 4) dX16_add_95 (by decide) ?_
            refine wp_cV (y' := m_X16_fails) 17 [vi (nI 0), vi (nI 4)] [] 0 0 dX16_add_96 ml_X16_102 im_X16_fails se_X16_fails (by decide) hR1.mk ok_X16_fails rfl (Nat.le_of_ble_eq_true rfl) rfl (Nat.le_of_ble_eq_true rfl) (d' := d - 1) (by omega) (Nat.zero_le _) (Nat.zero_le _) (c_flF hR1.mk wI_ss (nI 4) (by decide) (cont_ret ?_))
            have g_4 : ¬ (inB y (-99) (nI 99) = false ∨ (!elB (adz (RS_tt S t) r y)) = true) := by exact fun z => z.elim (fun q => Bool.false_ne_true (q.symm.trans c_79)) (fun q => Bool.false_ne_true (c_87.symm.trans (ez ▸ q)))
            refine wp_if_eqN 104 dX16_add_99 (by decide) (by decide) (fun c_99 => ?_) (fun c_99 => absurd c_99 (by decide))
            refine wp_aload (i := 4) dX16_add_104 rfl ?_
            refine wp_get 16 4 (vr (some (nm 7 t))) dX16_add_106 (hR1.t (by omega)).k0 (by decide) (by decide) fl_X16_280 (congrArg (fun z => toV (vr z)) ((hR1.t (by omega)).r5_4)) ?_
            refine wp_iload_n (i := 2) dX16_add_109 rfl rfl ?_
            refine wp_zaloadN 6 (bI (OT_wr (RS_tt S t) r)) dX16_add_110 (hR1.t (by omega)).k11 (hR1.t (by omega)).n11 (by omega) (by decide) ((hR1.t (by omega)).a_wr r) ?_
            refine wp_if_eqB 126 dX16_add_111 (by decide) (fun c_111 => ?_) (fun c_111 => ?_)
            · skip
              refine wp_aload (i := 4) dX16_add_126 rfl ?_
              refine wp_get 16 7 (vr (some (nm 10 t))) dX16_add_128 (hR1.t (by omega)).k0 (by decide) (by decide) fl_X16_319 (congrArg (fun z => toV (vr z)) ((hR1.t (by omega)).r8_7)) ?_
              refine wp_iload_n (i := 2) dX16_add_131 rfl rfl ?_
              refine wp_iconst (nI 1) dX16_add_132 (by decide) ?_
              refine wp_zastoreN 6 dX16_add_133 (hR1.t (by omega)).k17 (hR1.t (by omega)).n17 (by omega) (by decide) (by decide) ?_
              have hO44 := (hR1.t (by omega))
              have hF45 := hO44.rfT
              have hO46 := hO44.wad (j := r) (v := true)
              have hF47 := hF45.wI (b := nm 10 t) (k := r) (x := bI (true)) (by unfold WT nm; omega)
              refine wp_aload (i := 4) dX16_add_134 rfl ?_
              refine wp_get 16 8 (vr (some (nm 11 t))) dX16_add_136 hO46.k0 (by decide) (by decide) fl_X16_309 (congrArg (fun z => toV (vr z)) (hO46.r9_8)) ?_
              refine wp_iload_n (i := 2) dX16_add_139 rfl rfl ?_
              refine wp_iload (i := 5) dX16_add_140 rfl ?_
              refine wp_iastoreN 6 dX16_add_142 hO46.k19 hO46.n19 (by omega) (by decide) ?_
              have hO48 := hO46.wsm (j := r) (v := x_68)
              have hF49 := hF47.wI (b := nm 11 t) (k := r) (x := x_68) (by unfold WT nm; omega)
              refine wp_iconst (nI 1) dX16_add_143 (by decide) ?_
              refine wp_zreturn dX16_add_144 rfl (by first | rfl | assumption | decide) ?_
              have hP50 := (hP3).oT hF49
              have hR51 := hR1.upT (by omega) hF49 hO48 hB16
              have hG52 := hG2.tr (FRR.oT hF49)
              rw [show o_add S (nI t) t (nI r) r y = (nI 0, (nI 1), RS_utt1 S t (OT_usm (OT_uad (RS_tt S t) r true) r x_68)) from by unfold o_add; rw [if_neg g_1, if_neg g_2, if_neg g_3, if_neg g_4, if_neg (fun z => Bool.false_ne_true (c_111.symm.trans z)), ← ez] <;> rfl] at hq
              exact hq _ hG52 ((th_oT hF49).trans wI_ss) hR51 hP50
            · skip
              refine wp_aload (i := 4) dX16_add_114 rfl ?_
              refine wp_get 16 5 (vr (some (nm 8 t))) dX16_add_116 (hR1.t (by omega)).k0 (by decide) (by decide) fl_X16_283 (congrArg (fun z => toV (vr z)) ((hR1.t (by omega)).r6_5)) ?_
              refine wp_iload_n (i := 2) dX16_add_119 rfl rfl ?_
              refine wp_iload (i := 5) dX16_add_120 rfl ?_
              refine wp_iastoreN 6 dX16_add_122 (hR1.t (by omega)).k13 (hR1.t (by omega)).n13 (by omega) (by decide) ?_
              have hO53 := (hR1.t (by omega))
              have hF54 := hO53.rfT
              have hO55 := hO53.wwn (j := r) (v := x_68)
              have hF56 := hF54.wI (b := nm 8 t) (k := r) (x := x_68) (by unfold WT nm; omega)
              refine wp_goto 143 dX16_add_123 (by decide) ?_
              refine wp_iconst (nI 1) dX16_add_143 (by decide) ?_
              refine wp_zreturn dX16_add_144 rfl (by first | rfl | assumption | decide) ?_
              have hP57 := (hP3).oT hF56
              have hR58 := hR1.upT (by omega) hF56 hO55 hB16
              have hG59 := hG2.tr (FRR.oT hF56)
              rw [show o_add S (nI t) t (nI r) r y = (nI 0, (nI 1), RS_utt1 S t (OT_uwn (RS_tt S t) r x_68)) from by unfold o_add; rw [if_neg g_1, if_neg g_2, if_neg g_3, if_neg g_4, if_pos c_111, ← ez] <;> rfl] at hq
              exact hq _ hG59 ((th_oT hF56).trans wI_ss) hR58 hP57
          · skip
            refine wp_iconst (nI 1) dX16_add_90 (by decide) ?_
            refine wp_goto 95 dX16_add_91 (by decide) ?_
            refine wp_iconst (nI 4) dX16_add_95 (by decide) ?_
            refine wp_cV (y' := m_X16_fails) 17 [vi (nI 1), vi (nI 4)] [] 0 0 dX16_add_96 ml_X16_102 im_X16_fails se_X16_fails (by decide) hR1.mk ok_X16_fails rfl (Nat.le_of_ble_eq_true rfl) rfl (Nat.le_of_ble_eq_true rfl) (d' := d - 1) (by omega) (Nat.zero_le _) (Nat.zero_le _) (c_flT hR1.mk wI_ss (nI 4) (by decide) (cont_ret ?_))
            have g_4 : inB y (-99) (nI 99) = false ∨ (!elB (adz (RS_tt S t) r y)) = true := by first | exact Or.inl c_79 | exact Or.inr (ez ▸ c_87)
            have hR60 := hR1.w0 (x := nI 4)
            have hG61 := hG2.tr (FRR.w0 (x := nI 4))
            have hP62 := PO2.m (a := nm 1 0) (k := 0) (x := nI 4) hP3
            refine wp_if_eqN 104 dX16_add_99 (by decide) (by decide) (fun c_99 => absurd c_99 (by decide)) (fun c_99 => ?_)
            refine wp_iconst (nI 0) dX16_add_102 (by decide) ?_
            refine wp_zreturn dX16_add_103 rfl (by first | rfl | assumption | decide) ?_
            rw [show o_add S (nI t) t (nI r) r y = (nI 4, nI 0, S) from by unfold o_add; rw [if_neg g_1, if_neg g_2, if_neg g_3, if_pos g_4]] at hq
            exact hq _ hG61 wI_ss hR60 hP62
    · skip
      refine wp_aload (i := 4) dX16_add_34 rfl ?_
      refine wp_get 16 5 (vr (some (nm 8 t))) dX16_add_36 (hR1.t (by omega)).k0 (by decide) (by decide) fl_X16_283 (congrArg (fun z => toV (vr z)) ((hR1.t (by omega)).r6_5)) ?_
      refine wp_iload_n (i := 2) dX16_add_39 rfl rfl ?_
      refine wp_ialoadN 6 (OT_wn (RS_tt S t) r) dX16_add_40 (hR1.t (by omega)).k13 (hR1.t (by omega)).n13 (by omega) (by decide) ((hR1.t (by omega)).a_wn r) ?_
      refine wp_goto 51 dX16_add_41 (by decide) ?_
      refine wp_iload_n (i := 3) dX16_add_51 rfl rfl ?_
      refine wp_bipush (-99) dX16_add_52 (by decide) ?_
      refine wp_bipush (nI 99) dX16_add_54 (by decide) ?_
      refine wp_cS (y' := m_X16_in) [vi y, vi (-99), vi (nI 99)] [vi (OT_wn (RS_tt S t) r)] 0 0 dX16_add_56 ml_X16_70 st_X16_in ok_X16_in rfl (Nat.le_of_ble_eq_true rfl) rfl (Nat.le_of_ble_eq_true rfl) (d' := d - 1) (by omega) (Nat.zero_le _) (Nat.zero_le _) (c_X16_in y (-99) (nI 99) (cont_ret ?_))
      refine wp_if_eqB 66 dX16_add_59 (by decide) (fun c_59 => ?_) (fun c_59 => ?_)
      · skip
        refine wp_iconst (nI 0) dX16_add_66 (by decide) ?_
        refine wp_iadd dX16_add_67 ?_
        refine wp_topi (fun x_68 e_68 => ?_)
        refine wp_istore (i := 5) (lv' := [(5, vi x_68), (4, vr (some (nm 6 t))), (0, vr (some (nm 1 0))), (1, vi (nI t)), (2, vi (nI r)), (3, vi y)]) dX16_add_68 (by decide) rfl ?_
        have ez : x_68 = adz (RS_tt S t) r y := by rw [e_68]; unfold adz; rw [c_31, c_59]; rfl
        refine wp_aload_n (i := 0) dX16_add_70 rfl rfl ?_
        refine wp_iload_n (i := 3) dX16_add_71 rfl rfl ?_
        refine wp_bipush (-99) dX16_add_72 (by decide) ?_
        refine wp_bipush (nI 99) dX16_add_74 (by decide) ?_
        refine wp_cS (y' := m_X16_in) [vi y, vi (-99), vi (nI 99)] [vr (some (nm 1 0))] 0 0 dX16_add_76 ml_X16_70 st_X16_in ok_X16_in rfl (Nat.le_of_ble_eq_true rfl) rfl (Nat.le_of_ble_eq_true rfl) (d' := d - 1) (by omega) (Nat.zero_le _) (Nat.zero_le _) (c_X16_in y (-99) (nI 99) (cont_ret ?_))
        refine wp_if_eqB 90 dX16_add_79 (by decide) (fun c_79 => ?_) (fun c_79 => ?_)
        · skip
          refine wp_iconst (nI 1) dX16_add_90 (by decide) ?_
          refine wp_goto 95 dX16_add_91 (by decide) ?_
          refine wp_iconst (nI 4) dX16_add_95 (by decide) ?_
          refine wp_cV (y' := m_X16_fails) 17 [vi (nI 1), vi (nI 4)] [] 0 0 dX16_add_96 ml_X16_102 im_X16_fails se_X16_fails (by decide) hR1.mk ok_X16_fails rfl (Nat.le_of_ble_eq_true rfl) rfl (Nat.le_of_ble_eq_true rfl) (d' := d - 1) (by omega) (Nat.zero_le _) (Nat.zero_le _) (c_flT hR1.mk wI_ss (nI 4) (by decide) (cont_ret ?_))
          have g_4 : inB y (-99) (nI 99) = false ∨ (!elB (adz (RS_tt S t) r y)) = true := by first | exact Or.inl c_79 | exact Or.inr (ez ▸ c_87)
          have hR63 := hR1.w0 (x := nI 4)
          have hG64 := hG2.tr (FRR.w0 (x := nI 4))
          have hP65 := PO2.m (a := nm 1 0) (k := 0) (x := nI 4) hP3
          refine wp_if_eqN 104 dX16_add_99 (by decide) (by decide) (fun c_99 => absurd c_99 (by decide)) (fun c_99 => ?_)
          refine wp_iconst (nI 0) dX16_add_102 (by decide) ?_
          refine wp_zreturn dX16_add_103 rfl (by first | rfl | assumption | decide) ?_
          rw [show o_add S (nI t) t (nI r) r y = (nI 4, nI 0, S) from by unfold o_add; rw [if_neg g_1, if_neg g_2, if_neg g_3, if_pos g_4]] at hq
          exact hq _ hG64 wI_ss hR63 hP65
        · skip
          refine wp_iload (i := 5) dX16_add_82 rfl ?_
          refine wp_cS (y' := m_X16_noElement) [vi x_68] [vr (some (nm 1 0))] 0 0 dX16_add_84 ml_X16_118 st_X16_noElement ok_X16_noElement rfl (Nat.le_of_ble_eq_true rfl) rfl (Nat.le_of_ble_eq_true rfl) (d' := d - 1) (by omega) (Nat.zero_le _) (Nat.zero_le _) (c_X16_noElement x_68 (by omega) (cont_ret ?_))
          refine wp_if_eqB 94 dX16_add_87 (by decide) (fun c_87 => ?_) (fun c_87 => ?_)
          · skip
            refine wp_iconst (nI 0) dX16_add_94 (by decide) ?_
            refine wp_iconst (nI 4) dX16_add_95 (by decide) ?_
            refine wp_cV (y' := m_X16_fails) 17 [vi (nI 0), vi (nI 4)] [] 0 0 dX16_add_96 ml_X16_102 im_X16_fails se_X16_fails (by decide) hR1.mk ok_X16_fails rfl (Nat.le_of_ble_eq_true rfl) rfl (Nat.le_of_ble_eq_true rfl) (d' := d - 1) (by omega) (Nat.zero_le _) (Nat.zero_le _) (c_flF hR1.mk wI_ss (nI 4) (by decide) (cont_ret ?_))
            have g_4 : ¬ (inB y (-99) (nI 99) = false ∨ (!elB (adz (RS_tt S t) r y)) = true) := by exact fun z => z.elim (fun q => Bool.false_ne_true (q.symm.trans c_79)) (fun q => Bool.false_ne_true (c_87.symm.trans (ez ▸ q)))
            refine wp_if_eqN 104 dX16_add_99 (by decide) (by decide) (fun c_99 => ?_) (fun c_99 => absurd c_99 (by decide))
            refine wp_aload (i := 4) dX16_add_104 rfl ?_
            refine wp_get 16 4 (vr (some (nm 7 t))) dX16_add_106 (hR1.t (by omega)).k0 (by decide) (by decide) fl_X16_280 (congrArg (fun z => toV (vr z)) ((hR1.t (by omega)).r5_4)) ?_
            refine wp_iload_n (i := 2) dX16_add_109 rfl rfl ?_
            refine wp_zaloadN 6 (bI (OT_wr (RS_tt S t) r)) dX16_add_110 (hR1.t (by omega)).k11 (hR1.t (by omega)).n11 (by omega) (by decide) ((hR1.t (by omega)).a_wr r) ?_
            refine wp_if_eqB 126 dX16_add_111 (by decide) (fun c_111 => ?_) (fun c_111 => ?_)
            · skip
              refine wp_aload (i := 4) dX16_add_126 rfl ?_
              refine wp_get 16 7 (vr (some (nm 10 t))) dX16_add_128 (hR1.t (by omega)).k0 (by decide) (by decide) fl_X16_319 (congrArg (fun z => toV (vr z)) ((hR1.t (by omega)).r8_7)) ?_
              refine wp_iload_n (i := 2) dX16_add_131 rfl rfl ?_
              refine wp_iconst (nI 1) dX16_add_132 (by decide) ?_
              refine wp_zastoreN 6 dX16_add_133 (hR1.t (by omega)).k17 (hR1.t (by omega)).n17 (by omega) (by decide) (by decide) ?_
              have hO69 := (hR1.t (by omega))
              have hF70 := hO69.rfT
              have hO71 := hO69.wad (j := r) (v := true)
              have hF72 := hF70.wI (b := nm 10 t) (k := r) (x := bI (true)) (by unfold WT nm; omega)
              refine wp_aload (i := 4) dX16_add_134 rfl ?_
              refine wp_get 16 8 (vr (some (nm 11 t))) dX16_add_136 hO71.k0 (by decide) (by decide) fl_X16_309 (congrArg (fun z => toV (vr z)) (hO71.r9_8)) ?_
              refine wp_iload_n (i := 2) dX16_add_139 rfl rfl ?_
              refine wp_iload (i := 5) dX16_add_140 rfl ?_
              refine wp_iastoreN 6 dX16_add_142 hO71.k19 hO71.n19 (by omega) (by decide) ?_
              have hO73 := hO71.wsm (j := r) (v := x_68)
              have hF74 := hF72.wI (b := nm 11 t) (k := r) (x := x_68) (by unfold WT nm; omega)
              refine wp_iconst (nI 1) dX16_add_143 (by decide) ?_
              refine wp_zreturn dX16_add_144 rfl (by first | rfl | assumption | decide) ?_
              have hP75 := (hP3).oT hF74
              have hR76 := hR1.upT (by omega) hF74 hO73 hB16
              have hG77 := hG2.tr (FRR.oT hF74)
              rw [show o_add S (nI t) t (nI r) r y = (nI 0, (nI 1), RS_utt1 S t (OT_usm (OT_uad (RS_tt S t) r true) r x_68)) from by unfold o_add; rw [if_neg g_1, if_neg g_2, if_neg g_3, if_neg g_4, if_neg (fun z => Bool.false_ne_true (c_111.symm.trans z)), ← ez] <;> rfl] at hq
              exact hq _ hG77 ((th_oT hF74).trans wI_ss) hR76 hP75
            · skip
              refine wp_aload (i := 4) dX16_add_114 rfl ?_
              refine wp_get 16 5 (vr (some (nm 8 t))) dX16_add_116 (hR1.t (by omega)).k0 (by decide) (by decide) fl_X16_283 (congrArg (fun z => toV (vr z)) ((hR1.t (by omega)).r6_5)) ?_
              refine wp_iload_n (i := 2) dX16_add_119 rfl rfl ?_
              refine wp_iload (i := 5) dX16_add_120 rfl ?_
              refine wp_iastoreN 6 dX16_add_122 (hR1.t (by omega)).k13 (hR1.t (by omega)).n13 (by omega) (by decide) ?_
              have hO78 := (hR1.t (by omega))
              have hF79 := hO78.rfT
              have hO80 := hO78.wwn (j := r) (v := x_68)
              have hF81 := hF79.wI (b := nm 8 t) (k := r) (x := x_68) (by unfold WT nm; omega)
              refine wp_goto 143 dX16_add_123 (by decide) ?_
              refine wp_iconst (nI 1) dX16_add_143 (by decide) ?_
              refine wp_zreturn dX16_add_144 rfl (by first | rfl | assumption | decide) ?_
              have hP82 := (hP3).oT hF81
              have hR83 := hR1.upT (by omega) hF81 hO80 hB16
              have hG84 := hG2.tr (FRR.oT hF81)
              rw [show o_add S (nI t) t (nI r) r y = (nI 0, (nI 1), RS_utt1 S t (OT_uwn (RS_tt S t) r x_68)) from by unfold o_add; rw [if_neg g_1, if_neg g_2, if_neg g_3, if_neg g_4, if_pos c_111, ← ez] <;> rfl] at hq
              exact hq _ hG84 ((th_oT hF81).trans wI_ss) hR83 hP82
          · skip
            refine wp_iconst (nI 1) dX16_add_90 (by decide) ?_
            refine wp_goto 95 dX16_add_91 (by decide) ?_
            refine wp_iconst (nI 4) dX16_add_95 (by decide) ?_
            refine wp_cV (y' := m_X16_fails) 17 [vi (nI 1), vi (nI 4)] [] 0 0 dX16_add_96 ml_X16_102 im_X16_fails se_X16_fails (by decide) hR1.mk ok_X16_fails rfl (Nat.le_of_ble_eq_true rfl) rfl (Nat.le_of_ble_eq_true rfl) (d' := d - 1) (by omega) (Nat.zero_le _) (Nat.zero_le _) (c_flT hR1.mk wI_ss (nI 4) (by decide) (cont_ret ?_))
            have g_4 : inB y (-99) (nI 99) = false ∨ (!elB (adz (RS_tt S t) r y)) = true := by first | exact Or.inl c_79 | exact Or.inr (ez ▸ c_87)
            have hR85 := hR1.w0 (x := nI 4)
            have hG86 := hG2.tr (FRR.w0 (x := nI 4))
            have hP87 := PO2.m (a := nm 1 0) (k := 0) (x := nI 4) hP3
            refine wp_if_eqN 104 dX16_add_99 (by decide) (by decide) (fun c_99 => absurd c_99 (by decide)) (fun c_99 => ?_)
            refine wp_iconst (nI 0) dX16_add_102 (by decide) ?_
            refine wp_zreturn dX16_add_103 rfl (by first | rfl | assumption | decide) ?_
            rw [show o_add S (nI t) t (nI r) r y = (nI 4, nI 0, S) from by unfold o_add; rw [if_neg g_1, if_neg g_2, if_neg g_3, if_pos g_4]] at hq
            exact hq _ hG86 wI_ss hR85 hP87
      · skip
        refine wp_iload_n (i := 3) dX16_add_62 rfl rfl ?_
        refine wp_goto 67 dX16_add_63 (by decide) ?_
        refine wp_iadd dX16_add_67 ?_
        refine wp_topi (fun x_68 e_68 => ?_)
        refine wp_istore (i := 5) (lv' := [(5, vi x_68), (4, vr (some (nm 6 t))), (0, vr (some (nm 1 0))), (1, vi (nI t)), (2, vi (nI r)), (3, vi y)]) dX16_add_68 (by decide) rfl ?_
        have ez : x_68 = adz (RS_tt S t) r y := by rw [e_68]; unfold adz; rw [c_31, c_59]; rfl
        refine wp_aload_n (i := 0) dX16_add_70 rfl rfl ?_
        refine wp_iload_n (i := 3) dX16_add_71 rfl rfl ?_
        refine wp_bipush (-99) dX16_add_72 (by decide) ?_
        refine wp_bipush (nI 99) dX16_add_74 (by decide) ?_
        refine wp_cS (y' := m_X16_in) [vi y, vi (-99), vi (nI 99)] [vr (some (nm 1 0))] 0 0 dX16_add_76 ml_X16_70 st_X16_in ok_X16_in rfl (Nat.le_of_ble_eq_true rfl) rfl (Nat.le_of_ble_eq_true rfl) (d' := d - 1) (by omega) (Nat.zero_le _) (Nat.zero_le _) (c_X16_in y (-99) (nI 99) (cont_ret ?_))
        refine wp_if_eqB 90 dX16_add_79 (by decide) (fun c_79 => ?_) (fun c_79 => ?_)
        · skip
          refine wp_iconst (nI 1) dX16_add_90 (by decide) ?_
          refine wp_goto 95 dX16_add_91 (by decide) ?_
          refine wp_iconst (nI 4) dX16_add_95 (by decide) ?_
          refine wp_cV (y' := m_X16_fails) 17 [vi (nI 1), vi (nI 4)] [] 0 0 dX16_add_96 ml_X16_102 im_X16_fails se_X16_fails (by decide) hR1.mk ok_X16_fails rfl (Nat.le_of_ble_eq_true rfl) rfl (Nat.le_of_ble_eq_true rfl) (d' := d - 1) (by omega) (Nat.zero_le _) (Nat.zero_le _) (c_flT hR1.mk wI_ss (nI 4) (by decide) (cont_ret ?_))
          have g_4 : inB y (-99) (nI 99) = false ∨ (!elB (adz (RS_tt S t) r y)) = true := by first | exact Or.inl c_79 | exact Or.inr (ez ▸ c_87)
          have hR88 := hR1.w0 (x := nI 4)
          have hG89 := hG2.tr (FRR.w0 (x := nI 4))
          have hP90 := PO2.m (a := nm 1 0) (k := 0) (x := nI 4) hP3
          refine wp_if_eqN 104 dX16_add_99 (by decide) (by decide) (fun c_99 => absurd c_99 (by decide)) (fun c_99 => ?_)
          refine wp_iconst (nI 0) dX16_add_102 (by decide) ?_
          refine wp_zreturn dX16_add_103 rfl (by first | rfl | assumption | decide) ?_
          rw [show o_add S (nI t) t (nI r) r y = (nI 4, nI 0, S) from by unfold o_add; rw [if_neg g_1, if_neg g_2, if_neg g_3, if_pos g_4]] at hq
          exact hq _ hG89 wI_ss hR88 hP90
        · skip
          refine wp_iload (i := 5) dX16_add_82 rfl ?_
          refine wp_cS (y' := m_X16_noElement) [vi x_68] [vr (some (nm 1 0))] 0 0 dX16_add_84 ml_X16_118 st_X16_noElement ok_X16_noElement rfl (Nat.le_of_ble_eq_true rfl) rfl (Nat.le_of_ble_eq_true rfl) (d' := d - 1) (by omega) (Nat.zero_le _) (Nat.zero_le _) (c_X16_noElement x_68 (by omega) (cont_ret ?_))
          refine wp_if_eqB 94 dX16_add_87 (by decide) (fun c_87 => ?_) (fun c_87 => ?_)
          · skip
            refine wp_iconst (nI 0) dX16_add_94 (by decide) ?_
            refine wp_iconst (nI 4) dX16_add_95 (by decide) ?_
            refine wp_cV (y' := m_X16_fails) 17 [vi (nI 0), vi (nI 4)] [] 0 0 dX16_add_96 ml_X16_102 im_X16_fails se_X16_fails (by decide) hR1.mk ok_X16_fails rfl (Nat.le_of_ble_eq_true rfl) rfl (Nat.le_of_ble_eq_true rfl) (d' := d - 1) (by omega) (Nat.zero_le _) (Nat.zero_le _) (c_flF hR1.mk wI_ss (nI 4) (by decide) (cont_ret ?_))
            have g_4 : ¬ (inB y (-99) (nI 99) = false ∨ (!elB (adz (RS_tt S t) r y)) = true) := by exact fun z => z.elim (fun q => Bool.false_ne_true (q.symm.trans c_79)) (fun q => Bool.false_ne_true (c_87.symm.trans (ez ▸ q)))
            refine wp_if_eqN 104 dX16_add_99 (by decide) (by decide) (fun c_99 => ?_) (fun c_99 => absurd c_99 (by decide))
            refine wp_aload (i := 4) dX16_add_104 rfl ?_
            refine wp_get 16 4 (vr (some (nm 7 t))) dX16_add_106 (hR1.t (by omega)).k0 (by decide) (by decide) fl_X16_280 (congrArg (fun z => toV (vr z)) ((hR1.t (by omega)).r5_4)) ?_
            refine wp_iload_n (i := 2) dX16_add_109 rfl rfl ?_
            refine wp_zaloadN 6 (bI (OT_wr (RS_tt S t) r)) dX16_add_110 (hR1.t (by omega)).k11 (hR1.t (by omega)).n11 (by omega) (by decide) ((hR1.t (by omega)).a_wr r) ?_
            refine wp_if_eqB 126 dX16_add_111 (by decide) (fun c_111 => ?_) (fun c_111 => ?_)
            · skip
              refine wp_aload (i := 4) dX16_add_126 rfl ?_
              refine wp_get 16 7 (vr (some (nm 10 t))) dX16_add_128 (hR1.t (by omega)).k0 (by decide) (by decide) fl_X16_319 (congrArg (fun z => toV (vr z)) ((hR1.t (by omega)).r8_7)) ?_
              refine wp_iload_n (i := 2) dX16_add_131 rfl rfl ?_
              refine wp_iconst (nI 1) dX16_add_132 (by decide) ?_
              refine wp_zastoreN 6 dX16_add_133 (hR1.t (by omega)).k17 (hR1.t (by omega)).n17 (by omega) (by decide) (by decide) ?_
              have hO94 := (hR1.t (by omega))
              have hF95 := hO94.rfT
              have hO96 := hO94.wad (j := r) (v := true)
              have hF97 := hF95.wI (b := nm 10 t) (k := r) (x := bI (true)) (by unfold WT nm; omega)
              refine wp_aload (i := 4) dX16_add_134 rfl ?_
              refine wp_get 16 8 (vr (some (nm 11 t))) dX16_add_136 hO96.k0 (by decide) (by decide) fl_X16_309 (congrArg (fun z => toV (vr z)) (hO96.r9_8)) ?_
              refine wp_iload_n (i := 2) dX16_add_139 rfl rfl ?_
              refine wp_iload (i := 5) dX16_add_140 rfl ?_
              refine wp_iastoreN 6 dX16_add_142 hO96.k19 hO96.n19 (by omega) (by decide) ?_
              have hO98 := hO96.wsm (j := r) (v := x_68)
              have hF99 := hF97.wI (b := nm 11 t) (k := r) (x := x_68) (by unfold WT nm; omega)
              refine wp_iconst (nI 1) dX16_add_143 (by decide) ?_
              refine wp_zreturn dX16_add_144 rfl (by first | rfl | assumption | decide) ?_
              have hP100 := (hP3).oT hF99
              have hR101 := hR1.upT (by omega) hF99 hO98 hB16
              have hG102 := hG2.tr (FRR.oT hF99)
              rw [show o_add S (nI t) t (nI r) r y = (nI 0, (nI 1), RS_utt1 S t (OT_usm (OT_uad (RS_tt S t) r true) r x_68)) from by unfold o_add; rw [if_neg g_1, if_neg g_2, if_neg g_3, if_neg g_4, if_neg (fun z => Bool.false_ne_true (c_111.symm.trans z)), ← ez] <;> rfl] at hq
              exact hq _ hG102 ((th_oT hF99).trans wI_ss) hR101 hP100
            · skip
              refine wp_aload (i := 4) dX16_add_114 rfl ?_
              refine wp_get 16 5 (vr (some (nm 8 t))) dX16_add_116 (hR1.t (by omega)).k0 (by decide) (by decide) fl_X16_283 (congrArg (fun z => toV (vr z)) ((hR1.t (by omega)).r6_5)) ?_
              refine wp_iload_n (i := 2) dX16_add_119 rfl rfl ?_
              refine wp_iload (i := 5) dX16_add_120 rfl ?_
              refine wp_iastoreN 6 dX16_add_122 (hR1.t (by omega)).k13 (hR1.t (by omega)).n13 (by omega) (by decide) ?_
              have hO103 := (hR1.t (by omega))
              have hF104 := hO103.rfT
              have hO105 := hO103.wwn (j := r) (v := x_68)
              have hF106 := hF104.wI (b := nm 8 t) (k := r) (x := x_68) (by unfold WT nm; omega)
              refine wp_goto 143 dX16_add_123 (by decide) ?_
              refine wp_iconst (nI 1) dX16_add_143 (by decide) ?_
              refine wp_zreturn dX16_add_144 rfl (by first | rfl | assumption | decide) ?_
              have hP107 := (hP3).oT hF106
              have hR108 := hR1.upT (by omega) hF106 hO105 hB16
              have hG109 := hG2.tr (FRR.oT hF106)
              rw [show o_add S (nI t) t (nI r) r y = (nI 0, (nI 1), RS_utt1 S t (OT_uwn (RS_tt S t) r x_68)) from by unfold o_add; rw [if_neg g_1, if_neg g_2, if_neg g_3, if_neg g_4, if_pos c_111, ← ez] <;> rfl] at hq
              exact hq _ hG109 ((th_oT hF106).trans wI_ss) hR108 hP107
          · skip
            refine wp_iconst (nI 1) dX16_add_90 (by decide) ?_
            refine wp_goto 95 dX16_add_91 (by decide) ?_
            refine wp_iconst (nI 4) dX16_add_95 (by decide) ?_
            refine wp_cV (y' := m_X16_fails) 17 [vi (nI 1), vi (nI 4)] [] 0 0 dX16_add_96 ml_X16_102 im_X16_fails se_X16_fails (by decide) hR1.mk ok_X16_fails rfl (Nat.le_of_ble_eq_true rfl) rfl (Nat.le_of_ble_eq_true rfl) (d' := d - 1) (by omega) (Nat.zero_le _) (Nat.zero_le _) (c_flT hR1.mk wI_ss (nI 4) (by decide) (cont_ret ?_))
            have g_4 : inB y (-99) (nI 99) = false ∨ (!elB (adz (RS_tt S t) r y)) = true := by first | exact Or.inl c_79 | exact Or.inr (ez ▸ c_87)
            have hR110 := hR1.w0 (x := nI 4)
            have hG111 := hG2.tr (FRR.w0 (x := nI 4))
            have hP112 := PO2.m (a := nm 1 0) (k := 0) (x := nI 4) hP3
            refine wp_if_eqN 104 dX16_add_99 (by decide) (by decide) (fun c_99 => absurd c_99 (by decide)) (fun c_99 => ?_)
            refine wp_iconst (nI 0) dX16_add_102 (by decide) ?_
            refine wp_zreturn dX16_add_103 rfl (by first | rfl | assumption | decide) ?_
            rw [show o_add S (nI t) t (nI r) r y = (nI 4, nI 0, S) from by unfold o_add; rw [if_neg g_1, if_neg g_2, if_neg g_3, if_pos g_4]] at hq
            exact hq _ hG111 wI_ss hR110 hP112
