/-! The model: commit, whole. -/
theorem gos_t {t r : Nat} {e : Bool} : ∀ m S, (gos t r e m S).1 = true → RS_tt (gos t r e m S).2 t = RS_tt S t := by
  intro m
  induction m with
  | zero => intro S _; rfl
  | succ m ih =>
    intro S h
    rw [gos] at h ⊢
    split at h
    · next c =>
      rw [if_pos c]
      split at h
      · cases h
      · next c2 => rw [if_neg c2, ih _ h]; exact va_up_ne _ _ (fun z => c.1.1 z.symm)
    · next c => rw [if_neg c]; exact ih S h
theorem cmA_t {t : Nat} : ∀ m r S, (cmA t m r S).1 = true → RS_tt (cmA t m r S).2 t = RS_tt S t := by
  intro m
  induction m with
  | zero => intro r S _; rfl
  | succ m ih =>
    intro r S h
    rw [cmA] at h ⊢
    split at h
    · next c =>
      rw [if_pos c]
      split at h
      · cases h
      · next c2 => rw [if_neg c2, ih _ _ h]; exact gos_t 3 S (by revert c2; cases (gos t r true 3 S).1 <;> simp)
    · next c => rw [if_neg c]; exact ih _ S h
theorem cgN_op {y : OTS} {b : Bool} : ∀ m r, cgN (OT_uop y b) m r = cgN y m r := by
  intro m
  induction m with
  | zero => intro r; rfl
  | succ m ih => intro r; rw [cgN, cgN, ih (r + 1)]; rfl
theorem JC.frr {h h' : Hp} (J : JC h) (hG : FRR h h') : JC h' := J.fr (fun i => hG.1 _ (by unfold WRR nm; omega))
theorem cmC_tt {t m r : Nat} {S : RS} : RS_tt (cmC t m r S) = RS_tt S ∧ RS_aa (cmC t m r S) = RS_aa S ∧ RS_an (cmC t m r S) = RS_an S ∧ RS_rn (cmC t m r S) = RS_rn S := by
  obtain ⟨v, f, e⟩ := cmC_same t m r S
  rw [e]
  exact ⟨rfl, rfl, rfl, rfl⟩
theorem cmE_tt {S : RS} {t : Nat} {b : Bool} : RS_tt (cmE S t b) t = OT_uop (RS_tt S t) false := va_up_self _ _ _
set_option maxRecDepth 100000 in
set_option maxHeartbeats 4000000 in
theorem l_X16_commitG {G : GG} {d bc bs : Nat} {Q : Pst} {h0 H : Hp} {S : RS} {t : Nat} {o s : Bool} (ht : t < 3) (hd : 14 ≤ d) (J : JC h0) (hC : RC S) (hlg : (RS_lg S).length ≤ 600) (hrow : ∀ a, a < RS_an S → (OA_row (RS_aa S a)).length ≤ 12) (hsq : ∀ q, q ∈ OT_sq (RS_tt S t) → q.1 < RS_an S ∧ -128 ≤ q.2.toInt ∧ q.2.toInt ≤ 127) (hR : MR H S) (hP : PO2 H) (hG : FRR h0 H) (h0' : h_I H (nm 1 0) 0 = nI 0) (hbc : 80 ≤ bc) (hbs : 2000 + 1300 * cgN (RS_tt S t) (RS_rn S) 0 ≤ bs) (hq1 : o = true → ∀ h', FRR h0 h' → h_I h' (nm 1 0) 0 = nI 0 → MR h' (RS_utt1 S t (fgt (OT_uop (RS_tt S t) false))) → PO2 h' → Q (oRet (vi (nI 98))) h') (hq2 : o = false → ∀ h', FRR h0 h' → h_I h' (nm 1 0) 0 = nI 0 → MR h' ((fun Z => RS_utt1 Z t (fgt (RS_tt Z t))) (cmG (cmC t (RS_rn S) 0 (cmE S t s)) t)) → PO2 h' → Q (oRet (vi (nI 99))) h') : WP G m_X16_commit d 183 [(4, vi (bI s)), (3, vi (bI o)), (2, vr (some (nm 6 t))), (0, vr (some (nm 1 0))), (1, vi (nI t))] [] H bc bs Q := by
  have ht16 : t < 16 := by omega
  have hbb := hC.1
  have hB16 : RS_rn S ≤ 16 ∧ RS_an S ≤ 16 := ⟨by omega, by have := hC.2.1; omega⟩
  refine wp_aload_n (i := 2) dX16_commit_183 rfl rfl ?_
  refine wp_iconst (nI 0) dX16_commit_184 (by decide) ?_
  refine wp_putI 16 0 dX16_commit_185 (hR.t ht).k0 (by decide) (by decide) (by decide) fl_X16_246 rfl (fun _ _ => rfl) rfl rfl ?_
  have hO1 := (hR.t ht)
  have hF2 := hO1.rfT
  have hO3 := hO1.wop (v := false)
  have hF4 := hF2.wI (b := nm 6 t) (k := 0) (x := bI (false)) (by unfold WT nm; omega)
  refine wp_iload_n (i := 3) dX16_commit_188 rfl rfl ?_
  refine wp_if_eqB 199 dX16_commit_189 (by decide) (fun c_189 => ?_) (fun c_189 => ?_)
  · skip
    refine wp_aload_n (i := 0) dX16_commit_199 rfl rfl ?_
    refine wp_dup dX16_commit_200 ?_
    refine wp_get 17 15 (vi (nI (RS_mo S))) dX16_commit_201 ((ce_k (hF4 (nm 1 0) (WT_n (by omega) (by decide)))).trans hR.mk) (by decide) (by decide) fl_X16_253 (congrArg (fun z => toV (vi z)) ((congrFun (ce_I (hF4 (nm 1 0) (WT_n (by omega) (by decide)))) 15).trans (hR.mo))) ?_
    refine wp_iload (i := 4) dX16_commit_204 rfl ?_
    refine wp_if_eqB 213 dX16_commit_206 (by decide) (fun c_206 => ?_) (fun c_206 => ?_)
    · rw [c_206] at hq2
      refine wp_iconst (nI 0) dX16_commit_213 (by decide) ?_
      refine wp_iaddN dX16_commit_214 ?_
      refine wp_putI 17 15 dX16_commit_215 ((ce_k (hF4 (nm 1 0) (WT_n (by omega) (by decide)))).trans hR.mk) (by decide) (by decide) (by decide) fl_X16_253 rfl (fun _ _ => rfl) rfl rfl ?_
      have hP5 := (hP).oT hF4
      have hR6 := hR.upT ht hF4 hO3 hB16
      have hG7 := hG.tr (FRR.oT hF4)
      have hR8 := hR6.wmo (x := ((RS_mo S) + 0))
      have hG9 := hG7.tr (FRR.w15 (x := nI ((RS_mo S) + 0)))
      have hP10 := PO2.m (a := nm 1 0) (k := 15) (x := (nI ((RS_mo S) + 0))) hP5
      refine wp_iconst (nI 0) dX16_commit_218 (by decide) ?_
      refine wp_istore (i := 5) (lv' := [(5, vi (nI 0)), (4, vi (bI s)), (3, vi (bI o)), (2, vr (some (nm 6 t))), (0, vr (some (nm 1 0))), (1, vi (nI t))]) dX16_commit_219 (by decide) rfl ?_
      refine wp_sub [(5, vi (nI 0)), (2, vr (some (nm 6 t))), (0, vr (some (nm 1 0))), (1, vi (nI t))] (sb_cons (.head _) (sb_cons (.tail _ (.tail _ (.tail _ (.head _)))) (sb_cons (.tail _ (.tail _ (.tail _ (.tail _ (.head _))))) (sb_cons (.tail _ (.tail _ (.tail _ (.tail _ (.tail _ (.head _)))))) sb_nil)))) ?_
      refine wp_pay (bc' := 49 + 4 * RS_rn S) (bs' := 1924 + 1300 * cgN (OT_uop (RS_tt S t) false) (RS_rn S) 0) (by omega) (by rw [cgN_op]; omega) ?_
      refine l_X16_commitC (y := OT_uop (RS_tt S t) false) ht hd (RS_rn S) 0 _ (cmE S t false) cmE_tt (by show 0 + RS_rn S = RS_rn S; omega) hR8 hC (by show (RS_lg S).length + RS_rn S ≤ 610; omega) hP10 hG9 ((th_m (by decide)).trans ((th_oT hF4).trans h0')) (fun H2 r1 r2 r3 r4 => ?_)
      obtain ⟨e1, e2, e3, e4⟩ := cmC_tt (t := t) (m := RS_rn S) (r := 0) (S := cmE S t false)
      exact l_X16_commitF ht hd ⟨by rw [e3]; exact hC.2.1, by rw [e4]; exact hC.1⟩ (by rw [e2, e3]; exact hrow) (by rw [e1, e3, cmE_tt]; exact hsq) r1 r2 r3 r4 (J.frr r3) (by omega) (by omega) (hq2 c_189)
    · rw [c_206] at hq2
      refine wp_iconst (nI 1) dX16_commit_209 (by decide) ?_
      refine wp_goto 214 dX16_commit_210 (by decide) ?_
      refine wp_iaddN dX16_commit_214 ?_
      refine wp_putI 17 15 dX16_commit_215 ((ce_k (hF4 (nm 1 0) (WT_n (by omega) (by decide)))).trans hR.mk) (by decide) (by decide) (by decide) fl_X16_253 rfl (fun _ _ => rfl) rfl rfl ?_
      have hP11 := (hP).oT hF4
      have hR12 := hR.upT ht hF4 hO3 hB16
      have hG13 := hG.tr (FRR.oT hF4)
      have hR14 := hR12.wmo (x := ((RS_mo S) + 1))
      have hG15 := hG13.tr (FRR.w15 (x := nI ((RS_mo S) + 1)))
      have hP16 := PO2.m (a := nm 1 0) (k := 15) (x := (nI ((RS_mo S) + 1))) hP11
      refine wp_iconst (nI 0) dX16_commit_218 (by decide) ?_
      refine wp_istore (i := 5) (lv' := [(5, vi (nI 0)), (4, vi (bI s)), (3, vi (bI o)), (2, vr (some (nm 6 t))), (0, vr (some (nm 1 0))), (1, vi (nI t))]) dX16_commit_219 (by decide) rfl ?_
      refine wp_sub [(5, vi (nI 0)), (2, vr (some (nm 6 t))), (0, vr (some (nm 1 0))), (1, vi (nI t))] (sb_cons (.head _) (sb_cons (.tail _ (.tail _ (.tail _ (.head _)))) (sb_cons (.tail _ (.tail _ (.tail _ (.tail _ (.head _))))) (sb_cons (.tail _ (.tail _ (.tail _ (.tail _ (.tail _ (.head _)))))) sb_nil)))) ?_
      refine wp_pay (bc' := 49 + 4 * RS_rn S) (bs' := 1924 + 1300 * cgN (OT_uop (RS_tt S t) false) (RS_rn S) 0) (by omega) (by rw [cgN_op]; omega) ?_
      refine l_X16_commitC (y := OT_uop (RS_tt S t) false) ht hd (RS_rn S) 0 _ (cmE S t true) cmE_tt (by show 0 + RS_rn S = RS_rn S; omega) hR14 hC (by show (RS_lg S).length + RS_rn S ≤ 610; omega) hP16 hG15 ((th_m (by decide)).trans ((th_oT hF4).trans h0')) (fun H2 r1 r2 r3 r4 => ?_)
      obtain ⟨e1, e2, e3, e4⟩ := cmC_tt (t := t) (m := RS_rn S) (r := 0) (S := cmE S t true)
      exact l_X16_commitF ht hd ⟨by rw [e3]; exact hC.2.1, by rw [e4]; exact hC.1⟩ (by rw [e2, e3]; exact hrow) (by rw [e1, e3, cmE_tt]; exact hsq) r1 r2 r3 r4 (J.frr r3) (by omega) (by omega) (hq2 c_189)
  · skip
    refine wp_aload_n (i := 2) dX16_commit_192 rfl rfl ?_
    refine wp_cV (y' := m_X15_forget) 16 [] [] 0 0 dX16_commit_193 ml_X16_268 im_X15_forget se_X15_forget (by decide) hO3.k0 ok_X15_forget rfl (Nat.le_of_ble_eq_true rfl) rfl (Nat.le_of_ble_eq_true rfl) (d' := d - 1) (by omega) (Nat.zero_le _) (Nat.zero_le _) (c_X15_forget hO3 (by omega) (by omega) (fun h20 hO17 hF18 => cont_void ?_))
    have hF19 := hF4.tr hF18
    refine wp_bipush (nI 98) dX16_commit_196 (by decide) ?_
    refine wp_zreturn dX16_commit_198 rfl (pk_charN (by decide)).1 ?_
    have hP21 := (hP).oT hF19
    have hR22 := hR.upT ht hF19 hO17 hB16
    have hG23 := hG.tr (FRR.oT hF19)
    exact hq1 c_189 _ hG23 ((th_oT hF19).trans h0') hR22 hP21
set_option maxRecDepth 100000 in
set_option maxHeartbeats 4000000 in
theorem c_X16_commit {G : GG} {d bc bs : Nat} {h : Hp} {Q : Pst} {S : RS} (hR : MR h S) {n : Nat} (hB : RB n S) (hP : PO2 h) {v : Int32} {t : Nat} (hv : ixB v 3 = true → v = nI t ∧ t < 3) (J : JC h) (hlg : (RS_lg S).length ≤ 600) (hbc : 80 ≤ bc) (hbs : 2000 + 1300 * cgN (RS_tt S t) (RS_rn S) 0 ≤ bs) (hd : 16 ≤ d) (hq : RO Q h (o_commit S v t)) : WP G m_X16_commit d 0 (aargs 0 [vr (some (nm 1 0)), vi v]) [] h bc bs Q := by
  refine wp_sub [(0, vr (some (nm 1 0))), (1, vi v)] (fun _ hz => hz) ?_
  have hG := FRR.rf (h := h)
  have hB16 := hB.h16
  have hbb := hB.1
  refine wp_aload_n (i := 0) dX16_commit_0 rfl rfl ?_
  refine wp_iconst (nI 0) dX16_commit_1 (by decide) ?_
  refine wp_putI 17 0 dX16_commit_2 hR.mk (by decide) (by decide) (by decide) fl_X16_63 rfl (fun _ _ => rfl) rfl rfl ?_
  have hR1 := hR.w0 (x := (nI 0))
  have hG2 := hG.tr (FRR.w0 (x := (nI 0)))
  have hP3 := PO2.m (a := nm 1 0) (k := 0) (x := (nI 0)) hP
  refine wp_aload_n (i := 0) dX16_commit_5 rfl rfl ?_
  refine wp_iload_n (i := 1) dX16_commit_6 rfl rfl ?_
  refine wp_cS (y' := m_X16_noTransaction) [vi v] [vr (some (nm 1 0))] 0 0 dX16_commit_7 ml_X16_250 st_X16_noTransaction ok_X16_noTransaction rfl (Nat.le_of_ble_eq_true rfl) rfl (Nat.le_of_ble_eq_true rfl) (d' := d - 1) (by omega) (Nat.zero_le _) (Nat.zero_le _) (c_X16_noTransaction v (by omega) (cont_ret ?_))
  refine wp_iconst (nI 1) dX16_commit_10 (by decide) ?_
  refine wp_cV (y' := m_X16_fails) 17 [vi (bI (!ixB v 3)), vi (nI 1)] [] 0 0 dX16_commit_11 ml_X16_102 im_X16_fails se_X16_fails (by decide) hR1.mk ok_X16_fails rfl (Nat.le_of_ble_eq_true rfl) rfl (Nat.le_of_ble_eq_true rfl) (d' := d - 1) (by omega) (Nat.zero_le _) (Nat.zero_le _) (c_flB hR1.mk wI_ss (!ixB v 3) (nI 1) (by decide) (fun c_11 => cont_ret ?_) (fun c_11 => cont_ret ?_))
  · have g_1 : (!ixB v 3) = true := by first | exact c_11 | exact of_decide_eq_true c_11 | omega | (simp at c_11 ⊢; grind)
    have hR4 := hR1.w0 (x := nI 1)
    have hG5 := hG2.tr (FRR.w0 (x := nI 1))
    have hP6 := PO2.m (a := nm 1 0) (k := 0) (x := nI 1) hP3
    refine wp_if_neN 30 dX16_commit_14 (by decide) (by decide) (fun c_14 => ?_) (fun c_14 => absurd c_14 (by decide))
    refine wp_iconst (nI 0) dX16_commit_30 (by decide) ?_
    refine wp_zreturn dX16_commit_31 rfl (by first | rfl | assumption | decide) ?_
    rw [show o_commit S v t = (nI 1, nI 0, S) from by unfold o_commit; rw [if_pos g_1]] at hq
    exact hq _ hG5 wI_ss hR4 hP6
  · have g_1 : ¬ ((!ixB v 3) = true) := by first | exact fun z => Bool.false_ne_true (c_11.symm.trans z) | exact of_decide_eq_false c_11 | omega | (simp at c_11 ⊢; grind)
    obtain ⟨ev, ht⟩ := hv (nt_g g_1)
    subst ev
    refine wp_if_neN 30 dX16_commit_14 (by decide) (by decide) (fun c_14 => absurd c_14 (by decide)) (fun c_14 => ?_)
    refine wp_aload_n (i := 0) dX16_commit_17 rfl rfl ?_
    refine wp_aload_n (i := 0) dX16_commit_18 rfl rfl ?_
    refine wp_iload_n (i := 1) dX16_commit_19 rfl rfl ?_
    refine wp_cV (y' := m_X16_isClosed) 17 [vi (nI t)] [vr (some (nm 1 0))] 0 0 dX16_commit_20 ml_X16_274 im_X16_isClosed se_X16_isClosed (by decide) hR1.mk ok_X16_isClosed rfl (Nat.le_of_ble_eq_true rfl) rfl (Nat.le_of_ble_eq_true rfl) (d' := d - 1) (by omega) (Nat.zero_le _) (Nat.zero_le _) (c_X16_isClosed hR1 ht (cont_ret ?_))
    refine wp_iconst (nI 2) dX16_commit_23 (by decide) ?_
    refine wp_cV (y' := m_X16_fails) 17 [vi (bI (!OT_op (RS_tt S t))), vi (nI 2)] [] 0 0 dX16_commit_24 ml_X16_102 im_X16_fails se_X16_fails (by decide) hR1.mk ok_X16_fails rfl (Nat.le_of_ble_eq_true rfl) rfl (Nat.le_of_ble_eq_true rfl) (d' := d - 1) (by omega) (Nat.zero_le _) (Nat.zero_le _) (c_flB hR1.mk wI_ss (!OT_op (RS_tt S t)) (nI 2) (by decide) (fun c_24 => cont_ret ?_) (fun c_24 => cont_ret ?_))
    · have g_2 : (!OT_op (RS_tt S t)) = true := by first | exact c_24 | exact of_decide_eq_true c_24 | omega | (simp at c_24 ⊢; grind)
      have hR7 := hR1.w0 (x := nI 2)
      have hG8 := hG2.tr (FRR.w0 (x := nI 2))
      have hP9 := PO2.m (a := nm 1 0) (k := 0) (x := nI 2) hP3
      refine wp_if_eqN 32 dX16_commit_27 (by decide) (by decide) (fun c_27 => absurd c_27 (by decide)) (fun c_27 => ?_)
      refine wp_iconst (nI 0) dX16_commit_30 (by decide) ?_
      refine wp_zreturn dX16_commit_31 rfl (by first | rfl | assumption | decide) ?_
      rw [show o_commit S (nI t) t = (nI 2, nI 0, S) from by unfold o_commit; rw [if_neg g_1, if_pos g_2]] at hq
      exact hq _ hG8 wI_ss hR7 hP9
    · have g_2 : ¬ ((!OT_op (RS_tt S t)) = true) := by first | exact fun z => Bool.false_ne_true (c_24.symm.trans z) | exact of_decide_eq_false c_24 | omega | (simp at c_24 ⊢; grind)
      refine wp_if_eqN 32 dX16_commit_27 (by decide) (by decide) (fun c_27 => ?_) (fun c_27 => absurd c_27 (by decide))
      refine wp_aload_n (i := 0) dX16_commit_32 rfl rfl ?_
      refine wp_get 17 17 (vr (some (nm 1 17))) dX16_commit_33 hR1.mk (by decide) (by decide) fl_X16_56 (congrArg (fun z => toV (vr z)) (hR1.ref 17 (by decide) (by decide) (by decide) (by decide))) ?_
      refine wp_iload_n (i := 1) dX16_commit_36 rfl rfl ?_
      refine wp_aaloadN 3 (some (nm 6 t)) dX16_commit_37 (arTy_117 hR1.k17) hR1.tn (by omega) (by decide) (hR1.tr ht) ?_
      refine wp_astore_n (i := 2) (lv' := [(2, vr (some (nm 6 t))), (0, vr (some (nm 1 0))), (1, vi (nI t))]) dX16_commit_38 rfl (by decide) rfl ?_
      refine wp_iconst (nI 0) dX16_commit_39 (by decide) ?_
      refine wp_istore_n (i := 3) (lv' := [(3, vi (nI 0)), (2, vr (some (nm 6 t))), (0, vr (some (nm 1 0))), (1, vi (nI t))]) dX16_commit_40 rfl (by decide) rfl ?_
      refine wp_sub [(3, vi (nI 0)), (2, vr (some (nm 6 t))), (0, vr (some (nm 1 0))), (1, vi (nI t))] (sb_cons (.head _) (sb_cons (.tail _ (.head _)) (sb_cons (.tail _ (.tail _ (.head _))) (sb_cons (.tail _ (.tail _ (.tail _ (.head _)))) sb_nil)))) ?_
      refine l_X16_commitA ht (by omega) (RS_rn S) 0 _ S (by omega) hR1 hB hP3 hG2 wI_ss (fun H1 e1 r1 r2 r3 r4 => ?_) (fun H1 e1 r1 rB r2 r3 r4 => ?_)
      · rw [show o_commit S (nI t) t = (nI 0, nI 115, (cmA t (RS_rn S) 0 S).2) from by unfold o_commit; rw [if_neg g_1, if_neg g_2, if_pos e1]] at hq
        exact hq _ r3 r4 r1 r2
      · have eA : ¬ (cmA t (RS_rn S) 0 S).1 = false := fun z => Bool.false_ne_true (z.symm.trans e1)
        obtain ⟨f1, ef1⟩ := cmA_utt t (RS_rn S) 0 S
        have ern : RS_rn (cmA t (RS_rn S) 0 S).2 = RS_rn S := by rw [ef1]
        refine wp_iconst (nI 0) dX16_commit_80 (by decide) ?_
        refine wp_istore_n (i := 3) (lv' := [(3, vi (nI 0)), (2, vr (some (nm 6 t))), (0, vr (some (nm 1 0))), (1, vi (nI t))]) dX16_commit_81 rfl (by decide) rfl ?_
        refine wp_iconst (nI 0) dX16_commit_82 (by decide) ?_
        refine wp_istore (i := 4) (lv' := [(4, vi (nI 0)), (3, vi (nI 0)), (2, vr (some (nm 6 t))), (0, vr (some (nm 1 0))), (1, vi (nI t))]) dX16_commit_83 (by decide) rfl ?_
        refine wp_iconst (nI 0) dX16_commit_85 (by decide) ?_
        refine wp_istore (i := 5) (lv' := [(5, vi (nI 0)), (4, vi (nI 0)), (3, vi (nI 0)), (2, vr (some (nm 6 t))), (0, vr (some (nm 1 0))), (1, vi (nI t))]) dX16_commit_86 (by decide) rfl ?_
        refine l_X16_commitB ht (by omega) r1 rB (RS_rn S) 0 false false (by omega) ?_ _ rfl
        refine l_X16_commitG ht (by omega) J ⟨rB.1.2.1, rB.1.2.2.1, fun r hr => ⟨(rB.2.2.1 r hr).1, (rB.2.2.1 r hr).2.1, (rB.2.2.1 r hr).2.2.1⟩⟩ (by rw [ef1]; exact hlg) (fun a ha => (rB.2.2.2 a ha).1) (rB.2.1 t ht).2.2.2 r1 r2 r3 r4 (by omega) (by rw [ern, cmA_t _ _ _ e1]; omega) (fun eb h9 x1 x2 x3 x4 => ?_) (fun eb h9 x1 x2 x3 x4 => ?_)
        · rw [show o_commit S (nI t) t = (nI 0, nI 98, RS_utt1 (cmA t (RS_rn S) 0 S).2 t (fgt (OT_uop (RS_tt (cmA t (RS_rn S) 0 S).2 t) false))) from by unfold o_commit; rw [if_neg g_1, if_neg g_2, if_neg eA, if_pos eb]] at hq
          exact hq _ x1 x2 x3 x4
        · rw [show o_commit S (nI t) t = (nI 0, nI 99, (fun Z => RS_utt1 Z t (fgt (RS_tt Z t))) (cmG (cmC t (RS_rn S) 0 (cmE (cmA t (RS_rn S) 0 S).2 t (cmB (cmA t (RS_rn S) 0 S).2 t (RS_rn S) 0 false false).2)) t)) from by unfold o_commit; rw [if_neg g_1, if_neg g_2, if_neg eA, if_neg (fun z => Bool.false_ne_true (eb.symm.trans z))]] at hq
          rw [ern] at x3
          exact hq _ x1 x2 x3 x4
