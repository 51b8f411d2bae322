/-! The model: what its calls of references and transactions ask in common. -/
/-- the bounds of a state, after n calls -/
def RB (n : Nat) (S : RS) : Prop := (n ≤ 600 ∧ RS_rn S ≤ 6 ∧ RS_an S ≤ 4 ∧ RS_mo S ≤ n ∧ RS_bg S ≤ n ∧ (RS_lg S).length ≤ 6 * n ∧ ∀ q, q ∈ RS_lg S → q.2.1 < 6) ∧ (∀ t, t < 3 → OT_pt (RS_tt S t) ≤ n ∧ OT_ag (RS_tt S t) ≤ n ∧ (OT_sq (RS_tt S t)).length ≤ n ∧ ∀ q, q ∈ OT_sq (RS_tt S t) → q.1 < RS_an S ∧ -128 ≤ q.2.toInt ∧ q.2.toInt ≤ 127) ∧
  (∀ r, r < RS_rn S → 1 ≤ (OR_hs (RS_rr S r)).length ∧ (OR_hs (RS_rr S r)).length ≤ OR_lim (RS_rr S r) ∧ OR_lim (RS_rr S r) ≤ 8 ∧ ∀ q, q ∈ OR_hs (RS_rr S r) → q.1 ≤ n) ∧ ∀ a, a < RS_an S → (OA_row (RS_aa S a)).length ≤ 12 ∧ OA_er (RS_aa S a) ≤ n
theorem RB.h16 {n : Nat} {S : RS} (H : RB n S) : RS_rn S ≤ 16 ∧ RS_an S ≤ 16 := ⟨Nat.le_trans H.1.2.1 (by decide), Nat.le_trans H.1.2.2.1 (by decide)⟩
/-- what an operation answers: what was thrown, the answer, the state -/
def RO (Q : Pst) (h : Hp) (o : Int32 × Int32 × RS) : Prop := ∀ h', FRR h h' → h_I h' (nm 1 0) 0 = o.1 → MR h' o.2.2 → PO2 h' → Q (oRet (vi o.2.1)) h'
theorem nt_g {b : Bool} (h : ¬ (!b) = true) : b = true := by revert h; cases b <;> decide
def lastq (x : ORS) : Nat × Int32 := (OR_hs x).getD ((OR_hs x).length - 1) (0, 0)
theorem L2_len (l : List (Nat × Int32)) : (l.map (fun q => [nI q.1, q.2])).length = l.length := List.length_map _
theorem L2_get {l : List (Nat × Int32)} {j : Nat} (hj : j < (l.map (fun q => [nI q.1, q.2])).length) : (l.map (fun q => [nI q.1, q.2]))[j] = [nI (l.getD j (0, 0)).1, (l.getD j (0, 0)).2] := by
  have h2 : j < l.length := by rwa [List.length_map] at hj
  rw [List.getElem_map]
  have : l.getD j (0, 0) = l[j] := by simp [List.getD, List.getElem?_eq_getElem h2]
  rw [this]
theorem lastq_in {x : ORS} (h : 1 ≤ (OR_hs x).length) : lastq x ∈ OR_hs x := by
  unfold lastq
  have h2 : (OR_hs x).length - 1 < (OR_hs x).length := by omega
  have : (OR_hs x).getD ((OR_hs x).length - 1) (0, 0) = (OR_hs x)[(OR_hs x).length - 1] := by simp [List.getD, List.getElem?_eq_getElem h2]
  rw [this]
  exact List.getElem_mem h2

set_option maxRecDepth 100000 in
set_option maxHeartbeats 4000000 in
theorem c_X13_last {G : GG} {d bc bs : Nat} {h : Hp} {Q : Pst} {r : Nat} {x : ORS} (hO : OR h r x) (h1 : 1 ≤ (OR_hs x).length) (hd : 4 ≤ d) (hq : ∀ a, PEr h a [nI (lastq x).1, (lastq x).2] → Q (oRet (vr (some a))) h) : WP G m_X13_last d 0 (aargs 0 [vr (some (nm 4 r))]) [] h bc bs Q := by
  refine wp_sub [(0, vr (some (nm 4 r)))] (fun _ hz => hz) ?_
  refine wp_aload_n (i := 0) dX13_last_0 rfl rfl ?_
  refine wp_get 14 3 (vr (some (nm 5 r))) dX13_last_1 hO.k0 (by decide) (by decide) fl_X13_16 (congrArg (fun z => toV (vr z)) (hO.r4_3)) ?_
  refine wp_aload_n (i := 0) dX13_last_4 rfl rfl ?_
  refine wp_get 14 3 (vr (some (nm 5 r))) dX13_last_5 hO.k0 (by decide) (by decide) fl_X13_16 (congrArg (fun z => toV (vr z)) (hO.r4_3)) ?_
  refine wp_cV (y' := m_Jx4a65c_size_8abf5) 2 [] [vr (some (nm 5 r))] 0 0 dX13_last_8 ml_X13_29 im_Jx4a65c_size_8abf5 se_Jx4a65c_size_8abf5 (by decide) hO.L6.k ok_Jx4a65c_size_8abf5 rfl (Nat.le_of_ble_eq_true rfl) rfl (Nat.le_of_ble_eq_true rfl) (d' := d - 1) (by omega) (Nat.zero_le _) (Nat.zero_le _) (c_LP_size hO.L6 (cont_ret ?_))
  rw [L2_len]
  refine wp_iconst (nI 1) dX13_last_11 (by decide) ?_
  refine wp_isubN dX13_last_12 h1 ?_
  refine wp_cV (y' := m_Jx4a65c_get_915e3) 2 [vi (nI (((OR_hs x).length) - 1))] [] 0 0 dX13_last_13 ml_X13_33 im_Jx4a65c_get_915e3 se_Jx4a65c_get_915e3 (by decide) hO.L6.k ok_Jx4a65c_get_915e3 rfl (Nat.le_of_ble_eq_true rfl) rfl (Nat.le_of_ble_eq_true rfl) (d' := d - 1) (by omega) (Nat.zero_le _) (Nat.zero_le _) (c_LP_get hO.L6 (by rw [L2_len]; omega) (by omega) (fun a E => cont_ret ?_))
  rw [L2_get] at E
  refine wp_castA .int dX13_last_16 (by decide) kl_X13_37 (fun a ha => by cases ha; exact arTy_101 E.2.1) ?_
  refine wp_areturn dX13_last_19 rfl (Or.inr ⟨_, rfl⟩) ?_
  exact hq a E
set_option maxRecDepth 100000 in
set_option maxHeartbeats 4000000 in
theorem c_X16_cannot {G : GG} {d bc bs : Nat} {h : Hp} {Q : Pst} {S : RS} (hR : MR h S) (hP : PO2 h) (h0 : h_I h (nm 1 0) 0 = nI 0) {v : Int32} {t : Nat} (hv : ixB v 3 = true → v = nI t ∧ t < 3) {u : Int32} {r : Nat} (hu : ixB u (RS_rn S) = true → u = nI r ∧ r < RS_rn S) (hd : 3 ≤ d) (k1 : (!ixB v 3) = true → Q (oRet (vi (nI 1))) (wI h (nm 1 0) 0 (nI 1))) (k2 : ¬ (!ixB v 3) = true → (!ixB u (RS_rn S)) = true → Q (oRet (vi (nI 1))) (wI h (nm 1 0) 0 (nI 2))) (k3 : ¬ (!ixB v 3) = true → ¬ (!ixB u (RS_rn S)) = true → (!OT_op (RS_tt S t)) = true → Q (oRet (vi (nI 1))) (wI h (nm 1 0) 0 (nI 3))) (k0 : ¬ (!ixB v 3) = true → ¬ (!ixB u (RS_rn S)) = true → ¬ (!OT_op (RS_tt S t)) = true → Q (oRet (vi (nI 0))) h) : WP G m_X16_cannot d 0 (aargs 0 [vr (some (nm 1 0)), vi v, vi u]) [] h bc bs Q := by
  refine wp_sub [(0, vr (some (nm 1 0))), (1, vi v), (2, vi u)] (fun _ hz => hz) ?_
  have hG := FRR.rf (h := h)
  refine wp_aload_n (i := 0) dX16_cannot_0 rfl rfl ?_
  refine wp_iload_n (i := 1) dX16_cannot_1 rfl rfl ?_
  refine wp_cS (y' := m_X16_noTransaction) [vi v] [vr (some (nm 1 0))] 0 0 dX16_cannot_2 ml_X16_250 st_X16_noTransaction ok_X16_noTransaction rfl (Nat.le_of_ble_eq_true rfl) rfl (Nat.le_of_ble_eq_true rfl) (d' := d - 1) (by omega) (Nat.zero_le _) (Nat.zero_le _) (c_X16_noTransaction v (by omega) (cont_ret ?_))
  refine wp_iconst (nI 1) dX16_cannot_5 (by decide) ?_
  refine wp_cV (y' := m_X16_fails) 17 [vi (bI (!ixB v 3)), vi (nI 1)] [] 0 0 dX16_cannot_6 ml_X16_102 im_X16_fails se_X16_fails (by decide) hR.mk ok_X16_fails rfl (Nat.le_of_ble_eq_true rfl) rfl (Nat.le_of_ble_eq_true rfl) (d' := d - 1) (by omega) (Nat.zero_le _) (Nat.zero_le _) (c_flB hR.mk h0 (!ixB v 3) (nI 1) (by decide) (fun c_6 => cont_ret ?_) (fun c_6 => cont_ret ?_))
  · have g_1 : (!ixB v 3) = true := by first | exact c_6 | exact of_decide_eq_true c_6 | omega | (simp at c_6 ⊢; grind)
    have hR1 := hR.w0 (x := nI 1)
    have hG2 := hG.tr (FRR.w0 (x := nI 1))
    have hP3 := PO2.m (a := nm 1 0) (k := 0) (x := nI 1) hP
    refine wp_if_neN 38 dX16_cannot_9 (by decide) (by decide) (fun c_9 => ?_) (fun c_9 => absurd c_9 (by decide))
    refine wp_iconst (nI 1) dX16_cannot_38 (by decide) ?_
    refine wp_goto 43 dX16_cannot_39 (by decide) ?_
    refine wp_zreturn dX16_cannot_43 rfl (by decide) ?_
    exact k1 g_1
  · have g_1 : ¬ ((!ixB v 3) = true) := by first | exact fun z => Bool.false_ne_true (c_6.symm.trans z) | exact of_decide_eq_false c_6 | omega | (simp at c_6 ⊢; grind)
    obtain ⟨ev, ht⟩ := hv (nt_g g_1)
    subst ev
    refine wp_if_neN 38 dX16_cannot_9 (by decide) (by decide) (fun c_9 => absurd c_9 (by decide)) (fun c_9 => ?_)
    refine wp_aload_n (i := 0) dX16_cannot_12 rfl rfl ?_
    refine wp_aload_n (i := 0) dX16_cannot_13 rfl rfl ?_
    refine wp_iload_n (i := 2) dX16_cannot_14 rfl rfl ?_
    refine wp_cV (y' := m_X16_noReference) 17 [vi u] [vr (some (nm 1 0))] 0 0 dX16_cannot_15 ml_X16_271 im_X16_noReference se_X16_noReference (by decide) hR.mk ok_X16_noReference rfl (Nat.le_of_ble_eq_true rfl) rfl (Nat.le_of_ble_eq_true rfl) (d' := d - 1) (by omega) (Nat.zero_le _) (Nat.zero_le _) (c_X16_noReference hR u (by omega) (cont_ret ?_))
    refine wp_iconst (nI 2) dX16_cannot_18 (by decide) ?_
    refine wp_cV (y' := m_X16_fails) 17 [vi (bI (!ixB u (RS_rn S))), vi (nI 2)] [] 0 0 dX16_cannot_19 ml_X16_102 im_X16_fails se_X16_fails (by decide) hR.mk ok_X16_fails rfl (Nat.le_of_ble_eq_true rfl) rfl (Nat.le_of_ble_eq_true rfl) (d' := d - 1) (by omega) (Nat.zero_le _) (Nat.zero_le _) (c_flB hR.mk h0 (!ixB u (RS_rn S)) (nI 2) (by decide) (fun c_19 => cont_ret ?_) (fun c_19 => cont_ret ?_))
    · have g_2 : (!ixB u (RS_rn S)) = true := by first | exact c_19 | exact of_decide_eq_true c_19 | omega | (simp at c_19 ⊢; grind)
      have hR4 := hR.w0 (x := nI 2)
      have hG5 := hG.tr (FRR.w0 (x := nI 2))
      have hP6 := PO2.m (a := nm 1 0) (k := 0) (x := nI 2) hP
      refine wp_if_neN 38 dX16_cannot_22 (by decide) (by decide) (fun c_22 => ?_) (fun c_22 => absurd c_22 (by decide))
      refine wp_iconst (nI 1) dX16_cannot_38 (by decide) ?_
      refine wp_goto 43 dX16_cannot_39 (by decide) ?_
      refine wp_zreturn dX16_cannot_43 rfl (by decide) ?_
      exact k2 g_1 g_2
    · have g_2 : ¬ ((!ixB u (RS_rn S)) = true) := by first | exact fun z => Bool.false_ne_true (c_19.symm.trans z) | exact of_decide_eq_false c_19 | omega | (simp at c_19 ⊢; grind)
      obtain ⟨eu, hr⟩ := hu (nt_g g_2)
      subst eu
      refine wp_if_neN 38 dX16_cannot_22 (by decide) (by decide) (fun c_22 => absurd c_22 (by decide)) (fun c_22 => ?_)
      refine wp_aload_n (i := 0) dX16_cannot_25 rfl rfl ?_
      refine wp_aload_n (i := 0) dX16_cannot_26 rfl rfl ?_
      refine wp_iload_n (i := 1) dX16_cannot_27 rfl rfl ?_
      refine wp_cV (y' := m_X16_isClosed) 17 [vi (nI t)] [vr (some (nm 1 0))] 0 0 dX16_cannot_28 ml_X16_274 im_X16_isClosed se_X16_isClosed (by decide) hR.mk ok_X16_isClosed rfl (Nat.le_of_ble_eq_true rfl) rfl (Nat.le_of_ble_eq_true rfl) (d' := d - 1) (by omega) (Nat.zero_le _) (Nat.zero_le _) (c_X16_isClosed hR (by omega) (cont_ret ?_))
      refine wp_iconst (nI 3) dX16_cannot_31 (by decide) ?_
      refine wp_cV (y' := m_X16_fails) 17 [vi (bI (!OT_op (RS_tt S t))), vi (nI 3)] [] 0 0 dX16_cannot_32 ml_X16_102 im_X16_fails se_X16_fails (by decide) hR.mk ok_X16_fails rfl (Nat.le_of_ble_eq_true rfl) rfl (Nat.le_of_ble_eq_true rfl) (d' := d - 1) (by omega) (Nat.zero_le _) (Nat.zero_le _) (c_flB hR.mk h0 (!OT_op (RS_tt S t)) (nI 3) (by decide) (fun c_32 => cont_ret ?_) (fun c_32 => cont_ret ?_))
      · have g_3 : (!OT_op (RS_tt S t)) = true := by first | exact c_32 | exact of_decide_eq_true c_32 | omega | (simp at c_32 ⊢; grind)
        have hR7 := hR.w0 (x := nI 3)
        have hG8 := hG.tr (FRR.w0 (x := nI 3))
        have hP9 := PO2.m (a := nm 1 0) (k := 0) (x := nI 3) hP
        refine wp_if_eqN 42 dX16_cannot_35 (by decide) (by decide) (fun c_35 => absurd c_35 (by decide)) (fun c_35 => ?_)
        refine wp_iconst (nI 1) dX16_cannot_38 (by decide) ?_
        refine wp_goto 43 dX16_cannot_39 (by decide) ?_
        refine wp_zreturn dX16_cannot_43 rfl (by decide) ?_
        exact k3 g_1 g_2 g_3
      · have g_3 : ¬ ((!OT_op (RS_tt S t)) = true) := by first | exact fun z => Bool.false_ne_true (c_32.symm.trans z) | exact of_decide_eq_false c_32 | omega | (simp at c_32 ⊢; grind)
        refine wp_if_eqN 42 dX16_cannot_35 (by decide) (by decide) (fun c_35 => ?_) (fun c_35 => absurd c_35 (by decide))
        refine wp_iconst (nI 0) dX16_cannot_42 (by decide) ?_
        refine wp_zreturn dX16_cannot_43 rfl (by decide) ?_
        exact k0 g_1 g_2 g_3
set_option maxRecDepth 100000 in
set_option maxHeartbeats 4000000 in
theorem c_X16_isLate {G : GG} {d bc bs : Nat} {h : Hp} {Q : Pst} {S : RS} (hR : MR h S) {n : Nat} (hB : RB n S) {t r : Nat} (ht : t < 3) (hr : r < RS_rn S) (hd : 5 ≤ d) (k1 : OT_pt (RS_tt S t) < (lastq (RS_rr S r)).1 → ∀ h', OT h' t (sbk (RS_tt S t) (RS_mo S)) → Fr h h' (WT t) → Q (oRet (vi (nI 1))) h') (k0 : ¬ OT_pt (RS_tt S t) < (lastq (RS_rr S r)).1 → Q (oRet (vi (nI 0))) h) : WP G m_X16_isLate d 0 (aargs 0 [vr (some (nm 1 0)), vi (nI t), vi (nI r)]) [] h bc bs Q := by
  refine wp_sub [(0, vr (some (nm 1 0))), (1, vi (nI t)), (2, vi (nI r))] (fun _ hz => hz) ?_
  have hb1 := hB.2.2.1 r hr
  have hb2 := hB.2.1 t ht
  have hb3 := hB.1
  have hb4 := hb1.2.2.2 _ (lastq_in hb1.1)
  refine wp_aload_n (i := 0) dX16_isLate_0 rfl rfl ?_
  refine wp_get 17 13 (vr (some (nm 1 13))) dX16_isLate_1 hR.mk (by decide) (by decide) fl_X16_47 (congrArg (fun z => toV (vr z)) (hR.ref 13 (by decide) (by decide) (by decide) (by decide))) ?_
  refine wp_iload_n (i := 2) dX16_isLate_4 rfl rfl ?_
  refine wp_cV (y' := m_Jx4a65c_get_915e3) 2 [vi (nI r)] [] 0 0 dX16_isLate_5 ml_X16_201 im_Jx4a65c_get_915e3 se_Jx4a65c_get_915e3 (by decide) hR.rl.k ok_Jx4a65c_get_915e3 rfl (Nat.le_of_ble_eq_true rfl) rfl (Nat.le_of_ble_eq_true rfl) (d' := d - 1) (by omega) (Nat.zero_le _) (Nat.zero_le _) (c_LO_get hR.rl (by omega) (by omega) (cont_ret ?_))
  refine wp_castC 14 dX16_isLate_8 (by decide) kl_X16_238 (fun a ha => by cases ha; exact (hR.r (by omega)).k0) ?_
  refine wp_cV (y' := m_X13_last) 14 [] [] 0 0 dX16_isLate_11 ml_X16_315 im_X13_last se_X13_last (by decide) (hR.r (by omega)).k0 ok_X13_last rfl (Nat.le_of_ble_eq_true rfl) rfl (Nat.le_of_ble_eq_true rfl) (d' := d - 1) (by omega) (Nat.zero_le _) (Nat.zero_le _) (c_X13_last (hR.r (by omega)) hb1.1 (by omega) (fun ra1 E2 => cont_ret ?_))
  refine wp_iconst (nI 0) dX16_isLate_14 (by decide) ?_
  refine wp_ialoadN 2 (nI (lastq (RS_rr S r)).1) dX16_isLate_15 E2.2.1 E2.2.2.1 (by decide) (by decide) (E2.2.2.2 0 (Nat.le_of_ble_eq_true rfl)) ?_
  refine wp_aload_n (i := 0) dX16_isLate_16 rfl rfl ?_
  refine wp_get 17 17 (vr (some (nm 1 17))) dX16_isLate_17 hR.mk (by decide) (by decide) fl_X16_56 (congrArg (fun z => toV (vr z)) (hR.ref 17 (by decide) (by decide) (by decide) (by decide))) ?_
  refine wp_iload_n (i := 1) dX16_isLate_20 rfl rfl ?_
  refine wp_aaloadN 3 (some (nm 6 t)) dX16_isLate_21 (arTy_117 hR.k17) hR.tn (by omega) (by decide) (hR.tr (by omega)) ?_
  refine wp_get 16 1 (vi (nI (OT_pt (RS_tt S t)))) dX16_isLate_22 (hR.t (by omega)).k0 (by decide) (by decide) fl_X16_256 (congrArg (fun z => toV (vi z)) ((hR.t (by omega)).f_pt)) ?_
  refine wp_icmp_leN 32 dX16_isLate_25 (by decide) (by omega) (by omega) (fun c_25 => ?_) (fun c_25 => ?_)
  · skip
    refine wp_iconst (nI 0) dX16_isLate_32 (by decide) ?_
    refine wp_istore_n (i := 3) (lv' := [(3, vi (nI 0)), (0, vr (some (nm 1 0))), (1, vi (nI t)), (2, vi (nI r))]) dX16_isLate_33 rfl (by decide) rfl ?_
    refine wp_iload_n (i := 3) dX16_isLate_34 rfl rfl ?_
    refine wp_if_eqN 43 dX16_isLate_35 (by decide) (by decide) (fun c_35 => ?_) (fun c_35 => absurd c_35 (by decide))
    refine wp_iload_n (i := 3) dX16_isLate_43 rfl rfl ?_
    refine wp_zreturn dX16_isLate_44 rfl (by decide) ?_
    exact k0 (by omega)
  · skip
    refine wp_iconst (nI 1) dX16_isLate_28 (by decide) ?_
    refine wp_goto 33 dX16_isLate_29 (by decide) ?_
    refine wp_istore_n (i := 3) (lv' := [(3, vi (nI 1)), (0, vr (some (nm 1 0))), (1, vi (nI t)), (2, vi (nI r))]) dX16_isLate_33 rfl (by decide) rfl ?_
    refine wp_iload_n (i := 3) dX16_isLate_34 rfl rfl ?_
    refine wp_if_eqN 43 dX16_isLate_35 (by decide) (by decide) (fun c_35 => absurd c_35 (by decide)) (fun c_35 => ?_)
    refine wp_aload_n (i := 0) dX16_isLate_38 rfl rfl ?_
    refine wp_iload_n (i := 1) dX16_isLate_39 rfl rfl ?_
    refine wp_cV (y' := m_X16_sendBack) 17 [vi (nI t)] [] 0 0 dX16_isLate_40 ml_X16_305 im_X16_sendBack se_X16_sendBack (by decide) hR.mk ok_X16_sendBack rfl (Nat.le_of_ble_eq_true rfl) rfl (Nat.le_of_ble_eq_true rfl) (d' := d - 1) (by omega) (Nat.zero_le _) (Nat.zero_le _) (c_X16_sendBack hR (by omega) (by omega) (fun h5 hO3 hF4 => cont_void ?_))
    refine wp_iload_n (i := 3) dX16_isLate_43 rfl rfl ?_
    refine wp_zreturn dX16_isLate_44 rfl (by decide) ?_
    exact k1 (by omega) _ hO3 hF4
/-- the others, from the (3 - m)-th on, when t wants r: whether t goes on, and the state -/
def gos (t r : Nat) (e : Bool) : Nat → RS → Bool × RS
  | 0, S => (true, S)
  | m + 1, S => if (2 - m ≠ t ∧ OT_op (RS_tt S (2 - m)) = true) ∧ (OT_wr (RS_tt S (2 - m)) r = true ∨ (e = true ∧ OT_en (RS_tt S (2 - m)) r = true)) then
      if OT_ag (RS_tt S (2 - m)) < OT_ag (RS_tt S t) then (false, RS_utt1 S t (sbk (RS_tt S t) (RS_mo S))) else gos t r e m (RS_utt1 S (2 - m) (sbk (RS_tt S (2 - m)) (RS_mo S)))
    else gos t r e m S
theorem th_fr {h h' : Hp} {t : Nat} (hF : Fr h h' (WT t)) : h_I h' (nm 1 0) 0 = h_I h (nm 1 0) 0 := by rw [ce_I (hF _ (WT_n (by omega) (by decide)))]
theorem RB_sbk {n t : Nat} {S : RS} (H : RB n S) (ht : t < 3) : RB n (RS_utt1 S t (sbk (RS_tt S t) (RS_mo S))) := by
  refine ⟨H.1, fun j hj => ?_, H.2.2⟩
  have e : RS_tt (RS_utt1 S t (sbk (RS_tt S t) (RS_mo S))) j = if j = t then sbk (RS_tt S t) (RS_mo S) else RS_tt S j := va_up_app
  rw [e]
  split
  · exact ⟨H.1.2.2.2.1, (H.2.1 t ht).2.1, Nat.zero_le _, fun q hq => nomatch hq⟩
  · exact H.2.1 j hj
set_option maxRecDepth 100000 in
set_option maxHeartbeats 4000000 in
theorem l_X16_goesOn {G : GG} {d bc bs : Nat} {Q : Pst} {h0 : Hp} {n t r : Nat} {e : Bool} (hd : 4 ≤ d) (ht : t < 3) (hr6 : r < 6) : ∀ m k h S, k + m = 3 → MR h S → RB n S → PO2 h → FRR h0 h → h_I h (nm 1 0) 0 = h_I h0 (nm 1 0) 0 → (∀ h', MR h' (gos t r e m S).2 → RB n (gos t r e m S).2 → PO2 h' → FRR h0 h' → h_I h' (nm 1 0) 0 = h_I h0 (nm 1 0) 0 → Q (oRet (vi (bI (gos t r e m S).1))) h') → ∀ lv, lv = [(4, vi (nI k)), (0, vr (some (nm 1 0))), (1, vi (nI t)), (2, vi (nI r)), (3, vi (bI e))] → WP G m_X16_goesOn d 3 lv [] h bc bs Q := by
  intro m
  induction m with
  | zero =>
    intro k h S hk hR hB hP hG hth hq lv elv
    subst elv
    have hk : k = 3 := hk
    subst hk
    refine wp_iload (i := 4) dX16_goesOn_3 rfl ?_
    refine wp_iconst (nI 3) dX16_goesOn_5 (by decide) ?_
    refine wp_icmp_geN 108 dX16_goesOn_6 (by decide) (by decide) (by decide) (fun c_6 => ?_) (fun c_6 => absurd c_6 (by omega))
    refine wp_iconst (nI 1) dX16_goesOn_108 (by decide) ?_
    refine wp_zreturn dX16_goesOn_109 rfl (by decide) ?_
    exact hq _ hR hB hP hG hth
  | succ m ih =>
    intro k h S hk hR hB hP hG hth hq lv elv
    subst elv
    have hk2 : 2 - m = k := by omega
    have hk3 : k < 3 := by omega
    have hB16 := hB.h16
    have hb1 := hB.2.1 k hk3
    have hb2 := hB.2.1 t ht
    have hb3 := hB.1
    have hqn : ¬ ((k ≠ t ∧ OT_op (RS_tt S k) = true) ∧ (OT_wr (RS_tt S k) r = true ∨ (e = true ∧ OT_en (RS_tt S k) r = true))) → gos t r e (m + 1) S = gos t r e m S := fun z => by rw [gos, hk2]; exact if_neg z
    have hqf : ((k ≠ t ∧ OT_op (RS_tt S k) = true) ∧ (OT_wr (RS_tt S k) r = true ∨ (e = true ∧ OT_en (RS_tt S k) r = true))) → OT_ag (RS_tt S k) < OT_ag (RS_tt S t) → gos t r e (m + 1) S = (false, RS_utt1 S t (sbk (RS_tt S t) (RS_mo S))) := fun z z2 => by rw [gos, hk2, if_pos z, if_pos z2]
    have hqs : ((k ≠ t ∧ OT_op (RS_tt S k) = true) ∧ (OT_wr (RS_tt S k) r = true ∨ (e = true ∧ OT_en (RS_tt S k) r = true))) → ¬ OT_ag (RS_tt S k) < OT_ag (RS_tt S t) → gos t r e (m + 1) S = gos t r e m (RS_utt1 S k (sbk (RS_tt S k) (RS_mo S))) := fun z z2 => by rw [gos, hk2, if_pos z, if_neg z2]
    refine wp_iload (i := 4) dX16_goesOn_3 rfl ?_
    refine wp_iconst (nI 3) dX16_goesOn_5 (by decide) ?_
    refine wp_icmp_geN 108 dX16_goesOn_6 (by decide) (by omega) (by decide) (fun c_6 => absurd c_6 (by omega)) (fun c_6 => ?_)
    refine wp_aload_n (i := 0) dX16_goesOn_9 rfl rfl ?_
    refine wp_get 17 17 (vr (some (nm 1 17))) dX16_goesOn_10 hR.mk (by decide) (by decide) fl_X16_56 (congrArg (fun z => toV (vr z)) (hR.ref 17 (by decide) (by decide) (by decide) (by decide))) ?_
    refine wp_iload (i := 4) dX16_goesOn_13 rfl ?_
    refine wp_aaloadN 3 (some (nm 6 k)) dX16_goesOn_15 (arTy_117 hR.k17) hR.tn (by omega) (by decide) (hR.tr (by omega)) ?_
    refine wp_astore (i := 5) (lv' := [(5, vr (some (nm 6 k))), (4, vi (nI k)), (0, vr (some (nm 1 0))), (1, vi (nI t)), (2, vi (nI r)), (3, vi (bI e))]) dX16_goesOn_16 (by decide) rfl ?_
    refine wp_iload (i := 4) dX16_goesOn_18 rfl ?_
    refine wp_iload_n (i := 1) dX16_goesOn_20 rfl rfl ?_
    refine wp_icmp_eqN 102 dX16_goesOn_21 (by decide) (by omega) (by omega) (fun c_21 => ?_) (fun c_21 => ?_)
    · skip
      rw [hqn (by first | exact fun z => z.1.1 c_21 | exact fun z => Bool.false_ne_true (c_29.symm.trans z.1.2) | exact fun z => z.2.elim (fun y => Bool.false_ne_true (c_39.symm.trans y)) (fun y => Bool.false_ne_true (c_43.symm.trans y.1)) | exact fun z => z.2.elim (fun y => Bool.false_ne_true (c_39.symm.trans y)) (fun y => Bool.false_ne_true (c_53.symm.trans y.2)))] at hq
      refine wp_sub ((4, vi (nI k)) :: [(0, vr (some (nm 1 0))), (1, vi (nI t)), (2, vi (nI r)), (3, vi (bI e))]) (by intro z hz; simp only [List.mem_cons, List.not_mem_nil, or_false] at hz ⊢; rcases hz with y | y | y | y | y <;> simp [y]) ?_
      refine wp_iincN (a := k) (lv' := [(4, vi (nI (k + 1))), (0, vr (some (nm 1 0))), (1, vi (nI t)), (2, vi (nI r)), (3, vi (bI e))]) 1 dX16_goesOn_102 rfl (by decide) (by decide) rfl ?_
      refine wp_goto 3 dX16_goesOn_105 (by decide) ?_
      exact ih (k + 1) _ _ (by omega) hR hB hP hG hth hq _ rfl
    · skip
      refine wp_aload (i := 5) dX16_goesOn_24 rfl ?_
      refine wp_get 16 0 (vi (bI (OT_op (RS_tt S k)))) dX16_goesOn_26 (hR.t (by omega)).k0 (by decide) (by decide) fl_X16_246 (congrArg (fun z => toV (vi z)) ((hR.t (by omega)).f_op)) ?_
      refine wp_if_eqB 102 dX16_goesOn_29 (by decide) (fun c_29 => ?_) (fun c_29 => ?_)
      · skip
        rw [hqn (by first | exact fun z => z.1.1 c_21 | exact fun z => Bool.false_ne_true (c_29.symm.trans z.1.2) | exact fun z => z.2.elim (fun y => Bool.false_ne_true (c_39.symm.trans y)) (fun y => Bool.false_ne_true (c_43.symm.trans y.1)) | exact fun z => z.2.elim (fun y => Bool.false_ne_true (c_39.symm.trans y)) (fun y => Bool.false_ne_true (c_53.symm.trans y.2)))] at hq
        refine wp_sub ((4, vi (nI k)) :: [(0, vr (some (nm 1 0))), (1, vi (nI t)), (2, vi (nI r)), (3, vi (bI e))]) (by intro z hz; simp only [List.mem_cons, List.not_mem_nil, or_false] at hz ⊢; rcases hz with y | y | y | y | y <;> simp [y]) ?_
        refine wp_iincN (a := k) (lv' := [(4, vi (nI (k + 1))), (0, vr (some (nm 1 0))), (1, vi (nI t)), (2, vi (nI r)), (3, vi (bI e))]) 1 dX16_goesOn_102 rfl (by decide) (by decide) rfl ?_
        refine wp_goto 3 dX16_goesOn_105 (by decide) ?_
        exact ih (k + 1) _ _ (by omega) hR hB hP hG hth hq _ rfl
      · skip
        refine wp_aload (i := 5) dX16_goesOn_32 rfl ?_
        refine wp_get 16 4 (vr (some (nm 7 k))) dX16_goesOn_34 (hR.t (by omega)).k0 (by decide) (by decide) fl_X16_280 (congrArg (fun z => toV (vr z)) ((hR.t (by omega)).r5_4)) ?_
        refine wp_iload_n (i := 2) dX16_goesOn_37 rfl rfl ?_
        refine wp_zaloadN 6 (bI (OT_wr (RS_tt S k) r)) dX16_goesOn_38 (hR.t (by omega)).k11 (hR.t (by omega)).n11 (by omega) (by decide) ((hR.t (by omega)).a_wr r) ?_
        refine wp_if_neB 56 dX16_goesOn_39 (by decide) (fun c_39 => ?_) (fun c_39 => ?_)
        · skip
          refine wp_aload_n (i := 0) dX16_goesOn_56 rfl rfl ?_
          refine wp_get 17 17 (vr (some (nm 1 17))) dX16_goesOn_57 hR.mk (by decide) (by decide) fl_X16_56 (congrArg (fun z => toV (vr z)) (hR.ref 17 (by decide) (by decide) (by decide) (by decide))) ?_
          refine wp_iload_n (i := 1) dX16_goesOn_60 rfl rfl ?_
          refine wp_aaloadN 3 (some (nm 6 t)) dX16_goesOn_61 (arTy_117 hR.k17) hR.tn (by omega) (by decide) (hR.tr (by omega)) ?_
          refine wp_get 16 2 (vi (nI (OT_ag (RS_tt S t)))) dX16_goesOn_62 (hR.t (by omega)).k0 (by decide) (by decide) fl_X16_262 (congrArg (fun z => toV (vi z)) ((hR.t (by omega)).f_ag)) ?_
          refine wp_aload (i := 5) dX16_goesOn_65 rfl ?_
          refine wp_get 16 2 (vi (nI (OT_ag (RS_tt S k)))) dX16_goesOn_67 (hR.t (by omega)).k0 (by decide) (by decide) fl_X16_262 (congrArg (fun z => toV (vi z)) ((hR.t (by omega)).f_ag)) ?_
          refine wp_icmp_leN 77 dX16_goesOn_70 (by decide) (by omega) (by omega) (fun c_70 => ?_) (fun c_70 => ?_)
          · skip
            refine wp_iconst (nI 0) dX16_goesOn_77 (by decide) ?_
            refine wp_istore (i := 6) (lv' := [(6, vi (nI 0)), (5, vr (some (nm 6 k))), (4, vi (nI k)), (0, vr (some (nm 1 0))), (1, vi (nI t)), (2, vi (nI r)), (3, vi (bI e))]) dX16_goesOn_78 (by decide) rfl ?_
            refine wp_aload_n (i := 0) dX16_goesOn_80 rfl rfl ?_
            refine wp_iload (i := 6) dX16_goesOn_81 rfl ?_
            refine wp_if_eqN 90 dX16_goesOn_83 (by decide) (by decide) (fun c_83 => ?_) (fun c_83 => absurd c_83 (by decide))
            refine wp_iload (i := 4) dX16_goesOn_90 rfl ?_
            refine wp_cV (y' := m_X16_sendBack) 17 [vi (nI k)] [] 0 0 dX16_goesOn_92 ml_X16_305 im_X16_sendBack se_X16_sendBack (by decide) hR.mk ok_X16_sendBack rfl (Nat.le_of_ble_eq_true rfl) rfl (Nat.le_of_ble_eq_true rfl) (d' := d - 1) (by omega) (Nat.zero_le _) (Nat.zero_le _) (c_X16_sendBack hR (by omega) (by omega) (fun h3 hO1 hF2 => cont_void ?_))
            refine wp_iload (i := 6) dX16_goesOn_95 rfl ?_
            refine wp_if_eqN 102 dX16_goesOn_97 (by decide) (by decide) (fun c_97 => ?_) (fun c_97 => absurd c_97 (by decide))
            have hP4 := (hP).oT hF2
            have hR5 := hR.upT (by omega) hF2 hO1 hB16
            have hG6 := hG.tr (FRR.oT hF2)
            rw [hqs (by first | exact ⟨⟨c_21, c_29⟩, Or.inl c_39⟩ | exact ⟨⟨c_21, c_29⟩, Or.inr ⟨c_43, c_53⟩⟩) (by omega)] at hq
            refine wp_sub ((4, vi (nI k)) :: [(0, vr (some (nm 1 0))), (1, vi (nI t)), (2, vi (nI r)), (3, vi (bI e))]) (by intro z hz; simp only [List.mem_cons, List.not_mem_nil, or_false] at hz ⊢; rcases hz with y | y | y | y | y <;> simp [y]) ?_
            refine wp_iincN (a := k) (lv' := [(4, vi (nI (k + 1))), (0, vr (some (nm 1 0))), (1, vi (nI t)), (2, vi (nI r)), (3, vi (bI e))]) 1 dX16_goesOn_102 rfl (by decide) (by decide) rfl ?_
            refine wp_goto 3 dX16_goesOn_105 (by decide) ?_
            exact ih (k + 1) _ _ (by omega) hR5 (RB_sbk hB hk3) hP4 hG6 ((th_fr hF2).trans hth) hq _ rfl
          · skip
            refine wp_iconst (nI 1) dX16_goesOn_73 (by decide) ?_
            refine wp_goto 78 dX16_goesOn_74 (by decide) ?_
            refine wp_istore (i := 6) (lv' := [(6, vi (nI 1)), (5, vr (some (nm 6 k))), (4, vi (nI k)), (0, vr (some (nm 1 0))), (1, vi (nI t)), (2, vi (nI r)), (3, vi (bI e))]) dX16_goesOn_78 (by decide) rfl ?_
            refine wp_aload_n (i := 0) dX16_goesOn_80 rfl rfl ?_
            refine wp_iload (i := 6) dX16_goesOn_81 rfl ?_
            refine wp_if_eqN 90 dX16_goesOn_83 (by decide) (by decide) (fun c_83 => absurd c_83 (by decide)) (fun c_83 => ?_)
            refine wp_iload_n (i := 1) dX16_goesOn_86 rfl rfl ?_
            refine wp_goto 92 dX16_goesOn_87 (by decide) ?_
            refine wp_cV (y' := m_X16_sendBack) 17 [vi (nI t)] [] 0 0 dX16_goesOn_92 ml_X16_305 im_X16_sendBack se_X16_sendBack (by decide) hR.mk ok_X16_sendBack rfl (Nat.le_of_ble_eq_true rfl) rfl (Nat.le_of_ble_eq_true rfl) (d' := d - 1) (by omega) (Nat.zero_le _) (Nat.zero_le _) (c_X16_sendBack hR (by omega) (by omega) (fun h9 hO7 hF8 => cont_void ?_))
            refine wp_iload (i := 6) dX16_goesOn_95 rfl ?_
            refine wp_if_eqN 102 dX16_goesOn_97 (by decide) (by decide) (fun c_97 => absurd c_97 (by decide)) (fun c_97 => ?_)
            refine wp_iconst (nI 0) dX16_goesOn_100 (by decide) ?_
            refine wp_zreturn dX16_goesOn_101 rfl (by decide) ?_
            have hP10 := (hP).oT hF8
            have hR11 := hR.upT (by omega) hF8 hO7 hB16
            have hG12 := hG.tr (FRR.oT hF8)
            rw [hqf (by first | exact ⟨⟨c_21, c_29⟩, Or.inl c_39⟩ | exact ⟨⟨c_21, c_29⟩, Or.inr ⟨c_43, c_53⟩⟩) (by omega)] at hq
            exact hq _ hR11 (RB_sbk hB ht) hP10 hG12 ((th_fr hF8).trans hth)
        · skip
          refine wp_iload_n (i := 3) dX16_goesOn_42 rfl rfl ?_
          refine wp_if_eqB 102 dX16_goesOn_43 (by decide) (fun c_43 => ?_) (fun c_43 => ?_)
          · skip
            rw [hqn (by first | exact fun z => z.1.1 c_21 | exact fun z => Bool.false_ne_true (c_29.symm.trans z.1.2) | exact fun z => z.2.elim (fun y => Bool.false_ne_true (c_39.symm.trans y)) (fun y => Bool.false_ne_true (c_43.symm.trans y.1)) | exact fun z => z.2.elim (fun y => Bool.false_ne_true (c_39.symm.trans y)) (fun y => Bool.false_ne_true (c_53.symm.trans y.2)))] at hq
            refine wp_sub ((4, vi (nI k)) :: [(0, vr (some (nm 1 0))), (1, vi (nI t)), (2, vi (nI r)), (3, vi (bI e))]) (by intro z hz; simp only [List.mem_cons, List.not_mem_nil, or_false] at hz ⊢; rcases hz with y | y | y | y | y <;> simp [y]) ?_
            refine wp_iincN (a := k) (lv' := [(4, vi (nI (k + 1))), (0, vr (some (nm 1 0))), (1, vi (nI t)), (2, vi (nI r)), (3, vi (bI e))]) 1 dX16_goesOn_102 rfl (by decide) (by decide) rfl ?_
            refine wp_goto 3 dX16_goesOn_105 (by decide) ?_
            exact ih (k + 1) _ _ (by omega) hR hB hP hG hth hq _ rfl
          · skip
            refine wp_aload (i := 5) dX16_goesOn_46 rfl ?_
            refine wp_get 16 6 (vr (some (nm 9 k))) dX16_goesOn_48 (hR.t (by omega)).k0 (by decide) (by decide) fl_X16_312 (congrArg (fun z => toV (vr z)) ((hR.t (by omega)).r7_6)) ?_
            refine wp_iload_n (i := 2) dX16_goesOn_51 rfl rfl ?_
            refine wp_zaloadN 6 (bI (OT_en (RS_tt S k) r)) dX16_goesOn_52 (hR.t (by omega)).k15 (hR.t (by omega)).n15 (by omega) (by decide) ((hR.t (by omega)).a_en r) ?_
            refine wp_if_eqB 102 dX16_goesOn_53 (by decide) (fun c_53 => ?_) (fun c_53 => ?_)
            · skip
              rw [hqn (by first | exact fun z => z.1.1 c_21 | exact fun z => Bool.false_ne_true (c_29.symm.trans z.1.2) | exact fun z => z.2.elim (fun y => Bool.false_ne_true (c_39.symm.trans y)) (fun y => Bool.false_ne_true (c_43.symm.trans y.1)) | exact fun z => z.2.elim (fun y => Bool.false_ne_true (c_39.symm.trans y)) (fun y => Bool.false_ne_true (c_53.symm.trans y.2)))] at hq
              refine wp_sub ((4, vi (nI k)) :: [(0, vr (some (nm 1 0))), (1, vi (nI t)), (2, vi (nI r)), (3, vi (bI e))]) (by intro z hz; simp only [List.mem_cons, List.not_mem_nil, or_false] at hz ⊢; rcases hz with y | y | y | y | y <;> simp [y]) ?_
              refine wp_iincN (a := k) (lv' := [(4, vi (nI (k + 1))), (0, vr (some (nm 1 0))), (1, vi (nI t)), (2, vi (nI r)), (3, vi (bI e))]) 1 dX16_goesOn_102 rfl (by decide) (by decide) rfl ?_
              refine wp_goto 3 dX16_goesOn_105 (by decide) ?_
              exact ih (k + 1) _ _ (by omega) hR hB hP hG hth hq _ rfl
            · skip
              refine wp_aload_n (i := 0) dX16_goesOn_56 rfl rfl ?_
              refine wp_get 17 17 (vr (some (nm 1 17))) dX16_goesOn_57 hR.mk (by decide) (by decide) fl_X16_56 (congrArg (fun z => toV (vr z)) (hR.ref 17 (by decide) (by decide) (by decide) (by decide))) ?_
              refine wp_iload_n (i := 1) dX16_goesOn_60 rfl rfl ?_
              refine wp_aaloadN 3 (some (nm 6 t)) dX16_goesOn_61 (arTy_117 hR.k17) hR.tn (by omega) (by decide) (hR.tr (by omega)) ?_
              refine wp_get 16 2 (vi (nI (OT_ag (RS_tt S t)))) dX16_goesOn_62 (hR.t (by omega)).k0 (by decide) (by decide) fl_X16_262 (congrArg (fun z => toV (vi z)) ((hR.t (by omega)).f_ag)) ?_
              refine wp_aload (i := 5) dX16_goesOn_65 rfl ?_
              refine wp_get 16 2 (vi (nI (OT_ag (RS_tt S k)))) dX16_goesOn_67 (hR.t (by omega)).k0 (by decide) (by decide) fl_X16_262 (congrArg (fun z => toV (vi z)) ((hR.t (by omega)).f_ag)) ?_
              refine wp_icmp_leN 77 dX16_goesOn_70 (by decide) (by omega) (by omega) (fun c_70 => ?_) (fun c_70 => ?_)
              · skip
                refine wp_iconst (nI 0) dX16_goesOn_77 (by decide) ?_
                refine wp_istore (i := 6) (lv' := [(6, vi (nI 0)), (5, vr (some (nm 6 k))), (4, vi (nI k)), (0, vr (some (nm 1 0))), (1, vi (nI t)), (2, vi (nI r)), (3, vi (bI e))]) dX16_goesOn_78 (by decide) rfl ?_
                refine wp_aload_n (i := 0) dX16_goesOn_80 rfl rfl ?_
                refine wp_iload (i := 6) dX16_goesOn_81 rfl ?_
                refine wp_if_eqN 90 dX16_goesOn_83 (by decide) (by decide) (fun c_83 => ?_) (fun c_83 => absurd c_83 (by decide))
                refine wp_iload (i := 4) dX16_goesOn_90 rfl ?_
                refine wp_cV (y' := m_X16_sendBack) 17 [vi (nI k)] [] 0 0 dX16_goesOn_92 ml_X16_305 im_X16_sendBack se_X16_sendBack (by decide) hR.mk ok_X16_sendBack rfl (Nat.le_of_ble_eq_true rfl) rfl (Nat.le_of_ble_eq_true rfl) (d' := d - 1) (by omega) (Nat.zero_le _) (Nat.zero_le _) (c_X16_sendBack hR (by omega) (by omega) (fun h15 hO13 hF14 => cont_void ?_))
                refine wp_iload (i := 6) dX16_goesOn_95 rfl ?_
                refine wp_if_eqN 102 dX16_goesOn_97 (by decide) (by decide) (fun c_97 => ?_) (fun c_97 => absurd c_97 (by decide))
                have hP16 := (hP).oT hF14
                have hR17 := hR.upT (by omega) hF14 hO13 hB16
                have hG18 := hG.tr (FRR.oT hF14)
                rw [hqs (by first | exact ⟨⟨c_21, c_29⟩, Or.inl c_39⟩ | exact ⟨⟨c_21, c_29⟩, Or.inr ⟨c_43, c_53⟩⟩) (by omega)] at hq
                refine wp_sub ((4, vi (nI k)) :: [(0, vr (some (nm 1 0))), (1, vi (nI t)), (2, vi (nI r)), (3, vi (bI e))]) (by intro z hz; simp only [List.mem_cons, List.not_mem_nil, or_false] at hz ⊢; rcases hz with y | y | y | y | y <;> simp [y]) ?_
                refine wp_iincN (a := k) (lv' := [(4, vi (nI (k + 1))), (0, vr (some (nm 1 0))), (1, vi (nI t)), (2, vi (nI r)), (3, vi (bI e))]) 1 dX16_goesOn_102 rfl (by decide) (by decide) rfl ?_
                refine wp_goto 3 dX16_goesOn_105 (by decide) ?_
                exact ih (k + 1) _ _ (by omega) hR17 (RB_sbk hB hk3) hP16 hG18 ((th_fr hF14).trans hth) hq _ rfl
              · skip
                refine wp_iconst (nI 1) dX16_goesOn_73 (by decide) ?_
                refine wp_goto 78 dX16_goesOn_74 (by decide) ?_
                refine wp_istore (i := 6) (lv' := [(6, vi (nI 1)), (5, vr (some (nm 6 k))), (4, vi (nI k)), (0, vr (some (nm 1 0))), (1, vi (nI t)), (2, vi (nI r)), (3, vi (bI e))]) dX16_goesOn_78 (by decide) rfl ?_
                refine wp_aload_n (i := 0) dX16_goesOn_80 rfl rfl ?_
                refine wp_iload (i := 6) dX16_goesOn_81 rfl ?_
                refine wp_if_eqN 90 dX16_goesOn_83 (by decide) (by decide) (fun c_83 => absurd c_83 (by decide)) (fun c_83 => ?_)
                refine wp_iload_n (i := 1) dX16_goesOn_86 rfl rfl ?_
                refine wp_goto 92 dX16_goesOn_87 (by decide) ?_
                refine wp_cV (y' := m_X16_sendBack) 17 [vi (nI t)] [] 0 0 dX16_goesOn_92 ml_X16_305 im_X16_sendBack se_X16_sendBack (by decide) hR.mk ok_X16_sendBack rfl (Nat.le_of_ble_eq_true rfl) rfl (Nat.le_of_ble_eq_true rfl) (d' := d - 1) (by omega) (Nat.zero_le _) (Nat.zero_le _) (c_X16_sendBack hR (by omega) (by omega) (fun h21 hO19 hF20 => cont_void ?_))
                refine wp_iload (i := 6) dX16_goesOn_95 rfl ?_
                refine wp_if_eqN 102 dX16_goesOn_97 (by decide) (by decide) (fun c_97 => absurd c_97 (by decide)) (fun c_97 => ?_)
                refine wp_iconst (nI 0) dX16_goesOn_100 (by decide) ?_
                refine wp_zreturn dX16_goesOn_101 rfl (by decide) ?_
                have hP22 := (hP).oT hF20
                have hR23 := hR.upT (by omega) hF20 hO19 hB16
                have hG24 := hG.tr (FRR.oT hF20)
                rw [hqf (by first | exact ⟨⟨c_21, c_29⟩, Or.inl c_39⟩ | exact ⟨⟨c_21, c_29⟩, Or.inr ⟨c_43, c_53⟩⟩) (by omega)] at hq
                exact hq _ hR23 (RB_sbk hB ht) hP22 hG24 ((th_fr hF20).trans hth)
theorem c_X16_goesOn {G : GG} {d bc bs : Nat} {h : Hp} {Q : Pst} {S : RS} (hR : MR h S) {n t r : Nat} (hB : RB n S) (hP : PO2 h) (e : Bool) (hd : 4 ≤ d) (ht : t < 3) (hr6 : r < 6) (hq : ∀ h', MR h' (gos t r e 3 S).2 → RB n (gos t r e 3 S).2 → PO2 h' → FRR h h' → h_I h' (nm 1 0) 0 = h_I h (nm 1 0) 0 → Q (oRet (vi (bI (gos t r e 3 S).1))) h') : WP G m_X16_goesOn d 0 (aargs 0 [vr (some (nm 1 0)), vi (nI t), vi (nI r), vi (bI e)]) [] h bc bs Q := by
  refine wp_sub [(0, vr (some (nm 1 0))), (1, vi (nI t)), (2, vi (nI r)), (3, vi (bI e))] (fun _ hz => hz) ?_
  refine wp_iconst (nI 0) dX16_goesOn_0 (by decide) ?_
  refine wp_istore (i := 4) (lv' := [(4, vi (nI 0)), (0, vr (some (nm 1 0))), (1, vi (nI t)), (2, vi (nI r)), (3, vi (bI e))]) dX16_goesOn_1 (by decide) rfl ?_
  exact l_X16_goesOn hd ht hr6 3 0 h S rfl hR hB hP FRR.rf rfl hq _ rfl
