/-! The model: commit, what it writes down. -/
/-- how many references are changed, from the r-th on -/
def cgN (y : OTS) : Nat → Nat → Nat
  | 0, _ => 0
  | m + 1, r => (if chg y r = true then 1 else 0) + cgN y m (r + 1)
theorem lgL_app {l : List (Nat × Nat × Int32 × Int32)} {q : Nat × Nat × Int32 × Int32} : lgL (l ++ [q]) = lgL l ++ [[nI q.1, nI q.2.1, q.2.2.1, q.2.2.2]] := by unfold lgL; rw [List.map_append]; rfl
def RC (S : RS) : Prop := RS_rn S ≤ 6 ∧ RS_an S ≤ 4 ∧ ∀ r, r < RS_rn S → 1 ≤ (OR_hs (RS_rr S r)).length ∧ (OR_hs (RS_rr S r)).length ≤ OR_lim (RS_rr S r) ∧ OR_lim (RS_rr S r) ≤ 8
theorem cmH_len {hs : List (Nat × Int32)} {lim : Nat} {q : Nat × Int32} (h1 : 1 ≤ hs.length) (h2 : hs.length ≤ lim) : 1 ≤ (cmH hs lim q).length ∧ (cmH hs lim q).length ≤ lim := by
  unfold cmH
  split
  · rw [List.length_tail, List.length_append]; simp; omega
  · rw [List.length_append]; simp; omega
theorem RC.st {S : RS} (H : RC S) {r : Nat} {v : List (Nat × Nat × Int32 × Int32)} {q : Nat × Int32} (hr : r < RS_rn S) : RC (RS_urr1 (RS_ulg S v) r (OR_uhs (RS_rr S r) (cmH (OR_hs (RS_rr S r)) (OR_lim (RS_rr S r)) q))) := by
  refine ⟨H.1, H.2.1, fun j hj => ?_⟩
  have e : RS_rr (RS_urr1 (RS_ulg S v) r (OR_uhs (RS_rr S r) (cmH (OR_hs (RS_rr S r)) (OR_lim (RS_rr S r)) q))) j = if j = r then OR_uhs (RS_rr S r) (cmH (OR_hs (RS_rr S r)) (OR_lim (RS_rr S r)) q) else RS_rr S j := va_up_app
  rw [e]
  split
  · have h1 := H.2.2 r hr
    have h2 := cmH_len (q := q) h1.1 h1.2.1
    exact ⟨h2.1, h2.2, h1.2.2⟩
  · exact H.2.2 j hj
set_option maxRecDepth 100000 in
set_option maxHeartbeats 4000000 in
theorem l_X16_commitC {G : GG} {d bcE bsE : Nat} {Q : Pst} {h0 : Hp} {t : Nat} {y : OTS} (ht : t < 3) (hd : 14 ≤ d) : ∀ m r H S, RS_tt S t = y → r + m = RS_rn S → MR H S → RC S → (RS_lg S).length + m ≤ 610 → PO2 H → FRR h0 H → h_I H (nm 1 0) 0 = nI 0 → (∀ H', MR H' (cmC t m r S) → PO2 H' → FRR h0 H' → h_I H' (nm 1 0) 0 = nI 0 → WP G m_X16_commit d 322 [(2, vr (some (nm 6 t))), (0, vr (some (nm 1 0))), (1, vi (nI t))] [] H' bcE bsE Q) → WP G m_X16_commit d 221 [(5, vi (nI r)), (2, vr (some (nm 6 t))), (0, vr (some (nm 1 0))), (1, vi (nI t))] [] H (bcE + 4 * m) (bsE + 1300 * cgN y m r) Q := by
  intro m
  induction m with
  | zero =>
    intro r H S hy hrm hR hC hlg hP hG h0' hk
    show WP G m_X16_commit d 221 _ _ _ _ (bsE + 1300 * 0) _
    have hbb := hC.1
    refine wp_iload (i := 5) dX16_commit_221 rfl ?_
    refine wp_aload_n (i := 0) dX16_commit_223 rfl rfl ?_
    refine wp_get 17 13 (vr (some (nm 1 13))) dX16_commit_224 hR.mk (by decide) (by decide) fl_X16_47 (congrArg (fun z => toV (vr z)) (hR.ref 13 (by decide) (by decide) (by decide) (by decide))) ?_
    refine wp_cV (y' := m_Jx4a65c_size_8abf5) 2 [] [vi (nI r)] 0 0 dX16_commit_227 ml_X16_168 im_Jx4a65c_size_8abf5 se_Jx4a65c_size_8abf5 (by decide) hR.rl.k ok_Jx4a65c_size_8abf5 rfl (Nat.le_of_ble_eq_true rfl) rfl (Nat.le_of_ble_eq_true rfl) (d' := d - 1) (by omega) (Nat.zero_le _) (Nat.zero_le _) (c_LO_size hR.rl (cont_ret ?_))
    refine wp_icmp_geN 322 dX16_commit_230 (by decide) (by omega) (by omega) (fun c_230 => ?_) (fun c_230 => absurd c_230 (by omega))
    refine wp_sub [(2, vr (some (nm 6 t))), (0, vr (some (nm 1 0))), (1, vi (nI t))] (sb_cons (.tail _ (.head _)) (sb_cons (.tail _ (.tail _ (.head _))) (sb_cons (.tail _ (.tail _ (.tail _ (.head _)))) sb_nil))) ?_
    exact hk H hR hP hG h0'
  | succ m ih =>
    intro r H S hy hrm hR hC hlg hP hG h0' hk
    subst hy
    rw [cgN]
    have hbb := hC.1
    have hr6 : r < 6 := by omega
    have hr : r < RS_rn S := by omega
    have hrc := hC.2.2 r hr
    have h1 := hrc.1
    have hr16 : r < 16 := by omega
    have hll := lgL_len (l := RS_lg S)
    have hB16 : RS_rn S ≤ 16 ∧ RS_an S ≤ 16 := ⟨by omega, by have := hC.2.1; omega⟩
    obtain ⟨⟨K, hK⟩, K3, hK3⟩ := id hP
    have hkf : h_k H (nm 22 K) = 0 := hK K (Nat.le_refl _)
    have hc1 : chg (RS_tt S t) r = true → cmC t (m + 1) r S = cmC t m (r + 1) (RS_urr1 (RS_ulg S (RS_lg S ++ [(RS_mo S, r, (lastq (RS_rr S r)).2, vth (RS_tt S t) (RS_rr S r) r)])) r (OR_uhs (RS_rr S r) (cmH (OR_hs (RS_rr S r)) (OR_lim (RS_rr S r)) (RS_mo S, vth (RS_tt S t) (RS_rr S r) r)))) := fun z => by rw [cmC, if_pos z]
    have hc0 : chg (RS_tt S t) r = false → cmC t (m + 1) r S = cmC t m (r + 1) S := fun z => by rw [cmC, if_neg (fun y => Bool.false_ne_true (z.symm.trans y))]
    refine wp_iload (i := 5) dX16_commit_221 rfl ?_
    refine wp_aload_n (i := 0) dX16_commit_223 rfl rfl ?_
    refine wp_get 17 13 (vr (some (nm 1 13))) dX16_commit_224 hR.mk (by decide) (by decide) fl_X16_47 (congrArg (fun z => toV (vr z)) (hR.ref 13 (by decide) (by decide) (by decide) (by decide))) ?_
    refine wp_cV (y' := m_Jx4a65c_size_8abf5) 2 [] [vi (nI r)] 0 0 dX16_commit_227 ml_X16_168 im_Jx4a65c_size_8abf5 se_Jx4a65c_size_8abf5 (by decide) hR.rl.k ok_Jx4a65c_size_8abf5 rfl (Nat.le_of_ble_eq_true rfl) rfl (Nat.le_of_ble_eq_true rfl) (d' := d - 1) (by omega) (Nat.zero_le _) (Nat.zero_le _) (c_LO_size hR.rl (cont_ret ?_))
    refine wp_icmp_geN 322 dX16_commit_230 (by decide) (by omega) (by omega) (fun c_230 => absurd c_230 (by omega)) (fun c_230 => ?_)
    refine wp_aload_n (i := 2) dX16_commit_233 rfl rfl ?_
    refine wp_iload (i := 5) dX16_commit_234 rfl ?_
    refine wp_cS (y' := m_X16_changes) [vr (some (nm 6 t)), vi (nI r)] [] 0 0 dX16_commit_236 ml_X16_329 st_X16_changes ok_X16_changes rfl (Nat.le_of_ble_eq_true rfl) rfl (Nat.le_of_ble_eq_true rfl) (d' := d - 1) (by omega) (Nat.zero_le _) (Nat.zero_le _) (c_X16_changes (hR.t ht) (by omega) (cont_ret ?_))
    refine wp_if_eqB 316 dX16_commit_239 (by decide) (fun c_239 => ?_) (fun c_239 => ?_)
    · rw [c_239, if_neg Bool.false_ne_true]
      refine wp_iincN (a := r) (lv' := [(5, vi (nI (r + 1))), (2, vr (some (nm 6 t))), (0, vr (some (nm 1 0))), (1, vi (nI t))]) 1 dX16_commit_316 rfl (by decide) (by decide) rfl ?_
      refine wp_goto 221 dX16_commit_319 (by decide) ?_
      rw [hc0 c_239] at hk
      refine wp_sub [(5, vi (nI (r + 1))), (2, vr (some (nm 6 t))), (0, vr (some (nm 1 0))), (1, vi (nI t))] (sb_cons (.head _) (sb_cons (.tail _ (.head _)) (sb_cons (.tail _ (.tail _ (.head _))) (sb_cons (.tail _ (.tail _ (.tail _ (.head _)))) sb_nil)))) ?_
      refine wp_pay (bc' := bcE + 4 * m) (bs' := bsE + 1300 * cgN (RS_tt S t) m (r + 1)) (by omega) (by omega) ?_
      exact ih (r + 1) _ _ (by rfl) (by omega) hR hC (by omega) hP hG h0' hk
    · rw [if_pos c_239]
      refine wp_aload_n (i := 0) dX16_commit_242 rfl rfl ?_
      refine wp_get 17 13 (vr (some (nm 1 13))) dX16_commit_243 hR.mk (by decide) (by decide) fl_X16_47 (congrArg (fun z => toV (vr z)) (hR.ref 13 (by decide) (by decide) (by decide) (by decide))) ?_
      refine wp_iload (i := 5) dX16_commit_246 rfl ?_
      refine wp_cV (y' := m_Jx4a65c_get_915e3) 2 [vi (nI r)] [] 0 0 dX16_commit_248 ml_X16_201 im_Jx4a65c_get_915e3 se_Jx4a65c_get_915e3 (by decide) hR.rl.k ok_Jx4a65c_get_915e3 rfl (Nat.le_of_ble_eq_true rfl) rfl (Nat.le_of_ble_eq_true rfl) (d' := d - 1) (by omega) (Nat.zero_le _) (Nat.zero_le _) (c_LO_get hR.rl hr (by omega) (cont_ret ?_))
      refine wp_castC 14 dX16_commit_251 (by decide) kl_X16_238 (fun a ha => by cases ha; exact (hR.r hr).k0) ?_
      refine wp_astore (i := 6) (lv' := [(6, vr (some (nm 4 r))), (5, vi (nI r)), (2, vr (some (nm 6 t))), (0, vr (some (nm 1 0))), (1, vi (nI t))]) dX16_commit_254 (by decide) rfl ?_
      refine wp_iconst (nI 4) dX16_commit_256 (by decide) ?_
      refine wp_newarray 101 4 .int dX16_commit_257 rfl rfl aw_int (nI_nn (by omega)) (nI_clamp (by omega)) (by omega) (by decide) pl_int (by omega) (by omega) (nm 22 K) hkf ?_
      have c0 : ∀ b, b ≠ nm 22 K → ce (mk H (nm 22 K) 101 4) b = ce H b := fun b hb => ce_mk hb
      have hRa := hR.row hkf c0
      refine wp_dup dX16_commit_259 ?_
      refine wp_iconst (nI 0) dX16_commit_260 (by decide) ?_
      refine wp_aload_n (i := 0) dX16_commit_261 rfl rfl ?_
      refine wp_get 17 15 (vi (nI (RS_mo S))) dX16_commit_262 hRa.mk (by decide) (by decide) fl_X16_253 (congrArg (fun z => toV (vi z)) (hRa.mo)) ?_
      refine wp_iastoreN 4 dX16_commit_265 (show h_k (mk H (nm 22 K) 101 4) (nm 22 K) = 101 by rw [gk_mk, if_pos rfl]) (show h_n (mk H (nm 22 K) 101 4) (nm 22 K) = 4 by rw [gn_mk, if_pos rfl]) (by decide) (by decide) ?_
      have c1 : ∀ b, b ≠ nm 22 K → ce (wI (mk H (nm 22 K) 101 4) (nm 22 K) 0 (nI (RS_mo S))) b = ce H b := fun b hb => (ce_wI hb).trans (c0 b hb)
      have hRb := hR.row hkf c1
      refine wp_dup dX16_commit_266 ?_
      refine wp_iconst (nI 1) dX16_commit_267 (by decide) ?_
      refine wp_iload (i := 5) dX16_commit_268 rfl ?_
      refine wp_iastoreN 4 dX16_commit_270 (show h_k (mk H (nm 22 K) 101 4) (nm 22 K) = 101 by rw [gk_mk, if_pos rfl]) (show h_n (mk H (nm 22 K) 101 4) (nm 22 K) = 4 by rw [gn_mk, if_pos rfl]) (by decide) (by decide) ?_
      have c2 : ∀ b, b ≠ nm 22 K → ce (wI (wI (mk H (nm 22 K) 101 4) (nm 22 K) 0 (nI (RS_mo S))) (nm 22 K) 1 (nI r)) b = ce H b := fun b hb => (ce_wI hb).trans (c1 b hb)
      have hRc := hR.row hkf c2
      refine wp_dup dX16_commit_271 ?_
      refine wp_iconst (nI 2) dX16_commit_272 (by decide) ?_
      refine wp_aload (i := 6) dX16_commit_273 rfl ?_
      refine wp_cV (y' := m_X13_last) 14 [] [vi (nI 2), vr (some (nm 22 K)), vr (some (nm 22 K))] 0 0 dX16_commit_275 ml_X16_315 im_X13_last se_X13_last (by decide) (hRc.r hr).k0 ok_X13_last rfl (Nat.le_of_ble_eq_true rfl) rfl (Nat.le_of_ble_eq_true rfl) (d' := d - 1) (by omega) (Nat.zero_le _) (Nat.zero_le _) (c_X13_last (hRc.r hr) h1 (by omega) (fun ra1 E2 => cont_ret ?_))
      refine wp_iconst (nI 1) dX16_commit_278 (by decide) ?_
      refine wp_ialoadN 2 ((lastq (RS_rr S r)).2) dX16_commit_279 E2.2.1 E2.2.2.1 (by decide) (by decide) (E2.2.2.2 1 (Nat.le_of_ble_eq_true rfl)) ?_
      refine wp_iastoreN 4 dX16_commit_280 (show h_k (mk H (nm 22 K) 101 4) (nm 22 K) = 101 by rw [gk_mk, if_pos rfl]) (show h_n (mk H (nm 22 K) 101 4) (nm 22 K) = 4 by rw [gn_mk, if_pos rfl]) (by decide) (by decide) ?_
      have c3 : ∀ b, b ≠ nm 22 K → ce (wI (wI (wI (mk H (nm 22 K) 101 4) (nm 22 K) 0 (nI (RS_mo S))) (nm 22 K) 1 (nI r)) (nm 22 K) 2 (lastq (RS_rr S r)).2) b = ce H b := fun b hb => (ce_wI hb).trans (c2 b hb)
      have hRd := hR.row hkf c3
      refine wp_dup dX16_commit_281 ?_
      refine wp_iconst (nI 3) dX16_commit_282 (by decide) ?_
      refine wp_aload_n (i := 0) dX16_commit_283 rfl rfl ?_
      refine wp_aload_n (i := 2) dX16_commit_284 rfl rfl ?_
      refine wp_iload (i := 5) dX16_commit_285 rfl ?_
      refine wp_cV (y' := m_X16_valueThen) 17 [vr (some (nm 6 t)), vi (nI r)] [vi (nI 3), vr (some (nm 22 K)), vr (some (nm 22 K))] 0 0 dX16_commit_287 ml_X16_333 im_X16_valueThen se_X16_valueThen (by decide) hRd.mk ok_X16_valueThen rfl (Nat.le_of_ble_eq_true rfl) rfl (Nat.le_of_ble_eq_true rfl) (d' := d - 1) (by omega) (Nat.zero_le _) (Nat.zero_le _) (c_X16_valueThen hRd ht hr (by omega) h1 (by omega) (cont_ret ?_))
      refine wp_iastoreN 4 dX16_commit_290 (show h_k (mk H (nm 22 K) 101 4) (nm 22 K) = 101 by rw [gk_mk, if_pos rfl]) (show h_n (mk H (nm 22 K) 101 4) (nm 22 K) = 4 by rw [gn_mk, if_pos rfl]) (by decide) (by decide) ?_
      have c4 : ∀ b, b ≠ nm 22 K → ce (wI (wI (wI (wI (mk H (nm 22 K) 101 4) (nm 22 K) 0 (nI (RS_mo S))) (nm 22 K) 1 (nI r)) (nm 22 K) 2 (lastq (RS_rr S r)).2) (nm 22 K) 3 (vth (RS_tt S t) (RS_rr S r) r)) b = ce H b := fun b hb => (ce_wI hb).trans (c3 b hb)
      have hRe := hR.row hkf c4
      have E := PEr.mk4 (h := H) (K := K) (a := nI (RS_mo S)) (b := nI r) (c := (lastq (RS_rr S r)).2) (d := (vth (RS_tt S t) (RS_rr S r) r))
      refine wp_astore (i := 7) (lv' := [(7, vr (some (nm 22 K))), (6, vr (some (nm 4 r))), (5, vi (nI r)), (2, vr (some (nm 6 t))), (0, vr (some (nm 1 0))), (1, vi (nI t))]) dX16_commit_291 (by decide) rfl ?_
      refine wp_aload_n (i := 0) dX16_commit_293 rfl rfl ?_
      refine wp_get 17 14 (vr (some (nm 1 14))) dX16_commit_294 hRe.mk (by decide) (by decide) fl_X16_50 (congrArg (fun z => toV (vr z)) (hRe.ref 14 (by decide) (by decide) (by decide) (by decide))) ?_
      refine wp_aload (i := 7) dX16_commit_297 rfl ?_
      refine wp_cV (y' := m_Jx4a65c_add_9ea2d) 2 [vr (some (nm 22 K))] [] 1 (10 + 2 * (lgL (RS_lg S)).length) dX16_commit_299 ml_X16_175 im_Jx4a65c_add_9ea2d se_Jx4a65c_add_9ea2d (by decide) hRe.lg.k ok_Jx4a65c_add_9ea2d rfl (Nat.le_of_ble_eq_true rfl) rfl (Nat.le_of_ble_eq_true rfl) (d' := d - 1) (by omega) (by omega) (by omega) (c_LP_add hRe.lg E (by rw [lgL_len]; omega) (by decide) (by decide) (by omega) (Nat.le_refl _) (Nat.le_refl _) (fun h5 hL hC5 => cont_ret ?_))
      rw [← lgL_app (q := (RS_mo S, r, (lastq (RS_rr S r)).2, (vth (RS_tt S t) (RS_rr S r) r)))] at hL
      have hRl := hRe.lgadd (fun s i hs hn => hC5 _ (by unfold nm; omega) (fun z => by unfold nm; omega)) hL
      have E5 := E.fr (hC5 _ (by unfold nm; omega) (fun z => by unfold nm; omega))
      have hK5 : FreeI h5 22 (K + 1) := fun i hi => (ce_k (hC5 _ (by unfold nm; omega) (fun z => by unfold nm; omega))).trans ((ce_k (c4 _ (nm_nei (by omega)))).trans (hK i (by omega)))
      have hK35 : FreeI h5 30 K3 := fun i hi => (ce_k (hC5 _ (by unfold nm; omega) (fun z => by unfold nm; omega))).trans ((ce_k (c4 _ (nm_ne (by decide) (by decide) (by decide)))).trans (hK3 i hi))
      have hG5 := (hG.tr (FRR.row hkf c4)).tr (FRR.olg hC5)
      have th5 : h_I h5 (nm 1 0) 0 = nI 0 := ((congrFun (ce_I (hC5 _ (by unfold nm; omega) (fun z => by unfold nm; omega))) 0).trans (th_row c4)).trans h0'
      refine wp_pop dX16_commit_302 ?_
      refine wp_aload (i := 6) dX16_commit_303 rfl ?_
      refine wp_aload_n (i := 0) dX16_commit_305 rfl rfl ?_
      refine wp_get 17 15 (vi (nI (RS_mo (RS_ulg S (RS_lg S ++ [(RS_mo S, r, (lastq (RS_rr S r)).2, (vth (RS_tt S t) (RS_rr S r) r))]))))) dX16_commit_306 hRl.mk (by decide) (by decide) fl_X16_253 (congrArg (fun z => toV (vi z)) (hRl.mo)) ?_
      refine wp_aload (i := 7) dX16_commit_309 rfl ?_
      refine wp_iconst (nI 3) dX16_commit_311 (by decide) ?_
      refine wp_ialoadN 4 (vth (RS_tt S t) (RS_rr S r) r) dX16_commit_312 E5.2.1 E5.2.2.1 (by decide) (by decide) (E5.2.2.2 3 (Nat.le_of_ble_eq_true rfl)) ?_
      refine wp_cV (y' := m_X13_come) 14 [vi (nI (RS_mo (RS_ulg S (RS_lg S ++ [(RS_mo S, r, (lastq (RS_rr S r)).2, (vth (RS_tt S t) (RS_rr S r) r))])))), vi (vth (RS_tt S t) (RS_rr S r) r)] [] 2 40 dX16_commit_313 ml_X16_243 im_X13_come se_X13_come (by decide) (hRl.r hr).k0 ok_X13_come rfl (Nat.le_of_ble_eq_true rfl) rfl (Nat.le_of_ble_eq_true rfl) (d' := d - 1) (by omega) (by omega) (by omega) (c_X13_come (hRl.r hr) hK5 hr16 hrc.2.1 hrc.2.2 (m := RS_mo S) (v := (vth (RS_tt S t) (RS_rr S r) r)) (by omega) (Nat.le_refl _) (Nat.le_refl _) (fun h6 O6 F6 fr6 => cont_void ?_))
      have hRn := hRl.upRc hr hB16 (hK5 (K + 1) (Nat.le_refl _)) F6 O6
      have hG6 := hG5.tr (FRR.oC (hK5 (K + 1) (Nat.le_refl _)) F6)
      have hP6 : PO2 h6 := ⟨⟨_, fr6⟩, ⟨K3, hK35.fr (fun i _ => F6 _ (WC_n (by omega) (by decide)))⟩⟩
      have th6 : h_I h6 (nm 1 0) 0 = nI 0 := (congrFun (ce_I (F6 (nm 1 0) (WC_n (by omega) (by decide)))) 0).trans th5
      refine wp_iincN (a := r) (lv' := [(5, vi (nI (r + 1))), (7, vr (some (nm 22 K))), (6, vr (some (nm 4 r))), (2, vr (some (nm 6 t))), (0, vr (some (nm 1 0))), (1, vi (nI t))]) 1 dX16_commit_316 rfl (by decide) (by decide) rfl ?_
      refine wp_goto 221 dX16_commit_319 (by decide) ?_
      rw [hc1 c_239] at hk
      refine wp_sub [(5, vi (nI (r + 1))), (2, vr (some (nm 6 t))), (0, vr (some (nm 1 0))), (1, vi (nI t))] (sb_cons (.head _) (sb_cons (.tail _ (.tail _ (.tail _ (.head _)))) (sb_cons (.tail _ (.tail _ (.tail _ (.tail _ (.head _))))) (sb_cons (.tail _ (.tail _ (.tail _ (.tail _ (.tail _ (.head _)))))) sb_nil)))) ?_
      refine wp_pay (bc' := bcE + 4 * m) (bs' := bsE + 1300 * cgN (RS_tt S t) m (r + 1)) (by omega) (by omega) ?_
      exact ih (r + 1) _ _ (by rfl) (by show _ = RS_rn S; omega) hRn (hC.st hr) (by show (RS_lg S ++ [_]).length + m ≤ 610; rw [List.length_append]; simp; omega) hP6 hG6 th6 hk
