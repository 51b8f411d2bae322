/-! The class: commit, whole. -/
theorem RB_umo {n m : Nat} {S : RS} (H : RB n S) (hm : m ≤ n) : RB n (RS_umo S m) := by
  obtain ⟨⟨a1, a2, a3, a4, a5, a6, a7⟩, b, c, d⟩ := H
  exact ⟨⟨a1, a2, a3, hm, a5, a6, a7⟩, b, c, d⟩
set_option maxRecDepth 100000 in
set_option maxHeartbeats 4000000 in
theorem c_X11_commit {G : GG} {d bc bs : Nat} {h : Hp} {Q : Pst} {X : CS} {S : RS} (hR : CR h X) (hs : SIM X S) {n : Nat} (hB : RB n S) {v : Int32} {t : Nat} (hv : ixB v 3 = true → v = nI t ∧ t < 3) (hmo : RS_mo S + 1 ≤ n) (hl : (RS_lg S).length + 6 ≤ 6 * n) (hcg : (RS_lg S).length + cgN (RS_tt S t) (RS_rn S) 0 ≤ 512) (hd : 16 ≤ d) (hbc : 60 ≤ bc) (hbs : 300 + 1100 * cgN (RS_tt S t) (RS_rn S) 0 ≤ bs) (hq : KO Q h ["java/lang/IllegalArgumentException", "java/lang/IllegalStateException"] (o_commit S v t)) : WP G m_X11_commit d 0 (aargs 0 [vr (some (nm 40 0)), vi v]) [] h bc bs Q := by
  have hG := FRK.rf (h := h)
  have hrn : CS_rn X = RS_rn S := hs.1.1
  have han : CS_an X = RS_an S := hs.1.2.1
  have hbi : CS_bi X = RS_bg S := hs.1.2.2.1
  have hpr : CS_pr X = RS_mo S := hs.1.2.2.2.1
  have hlg : CS_lg X = RS_lg S := hs.1.2.2.2.2
  have hb0 := hB.1
  refine wp_sub [(0, vr (some (nm 40 0))), (1, vi v)] (fun _ hz => hz) ?_
  refine wp_aload_n (i := 0) dX11_commit_0 rfl rfl ?_
  refine wp_iload_n (i := 1) dX11_commit_1 rfl rfl ?_
  refine wp_cV (y' := m_X11_transactionNumbered) 12 [vi v] [] 1 6 dX11_commit_2 ml_X11_327 im_X11_transactionNumbered se_X11_transactionNumbered (by decide) hR.mk ok_X11_transactionNumbered rfl (Nat.le_of_ble_eq_true rfl) rfl (Nat.le_of_ble_eq_true rfl) (d' := d - 1) (by omega) (by omega) (by omega) (c_X11_transactionNumbered hR hv (by omega) (by omega) (by omega) (fun g_t => cont_thr rfl ?_) (fun b_t ev ht => cont_ret ?_))
  · exact hq.1 0 _ (congrArg (fun z => z.1) (show o_commit S v t = (nI 1, nI 0, S) from by unfold o_commit; rw [if_pos (by rw [g_t]; rfl)])) rfl
  · subst ev
    have hst := hs.2.2.2.1 t ht
    have hb2 := hB.2.1 t ht
    refine wp_astore_n (i := 2) (lv' := [(2, vr (some (nm 56 t))), (0, vr (some (nm 40 0))), (1, vi (nI t))]) dX11_commit_5 rfl (by decide) rfl ?_
    refine wp_aload_n (i := 2) dX11_commit_6 rfl rfl ?_
    refine wp_cS (y' := m_X11_refuseEnded) [vr (some (nm 56 t))] [] 1 6 dX11_commit_7 ml_X11_344 st_X11_refuseEnded ok_X11_refuseEnded rfl (Nat.le_of_ble_eq_true rfl) rfl (Nat.le_of_ble_eq_true rfl) (d' := d - 1) (by omega) (by omega) (by omega) (c_X11_refuseEnded (hR.t ht) (by omega) (by omega) (by omega) (fun g_e => cont_thr rfl ?_) (fun e_e => cont_void ?_))
    · exact hq.1 1 _ (congrArg (fun z => z.1) (show o_commit S (nI t) t = (nI 2, nI 0, S) from by unfold o_commit; rw [if_neg (by rw [b_t]; decide), if_pos (by rw [← hst.1, g_e]; rfl)])) rfl
    · have hop : OT_op (RS_tt S t) = true := by rw [← hst.1, e_e]
      refine wp_iconst (nI 0) dX11_commit_10 (by decide) ?_
      refine wp_istore_n (i := 3) (lv' := [(3, vi (nI 0)), (2, vr (some (nm 56 t))), (0, vr (some (nm 40 0))), (1, vi (nI t))]) dX11_commit_11 rfl (by decide) rfl ?_
      obtain ⟨f, hf⟩ := cmA_utt t (RS_rn S) 0 S
      have hrA : RS_rn (cmA t (RS_rn S) 0 S).2 = RS_rn S := by rw [hf]
      have hlA : RS_lg (cmA t (RS_rn S) 0 S).2 = RS_lg S := by rw [hf]
      have hmA : RS_mo (cmA t (RS_rn S) 0 S).2 = RS_mo S := by rw [hf]
      refine wp_sub [(3, vi (nI 0)), (0, vr (some (nm 40 0))), (1, vi (nI t)), (2, vr (some (nm 56 t)))] (sb_cons (.head _) (sb_cons (.tail _ (.tail _ (.head _))) (sb_cons (.tail _ (.tail _ (.tail _ (.head _)))) (sb_cons (.tail _ (.head _)) sb_nil)))) ?_
      refine l_X11_commit1 ht (by omega) (RS_rn S) 0 _ _ _ (by omega) hR hs hB hop hG (fun e h1 X1 R1 s1 F1 => ?_) (fun e h1 X1 R1 s1 F1 => ?_)
      · rw [show o_commit S (nI t) t = (nI 0, nI 115, (cmA t (RS_rn S) 0 S).2) from by unfold o_commit; rw [if_neg (by rw [b_t]; decide), if_neg (by rw [← hst.1, e_e]; decide), if_pos e]] at hq
        exact hq.2 rfl _ _ R1 s1 F1
      · have B1 := RB_cmA ht (RS_rn S) 0 S hB
        refine l_X11_commit2 ht (by omega) (by omega) (by rw [hrA, cmA_t _ _ _ e]; omega) R1 s1 B1 (RB_umo B1 (by rw [hmA]; exact hmo)) (by rw [hlA]; exact hl) (by rw [hlA, hrA, cmA_t _ _ _ e]; exact hcg) F1 (fun eb h2 X2 R2 s2 F2 => ?_) (fun eb h2 X2 R2 s2 F2 => ?_)
        · rw [hrA] at eb
          rw [show o_commit S (nI t) t = (nI 0, nI 98, RS_utt1 (cmA t (RS_rn S) 0 S).2 t (fgt (OT_uop (RS_tt (cmA t (RS_rn S) 0 S).2 t) false))) from by unfold o_commit; rw [if_neg (by rw [b_t]; decide), if_neg (by rw [← hst.1, e_e]; decide), if_neg (by rw [e]; decide), if_pos eb]] at hq
          exact hq.2 rfl _ _ R2 s2 F2
        · rw [hrA] at eb s2
          have e9 := cm_end (S1 := (cmA t (RS_rn S) 0 S).2) (S2 := (cmC t (RS_rn S) 0 (RS_umo (cmA t (RS_rn S) 0 S).2 (RS_mo (cmA t (RS_rn S) 0 S).2 + if (cmB (cmA t (RS_rn S) 0 S).2 t (RS_rn S) 0 false false).2 = true then 1 else 0)))) (t := t) (rn := RS_rn S) (b := (cmB (cmA t (RS_rn S) 0 S).2 t (RS_rn S) 0 false false).2) rfl
          rw [show o_commit S (nI t) t = (nI 0, nI 99, RS_utt1 (cmG (cmC t (RS_rn S) 0 (RS_umo (cmA t (RS_rn S) 0 S).2 (RS_mo (cmA t (RS_rn S) 0 S).2 + if (cmB (cmA t (RS_rn S) 0 S).2 t (RS_rn S) 0 false false).2 = true then 1 else 0))) t) t (fgt (OT_uop (RS_tt (cmG (cmC t (RS_rn S) 0 (RS_umo (cmA t (RS_rn S) 0 S).2 (RS_mo (cmA t (RS_rn S) 0 S).2 + if (cmB (cmA t (RS_rn S) 0 S).2 t (RS_rn S) 0 false false).2 = true then 1 else 0))) t) t) false))) from by unfold o_commit; rw [if_neg (by rw [b_t]; decide), if_neg (by rw [← hst.1, e_e]; decide), if_neg (by rw [e]; decide), if_neg eb]; exact congrArg (fun z => (nI 0, nI 99, z)) e9] at hq
          exact hq.2 rfl _ _ R2 s2 F2
