/-! The model: commit, what it looks at. -/
set_option maxRecDepth 100000 in
set_option maxHeartbeats 4000000 in
theorem l_X16_commitB {G : GG} {d bc bs : Nat} {Q : Pst} {n t : Nat} {S : RS} {H : Hp} (ht : t < 3) (hd : 8 ≤ d) (hR : MR H S) (hB : RB n S) : ∀ m r o s, r + m = RS_rn S → WP G m_X16_commit d 183 [(4, vi (bI (cmB S t m r o s).2)), (3, vi (bI (cmB S t m r o s).1)), (2, vr (some (nm 6 t))), (0, vr (some (nm 1 0))), (1, vi (nI t))] [] H bc bs Q → ∀ lv, lv = [(5, vi (nI r)), (4, vi (bI s)), (3, vi (bI o)), (2, vr (some (nm 6 t))), (0, vr (some (nm 1 0))), (1, vi (nI t))] → WP G m_X16_commit d 88 lv [] H bc bs Q := by
  have hbb := hB.1
  intro m
  induction m with
  | zero =>
    intro r o s hrm hk lv elv
    subst elv
    have hk : WP G m_X16_commit d 183 [(4, vi (bI s)), (3, vi (bI o)), (2, vr (some (nm 6 t))), (0, vr (some (nm 1 0))), (1, vi (nI t))] [] H bc bs Q := hk
    refine wp_iload (i := 5) dX16_commit_88 rfl ?_
    refine wp_aload_n (i := 0) dX16_commit_90 rfl rfl ?_
    refine wp_get 17 13 (vr (some (nm 1 13))) dX16_commit_91 hR.mk (by decide) (by decide) fl_X16_47 (congrArg (fun z => toV (vr z)) (hR.ref 13 (by decide) (by decide) (by decide) (by decide))) ?_
    refine wp_cV (y' := m_Jx4a65c_size_8abf5) 2 [] [vi (nI r)] 0 0 dX16_commit_94 ml_X16_168 im_Jx4a65c_size_8abf5 se_Jx4a65c_size_8abf5 (by decide) hR.rl.k ok_Jx4a65c_size_8abf5 rfl (Nat.le_of_ble_eq_true rfl) rfl (Nat.le_of_ble_eq_true rfl) (d' := d - 1) (by omega) (Nat.zero_le _) (Nat.zero_le _) (c_LO_size hR.rl (cont_ret ?_))
    refine wp_icmp_geN 183 dX16_commit_97 (by decide) (by omega) (by omega) (fun c_97 => ?_) (fun c_97 => absurd c_97 (by omega))
    refine wp_sub [(4, vi (bI s)), (3, vi (bI o)), (2, vr (some (nm 6 t))), (0, vr (some (nm 1 0))), (1, vi (nI t))] (sb_cons (.tail _ (.head _)) (sb_cons (.tail _ (.tail _ (.head _))) (sb_cons (.tail _ (.tail _ (.tail _ (.head _)))) (sb_cons (.tail _ (.tail _ (.tail _ (.tail _ (.head _))))) (sb_cons (.tail _ (.tail _ (.tail _ (.tail _ (.tail _ (.head _)))))) sb_nil))))) ?_
    exact hk
  | succ m ih =>
    intro r o s hrm hk lv elv
    subst elv
    have hr6 : r < 6 := by omega
    have hr : r < RS_rn S := by omega
    have h1 := (hB.2.2.1 r hr).1
    rw [show cmB S t (m + 1) r o s = cmB S t m (r + 1) (o || (chg (RS_tt S t) r && !inB (vth (RS_tt S t) (RS_rr S r) r) (OR_lo (RS_rr S r)) (OR_hi (RS_rr S r)))) (s || chg (RS_tt S t) r) from rfl] at hk
    refine wp_iload (i := 5) dX16_commit_88 rfl ?_
    refine wp_aload_n (i := 0) dX16_commit_90 rfl rfl ?_
    refine wp_get 17 13 (vr (some (nm 1 13))) dX16_commit_91 hR.mk (by decide) (by decide) fl_X16_47 (congrArg (fun z => toV (vr z)) (hR.ref 13 (by decide) (by decide) (by decide) (by decide))) ?_
    refine wp_cV (y' := m_Jx4a65c_size_8abf5) 2 [] [vi (nI r)] 0 0 dX16_commit_94 ml_X16_168 im_Jx4a65c_size_8abf5 se_Jx4a65c_size_8abf5 (by decide) hR.rl.k ok_Jx4a65c_size_8abf5 rfl (Nat.le_of_ble_eq_true rfl) rfl (Nat.le_of_ble_eq_true rfl) (d' := d - 1) (by omega) (Nat.zero_le _) (Nat.zero_le _) (c_LO_size hR.rl (cont_ret ?_))
    refine wp_icmp_geN 183 dX16_commit_97 (by decide) (by omega) (by omega) (fun c_97 => absurd c_97 (by omega)) (fun c_97 => ?_)
    refine wp_aload_n (i := 0) dX16_commit_100 rfl rfl ?_
    refine wp_get 17 13 (vr (some (nm 1 13))) dX16_commit_101 hR.mk (by decide) (by decide) fl_X16_47 (congrArg (fun z => toV (vr z)) (hR.ref 13 (by decide) (by decide) (by decide) (by decide))) ?_
    refine wp_iload (i := 5) dX16_commit_104 rfl ?_
    refine wp_cV (y' := m_Jx4a65c_get_915e3) 2 [vi (nI r)] [] 0 0 dX16_commit_106 ml_X16_201 im_Jx4a65c_get_915e3 se_Jx4a65c_get_915e3 (by decide) hR.rl.k ok_Jx4a65c_get_915e3 rfl (Nat.le_of_ble_eq_true rfl) rfl (Nat.le_of_ble_eq_true rfl) (d' := d - 1) (by omega) (Nat.zero_le _) (Nat.zero_le _) (c_LO_get hR.rl hr (by omega) (cont_ret ?_))
    refine wp_castC 14 dX16_commit_109 (by decide) kl_X16_238 (fun a ha => by cases ha; exact (hR.r hr).k0) ?_
    refine wp_astore (i := 6) (lv' := [(6, vr (some (nm 4 r))), (5, vi (nI r)), (4, vi (bI s)), (3, vi (bI o)), (2, vr (some (nm 6 t))), (0, vr (some (nm 1 0))), (1, vi (nI t))]) dX16_commit_112 (by decide) rfl ?_
    refine wp_iload_n (i := 3) dX16_commit_114 rfl rfl ?_
    refine wp_if_neB 150 dX16_commit_115 (by decide) (fun c_115 => ?_) (fun c_115 => ?_)
    · skip
      refine wp_iconst (nI 1) dX16_commit_150 (by decide) ?_
      refine wp_goto 155 dX16_commit_151 (by decide) ?_
      refine wp_istore_n (i := 3) (lv' := [(3, vi (nI 1)), (6, vr (some (nm 4 r))), (5, vi (nI r)), (4, vi (bI s)), (2, vr (some (nm 6 t))), (0, vr (some (nm 1 0))), (1, vi (nI t))]) dX16_commit_155 rfl (by decide) rfl ?_
      refine wp_iload (i := 4) dX16_commit_156 rfl ?_
      refine wp_if_neB 170 dX16_commit_158 (by decide) (fun c_158 => ?_) (fun c_158 => ?_)
      · skip
        refine wp_iconst (nI 1) dX16_commit_170 (by decide) ?_
        refine wp_goto 175 dX16_commit_171 (by decide) ?_
        refine wp_istore (i := 4) (lv' := [(4, vi (nI 1)), (3, vi (nI 1)), (6, vr (some (nm 4 r))), (5, vi (nI r)), (2, vr (some (nm 6 t))), (0, vr (some (nm 1 0))), (1, vi (nI t))]) dX16_commit_175 (by decide) rfl ?_
        refine wp_iincN (a := r) (lv' := [(5, vi (nI (r + 1))), (4, vi (nI 1)), (3, vi (nI 1)), (6, vr (some (nm 4 r))), (2, vr (some (nm 6 t))), (0, vr (some (nm 1 0))), (1, vi (nI t))]) 1 dX16_commit_177 rfl (by decide) (by decide) rfl ?_
        refine wp_goto 88 dX16_commit_180 (by decide) ?_
        rw [show (o || (chg (RS_tt S t) r && !inB (vth (RS_tt S t) (RS_rr S r) r) (OR_lo (RS_rr S r)) (OR_hi (RS_rr S r)))) = true by simp [*], show (s || chg (RS_tt S t) r) = true by simp [*]] at hk
        refine wp_sub [(5, vi (nI (r + 1))), (4, vi (nI 1)), (3, vi (nI 1)), (2, vr (some (nm 6 t))), (0, vr (some (nm 1 0))), (1, vi (nI t))] (sb_cons (.head _) (sb_cons (.tail _ (.head _)) (sb_cons (.tail _ (.tail _ (.head _))) (sb_cons (.tail _ (.tail _ (.tail _ (.tail _ (.head _))))) (sb_cons (.tail _ (.tail _ (.tail _ (.tail _ (.tail _ (.head _)))))) (sb_cons (.tail _ (.tail _ (.tail _ (.tail _ (.tail _ (.tail _ (.head _))))))) sb_nil)))))) ?_
        exact ih (r + 1) true true (by omega) hk _ rfl
      · skip
        refine wp_aload_n (i := 2) dX16_commit_161 rfl rfl ?_
        refine wp_iload (i := 5) dX16_commit_162 rfl ?_
        refine wp_cS (y' := m_X16_changes) [vr (some (nm 6 t)), vi (nI r)] [] 0 0 dX16_commit_164 ml_X16_329 st_X16_changes ok_X16_changes rfl (Nat.le_of_ble_eq_true rfl) rfl (Nat.le_of_ble_eq_true rfl) (d' := d - 1) (by omega) (Nat.zero_le _) (Nat.zero_le _) (c_X16_changes (hR.t ht) (by omega) (cont_ret ?_))
        refine wp_if_eqB 174 dX16_commit_167 (by decide) (fun c_167 => ?_) (fun c_167 => ?_)
        · skip
          refine wp_iconst (nI 0) dX16_commit_174 (by decide) ?_
          refine wp_istore (i := 4) (lv' := [(4, vi (nI 0)), (3, vi (nI 1)), (6, vr (some (nm 4 r))), (5, vi (nI r)), (2, vr (some (nm 6 t))), (0, vr (some (nm 1 0))), (1, vi (nI t))]) dX16_commit_175 (by decide) rfl ?_
          refine wp_iincN (a := r) (lv' := [(5, vi (nI (r + 1))), (4, vi (nI 0)), (3, vi (nI 1)), (6, vr (some (nm 4 r))), (2, vr (some (nm 6 t))), (0, vr (some (nm 1 0))), (1, vi (nI t))]) 1 dX16_commit_177 rfl (by decide) (by decide) rfl ?_
          refine wp_goto 88 dX16_commit_180 (by decide) ?_
          rw [show (o || (chg (RS_tt S t) r && !inB (vth (RS_tt S t) (RS_rr S r) r) (OR_lo (RS_rr S r)) (OR_hi (RS_rr S r)))) = true by simp [*], show (s || chg (RS_tt S t) r) = false by simp [*]] at hk
          refine wp_sub [(5, vi (nI (r + 1))), (4, vi (nI 0)), (3, vi (nI 1)), (2, vr (some (nm 6 t))), (0, vr (some (nm 1 0))), (1, vi (nI t))] (sb_cons (.head _) (sb_cons (.tail _ (.head _)) (sb_cons (.tail _ (.tail _ (.head _))) (sb_cons (.tail _ (.tail _ (.tail _ (.tail _ (.head _))))) (sb_cons (.tail _ (.tail _ (.tail _ (.tail _ (.tail _ (.head _)))))) (sb_cons (.tail _ (.tail _ (.tail _ (.tail _ (.tail _ (.tail _ (.head _))))))) sb_nil)))))) ?_
          exact ih (r + 1) true false (by omega) hk _ rfl
        · skip
          refine wp_iconst (nI 1) dX16_commit_170 (by decide) ?_
          refine wp_goto 175 dX16_commit_171 (by decide) ?_
          refine wp_istore (i := 4) (lv' := [(4, vi (nI 1)), (3, vi (nI 1)), (6, vr (some (nm 4 r))), (5, vi (nI r)), (2, vr (some (nm 6 t))), (0, vr (some (nm 1 0))), (1, vi (nI t))]) dX16_commit_175 (by decide) rfl ?_
          refine wp_iincN (a := r) (lv' := [(5, vi (nI (r + 1))), (4, vi (nI 1)), (3, vi (nI 1)), (6, vr (some (nm 4 r))), (2, vr (some (nm 6 t))), (0, vr (some (nm 1 0))), (1, vi (nI t))]) 1 dX16_commit_177 rfl (by decide) (by decide) rfl ?_
          refine wp_goto 88 dX16_commit_180 (by decide) ?_
          rw [show (o || (chg (RS_tt S t) r && !inB (vth (RS_tt S t) (RS_rr S r) r) (OR_lo (RS_rr S r)) (OR_hi (RS_rr S r)))) = true by simp [*], show (s || chg (RS_tt S t) r) = true by simp [*]] at hk
          refine wp_sub [(5, vi (nI (r + 1))), (4, vi (nI 1)), (3, vi (nI 1)), (2, vr (some (nm 6 t))), (0, vr (some (nm 1 0))), (1, vi (nI t))] (sb_cons (.head _) (sb_cons (.tail _ (.head _)) (sb_cons (.tail _ (.tail _ (.head _))) (sb_cons (.tail _ (.tail _ (.tail _ (.tail _ (.head _))))) (sb_cons (.tail _ (.tail _ (.tail _ (.tail _ (.tail _ (.head _)))))) (sb_cons (.tail _ (.tail _ (.tail _ (.tail _ (.tail _ (.tail _ (.head _))))))) sb_nil)))))) ?_
          exact ih (r + 1) true true (by omega) hk _ rfl
    · skip
      refine wp_aload_n (i := 2) dX16_commit_118 rfl rfl ?_
      refine wp_iload (i := 5) dX16_commit_119 rfl ?_
      refine wp_cS (y' := m_X16_changes) [vr (some (nm 6 t)), vi (nI r)] [] 0 0 dX16_commit_121 ml_X16_329 st_X16_changes ok_X16_changes rfl (Nat.le_of_ble_eq_true rfl) rfl (Nat.le_of_ble_eq_true rfl) (d' := d - 1) (by omega) (Nat.zero_le _) (Nat.zero_le _) (c_X16_changes (hR.t ht) (by omega) (cont_ret ?_))
      refine wp_if_eqB 154 dX16_commit_124 (by decide) (fun c_124 => ?_) (fun c_124 => ?_)
      · skip
        refine wp_iconst (nI 0) dX16_commit_154 (by decide) ?_
        refine wp_istore_n (i := 3) (lv' := [(3, vi (nI 0)), (6, vr (some (nm 4 r))), (5, vi (nI r)), (4, vi (bI s)), (2, vr (some (nm 6 t))), (0, vr (some (nm 1 0))), (1, vi (nI t))]) dX16_commit_155 rfl (by decide) rfl ?_
        refine wp_iload (i := 4) dX16_commit_156 rfl ?_
        refine wp_if_neB 170 dX16_commit_158 (by decide) (fun c_158 => ?_) (fun c_158 => ?_)
        · skip
          refine wp_iconst (nI 1) dX16_commit_170 (by decide) ?_
          refine wp_goto 175 dX16_commit_171 (by decide) ?_
          refine wp_istore (i := 4) (lv' := [(4, vi (nI 1)), (3, vi (nI 0)), (6, vr (some (nm 4 r))), (5, vi (nI r)), (2, vr (some (nm 6 t))), (0, vr (some (nm 1 0))), (1, vi (nI t))]) dX16_commit_175 (by decide) rfl ?_
          refine wp_iincN (a := r) (lv' := [(5, vi (nI (r + 1))), (4, vi (nI 1)), (3, vi (nI 0)), (6, vr (some (nm 4 r))), (2, vr (some (nm 6 t))), (0, vr (some (nm 1 0))), (1, vi (nI t))]) 1 dX16_commit_177 rfl (by decide) (by decide) rfl ?_
          refine wp_goto 88 dX16_commit_180 (by decide) ?_
          rw [show (o || (chg (RS_tt S t) r && !inB (vth (RS_tt S t) (RS_rr S r) r) (OR_lo (RS_rr S r)) (OR_hi (RS_rr S r)))) = false by simp [*], show (s || chg (RS_tt S t) r) = true by simp [*]] at hk
          refine wp_sub [(5, vi (nI (r + 1))), (4, vi (nI 1)), (3, vi (nI 0)), (2, vr (some (nm 6 t))), (0, vr (some (nm 1 0))), (1, vi (nI t))] (sb_cons (.head _) (sb_cons (.tail _ (.head _)) (sb_cons (.tail _ (.tail _ (.head _))) (sb_cons (.tail _ (.tail _ (.tail _ (.tail _ (.head _))))) (sb_cons (.tail _ (.tail _ (.tail _ (.tail _ (.tail _ (.head _)))))) (sb_cons (.tail _ (.tail _ (.tail _ (.tail _ (.tail _ (.tail _ (.head _))))))) sb_nil)))))) ?_
          exact ih (r + 1) false true (by omega) hk _ rfl
        · skip
          refine wp_aload_n (i := 2) dX16_commit_161 rfl rfl ?_
          refine wp_iload (i := 5) dX16_commit_162 rfl ?_
          refine wp_cS (y' := m_X16_changes) [vr (some (nm 6 t)), vi (nI r)] [] 0 0 dX16_commit_164 ml_X16_329 st_X16_changes ok_X16_changes rfl (Nat.le_of_ble_eq_true rfl) rfl (Nat.le_of_ble_eq_true rfl) (d' := d - 1) (by omega) (Nat.zero_le _) (Nat.zero_le _) (c_X16_changes (hR.t ht) (by omega) (cont_ret ?_))
          refine wp_if_eqB 174 dX16_commit_167 (by decide) (fun c_167 => ?_) (fun c_167 => absurd c_167 (fun z => Bool.false_ne_true (c_124.symm.trans z)))
          refine wp_iconst (nI 0) dX16_commit_174 (by decide) ?_
          refine wp_istore (i := 4) (lv' := [(4, vi (nI 0)), (3, vi (nI 0)), (6, vr (some (nm 4 r))), (5, vi (nI r)), (2, vr (some (nm 6 t))), (0, vr (some (nm 1 0))), (1, vi (nI t))]) dX16_commit_175 (by decide) rfl ?_
          refine wp_iincN (a := r) (lv' := [(5, vi (nI (r + 1))), (4, vi (nI 0)), (3, vi (nI 0)), (6, vr (some (nm 4 r))), (2, vr (some (nm 6 t))), (0, vr (some (nm 1 0))), (1, vi (nI t))]) 1 dX16_commit_177 rfl (by decide) (by decide) rfl ?_
          refine wp_goto 88 dX16_commit_180 (by decide) ?_
          rw [show (o || (chg (RS_tt S t) r && !inB (vth (RS_tt S t) (RS_rr S r) r) (OR_lo (RS_rr S r)) (OR_hi (RS_rr S r)))) = false by simp [*], show (s || chg (RS_tt S t) r) = false by simp [*]] at hk
          refine wp_sub [(5, vi (nI (r + 1))), (4, vi (nI 0)), (3, vi (nI 0)), (2, vr (some (nm 6 t))), (0, vr (some (nm 1 0))), (1, vi (nI t))] (sb_cons (.head _) (sb_cons (.tail _ (.head _)) (sb_cons (.tail _ (.tail _ (.head _))) (sb_cons (.tail _ (.tail _ (.tail _ (.tail _ (.head _))))) (sb_cons (.tail _ (.tail _ (.tail _ (.tail _ (.tail _ (.head _)))))) (sb_cons (.tail _ (.tail _ (.tail _ (.tail _ (.tail _ (.tail _ (.head _))))))) sb_nil)))))) ?_
          exact ih (r + 1) false false (by omega) hk _ rfl
      · skip
        refine wp_aload_n (i := 0) dX16_commit_127 rfl rfl ?_
        refine wp_aload_n (i := 2) dX16_commit_128 rfl rfl ?_
        refine wp_iload (i := 5) dX16_commit_129 rfl ?_
        refine wp_cV (y' := m_X16_valueThen) 17 [vr (some (nm 6 t)), vi (nI r)] [] 0 0 dX16_commit_131 ml_X16_333 im_X16_valueThen se_X16_valueThen (by decide) hR.mk ok_X16_valueThen rfl (Nat.le_of_ble_eq_true rfl) rfl (Nat.le_of_ble_eq_true rfl) (d' := d - 1) (by omega) (Nat.zero_le _) (Nat.zero_le _) (c_X16_valueThen hR ht hr (by omega) h1 (by omega) (cont_ret ?_))
        refine wp_aload (i := 6) dX16_commit_134 rfl ?_
        refine wp_get 14 0 (vi (OR_lo (RS_rr S r))) dX16_commit_136 (hR.r hr).k0 (by decide) (by decide) fl_X16_337 (congrArg (fun z => toV (vi z)) ((hR.r hr).f_lo)) ?_
        refine wp_aload (i := 6) dX16_commit_139 rfl ?_
        refine wp_get 14 1 (vi (OR_hi (RS_rr S r))) dX16_commit_141 (hR.r hr).k0 (by decide) (by decide) fl_X16_340 (congrArg (fun z => toV (vi z)) ((hR.r hr).f_hi)) ?_
        refine wp_cS (y' := m_X16_in) [vi (vth (RS_tt S t) (RS_rr S r) r), vi (OR_lo (RS_rr S r)), vi (OR_hi (RS_rr S r))] [] 0 0 dX16_commit_144 ml_X16_70 st_X16_in ok_X16_in rfl (Nat.le_of_ble_eq_true rfl) rfl (Nat.le_of_ble_eq_true rfl) (d' := d - 1) (by omega) (Nat.zero_le _) (Nat.zero_le _) (c_X16_in (vth (RS_tt S t) (RS_rr S r) r) (OR_lo (RS_rr S r)) (OR_hi (RS_rr S r)) (cont_ret ?_))
        refine wp_if_neB 154 dX16_commit_147 (by decide) (fun c_147 => ?_) (fun c_147 => ?_)
        · skip
          refine wp_iconst (nI 0) dX16_commit_154 (by decide) ?_
          refine wp_istore_n (i := 3) (lv' := [(3, vi (nI 0)), (6, vr (some (nm 4 r))), (5, vi (nI r)), (4, vi (bI s)), (2, vr (some (nm 6 t))), (0, vr (some (nm 1 0))), (1, vi (nI t))]) dX16_commit_155 rfl (by decide) rfl ?_
          refine wp_iload (i := 4) dX16_commit_156 rfl ?_
          refine wp_if_neB 170 dX16_commit_158 (by decide) (fun c_158 => ?_) (fun c_158 => ?_)
          · skip
            refine wp_iconst (nI 1) dX16_commit_170 (by decide) ?_
            refine wp_goto 175 dX16_commit_171 (by decide) ?_
            refine wp_istore (i := 4) (lv' := [(4, vi (nI 1)), (3, vi (nI 0)), (6, vr (some (nm 4 r))), (5, vi (nI r)), (2, vr (some (nm 6 t))), (0, vr (some (nm 1 0))), (1, vi (nI t))]) dX16_commit_175 (by decide) rfl ?_
            refine wp_iincN (a := r) (lv' := [(5, vi (nI (r + 1))), (4, vi (nI 1)), (3, vi (nI 0)), (6, vr (some (nm 4 r))), (2, vr (some (nm 6 t))), (0, vr (some (nm 1 0))), (1, vi (nI t))]) 1 dX16_commit_177 rfl (by decide) (by decide) rfl ?_
            refine wp_goto 88 dX16_commit_180 (by decide) ?_
            rw [show (o || (chg (RS_tt S t) r && !inB (vth (RS_tt S t) (RS_rr S r) r) (OR_lo (RS_rr S r)) (OR_hi (RS_rr S r)))) = false by simp [*], show (s || chg (RS_tt S t) r) = true by simp [*]] at hk
            refine wp_sub [(5, vi (nI (r + 1))), (4, vi (nI 1)), (3, vi (nI 0)), (2, vr (some (nm 6 t))), (0, vr (some (nm 1 0))), (1, vi (nI t))] (sb_cons (.head _) (sb_cons (.tail _ (.head _)) (sb_cons (.tail _ (.tail _ (.head _))) (sb_cons (.tail _ (.tail _ (.tail _ (.tail _ (.head _))))) (sb_cons (.tail _ (.tail _ (.tail _ (.tail _ (.tail _ (.head _)))))) (sb_cons (.tail _ (.tail _ (.tail _ (.tail _ (.tail _ (.tail _ (.head _))))))) sb_nil)))))) ?_
            exact ih (r + 1) false true (by omega) hk _ rfl
          · skip
            refine wp_aload_n (i := 2) dX16_commit_161 rfl rfl ?_
            refine wp_iload (i := 5) dX16_commit_162 rfl ?_
            refine wp_cS (y' := m_X16_changes) [vr (some (nm 6 t)), vi (nI r)] [] 0 0 dX16_commit_164 ml_X16_329 st_X16_changes ok_X16_changes rfl (Nat.le_of_ble_eq_true rfl) rfl (Nat.le_of_ble_eq_true rfl) (d' := d - 1) (by omega) (Nat.zero_le _) (Nat.zero_le _) (c_X16_changes (hR.t ht) (by omega) (cont_ret ?_))
            refine wp_if_eqB 174 dX16_commit_167 (by decide) (fun c_167 => absurd c_167 (fun z => Bool.false_ne_true (z.symm.trans c_124))) (fun c_167 => ?_)
            refine wp_iconst (nI 1) dX16_commit_170 (by decide) ?_
            refine wp_goto 175 dX16_commit_171 (by decide) ?_
            refine wp_istore (i := 4) (lv' := [(4, vi (nI 1)), (3, vi (nI 0)), (6, vr (some (nm 4 r))), (5, vi (nI r)), (2, vr (some (nm 6 t))), (0, vr (some (nm 1 0))), (1, vi (nI t))]) dX16_commit_175 (by decide) rfl ?_
            refine wp_iincN (a := r) (lv' := [(5, vi (nI (r + 1))), (4, vi (nI 1)), (3, vi (nI 0)), (6, vr (some (nm 4 r))), (2, vr (some (nm 6 t))), (0, vr (some (nm 1 0))), (1, vi (nI t))]) 1 dX16_commit_177 rfl (by decide) (by decide) rfl ?_
            refine wp_goto 88 dX16_commit_180 (by decide) ?_
            rw [show (o || (chg (RS_tt S t) r && !inB (vth (RS_tt S t) (RS_rr S r) r) (OR_lo (RS_rr S r)) (OR_hi (RS_rr S r)))) = false by simp [*], show (s || chg (RS_tt S t) r) = true by simp [*]] at hk
            refine wp_sub [(5, vi (nI (r + 1))), (4, vi (nI 1)), (3, vi (nI 0)), (2, vr (some (nm 6 t))), (0, vr (some (nm 1 0))), (1, vi (nI t))] (sb_cons (.head _) (sb_cons (.tail _ (.head _)) (sb_cons (.tail _ (.tail _ (.head _))) (sb_cons (.tail _ (.tail _ (.tail _ (.tail _ (.head _))))) (sb_cons (.tail _ (.tail _ (.tail _ (.tail _ (.tail _ (.head _)))))) (sb_cons (.tail _ (.tail _ (.tail _ (.tail _ (.tail _ (.tail _ (.head _))))))) sb_nil)))))) ?_
            exact ih (r + 1) false true (by omega) hk _ rfl
        · skip
          refine wp_iconst (nI 1) dX16_commit_150 (by decide) ?_
          refine wp_goto 155 dX16_commit_151 (by decide) ?_
          refine wp_istore_n (i := 3) (lv' := [(3, vi (nI 1)), (6, vr (some (nm 4 r))), (5, vi (nI r)), (4, vi (bI s)), (2, vr (some (nm 6 t))), (0, vr (some (nm 1 0))), (1, vi (nI t))]) dX16_commit_155 rfl (by decide) rfl ?_
          refine wp_iload (i := 4) dX16_commit_156 rfl ?_
          refine wp_if_neB 170 dX16_commit_158 (by decide) (fun c_158 => ?_) (fun c_158 => ?_)
          · skip
            refine wp_iconst (nI 1) dX16_commit_170 (by decide) ?_
            refine wp_goto 175 dX16_commit_171 (by decide) ?_
            refine wp_istore (i := 4) (lv' := [(4, vi (nI 1)), (3, vi (nI 1)), (6, vr (some (nm 4 r))), (5, vi (nI r)), (2, vr (some (nm 6 t))), (0, vr (some (nm 1 0))), (1, vi (nI t))]) dX16_commit_175 (by decide) rfl ?_
            refine wp_iincN (a := r) (lv' := [(5, vi (nI (r + 1))), (4, vi (nI 1)), (3, vi (nI 1)), (6, vr (some (nm 4 r))), (2, vr (some (nm 6 t))), (0, vr (some (nm 1 0))), (1, vi (nI t))]) 1 dX16_commit_177 rfl (by decide) (by decide) rfl ?_
            refine wp_goto 88 dX16_commit_180 (by decide) ?_
            rw [show (o || (chg (RS_tt S t) r && !inB (vth (RS_tt S t) (RS_rr S r) r) (OR_lo (RS_rr S r)) (OR_hi (RS_rr S r)))) = true by simp [*], show (s || chg (RS_tt S t) r) = true by simp [*]] at hk
            refine wp_sub [(5, vi (nI (r + 1))), (4, vi (nI 1)), (3, vi (nI 1)), (2, vr (some (nm 6 t))), (0, vr (some (nm 1 0))), (1, vi (nI t))] (sb_cons (.head _) (sb_cons (.tail _ (.head _)) (sb_cons (.tail _ (.tail _ (.head _))) (sb_cons (.tail _ (.tail _ (.tail _ (.tail _ (.head _))))) (sb_cons (.tail _ (.tail _ (.tail _ (.tail _ (.tail _ (.head _)))))) (sb_cons (.tail _ (.tail _ (.tail _ (.tail _ (.tail _ (.tail _ (.head _))))))) sb_nil)))))) ?_
            exact ih (r + 1) true true (by omega) hk _ rfl
          · skip
            refine wp_aload_n (i := 2) dX16_commit_161 rfl rfl ?_
            refine wp_iload (i := 5) dX16_commit_162 rfl ?_
            refine wp_cS (y' := m_X16_changes) [vr (some (nm 6 t)), vi (nI r)] [] 0 0 dX16_commit_164 ml_X16_329 st_X16_changes ok_X16_changes rfl (Nat.le_of_ble_eq_true rfl) rfl (Nat.le_of_ble_eq_true rfl) (d' := d - 1) (by omega) (Nat.zero_le _) (Nat.zero_le _) (c_X16_changes (hR.t ht) (by omega) (cont_ret ?_))
            refine wp_if_eqB 174 dX16_commit_167 (by decide) (fun c_167 => absurd c_167 (fun z => Bool.false_ne_true (z.symm.trans c_124))) (fun c_167 => ?_)
            refine wp_iconst (nI 1) dX16_commit_170 (by decide) ?_
            refine wp_goto 175 dX16_commit_171 (by decide) ?_
            refine wp_istore (i := 4) (lv' := [(4, vi (nI 1)), (3, vi (nI 1)), (6, vr (some (nm 4 r))), (5, vi (nI r)), (2, vr (some (nm 6 t))), (0, vr (some (nm 1 0))), (1, vi (nI t))]) dX16_commit_175 (by decide) rfl ?_
            refine wp_iincN (a := r) (lv' := [(5, vi (nI (r + 1))), (4, vi (nI 1)), (3, vi (nI 1)), (6, vr (some (nm 4 r))), (2, vr (some (nm 6 t))), (0, vr (some (nm 1 0))), (1, vi (nI t))]) 1 dX16_commit_177 rfl (by decide) (by decide) rfl ?_
            refine wp_goto 88 dX16_commit_180 (by decide) ?_
            rw [show (o || (chg (RS_tt S t) r && !inB (vth (RS_tt S t) (RS_rr S r) r) (OR_lo (RS_rr S r)) (OR_hi (RS_rr S r)))) = true by simp [*], show (s || chg (RS_tt S t) r) = true by simp [*]] at hk
            refine wp_sub [(5, vi (nI (r + 1))), (4, vi (nI 1)), (3, vi (nI 1)), (2, vr (some (nm 6 t))), (0, vr (some (nm 1 0))), (1, vi (nI t))] (sb_cons (.head _) (sb_cons (.tail _ (.head _)) (sb_cons (.tail _ (.tail _ (.head _))) (sb_cons (.tail _ (.tail _ (.tail _ (.tail _ (.head _))))) (sb_cons (.tail _ (.tail _ (.tail _ (.tail _ (.tail _ (.head _)))))) (sb_cons (.tail _ (.tail _ (.tail _ (.tail _ (.tail _ (.tail _ (.head _))))))) sb_nil)))))) ?_
            exact ih (r + 1) true true (by omega) hk _ rfl
