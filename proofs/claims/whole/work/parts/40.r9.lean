/-! The model: commit, its first half. -/
def chg (x : OTS) (r : Nat) : Bool := OT_wr x r || OT_ad x r
def vth (x : OTS) (y : ORS) (r : Nat) : Int32 := if OT_wr x r = true then OT_wn x r else (lastq y).2 + OT_sm x r
theorem chg_t1 {x : OTS} {r : Nat} (h : OT_wr x r = true) : chg x r = true := by unfold chg; rw [h]; rfl
theorem chg_t2 {x : OTS} {r : Nat} (h1 : OT_wr x r = false) (h2 : OT_ad x r = true) : chg x r = true := by unfold chg; rw [h1, h2]; rfl
theorem chg_f {x : OTS} {r : Nat} (h1 : OT_wr x r = false) (h2 : OT_ad x r = false) : chg x r = false := by unfold chg; rw [h1, h2]; rfl
theorem gos_utt (t r : Nat) (e : Bool) : ∀ m S, ∃ f, (gos t r e m S).2 = RS_utt S f := by
  intro m
  induction m with
  | zero => intro S; exact ⟨RS_tt S, rfl⟩
  | succ m ih =>
    intro S
    rw [gos]
    split
    · split
      · exact ⟨_, rfl⟩
      · obtain ⟨f, hf⟩ := ih (RS_utt1 S (2 - m) (sbk (RS_tt S (2 - m)) (RS_mo S)))
        exact ⟨f, hf.trans rfl⟩
    · exact ih S
theorem gos_rn {t r : Nat} {e : Bool} {m : Nat} {S : RS} : RS_rn (gos t r e m S).2 = RS_rn S := by
  obtain ⟨f, hf⟩ := gos_utt t r e m S
  rw [hf]
/-- what is added wins against the others, from the r-th reference on: whether, and the state -/
def cmA (t : Nat) : Nat → Nat → RS → Bool × RS
  | 0, _, S => (true, S)
  | m + 1, r, S => if OT_ad (RS_tt S t) r = true then (if (gos t r true 3 S).1 = false then (false, (gos t r true 3 S).2) else cmA t m (r + 1) (gos t r true 3 S).2) else cmA t m (r + 1) S
def cmB (S : RS) (t : Nat) : Nat → Nat → Bool → Bool → Bool × Bool
  | 0, _, o, s => (o, s)
  | m + 1, r, o, s => cmB S t m (r + 1) (o || (chg (RS_tt S t) r && !inB (vth (RS_tt S t) (RS_rr S r) r) (OR_lo (RS_rr S r)) (OR_hi (RS_rr S r)))) (s || chg (RS_tt S t) r)
set_option maxRecDepth 100000 in
set_option maxHeartbeats 4000000 in
theorem c_X16_changes {G : GG} {d bc bs : Nat} {h : Hp} {Q : Pst} {t r : Nat} {x : OTS} (hT : OT h t x) (hr6 : r < 6) (hq : Q (oRet (vi (bI (chg x r)))) h) : WP G m_X16_changes d 0 (aargs 0 [vr (some (nm 6 t)), vi (nI r)]) [] h bc bs Q := by
  refine wp_sub [(0, vr (some (nm 6 t))), (1, vi (nI r))] (fun _ hz => hz) ?_
  refine wp_aload_n (i := 0) dX16_changes_0 rfl rfl ?_
  refine wp_get 16 4 (vr (some (nm 7 t))) dX16_changes_1 hT.k0 (by decide) (by decide) fl_X16_280 (congrArg (fun z => toV (vr z)) (hT.r5_4)) ?_
  refine wp_iload_n (i := 1) dX16_changes_4 rfl rfl ?_
  refine wp_zaloadN 6 (bI (OT_wr x r)) dX16_changes_5 hT.k11 hT.n11 (by omega) (by decide) (hT.a_wr r) ?_
  refine wp_if_neB 18 dX16_changes_6 (by decide) (fun c_6 => ?_) (fun c_6 => ?_)
  · rw [chg_t1 c_6] at hq
    refine wp_iconst (nI 1) dX16_changes_18 (by decide) ?_
    refine wp_goto 23 dX16_changes_19 (by decide) ?_
    refine wp_zreturn dX16_changes_23 rfl (by decide) ?_
    exact hq
  · skip
    refine wp_aload_n (i := 0) dX16_changes_9 rfl rfl ?_
    refine wp_get 16 7 (vr (some (nm 10 t))) dX16_changes_10 hT.k0 (by decide) (by decide) fl_X16_319 (congrArg (fun z => toV (vr z)) (hT.r8_7)) ?_
    refine wp_iload_n (i := 1) dX16_changes_13 rfl rfl ?_
    refine wp_zaloadN 6 (bI (OT_ad x r)) dX16_changes_14 hT.k17 hT.n17 (by omega) (by decide) (hT.a_ad r) ?_
    refine wp_if_eqB 22 dX16_changes_15 (by decide) (fun c_15 => ?_) (fun c_15 => ?_)
    · rw [chg_f c_6 c_15] at hq
      refine wp_iconst (nI 0) dX16_changes_22 (by decide) ?_
      refine wp_zreturn dX16_changes_23 rfl (by decide) ?_
      exact hq
    · rw [chg_t2 c_6 c_15] at hq
      refine wp_iconst (nI 1) dX16_changes_18 (by decide) ?_
      refine wp_goto 23 dX16_changes_19 (by decide) ?_
      refine wp_zreturn dX16_changes_23 rfl (by decide) ?_
      exact hq
set_option maxRecDepth 100000 in
set_option maxHeartbeats 4000000 in
theorem c_X16_valueThen {G : GG} {d bc bs : Nat} {h : Hp} {Q : Pst} {S : RS} (hR : MR h S) {t r : Nat} (ht : t < 3) (hr : r < RS_rn S) (hr6 : r < 6) (h1 : 1 ≤ (OR_hs (RS_rr S r)).length) (hd : 6 ≤ d) (hq : Q (oRet (vi (vth (RS_tt S t) (RS_rr S r) r))) h) : WP G m_X16_valueThen d 0 (aargs 0 [vr (some (nm 1 0)), vr (some (nm 6 t)), vi (nI r)]) [] h bc bs Q := by
  refine wp_sub [(0, vr (some (nm 1 0))), (1, vr (some (nm 6 t))), (2, vi (nI r))] (fun _ hz => hz) ?_
  refine wp_aload_n (i := 1) dX16_valueThen_0 rfl rfl ?_
  refine wp_get 16 4 (vr (some (nm 7 t))) dX16_valueThen_1 (hR.t ht).k0 (by decide) (by decide) fl_X16_280 (congrArg (fun z => toV (vr z)) ((hR.t ht).r5_4)) ?_
  refine wp_iload_n (i := 2) dX16_valueThen_4 rfl rfl ?_
  refine wp_zaloadN 6 (bI (OT_wr (RS_tt S t) r)) dX16_valueThen_5 (hR.t ht).k11 (hR.t ht).n11 (by omega) (by decide) ((hR.t ht).a_wr r) ?_
  refine wp_if_eqB 18 dX16_valueThen_6 (by decide) (fun c_6 => ?_) (fun c_6 => ?_)
  · skip
    refine wp_aload_n (i := 0) dX16_valueThen_18 rfl rfl ?_
    refine wp_get 17 13 (vr (some (nm 1 13))) dX16_valueThen_19 hR.mk (by decide) (by decide) fl_X16_47 (congrArg (fun z => toV (vr z)) (hR.ref 13 (by decide) (by decide) (by decide) (by decide))) ?_
    refine wp_iload_n (i := 2) dX16_valueThen_22 rfl rfl ?_
    refine wp_cV (y' := m_Jx4a65c_get_915e3) 2 [vi (nI r)] [] 0 0 dX16_valueThen_23 ml_X16_201 im_Jx4a65c_get_915e3 se_Jx4a65c_get_915e3 (by decide) hR.rl.k ok_Jx4a65c_get_915e3 rfl (Nat.le_of_ble_eq_true rfl) rfl (Nat.le_of_ble_eq_true rfl) (d' := d - 1) (by omega) (Nat.zero_le _) (Nat.zero_le _) (c_LO_get hR.rl hr (by omega) (cont_ret ?_))
    refine wp_castC 14 dX16_valueThen_26 (by decide) kl_X16_238 (fun a ha => by cases ha; exact (hR.r hr).k0) ?_
    refine wp_cV (y' := m_X13_last) 14 [] [] 0 0 dX16_valueThen_29 ml_X16_315 im_X13_last se_X13_last (by decide) (hR.r hr).k0 ok_X13_last rfl (Nat.le_of_ble_eq_true rfl) rfl (Nat.le_of_ble_eq_true rfl) (d' := d - 1) (by omega) (Nat.zero_le _) (Nat.zero_le _) (c_X13_last (hR.r hr) h1 (by omega) (fun ra1 E2 => cont_ret ?_))
    refine wp_iconst (nI 1) dX16_valueThen_32 (by decide) ?_
    refine wp_ialoadN 2 ((lastq (RS_rr S r)).2) dX16_valueThen_33 E2.2.1 E2.2.2.1 (by decide) (by decide) (E2.2.2.2 1 (Nat.le_of_ble_eq_true rfl)) ?_
    refine wp_aload_n (i := 1) dX16_valueThen_34 rfl rfl ?_
    refine wp_get 16 8 (vr (some (nm 11 t))) dX16_valueThen_35 (hR.t ht).k0 (by decide) (by decide) fl_X16_309 (congrArg (fun z => toV (vr z)) ((hR.t ht).r9_8)) ?_
    refine wp_iload_n (i := 2) dX16_valueThen_38 rfl rfl ?_
    refine wp_ialoadN 6 (OT_sm (RS_tt S t) r) dX16_valueThen_39 (hR.t ht).k19 (hR.t ht).n19 (by omega) (by decide) ((hR.t ht).a_sm r) ?_
    refine wp_iadd dX16_valueThen_40 ?_
    refine wp_ireturn dX16_valueThen_41 rfl ?_
    rw [show vth (RS_tt S t) (RS_rr S r) r = (lastq (RS_rr S r)).2 + OT_sm (RS_tt S t) r from if_neg (fun z => Bool.false_ne_true (c_6.symm.trans z))] at hq
    exact hq
  · skip
    refine wp_aload_n (i := 1) dX16_valueThen_9 rfl rfl ?_
    refine wp_get 16 5 (vr (some (nm 8 t))) dX16_valueThen_10 (hR.t ht).k0 (by decide) (by decide) fl_X16_283 (congrArg (fun z => toV (vr z)) ((hR.t ht).r6_5)) ?_
    refine wp_iload_n (i := 2) dX16_valueThen_13 rfl rfl ?_
    refine wp_ialoadN 6 (OT_wn (RS_tt S t) r) dX16_valueThen_14 (hR.t ht).k13 (hR.t ht).n13 (by omega) (by decide) ((hR.t ht).a_wn r) ?_
    refine wp_goto 41 dX16_valueThen_15 (by decide) ?_
    refine wp_ireturn dX16_valueThen_41 rfl ?_
    rw [show vth (RS_tt S t) (RS_rr S r) r = OT_wn (RS_tt S t) r from if_pos c_6] at hq
    exact hq
set_option maxRecDepth 100000 in
set_option maxHeartbeats 4000000 in
theorem l_X16_commitA {G : GG} {d bc bs : Nat} {Q : Pst} {h0 : Hp} {n t : Nat} (ht : t < 3) (hd : 8 ≤ d) : ∀ m r H S, r + m = RS_rn S → MR H S → RB n S → PO2 H → FRR h0 H → h_I H (nm 1 0) 0 = nI 0 → (∀ H', (cmA t m r S).1 = false → MR H' (cmA t m r S).2 → PO2 H' → FRR h0 H' → h_I H' (nm 1 0) 0 = nI 0 → Q (oRet (vi (nI 115))) H') → (∀ H', (cmA t m r S).1 = true → MR H' (cmA t m r S).2 → RB n (cmA t m r S).2 → PO2 H' → FRR h0 H' → h_I H' (nm 1 0) 0 = nI 0 → WP G m_X16_commit d 80 [(2, vr (some (nm 6 t))), (0, vr (some (nm 1 0))), (1, vi (nI t))] [] H' bc bs Q) → WP G m_X16_commit d 41 [(3, vi (nI r)), (2, vr (some (nm 6 t))), (0, vr (some (nm 1 0))), (1, vi (nI t))] [] H bc bs Q := by
  intro m
  induction m with
  | zero =>
    intro r H S hrm hR hB hP hG h0' hs hk
    have hbb := hB.1
    refine wp_iload_n (i := 3) dX16_commit_41 rfl rfl ?_
    refine wp_aload_n (i := 0) dX16_commit_42 rfl rfl ?_
    refine wp_get 17 13 (vr (some (nm 1 13))) dX16_commit_43 hR.mk (by decide) (by decide) fl_X16_47 (congrArg (fun z => toV (vr z)) (hR.ref 13 (by decide) (by decide) (by decide) (by decide))) ?_
    refine wp_cV (y' := m_Jx4a65c_size_8abf5) 2 [] [vi (nI r)] 0 0 dX16_commit_46 ml_X16_168 im_Jx4a65c_size_8abf5 se_Jx4a65c_size_8abf5 (by decide) hR.rl.k ok_Jx4a65c_size_8abf5 rfl (Nat.le_of_ble_eq_true rfl) rfl (Nat.le_of_ble_eq_true rfl) (d' := d - 1) (by omega) (Nat.zero_le _) (Nat.zero_le _) (c_LO_size hR.rl (cont_ret ?_))
    refine wp_icmp_geN 80 dX16_commit_49 (by decide) (by omega) (by omega) (fun c_49 => ?_) (fun c_49 => absurd c_49 (by omega))
    refine wp_sub [(2, vr (some (nm 6 t))), (0, vr (some (nm 1 0))), (1, vi (nI t))] (sb_cons (.tail _ (.head _)) (sb_cons (.tail _ (.tail _ (.head _))) (sb_cons (.tail _ (.tail _ (.tail _ (.head _)))) sb_nil))) ?_
    exact hk H rfl hR hB hP hG h0'
  | succ m ih =>
    intro r H S hrm hR hB hP hG h0' hs hk
    have hbb := hB.1
    have hr6 : r < 6 := by omega
    have htt := ht
    have eA1 : OT_ad (RS_tt S t) r = false → cmA t (m + 1) r S = cmA t m (r + 1) S := fun z => by rw [cmA, z]; rfl
    have eA2 : OT_ad (RS_tt S t) r = true → (gos t r true 3 S).1 = false → cmA t (m + 1) r S = (false, (gos t r true 3 S).2) := fun z z2 => by rw [cmA, if_pos z, if_pos z2]
    have eA3 : OT_ad (RS_tt S t) r = true → (gos t r true 3 S).1 = true → cmA t (m + 1) r S = cmA t m (r + 1) (gos t r true 3 S).2 := fun z z2 => by rw [cmA, if_pos z, if_neg (fun y => Bool.false_ne_true (y.symm.trans z2))]
    refine wp_iload_n (i := 3) dX16_commit_41 rfl rfl ?_
    refine wp_aload_n (i := 0) dX16_commit_42 rfl rfl ?_
    refine wp_get 17 13 (vr (some (nm 1 13))) dX16_commit_43 hR.mk (by decide) (by decide) fl_X16_47 (congrArg (fun z => toV (vr z)) (hR.ref 13 (by decide) (by decide) (by decide) (by decide))) ?_
    refine wp_cV (y' := m_Jx4a65c_size_8abf5) 2 [] [vi (nI r)] 0 0 dX16_commit_46 ml_X16_168 im_Jx4a65c_size_8abf5 se_Jx4a65c_size_8abf5 (by decide) hR.rl.k ok_Jx4a65c_size_8abf5 rfl (Nat.le_of_ble_eq_true rfl) rfl (Nat.le_of_ble_eq_true rfl) (d' := d - 1) (by omega) (Nat.zero_le _) (Nat.zero_le _) (c_LO_size hR.rl (cont_ret ?_))
    refine wp_icmp_geN 80 dX16_commit_49 (by decide) (by omega) (by omega) (fun c_49 => absurd c_49 (by omega)) (fun c_49 => ?_)
    refine wp_aload_n (i := 2) dX16_commit_52 rfl rfl ?_
    refine wp_get 16 7 (vr (some (nm 10 t))) dX16_commit_53 (hR.t ht).k0 (by decide) (by decide) fl_X16_319 (congrArg (fun z => toV (vr z)) ((hR.t ht).r8_7)) ?_
    refine wp_iload_n (i := 3) dX16_commit_56 rfl rfl ?_
    refine wp_zaloadN 6 (bI (OT_ad (RS_tt S t) r)) dX16_commit_57 (hR.t ht).k17 (hR.t ht).n17 (by omega) (by decide) ((hR.t ht).a_ad r) ?_
    refine wp_if_eqB 74 dX16_commit_58 (by decide) (fun c_58 => ?_) (fun c_58 => ?_)
    · skip
      refine wp_iincN (a := r) (lv' := [(3, vi (nI (r + 1))), (2, vr (some (nm 6 t))), (0, vr (some (nm 1 0))), (1, vi (nI t))]) 1 dX16_commit_74 rfl (by decide) (by decide) rfl ?_
      refine wp_goto 41 dX16_commit_77 (by decide) ?_
      rw [eA1 c_58] at hs hk
      refine wp_sub [(3, vi (nI (r + 1))), (2, vr (some (nm 6 t))), (0, vr (some (nm 1 0))), (1, vi (nI t))] (sb_cons (.head _) (sb_cons (.tail _ (.head _)) (sb_cons (.tail _ (.tail _ (.head _))) (sb_cons (.tail _ (.tail _ (.tail _ (.head _)))) sb_nil)))) ?_
      exact ih (r + 1) _ _ (by omega) hR hB hP hG h0' hs hk
    · skip
      refine wp_aload_n (i := 0) dX16_commit_61 rfl rfl ?_
      refine wp_iload_n (i := 1) dX16_commit_62 rfl rfl ?_
      refine wp_iload_n (i := 3) dX16_commit_63 rfl rfl ?_
      refine wp_iconst (nI 1) dX16_commit_64 (by decide) ?_
      refine wp_cV (y' := m_X16_goesOn) 17 [vi (nI t), vi (nI r), vi (nI 1)] [] 0 0 dX16_commit_65 ml_X16_325 im_X16_goesOn se_X16_goesOn (by decide) hR.mk ok_X16_goesOn rfl (Nat.le_of_ble_eq_true rfl) rfl (Nat.le_of_ble_eq_true rfl) (d' := d - 1) (by omega) (Nat.zero_le _) (Nat.zero_le _) (c_X16_goesOn hR hB hP true (by omega) ht (by omega) (fun h1 hR2 hB3 hP4 hG5 hth6 => cont_ret ?_))
      have hG7 := hG.tr hG5
      refine wp_if_neB 74 dX16_commit_68 (by decide) (fun c_68 => ?_) (fun c_68 => ?_)
      · skip
        refine wp_iincN (a := r) (lv' := [(3, vi (nI (r + 1))), (2, vr (some (nm 6 t))), (0, vr (some (nm 1 0))), (1, vi (nI t))]) 1 dX16_commit_74 rfl (by decide) (by decide) rfl ?_
        refine wp_goto 41 dX16_commit_77 (by decide) ?_
        rw [eA3 c_58 c_68] at hs hk
        refine wp_sub [(3, vi (nI (r + 1))), (2, vr (some (nm 6 t))), (0, vr (some (nm 1 0))), (1, vi (nI t))] (sb_cons (.head _) (sb_cons (.tail _ (.head _)) (sb_cons (.tail _ (.tail _ (.head _))) (sb_cons (.tail _ (.tail _ (.tail _ (.head _)))) sb_nil)))) ?_
        exact ih (r + 1) _ _ (by rw [gos_rn]; omega) hR2 hB3 hP4 hG7 (hth6.trans h0') hs hk
      · rw [eA2 c_58 c_68] at hs
        refine wp_bipush (nI 115) dX16_commit_71 (by decide) ?_
        refine wp_zreturn dX16_commit_73 rfl (pk_charN (by decide)).1 ?_
        exact hs _ rfl hR2 hP4 hG7 (hth6.trans h0')
