/-! The model: shared, areSame. -/
theorem bI_inj {a b : Bool} (h : bI a = bI b) : a = b := by revert h; cases a <;> cases b <;> simp [bI]
theorem bI_ne {a b : Bool} (h : ¬ bI a = bI b) : (a == b) = false := by revert h; cases a <;> cases b <;> simp [bI]
set_option maxRecDepth 100000 in
set_option maxHeartbeats 4000000 in
theorem l_X16_shared {G : GG} {d bc bs : Nat} {h : Hp} {Q : Pst} {m : Nat} {A : Nat → Nat} {S : SV} (hM : MP h m A S) (hS : SB S) {k k2 : Nat} (hk : k < 60) (hk2 : k2 < 60) (heq : slN S k = slN S k2) (hd : 4 ≤ d) (hq : Q (oRet (vi (nI (shN S k k2)))) h) : ∀ n s, n + s = slN S k → WP G m_X16_shared d 41 [(4, vi (nI s)), (3, vi (nI (sumN (fun s => if 0 < ndN S k s ∧ ndN S k s = ndN S k2 s then 1 else 0) s))), (0, vr (some m)), (1, vi (nI k)), (2, vi (nI k2))] [] h bc bs Q := by
  have hl := slN_le (S := S) (v := k)
  intro n
  induction n with
  | zero =>
    intro s hs
    have hs : s = slN S k := by omega
    subst hs
    have e : sumN (fun s => if 0 < ndN S k s ∧ ndN S k s = ndN S k2 s then 1 else 0) (slN S k) = shN S k k2 := by unfold shN; rw [if_pos heq]
    refine wp_iload (i := 4) dX16_shared_41 rfl ?_
    refine wp_aload_n (i := 0) dX16_shared_43 rfl rfl ?_
    refine wp_iload_n (i := 1) dX16_shared_44 rfl rfl ?_
    refine wp_cV (y' := m_X16_slots) 17 [vi (nI k)] [vi (nI (slN S k))] 0 0 dX16_shared_45 ml_X16_159 im_X16_slots se_X16_slots (by decide) hM.1.1 ok_X16_slots rfl (Nat.le_of_ble_eq_true rfl) rfl (Nat.le_of_ble_eq_true rfl) (d' := d - 1) (by omega) (Nat.zero_le _) (Nat.zero_le _) (c_X16_slots hM hS (by omega) (cont_ret ?_))
    refine wp_icmp_geN 105 dX16_shared_48 (by decide) (by omega) (by omega) (fun c_48 => ?_) (fun c_48 => absurd c_48 (by omega))
    refine wp_iload_n (i := 3) dX16_shared_105 rfl rfl ?_
    refine wp_ireturn dX16_shared_106 rfl ?_
    rw [e]
    exact hq
  | succ n ih =>
    intro s hs
    have hsl := slN_21 (S := S) (v := k) (s := s) (by omega)
    have hsl2 := slN_21 (S := S) (v := k2) (s := s) (by omega)
    have hsum := sum01 (f := (fun s => if 0 < ndN S k s ∧ ndN S k s = ndN S k2 s then 1 else 0)) (fun _ => by split <;> omega) s
    have hnd := ndN_le hS (v := k) (s := s)
    have hnd2 := ndN_le hS (v := k2) (s := s)
    refine wp_iload (i := 4) dX16_shared_41 rfl ?_
    refine wp_aload_n (i := 0) dX16_shared_43 rfl rfl ?_
    refine wp_iload_n (i := 1) dX16_shared_44 rfl rfl ?_
    refine wp_cV (y' := m_X16_slots) 17 [vi (nI k)] [vi (nI s)] 0 0 dX16_shared_45 ml_X16_159 im_X16_slots se_X16_slots (by decide) hM.1.1 ok_X16_slots rfl (Nat.le_of_ble_eq_true rfl) rfl (Nat.le_of_ble_eq_true rfl) (d' := d - 1) (by omega) (Nat.zero_le _) (Nat.zero_le _) (c_X16_slots hM hS (by omega) (cont_ret ?_))
    refine wp_icmp_geN 105 dX16_shared_48 (by decide) (by omega) (by omega) (fun c_48 => absurd c_48 (by omega)) (fun c_48 => ?_)
    refine wp_aload_n (i := 0) dX16_shared_51 rfl rfl ?_
    refine wp_iload_n (i := 1) dX16_shared_52 rfl rfl ?_
    refine wp_cV (y' := m_X16_slots) 17 [vi (nI k)] [] 0 0 dX16_shared_53 ml_X16_159 im_X16_slots se_X16_slots (by decide) hM.1.1 ok_X16_slots rfl (Nat.le_of_ble_eq_true rfl) rfl (Nat.le_of_ble_eq_true rfl) (d' := d - 1) (by omega) (Nat.zero_le _) (Nat.zero_le _) (c_X16_slots hM hS (by omega) (cont_ret ?_))
    refine wp_aload_n (i := 0) dX16_shared_56 rfl rfl ?_
    refine wp_iload_n (i := 2) dX16_shared_57 rfl rfl ?_
    refine wp_cV (y' := m_X16_slots) 17 [vi (nI k2)] [vi (nI (slN S k))] 0 0 dX16_shared_58 ml_X16_159 im_X16_slots se_X16_slots (by decide) hM.1.1 ok_X16_slots rfl (Nat.le_of_ble_eq_true rfl) rfl (Nat.le_of_ble_eq_true rfl) (d' := d - 1) (by omega) (Nat.zero_le _) (Nat.zero_le _) (c_X16_slots hM hS (by omega) (cont_ret ?_))
    refine wp_icmp_neN 105 dX16_shared_61 (by decide) (by omega) (by omega) (fun c_61 => absurd c_61 (by omega)) (fun c_61 => ?_)
    refine wp_iload_n (i := 3) dX16_shared_64 rfl rfl ?_
    refine wp_aload_n (i := 0) dX16_shared_65 rfl rfl ?_
    refine wp_iload_n (i := 1) dX16_shared_66 rfl rfl ?_
    refine wp_iload (i := 4) dX16_shared_67 rfl ?_
    refine wp_cV (y' := m_X16_nodeAt) 17 [vi (nI k), vi (nI s)] [vi (nI (sumN (fun s => if 0 < ndN S k s ∧ ndN S k s = ndN S k2 s then 1 else 0) s))] 0 0 dX16_shared_69 ml_X16_162 im_X16_nodeAt se_X16_nodeAt (by decide) hM.1.1 ok_X16_nodeAt rfl (Nat.le_of_ble_eq_true rfl) rfl (Nat.le_of_ble_eq_true rfl) (d' := d - 1) (by omega) (Nat.zero_le _) (Nat.zero_le _) (c_X16_nodeAt hM hS (by omega) (by omega) hsl (cont_ret ?_))
    refine wp_if_leN 96 dX16_shared_72 (by decide) (by omega) (fun c_72 => ?_) (fun c_72 => ?_)
    · skip
      refine wp_iconst (nI 0) dX16_shared_96 (by decide) ?_
      refine wp_iaddN dX16_shared_97 ?_
      refine wp_istore_n (i := 3) (lv' := [(3, vi (nI ((sumN (fun s => if 0 < ndN S k s ∧ ndN S k s = ndN S k2 s then 1 else 0) s) + 0))), (4, vi (nI s)), (0, vr (some m)), (1, vi (nI k)), (2, vi (nI k2))]) dX16_shared_98 rfl (by decide) rfl ?_
      refine wp_iincN (a := s) (lv' := [(4, vi (nI (s + 1))), (3, vi (nI ((sumN (fun s => if 0 < ndN S k s ∧ ndN S k s = ndN S k2 s then 1 else 0) s) + 0))), (0, vr (some m)), (1, vi (nI k)), (2, vi (nI k2))]) 1 dX16_shared_99 rfl (by decide) (by decide) rfl ?_
      refine wp_goto 41 dX16_shared_102 (by decide) ?_
      refine wp_sub [(4, vi (nI (s + 1))), (3, vi (nI ((sumN (fun s => if 0 < ndN S k s ∧ ndN S k s = ndN S k2 s then 1 else 0) s) + 0))), (0, vr (some m)), (1, vi (nI k)), (2, vi (nI k2))] (sb_cons (.head _) (sb_cons (.tail _ (.head _)) (sb_cons (.tail _ (.tail _ (.head _))) (sb_cons (.tail _ (.tail _ (.tail _ (.head _)))) (sb_cons (.tail _ (.tail _ (.tail _ (.tail _ (.head _))))) sb_nil))))) ?_
      have e : sumN (fun s => if 0 < ndN S k s ∧ ndN S k s = ndN S k2 s then 1 else 0) (s + 1) = sumN (fun s => if 0 < ndN S k s ∧ ndN S k s = ndN S k2 s then 1 else 0) s + 0 := by rw [sumN]; congr 1; exact if_neg (fun z => by omega)
      exact e ▸ ih (s + 1) (by omega)
    · skip
      refine wp_aload_n (i := 0) dX16_shared_75 rfl rfl ?_
      refine wp_iload_n (i := 1) dX16_shared_76 rfl rfl ?_
      refine wp_iload (i := 4) dX16_shared_77 rfl ?_
      refine wp_cV (y' := m_X16_nodeAt) 17 [vi (nI k), vi (nI s)] [vi (nI (sumN (fun s => if 0 < ndN S k s ∧ ndN S k s = ndN S k2 s then 1 else 0) s))] 0 0 dX16_shared_79 ml_X16_162 im_X16_nodeAt se_X16_nodeAt (by decide) hM.1.1 ok_X16_nodeAt rfl (Nat.le_of_ble_eq_true rfl) rfl (Nat.le_of_ble_eq_true rfl) (d' := d - 1) (by omega) (Nat.zero_le _) (Nat.zero_le _) (c_X16_nodeAt hM hS (by omega) (by omega) hsl (cont_ret ?_))
      refine wp_aload_n (i := 0) dX16_shared_82 rfl rfl ?_
      refine wp_iload_n (i := 2) dX16_shared_83 rfl rfl ?_
      refine wp_iload (i := 4) dX16_shared_84 rfl ?_
      refine wp_cV (y' := m_X16_nodeAt) 17 [vi (nI k2), vi (nI s)] [vi (nI (ndN S k s)), vi (nI (sumN (fun s => if 0 < ndN S k s ∧ ndN S k s = ndN S k2 s then 1 else 0) s))] 0 0 dX16_shared_86 ml_X16_162 im_X16_nodeAt se_X16_nodeAt (by decide) hM.1.1 ok_X16_nodeAt rfl (Nat.le_of_ble_eq_true rfl) rfl (Nat.le_of_ble_eq_true rfl) (d' := d - 1) (by omega) (Nat.zero_le _) (Nat.zero_le _) (c_X16_nodeAt hM hS (by omega) (by omega) hsl2 (cont_ret ?_))
      refine wp_icmp_neN 96 dX16_shared_89 (by decide) (by omega) (by omega) (fun c_89 => ?_) (fun c_89 => ?_)
      · skip
        refine wp_iconst (nI 0) dX16_shared_96 (by decide) ?_
        refine wp_iaddN dX16_shared_97 ?_
        refine wp_istore_n (i := 3) (lv' := [(3, vi (nI ((sumN (fun s => if 0 < ndN S k s ∧ ndN S k s = ndN S k2 s then 1 else 0) s) + 0))), (4, vi (nI s)), (0, vr (some m)), (1, vi (nI k)), (2, vi (nI k2))]) dX16_shared_98 rfl (by decide) rfl ?_
        refine wp_iincN (a := s) (lv' := [(4, vi (nI (s + 1))), (3, vi (nI ((sumN (fun s => if 0 < ndN S k s ∧ ndN S k s = ndN S k2 s then 1 else 0) s) + 0))), (0, vr (some m)), (1, vi (nI k)), (2, vi (nI k2))]) 1 dX16_shared_99 rfl (by decide) (by decide) rfl ?_
        refine wp_goto 41 dX16_shared_102 (by decide) ?_
        refine wp_sub [(4, vi (nI (s + 1))), (3, vi (nI ((sumN (fun s => if 0 < ndN S k s ∧ ndN S k s = ndN S k2 s then 1 else 0) s) + 0))), (0, vr (some m)), (1, vi (nI k)), (2, vi (nI k2))] (sb_cons (.head _) (sb_cons (.tail _ (.head _)) (sb_cons (.tail _ (.tail _ (.head _))) (sb_cons (.tail _ (.tail _ (.tail _ (.head _)))) (sb_cons (.tail _ (.tail _ (.tail _ (.tail _ (.head _))))) sb_nil))))) ?_
        have e : sumN (fun s => if 0 < ndN S k s ∧ ndN S k s = ndN S k2 s then 1 else 0) (s + 1) = sumN (fun s => if 0 < ndN S k s ∧ ndN S k s = ndN S k2 s then 1 else 0) s + 0 := by rw [sumN]; congr 1; exact if_neg (fun z => by omega)
        exact e ▸ ih (s + 1) (by omega)
      · skip
        refine wp_iconst (nI 1) dX16_shared_92 (by decide) ?_
        refine wp_goto 97 dX16_shared_93 (by decide) ?_
        refine wp_iaddN dX16_shared_97 ?_
        refine wp_istore_n (i := 3) (lv' := [(3, vi (nI ((sumN (fun s => if 0 < ndN S k s ∧ ndN S k s = ndN S k2 s then 1 else 0) s) + 1))), (4, vi (nI s)), (0, vr (some m)), (1, vi (nI k)), (2, vi (nI k2))]) dX16_shared_98 rfl (by decide) rfl ?_
        refine wp_iincN (a := s) (lv' := [(4, vi (nI (s + 1))), (3, vi (nI ((sumN (fun s => if 0 < ndN S k s ∧ ndN S k s = ndN S k2 s then 1 else 0) s) + 1))), (0, vr (some m)), (1, vi (nI k)), (2, vi (nI k2))]) 1 dX16_shared_99 rfl (by decide) (by decide) rfl ?_
        refine wp_goto 41 dX16_shared_102 (by decide) ?_
        refine wp_sub [(4, vi (nI (s + 1))), (3, vi (nI ((sumN (fun s => if 0 < ndN S k s ∧ ndN S k s = ndN S k2 s then 1 else 0) s) + 1))), (0, vr (some m)), (1, vi (nI k)), (2, vi (nI k2))] (sb_cons (.head _) (sb_cons (.tail _ (.head _)) (sb_cons (.tail _ (.tail _ (.head _))) (sb_cons (.tail _ (.tail _ (.tail _ (.head _)))) (sb_cons (.tail _ (.tail _ (.tail _ (.tail _ (.head _))))) sb_nil))))) ?_
        have e : sumN (fun s => if 0 < ndN S k s ∧ ndN S k s = ndN S k2 s then 1 else 0) (s + 1) = sumN (fun s => if 0 < ndN S k s ∧ ndN S k s = ndN S k2 s then 1 else 0) s + 1 := by rw [sumN]; congr 1; exact if_pos ⟨by omega, by omega⟩
        exact e ▸ ih (s + 1) (by omega)
set_option maxRecDepth 100000 in
set_option maxHeartbeats 4000000 in
theorem c_X16_shared {G : GG} {d bc bs : Nat} {h : Hp} {Q : Pst} {m : Nat} {A : Nat → Nat} {S : SV} (hM : MP h m A S) (hS : SB S) {v : Int32} {k : Nat} (hv : ixB v (sNv S) = true → v = nI k ∧ k < sNv S) {v2 : Int32} {k2 : Nat} (hv2 : ixB v2 (sNv S) = true → v2 = nI k2 ∧ k2 < sNv S) (hd : 7 ≤ d) (hq : PO Q h m A (o_shared S v k v2 k2)) : WP G m_X16_shared d 0 (aargs 0 [vr (some m), vi v, vi v2]) [] h bc bs Q := by
  refine wp_sub [(0, vr (some m)), (1, vi v), (2, vi v2)] (fun _ hz => hz) ?_
  have hnv := hS.1
  refine wp_aload_n (i := 0) dX16_shared_0 rfl rfl ?_
  refine wp_iconst (nI 0) dX16_shared_1 (by decide) ?_
  refine wp_putI 17 0 dX16_shared_2 hM.1.1 (by decide) (by decide) (by decide) fl_X16_63 rfl (fun _ _ => rfl) rfl rfl ?_
  have hM1 := hM.w0 (x := (nI 0))
  refine wp_aload_n (i := 0) dX16_shared_5 rfl rfl ?_
  refine wp_aload_n (i := 0) dX16_shared_6 rfl rfl ?_
  refine wp_iload_n (i := 1) dX16_shared_7 rfl rfl ?_
  refine wp_cV (y' := m_X16_noValue) 17 [vi v] [vr (some m)] 0 0 dX16_shared_8 ml_X16_114 im_X16_noValue se_X16_noValue (by decide) hM1.1.1 ok_X16_noValue rfl (Nat.le_of_ble_eq_true rfl) rfl (Nat.le_of_ble_eq_true rfl) (d' := d - 1) (by omega) (Nat.zero_le _) (Nat.zero_le _) (c_X16_noValue hM1 hS v (by omega) (cont_ret ?_))
  refine wp_if_neB 22 dX16_shared_11 (by decide) (fun c_11 => ?_) (fun c_11 => ?_)
  · skip
    refine wp_iconst (nI 1) dX16_shared_22 (by decide) ?_
    refine wp_goto 27 dX16_shared_23 (by decide) ?_
    refine wp_iconst (nI 1) dX16_shared_27 (by decide) ?_
    refine wp_cV (y' := m_X16_fails) 17 [vi (nI 1), vi (nI 1)] [] 0 0 dX16_shared_28 ml_X16_102 im_X16_fails se_X16_fails (by decide) hM1.1.1 ok_X16_fails rfl (Nat.le_of_ble_eq_true rfl) rfl (Nat.le_of_ble_eq_true rfl) (d' := d - 1) (by omega) (Nat.zero_le _) (Nat.zero_le _) (c_X16_failsT hM1 hS wI_ss (nI 1) (by decide) (cont_ret ?_))
    have hM2 := hM1.w0 (x := nI 1)
    refine wp_if_eqN 36 dX16_shared_31 (by decide) (by decide) (fun c_31 => absurd c_31 (by decide)) (fun c_31 => ?_)
    refine wp_iconst (nI 0) dX16_shared_34 (by decide) ?_
    refine wp_ireturn dX16_shared_35 rfl ?_
    rw [show o_shared S v k v2 k2 = (nI 1, nI 0, S) from by unfold o_shared; rw [if_pos (show (ixB v (sNv S) && ixB v2 (sNv S)) = false from by first | (rw [show ixB v (sNv S) = false from by revert c_11; cases ixB v (sNv S) <;> simp]; rfl) | (rw [show ixB v2 (sNv S) = false from by revert c_19; cases ixB v2 (sNv S) <;> simp, Bool.and_false]))]] at hq
    exact hq _ ((IB.w mW_m).tr (IB.w mW_m)) wI_ss hM2
  · have b_1 : ixB v (sNv S) = true := nt_f c_11
    obtain ⟨ev, hk⟩ := hv b_1
    subst ev
    refine wp_aload_n (i := 0) dX16_shared_14 rfl rfl ?_
    refine wp_iload_n (i := 2) dX16_shared_15 rfl rfl ?_
    refine wp_cV (y' := m_X16_noValue) 17 [vi v2] [vr (some m)] 0 0 dX16_shared_16 ml_X16_114 im_X16_noValue se_X16_noValue (by decide) hM1.1.1 ok_X16_noValue rfl (Nat.le_of_ble_eq_true rfl) rfl (Nat.le_of_ble_eq_true rfl) (d' := d - 1) (by omega) (Nat.zero_le _) (Nat.zero_le _) (c_X16_noValue hM1 hS v2 (by omega) (cont_ret ?_))
    refine wp_if_eqB 26 dX16_shared_19 (by decide) (fun c_19 => ?_) (fun c_19 => ?_)
    · have b_2 : ixB v2 (sNv S) = true := nt_f c_19
      obtain ⟨ew, hk2⟩ := hv2 b_2
      subst ew
      refine wp_iconst (nI 0) dX16_shared_26 (by decide) ?_
      refine wp_iconst (nI 1) dX16_shared_27 (by decide) ?_
      refine wp_cV (y' := m_X16_fails) 17 [vi (nI 0), vi (nI 1)] [] 0 0 dX16_shared_28 ml_X16_102 im_X16_fails se_X16_fails (by decide) hM1.1.1 ok_X16_fails rfl (Nat.le_of_ble_eq_true rfl) rfl (Nat.le_of_ble_eq_true rfl) (d' := d - 1) (by omega) (Nat.zero_le _) (Nat.zero_le _) (c_X16_failsF hM1 hS wI_ss (nI 1) (by decide) (cont_ret ?_))
      skip
      refine wp_if_eqN 36 dX16_shared_31 (by decide) (by decide) (fun c_31 => ?_) (fun c_31 => absurd c_31 (by decide))
      refine wp_iconst (nI 0) dX16_shared_36 (by decide) ?_
      refine wp_istore_n (i := 3) (lv' := [(3, vi (nI 0)), (0, vr (some m)), (1, vi (nI k)), (2, vi (nI k2))]) dX16_shared_37 rfl (by decide) rfl ?_
      refine wp_iconst (nI 0) dX16_shared_38 (by decide) ?_
      refine wp_istore (i := 4) (lv' := [(4, vi (nI 0)), (3, vi (nI 0)), (0, vr (some m)), (1, vi (nI k)), (2, vi (nI k2))]) dX16_shared_39 (by decide) rfl ?_
      rw [show o_shared S (nI k) k (nI k2) k2 = (nI 0, nI (shN S k k2), S) from by unfold o_shared; rw [if_neg (fun z => Bool.false_ne_true (z.symm.trans (show (ixB (nI k) (sNv S) && ixB (nI k2) (sNv S)) = true from by rw [b_1, b_2]; rfl)))]] at hq
      have hq1 : Q (oRet (vi (nI (shN S k k2)))) _ := hq _ (IB.w mW_m) wI_ss hM1
      by_cases heq : slN S k = slN S k2
      · refine wp_sub [(4, vi (nI 0)), (3, vi (nI 0)), (0, vr (some m)), (1, vi (nI k)), (2, vi (nI k2))] (sb_cons (.head _) (sb_cons (.tail _ (.head _)) (sb_cons (.tail _ (.tail _ (.head _))) (sb_cons (.tail _ (.tail _ (.tail _ (.head _)))) (sb_cons (.tail _ (.tail _ (.tail _ (.tail _ (.head _))))) sb_nil))))) ?_
        exact l_X16_shared hM1 hS (by omega) (by omega) heq (by omega) hq1 (slN S k) 0 rfl
      · have h21 : 21 ≤ slN S k := by unfold slN; split <;> omega
        refine wp_iload (i := 4) dX16_shared_41 rfl ?_
        refine wp_aload_n (i := 0) dX16_shared_43 rfl rfl ?_
        refine wp_iload_n (i := 1) dX16_shared_44 rfl rfl ?_
        refine wp_cV (y' := m_X16_slots) 17 [vi (nI k)] [vi (nI 0)] 0 0 dX16_shared_45 ml_X16_159 im_X16_slots se_X16_slots (by decide) hM1.1.1 ok_X16_slots rfl (Nat.le_of_ble_eq_true rfl) rfl (Nat.le_of_ble_eq_true rfl) (d' := d - 1) (by omega) (Nat.zero_le _) (Nat.zero_le _) (c_X16_slots hM1 hS (by omega) (cont_ret ?_))
        refine wp_icmp_geN 105 dX16_shared_48 (by decide) (by decide) (by have := slN_le (S := S) (v := k); omega) (fun c_48 => absurd c_48 (by omega)) (fun c_48 => ?_)
        refine wp_aload_n (i := 0) dX16_shared_51 rfl rfl ?_
        refine wp_iload_n (i := 1) dX16_shared_52 rfl rfl ?_
        refine wp_cV (y' := m_X16_slots) 17 [vi (nI k)] [] 0 0 dX16_shared_53 ml_X16_159 im_X16_slots se_X16_slots (by decide) hM1.1.1 ok_X16_slots rfl (Nat.le_of_ble_eq_true rfl) rfl (Nat.le_of_ble_eq_true rfl) (d' := d - 1) (by omega) (Nat.zero_le _) (Nat.zero_le _) (c_X16_slots hM1 hS (by omega) (cont_ret ?_))
        refine wp_aload_n (i := 0) dX16_shared_56 rfl rfl ?_
        refine wp_iload_n (i := 2) dX16_shared_57 rfl rfl ?_
        refine wp_cV (y' := m_X16_slots) 17 [vi (nI k2)] [vi (nI (slN S k))] 0 0 dX16_shared_58 ml_X16_159 im_X16_slots se_X16_slots (by decide) hM1.1.1 ok_X16_slots rfl (Nat.le_of_ble_eq_true rfl) rfl (Nat.le_of_ble_eq_true rfl) (d' := d - 1) (by omega) (Nat.zero_le _) (Nat.zero_le _) (c_X16_slots hM1 hS (by omega) (cont_ret ?_))
        refine wp_icmp_neN 105 dX16_shared_61 (by decide) (by have := slN_le (S := S) (v := k); omega) (by have := slN_le (S := S) (v := k2); omega) (fun c_61 => ?_) (fun c_61 => absurd c_61 (fun z => heq z))
        refine wp_iload_n (i := 3) dX16_shared_105 rfl rfl ?_
        refine wp_ireturn dX16_shared_106 rfl ?_
        rw [show shN S k k2 = 0 from by unfold shN; rw [if_neg heq]; rfl] at hq1
        exact hq1
    · skip
      refine wp_iconst (nI 1) dX16_shared_22 (by decide) ?_
      refine wp_goto 27 dX16_shared_23 (by decide) ?_
      refine wp_iconst (nI 1) dX16_shared_27 (by decide) ?_
      refine wp_cV (y' := m_X16_fails) 17 [vi (nI 1), vi (nI 1)] [] 0 0 dX16_shared_28 ml_X16_102 im_X16_fails se_X16_fails (by decide) hM1.1.1 ok_X16_fails rfl (Nat.le_of_ble_eq_true rfl) rfl (Nat.le_of_ble_eq_true rfl) (d' := d - 1) (by omega) (Nat.zero_le _) (Nat.zero_le _) (c_X16_failsT hM1 hS wI_ss (nI 1) (by decide) (cont_ret ?_))
      have hM4 := hM1.w0 (x := nI 1)
      refine wp_if_eqN 36 dX16_shared_31 (by decide) (by decide) (fun c_31 => absurd c_31 (by decide)) (fun c_31 => ?_)
      refine wp_iconst (nI 0) dX16_shared_34 (by decide) ?_
      refine wp_ireturn dX16_shared_35 rfl ?_
      rw [show o_shared S (nI k) k v2 k2 = (nI 1, nI 0, S) from by unfold o_shared; rw [if_pos (show (ixB (nI k) (sNv S) && ixB v2 (sNv S)) = false from by first | (rw [show ixB v (sNv S) = false from by revert c_11; cases ixB v (sNv S) <;> simp]; rfl) | (rw [show ixB v2 (sNv S) = false from by revert c_19; cases ixB v2 (sNv S) <;> simp, Bool.and_false]))]] at hq
      exact hq _ ((IB.w mW_m).tr (IB.w mW_m)) wI_ss hM4
set_option maxRecDepth 100000 in
set_option maxHeartbeats 4000000 in
theorem l_X16_areSameM {G : GG} {d bc bs : Nat} {h : Hp} {Q : Pst} {m : Nat} {A : Nat → Nat} {S : SV} (hM : MP h m A S) (hS : SB S) {k k2 : Nat} (hk : k < 60) (hk2 : k2 < 60) (hm : sTy S k = 109) (hd : 4 ≤ d) (hq : Q (oRet (vi (bI (smA S k k2 1000)))) h) : ∀ n j, n + j = 1000 → WP G m_X16_areSame d 126 [(4, vi (nI j)), (3, vi (bI (smA S k k2 j))), (0, vr (some m)), (1, vi (nI k)), (2, vi (nI k2))] [] h bc bs Q := by
  have hz := hS.2.2.2.1 k
  intro n
  induction n with
  | zero =>
    intro j hj
    have hj : j = 1000 := by omega
    subst hj
    refine wp_iload (i := 4) dX16_areSame_126 rfl ?_
    refine wp_aload_n (i := 0) dX16_areSame_128 rfl rfl ?_
    refine wp_get 17 3 (vr (some (A 3))) dX16_areSame_129 hM.1.1 (by decide) (by decide) fl_X16_7 (congrArg (fun z => toV (vr z)) (hM.1.r 3 (by decide) (by decide) (by decide) (by decide))) ?_
    refine wp_iload_n (i := 1) dX16_areSame_132 rfl rfl ?_
    refine wp_caloadN 60 (nI (sTy S k)) dX16_areSame_133 (hM.1.k 3 (by decide) (by decide) (by decide) (by decide)) (hM.1.n 3 (by decide) (by decide) (by decide)) (by omega) (by decide) (hM.2.2.2.1 k) ?_
    refine wp_bipush (nI 109) dX16_areSame_134 (by decide) ?_
    refine wp_icmp_neN 145 dX16_areSame_136 (by decide) (ty_bd hS k) (by decide) (fun c_136 => absurd c_136 (fun z => z hm)) (fun c_136 => ?_)
    refine wp_sipush (nI 1000) dX16_areSame_139 (by decide) ?_
    refine wp_goto 151 dX16_areSame_142 (by decide) ?_
    refine wp_icmp_geN 257 dX16_areSame_151 (by decide) (by decide) (by decide) (fun c_151 => ?_) (fun c_151 => absurd c_151 (by decide))
    refine wp_iload_n (i := 3) dX16_areSame_257 rfl rfl ?_
    refine wp_zreturn dX16_areSame_258 rfl (nar_z (bI_z _)) ?_
    exact hq
  | succ n ih =>
    intro j hj
    refine wp_iload (i := 4) dX16_areSame_126 rfl ?_
    refine wp_aload_n (i := 0) dX16_areSame_128 rfl rfl ?_
    refine wp_get 17 3 (vr (some (A 3))) dX16_areSame_129 hM.1.1 (by decide) (by decide) fl_X16_7 (congrArg (fun z => toV (vr z)) (hM.1.r 3 (by decide) (by decide) (by decide) (by decide))) ?_
    refine wp_iload_n (i := 1) dX16_areSame_132 rfl rfl ?_
    refine wp_caloadN 60 (nI (sTy S k)) dX16_areSame_133 (hM.1.k 3 (by decide) (by decide) (by decide) (by decide)) (hM.1.n 3 (by decide) (by decide) (by decide)) (by omega) (by decide) (hM.2.2.2.1 k) ?_
    refine wp_bipush (nI 109) dX16_areSame_134 (by decide) ?_
    refine wp_icmp_neN 145 dX16_areSame_136 (by decide) (ty_bd hS k) (by decide) (fun c_136 => absurd c_136 (fun z => z hm)) (fun c_136 => ?_)
    refine wp_sipush (nI 1000) dX16_areSame_139 (by decide) ?_
    refine wp_goto 151 dX16_areSame_142 (by decide) ?_
    refine wp_icmp_geN 257 dX16_areSame_151 (by decide) (by omega) (by decide) (fun c_151 => absurd c_151 (by omega)) (fun c_151 => ?_)
    refine wp_iload_n (i := 3) dX16_areSame_154 rfl rfl ?_
    refine wp_if_eqB 249 dX16_areSame_155 (by decide) (fun c_155 => ?_) (fun c_155 => ?_)
    · skip
      refine wp_iconst (nI 0) dX16_areSame_249 (by decide) ?_
      refine wp_istore_n (i := 3) (lv' := [(3, vi (nI 0)), (4, vi (nI j)), (0, vr (some m)), (1, vi (nI k)), (2, vi (nI k2))]) dX16_areSame_250 rfl (by decide) rfl ?_
      refine wp_iincN (a := j) (lv' := [(4, vi (nI (j + 1))), (3, vi (nI 0)), (0, vr (some m)), (1, vi (nI k)), (2, vi (nI k2))]) 1 dX16_areSame_251 rfl (by decide) (by decide) rfl ?_
      refine wp_goto 126 dX16_areSame_254 (by decide) ?_
      refine wp_sub [(4, vi (nI (j + 1))), (3, vi (nI 0)), (0, vr (some m)), (1, vi (nI k)), (2, vi (nI k2))] (sb_cons (.head _) (sb_cons (.tail _ (.head _)) (sb_cons (.tail _ (.tail _ (.head _))) (sb_cons (.tail _ (.tail _ (.tail _ (.head _)))) (sb_cons (.tail _ (.tail _ (.tail _ (.tail _ (.head _))))) sb_nil))))) ?_
      have e : smA S k k2 (j + 1) = false := by rw [smA, c_155, Bool.false_and]
      have ih2 := ih (j + 1) (by omega)
      rw [e] at ih2
      exact ih2
    · skip
      refine wp_aload_n (i := 0) dX16_areSame_158 rfl rfl ?_
      refine wp_iload_n (i := 1) dX16_areSame_159 rfl rfl ?_
      refine wp_iload (i := 4) dX16_areSame_160 rfl ?_
      refine wp_cV (y' := m_X16_hasAt) 17 [vi (nI k), vi (nI j)] [] 0 0 dX16_areSame_162 ml_X16_153 im_X16_hasAt se_X16_hasAt (by decide) hM.1.1 ok_X16_hasAt rfl (Nat.le_of_ble_eq_true rfl) rfl (Nat.le_of_ble_eq_true rfl) (d' := d - 1) (by omega) (Nat.zero_le _) (Nat.zero_le _) (c_X16_hasAt hM hS (by omega) (u := (nI j)) (j := j) (fun _ => ⟨rfl, by omega⟩) (by omega) (cont_ret ?_))
      refine wp_aload_n (i := 0) dX16_areSame_165 rfl rfl ?_
      refine wp_iload_n (i := 2) dX16_areSame_166 rfl rfl ?_
      refine wp_iload (i := 4) dX16_areSame_167 rfl ?_
      refine wp_cV (y' := m_X16_hasAt) 17 [vi (nI k2), vi (nI j)] [vi (bI (hasB S k (nI j) j))] 0 0 dX16_areSame_169 ml_X16_153 im_X16_hasAt se_X16_hasAt (by decide) hM.1.1 ok_X16_hasAt rfl (Nat.le_of_ble_eq_true rfl) rfl (Nat.le_of_ble_eq_true rfl) (d' := d - 1) (by omega) (Nat.zero_le _) (Nat.zero_le _) (c_X16_hasAt hM hS (by omega) (u := (nI j)) (j := j) (fun _ => ⟨rfl, by omega⟩) (by omega) (cont_ret ?_))
      refine wp_icmp_ne 249 dX16_areSame_172 (by decide) (fun c_172 => ?_) (fun c_172 => ?_)
      · have d_172 := bI_ne c_172
        refine wp_iconst (nI 0) dX16_areSame_249 (by decide) ?_
        refine wp_istore_n (i := 3) (lv' := [(3, vi (nI 0)), (4, vi (nI j)), (0, vr (some m)), (1, vi (nI k)), (2, vi (nI k2))]) dX16_areSame_250 rfl (by decide) rfl ?_
        refine wp_iincN (a := j) (lv' := [(4, vi (nI (j + 1))), (3, vi (nI 0)), (0, vr (some m)), (1, vi (nI k)), (2, vi (nI k2))]) 1 dX16_areSame_251 rfl (by decide) (by decide) rfl ?_
        refine wp_goto 126 dX16_areSame_254 (by decide) ?_
        refine wp_sub [(4, vi (nI (j + 1))), (3, vi (nI 0)), (0, vr (some m)), (1, vi (nI k)), (2, vi (nI k2))] (sb_cons (.head _) (sb_cons (.tail _ (.head _)) (sb_cons (.tail _ (.tail _ (.head _))) (sb_cons (.tail _ (.tail _ (.tail _ (.head _)))) (sb_cons (.tail _ (.tail _ (.tail _ (.tail _ (.head _))))) sb_nil))))) ?_
        have e : smA S k k2 (j + 1) = false := by rw [smA, c_155, smK, d_172, Bool.false_and, Bool.and_false]
        have ih2 := ih (j + 1) (by omega)
        rw [e] at ih2
        exact ih2
      · have c_172 := bI_inj c_172
        refine wp_aload_n (i := 0) dX16_areSame_175 rfl rfl ?_
        refine wp_get 17 3 (vr (some (A 3))) dX16_areSame_176 hM.1.1 (by decide) (by decide) fl_X16_7 (congrArg (fun z => toV (vr z)) (hM.1.r 3 (by decide) (by decide) (by decide) (by decide))) ?_
        refine wp_iload_n (i := 1) dX16_areSame_179 rfl rfl ?_
        refine wp_caloadN 60 (nI (sTy S k)) dX16_areSame_180 (hM.1.k 3 (by decide) (by decide) (by decide) (by decide)) (hM.1.n 3 (by decide) (by decide) (by decide)) (by omega) (by decide) (hM.2.2.2.1 k) ?_
        refine wp_bipush (nI 109) dX16_areSame_181 (by decide) ?_
        refine wp_icmp_neN 218 dX16_areSame_183 (by decide) (ty_bd hS k) (by decide) (fun c_183 => absurd c_183 (fun z => z hm)) (fun c_183 => ?_)
        refine wp_aload_n (i := 0) dX16_areSame_186 rfl rfl ?_
        refine wp_get 17 9 (vr (some (A 9))) dX16_areSame_187 hM.1.1 (by decide) (by decide) fl_X16_31 (congrArg (fun z => toV (vr z)) (hM.1.r 9 (by decide) (by decide) (by decide) (by decide))) ?_
        refine wp_sipush (nI 1000) dX16_areSame_190 (by decide) ?_
        refine wp_iload_n (i := 1) dX16_areSame_193 rfl rfl ?_
        refine wp_imulN dX16_areSame_194 ?_
        refine wp_iload (i := 4) dX16_areSame_195 rfl ?_
        refine wp_iaddN dX16_areSame_197 ?_
        refine wp_ialoadN 60000 (sOf S ((1000 * k) + j)) dX16_areSame_198 (hM.1.k 9 (by decide) (by decide) (by decide) (by decide)) (hM.1.n 9 (by decide) (by decide) (by decide)) (by omega) (by decide) (hM.2.2.2.2.2.2.2.2.2.1 ((1000 * k) + j)) ?_
        refine wp_aload_n (i := 0) dX16_areSame_199 rfl rfl ?_
        refine wp_get 17 9 (vr (some (A 9))) dX16_areSame_200 hM.1.1 (by decide) (by decide) fl_X16_31 (congrArg (fun z => toV (vr z)) (hM.1.r 9 (by decide) (by decide) (by decide) (by decide))) ?_
        refine wp_sipush (nI 1000) dX16_areSame_203 (by decide) ?_
        refine wp_iload_n (i := 2) dX16_areSame_206 rfl rfl ?_
        refine wp_imulN dX16_areSame_207 ?_
        refine wp_iload (i := 4) dX16_areSame_208 rfl ?_
        refine wp_iaddN dX16_areSame_210 ?_
        refine wp_ialoadN 60000 (sOf S ((1000 * k2) + j)) dX16_areSame_211 (hM.1.k 9 (by decide) (by decide) (by decide) (by decide)) (hM.1.n 9 (by decide) (by decide) (by decide)) (by omega) (by decide) (hM.2.2.2.2.2.2.2.2.2.1 ((1000 * k2) + j)) ?_
        refine wp_icmp_ne 249 dX16_areSame_212 (by decide) (fun c_212 => ?_) (fun c_212 => ?_)
        · skip
          refine wp_iconst (nI 0) dX16_areSame_249 (by decide) ?_
          refine wp_istore_n (i := 3) (lv' := [(3, vi (nI 0)), (4, vi (nI j)), (0, vr (some m)), (1, vi (nI k)), (2, vi (nI k2))]) dX16_areSame_250 rfl (by decide) rfl ?_
          refine wp_iincN (a := j) (lv' := [(4, vi (nI (j + 1))), (3, vi (nI 0)), (0, vr (some m)), (1, vi (nI k)), (2, vi (nI k2))]) 1 dX16_areSame_251 rfl (by decide) (by decide) rfl ?_
          refine wp_goto 126 dX16_areSame_254 (by decide) ?_
          refine wp_sub [(4, vi (nI (j + 1))), (3, vi (nI 0)), (0, vr (some m)), (1, vi (nI k)), (2, vi (nI k2))] (sb_cons (.head _) (sb_cons (.tail _ (.head _)) (sb_cons (.tail _ (.tail _ (.head _))) (sb_cons (.tail _ (.tail _ (.tail _ (.head _)))) (sb_cons (.tail _ (.tail _ (.tail _ (.tail _ (.head _))))) sb_nil))))) ?_
          have e : smA S k k2 (j + 1) = false := by rw [smA, c_155, smK, c_172, beq_self_eq_true, if_pos hm, decide_eq_false c_212]; rfl
          have ih2 := ih (j + 1) (by omega)
          rw [e] at ih2
          exact ih2
        · skip
          refine wp_goto 245 dX16_areSame_215 (by decide) ?_
          refine wp_iconst (nI 1) dX16_areSame_245 (by decide) ?_
          refine wp_goto 250 dX16_areSame_246 (by decide) ?_
          refine wp_istore_n (i := 3) (lv' := [(3, vi (nI 1)), (4, vi (nI j)), (0, vr (some m)), (1, vi (nI k)), (2, vi (nI k2))]) dX16_areSame_250 rfl (by decide) rfl ?_
          refine wp_iincN (a := j) (lv' := [(4, vi (nI (j + 1))), (3, vi (nI 1)), (0, vr (some m)), (1, vi (nI k)), (2, vi (nI k2))]) 1 dX16_areSame_251 rfl (by decide) (by decide) rfl ?_
          refine wp_goto 126 dX16_areSame_254 (by decide) ?_
          refine wp_sub [(4, vi (nI (j + 1))), (3, vi (nI 1)), (0, vr (some m)), (1, vi (nI k)), (2, vi (nI k2))] (sb_cons (.head _) (sb_cons (.tail _ (.head _)) (sb_cons (.tail _ (.tail _ (.head _))) (sb_cons (.tail _ (.tail _ (.tail _ (.head _)))) (sb_cons (.tail _ (.tail _ (.tail _ (.tail _ (.head _))))) sb_nil))))) ?_
          have e : smA S k k2 (j + 1) = true := by rw [smA, c_155, smK, c_172, beq_self_eq_true, if_pos hm, decide_eq_true (c_212)]; rfl
          have ih2 := ih (j + 1) (by omega)
          rw [e] at ih2
          exact ih2
set_option maxRecDepth 100000 in
set_option maxHeartbeats 4000000 in
theorem l_X16_areSameV {G : GG} {d bc bs : Nat} {h : Hp} {Q : Pst} {m : Nat} {A : Nat → Nat} {S : SV} (hM : MP h m A S) (hS : SB S) {k k2 : Nat} (hk : k < 60) (hk2 : k2 < 60) (hm : sTy S k ≠ 109) (hd : 4 ≤ d) (hq : Q (oRet (vi (bI (smA S k k2 (sSz S k))))) h) : ∀ n j, n + j = (sSz S k) → WP G m_X16_areSame d 126 [(4, vi (nI j)), (3, vi (bI (smA S k k2 j))), (0, vr (some m)), (1, vi (nI k)), (2, vi (nI k2))] [] h bc bs Q := by
  have hz := hS.2.2.2.1 k
  intro n
  induction n with
  | zero =>
    intro j hj
    have hj : j = (sSz S k) := by omega
    subst hj
    refine wp_iload (i := 4) dX16_areSame_126 rfl ?_
    refine wp_aload_n (i := 0) dX16_areSame_128 rfl rfl ?_
    refine wp_get 17 3 (vr (some (A 3))) dX16_areSame_129 hM.1.1 (by decide) (by decide) fl_X16_7 (congrArg (fun z => toV (vr z)) (hM.1.r 3 (by decide) (by decide) (by decide) (by decide))) ?_
    refine wp_iload_n (i := 1) dX16_areSame_132 rfl rfl ?_
    refine wp_caloadN 60 (nI (sTy S k)) dX16_areSame_133 (hM.1.k 3 (by decide) (by decide) (by decide) (by decide)) (hM.1.n 3 (by decide) (by decide) (by decide)) (by omega) (by decide) (hM.2.2.2.1 k) ?_
    refine wp_bipush (nI 109) dX16_areSame_134 (by decide) ?_
    refine wp_icmp_neN 145 dX16_areSame_136 (by decide) (ty_bd hS k) (by decide) (fun c_136 => ?_) (fun c_136 => absurd c_136 (fun z => hm z))
    refine wp_aload_n (i := 0) dX16_areSame_145 rfl rfl ?_
    refine wp_get 17 4 (vr (some (A 4))) dX16_areSame_146 hM.1.1 (by decide) (by decide) fl_X16_13 (congrArg (fun z => toV (vr z)) (hM.1.r 4 (by decide) (by decide) (by decide) (by decide))) ?_
    refine wp_iload_n (i := 1) dX16_areSame_149 rfl rfl ?_
    refine wp_ialoadN 60 (nI (sSz S k)) dX16_areSame_150 (hM.1.k 4 (by decide) (by decide) (by decide) (by decide)) (hM.1.n 4 (by decide) (by decide) (by decide)) (by omega) (by decide) (hM.2.2.2.2.1 k) ?_
    refine wp_icmp_geN 257 dX16_areSame_151 (by decide) (sz_bd hS k) (sz_bd hS k) (fun c_151 => ?_) (fun c_151 => absurd c_151 (by omega))
    refine wp_iload_n (i := 3) dX16_areSame_257 rfl rfl ?_
    refine wp_zreturn dX16_areSame_258 rfl (nar_z (bI_z _)) ?_
    exact hq
  | succ n ih =>
    intro j hj
    refine wp_iload (i := 4) dX16_areSame_126 rfl ?_
    refine wp_aload_n (i := 0) dX16_areSame_128 rfl rfl ?_
    refine wp_get 17 3 (vr (some (A 3))) dX16_areSame_129 hM.1.1 (by decide) (by decide) fl_X16_7 (congrArg (fun z => toV (vr z)) (hM.1.r 3 (by decide) (by decide) (by decide) (by decide))) ?_
    refine wp_iload_n (i := 1) dX16_areSame_132 rfl rfl ?_
    refine wp_caloadN 60 (nI (sTy S k)) dX16_areSame_133 (hM.1.k 3 (by decide) (by decide) (by decide) (by decide)) (hM.1.n 3 (by decide) (by decide) (by decide)) (by omega) (by decide) (hM.2.2.2.1 k) ?_
    refine wp_bipush (nI 109) dX16_areSame_134 (by decide) ?_
    refine wp_icmp_neN 145 dX16_areSame_136 (by decide) (ty_bd hS k) (by decide) (fun c_136 => ?_) (fun c_136 => absurd c_136 (fun z => hm z))
    refine wp_aload_n (i := 0) dX16_areSame_145 rfl rfl ?_
    refine wp_get 17 4 (vr (some (A 4))) dX16_areSame_146 hM.1.1 (by decide) (by decide) fl_X16_13 (congrArg (fun z => toV (vr z)) (hM.1.r 4 (by decide) (by decide) (by decide) (by decide))) ?_
    refine wp_iload_n (i := 1) dX16_areSame_149 rfl rfl ?_
    refine wp_ialoadN 60 (nI (sSz S k)) dX16_areSame_150 (hM.1.k 4 (by decide) (by decide) (by decide) (by decide)) (hM.1.n 4 (by decide) (by decide) (by decide)) (by omega) (by decide) (hM.2.2.2.2.1 k) ?_
    refine wp_icmp_geN 257 dX16_areSame_151 (by decide) (by omega) (sz_bd hS k) (fun c_151 => absurd c_151 (by omega)) (fun c_151 => ?_)
    refine wp_iload_n (i := 3) dX16_areSame_154 rfl rfl ?_
    refine wp_if_eqB 249 dX16_areSame_155 (by decide) (fun c_155 => ?_) (fun c_155 => ?_)
    · skip
      refine wp_iconst (nI 0) dX16_areSame_249 (by decide) ?_
      refine wp_istore_n (i := 3) (lv' := [(3, vi (nI 0)), (4, vi (nI j)), (0, vr (some m)), (1, vi (nI k)), (2, vi (nI k2))]) dX16_areSame_250 rfl (by decide) rfl ?_
      refine wp_iincN (a := j) (lv' := [(4, vi (nI (j + 1))), (3, vi (nI 0)), (0, vr (some m)), (1, vi (nI k)), (2, vi (nI k2))]) 1 dX16_areSame_251 rfl (by decide) (by decide) rfl ?_
      refine wp_goto 126 dX16_areSame_254 (by decide) ?_
      refine wp_sub [(4, vi (nI (j + 1))), (3, vi (nI 0)), (0, vr (some m)), (1, vi (nI k)), (2, vi (nI k2))] (sb_cons (.head _) (sb_cons (.tail _ (.head _)) (sb_cons (.tail _ (.tail _ (.head _))) (sb_cons (.tail _ (.tail _ (.tail _ (.head _)))) (sb_cons (.tail _ (.tail _ (.tail _ (.tail _ (.head _))))) sb_nil))))) ?_
      have e : smA S k k2 (j + 1) = false := by rw [smA, c_155, Bool.false_and]
      have ih2 := ih (j + 1) (by omega)
      rw [e] at ih2
      exact ih2
    · skip
      refine wp_aload_n (i := 0) dX16_areSame_158 rfl rfl ?_
      refine wp_iload_n (i := 1) dX16_areSame_159 rfl rfl ?_
      refine wp_iload (i := 4) dX16_areSame_160 rfl ?_
      refine wp_cV (y' := m_X16_hasAt) 17 [vi (nI k), vi (nI j)] [] 0 0 dX16_areSame_162 ml_X16_153 im_X16_hasAt se_X16_hasAt (by decide) hM.1.1 ok_X16_hasAt rfl (Nat.le_of_ble_eq_true rfl) rfl (Nat.le_of_ble_eq_true rfl) (d' := d - 1) (by omega) (Nat.zero_le _) (Nat.zero_le _) (c_X16_hasAt hM hS (by omega) (u := (nI j)) (j := j) (fun _ => ⟨rfl, by omega⟩) (by omega) (cont_ret ?_))
      refine wp_aload_n (i := 0) dX16_areSame_165 rfl rfl ?_
      refine wp_iload_n (i := 2) dX16_areSame_166 rfl rfl ?_
      refine wp_iload (i := 4) dX16_areSame_167 rfl ?_
      refine wp_cV (y' := m_X16_hasAt) 17 [vi (nI k2), vi (nI j)] [vi (bI (hasB S k (nI j) j))] 0 0 dX16_areSame_169 ml_X16_153 im_X16_hasAt se_X16_hasAt (by decide) hM.1.1 ok_X16_hasAt rfl (Nat.le_of_ble_eq_true rfl) rfl (Nat.le_of_ble_eq_true rfl) (d' := d - 1) (by omega) (Nat.zero_le _) (Nat.zero_le _) (c_X16_hasAt hM hS (by omega) (u := (nI j)) (j := j) (fun _ => ⟨rfl, by omega⟩) (by omega) (cont_ret ?_))
      refine wp_icmp_ne 249 dX16_areSame_172 (by decide) (fun c_172 => ?_) (fun c_172 => ?_)
      · have d_172 := bI_ne c_172
        refine wp_iconst (nI 0) dX16_areSame_249 (by decide) ?_
        refine wp_istore_n (i := 3) (lv' := [(3, vi (nI 0)), (4, vi (nI j)), (0, vr (some m)), (1, vi (nI k)), (2, vi (nI k2))]) dX16_areSame_250 rfl (by decide) rfl ?_
        refine wp_iincN (a := j) (lv' := [(4, vi (nI (j + 1))), (3, vi (nI 0)), (0, vr (some m)), (1, vi (nI k)), (2, vi (nI k2))]) 1 dX16_areSame_251 rfl (by decide) (by decide) rfl ?_
        refine wp_goto 126 dX16_areSame_254 (by decide) ?_
        refine wp_sub [(4, vi (nI (j + 1))), (3, vi (nI 0)), (0, vr (some m)), (1, vi (nI k)), (2, vi (nI k2))] (sb_cons (.head _) (sb_cons (.tail _ (.head _)) (sb_cons (.tail _ (.tail _ (.head _))) (sb_cons (.tail _ (.tail _ (.tail _ (.head _)))) (sb_cons (.tail _ (.tail _ (.tail _ (.tail _ (.head _))))) sb_nil))))) ?_
        have e : smA S k k2 (j + 1) = false := by rw [smA, c_155, smK, d_172, Bool.false_and, Bool.and_false]
        have ih2 := ih (j + 1) (by omega)
        rw [e] at ih2
        exact ih2
      · have c_172 := bI_inj c_172
        refine wp_aload_n (i := 0) dX16_areSame_175 rfl rfl ?_
        refine wp_get 17 3 (vr (some (A 3))) dX16_areSame_176 hM.1.1 (by decide) (by decide) fl_X16_7 (congrArg (fun z => toV (vr z)) (hM.1.r 3 (by decide) (by decide) (by decide) (by decide))) ?_
        refine wp_iload_n (i := 1) dX16_areSame_179 rfl rfl ?_
        refine wp_caloadN 60 (nI (sTy S k)) dX16_areSame_180 (hM.1.k 3 (by decide) (by decide) (by decide) (by decide)) (hM.1.n 3 (by decide) (by decide) (by decide)) (by omega) (by decide) (hM.2.2.2.1 k) ?_
        refine wp_bipush (nI 109) dX16_areSame_181 (by decide) ?_
        refine wp_icmp_neN 218 dX16_areSame_183 (by decide) (ty_bd hS k) (by decide) (fun c_183 => ?_) (fun c_183 => absurd c_183 (fun z => hm z))
        refine wp_aload_n (i := 0) dX16_areSame_218 rfl rfl ?_
        refine wp_get 17 5 (vr (some (A 5))) dX16_areSame_219 hM.1.1 (by decide) (by decide) fl_X16_17 (congrArg (fun z => toV (vr z)) (hM.1.r 5 (by decide) (by decide) (by decide) (by decide))) ?_
        refine wp_bipush (nI 64) dX16_areSame_222 (by decide) ?_
        refine wp_iload_n (i := 1) dX16_areSame_224 rfl rfl ?_
        refine wp_imulN dX16_areSame_225 ?_
        refine wp_iload (i := 4) dX16_areSame_226 rfl ?_
        refine wp_iaddN dX16_areSame_228 ?_
        refine wp_ialoadN 3840 (sEl S ((64 * k) + j)) dX16_areSame_229 (hM.1.k 5 (by decide) (by decide) (by decide) (by decide)) (hM.1.n 5 (by decide) (by decide) (by decide)) (by omega) (by decide) (hM.2.2.2.2.2.1 ((64 * k) + j)) ?_
        refine wp_aload_n (i := 0) dX16_areSame_230 rfl rfl ?_
        refine wp_get 17 5 (vr (some (A 5))) dX16_areSame_231 hM.1.1 (by decide) (by decide) fl_X16_17 (congrArg (fun z => toV (vr z)) (hM.1.r 5 (by decide) (by decide) (by decide) (by decide))) ?_
        refine wp_bipush (nI 64) dX16_areSame_234 (by decide) ?_
        refine wp_iload_n (i := 2) dX16_areSame_236 rfl rfl ?_
        refine wp_imulN dX16_areSame_237 ?_
        refine wp_iload (i := 4) dX16_areSame_238 rfl ?_
        refine wp_iaddN dX16_areSame_240 ?_
        refine wp_ialoadN 3840 (sEl S ((64 * k2) + j)) dX16_areSame_241 (hM.1.k 5 (by decide) (by decide) (by decide) (by decide)) (hM.1.n 5 (by decide) (by decide) (by decide)) (by omega) (by decide) (hM.2.2.2.2.2.1 ((64 * k2) + j)) ?_
        refine wp_icmp_ne 249 dX16_areSame_242 (by decide) (fun c_242 => ?_) (fun c_242 => ?_)
        · skip
          refine wp_iconst (nI 0) dX16_areSame_249 (by decide) ?_
          refine wp_istore_n (i := 3) (lv' := [(3, vi (nI 0)), (4, vi (nI j)), (0, vr (some m)), (1, vi (nI k)), (2, vi (nI k2))]) dX16_areSame_250 rfl (by decide) rfl ?_
          refine wp_iincN (a := j) (lv' := [(4, vi (nI (j + 1))), (3, vi (nI 0)), (0, vr (some m)), (1, vi (nI k)), (2, vi (nI k2))]) 1 dX16_areSame_251 rfl (by decide) (by decide) rfl ?_
          refine wp_goto 126 dX16_areSame_254 (by decide) ?_
          refine wp_sub [(4, vi (nI (j + 1))), (3, vi (nI 0)), (0, vr (some m)), (1, vi (nI k)), (2, vi (nI k2))] (sb_cons (.head _) (sb_cons (.tail _ (.head _)) (sb_cons (.tail _ (.tail _ (.head _))) (sb_cons (.tail _ (.tail _ (.tail _ (.head _)))) (sb_cons (.tail _ (.tail _ (.tail _ (.tail _ (.head _))))) sb_nil))))) ?_
          have e : smA S k k2 (j + 1) = false := by rw [smA, c_155, smK, c_172, beq_self_eq_true, if_neg hm, decide_eq_false c_242]; rfl
          have ih2 := ih (j + 1) (by omega)
          rw [e] at ih2
          exact ih2
        · skip
          refine wp_iconst (nI 1) dX16_areSame_245 (by decide) ?_
          refine wp_goto 250 dX16_areSame_246 (by decide) ?_
          refine wp_istore_n (i := 3) (lv' := [(3, vi (nI 1)), (4, vi (nI j)), (0, vr (some m)), (1, vi (nI k)), (2, vi (nI k2))]) dX16_areSame_250 rfl (by decide) rfl ?_
          refine wp_iincN (a := j) (lv' := [(4, vi (nI (j + 1))), (3, vi (nI 1)), (0, vr (some m)), (1, vi (nI k)), (2, vi (nI k2))]) 1 dX16_areSame_251 rfl (by decide) (by decide) rfl ?_
          refine wp_goto 126 dX16_areSame_254 (by decide) ?_
          refine wp_sub [(4, vi (nI (j + 1))), (3, vi (nI 1)), (0, vr (some m)), (1, vi (nI k)), (2, vi (nI k2))] (sb_cons (.head _) (sb_cons (.tail _ (.head _)) (sb_cons (.tail _ (.tail _ (.head _))) (sb_cons (.tail _ (.tail _ (.tail _ (.head _)))) (sb_cons (.tail _ (.tail _ (.tail _ (.tail _ (.head _))))) sb_nil))))) ?_
          have e : smA S k k2 (j + 1) = true := by rw [smA, c_155, smK, c_172, beq_self_eq_true, if_neg hm, decide_eq_true (c_242)]; rfl
          have ih2 := ih (j + 1) (by omega)
          rw [e] at ih2
          exact ih2
set_option maxRecDepth 100000 in
set_option maxHeartbeats 4000000 in
theorem c_X16_areSame {G : GG} {d bc bs : Nat} {h : Hp} {Q : Pst} {m : Nat} {A : Nat → Nat} {S : SV} (hM : MP h m A S) (hS : SB S) {v : Int32} {k : Nat} (hv : ixB v (sNv S) = true → v = nI k ∧ k < sNv S) {v2 : Int32} {k2 : Nat} (hv2 : ixB v2 (sNv S) = true → v2 = nI k2 ∧ k2 < sNv S) (hd : 7 ≤ d) (hq : PO Q h m A (o_areSame S v k v2 k2)) : WP G m_X16_areSame d 0 (aargs 0 [vr (some m), vi v, vi v2]) [] h bc bs Q := by
  refine wp_sub [(0, vr (some m)), (1, vi v), (2, vi v2)] (fun _ hz => hz) ?_
  have hnv := hS.1
  refine wp_aload_n (i := 0) dX16_areSame_0 rfl rfl ?_
  refine wp_iconst (nI 0) dX16_areSame_1 (by decide) ?_
  refine wp_putI 17 0 dX16_areSame_2 hM.1.1 (by decide) (by decide) (by decide) fl_X16_63 rfl (fun _ _ => rfl) rfl rfl ?_
  have hM5 := hM.w0 (x := (nI 0))
  refine wp_aload_n (i := 0) dX16_areSame_5 rfl rfl ?_
  refine wp_aload_n (i := 0) dX16_areSame_6 rfl rfl ?_
  refine wp_iload_n (i := 1) dX16_areSame_7 rfl rfl ?_
  refine wp_cV (y' := m_X16_noValue) 17 [vi v] [vr (some m)] 0 0 dX16_areSame_8 ml_X16_114 im_X16_noValue se_X16_noValue (by decide) hM5.1.1 ok_X16_noValue rfl (Nat.le_of_ble_eq_true rfl) rfl (Nat.le_of_ble_eq_true rfl) (d' := d - 1) (by omega) (Nat.zero_le _) (Nat.zero_le _) (c_X16_noValue hM5 hS v (by omega) (cont_ret ?_))
  refine wp_if_neB 22 dX16_areSame_11 (by decide) (fun c_11 => ?_) (fun c_11 => ?_)
  · skip
    refine wp_iconst (nI 1) dX16_areSame_22 (by decide) ?_
    refine wp_goto 27 dX16_areSame_23 (by decide) ?_
    refine wp_iconst (nI 1) dX16_areSame_27 (by decide) ?_
    refine wp_cV (y' := m_X16_fails) 17 [vi (nI 1), vi (nI 1)] [] 0 0 dX16_areSame_28 ml_X16_102 im_X16_fails se_X16_fails (by decide) hM5.1.1 ok_X16_fails rfl (Nat.le_of_ble_eq_true rfl) rfl (Nat.le_of_ble_eq_true rfl) (d' := d - 1) (by omega) (Nat.zero_le _) (Nat.zero_le _) (c_X16_failsT hM5 hS wI_ss (nI 1) (by decide) (cont_ret ?_))
    have hM6 := hM5.w0 (x := nI 1)
    refine wp_if_neN 119 dX16_areSame_31 (by decide) (by decide) (fun c_31 => ?_) (fun c_31 => absurd c_31 (by decide))
    refine wp_iconst (nI 0) dX16_areSame_119 (by decide) ?_
    refine wp_zreturn dX16_areSame_120 rfl (by first | rfl | assumption) ?_
    rw [show o_areSame S v k v2 k2 = (nI 1, nI 0, S) from by unfold o_areSame; rw [if_pos (show (ixB v (sNv S) && ixB v2 (sNv S)) = false from by first | (rw [show ixB v (sNv S) = false from by revert c_11; cases ixB v (sNv S) <;> simp]; rfl) | (rw [show ixB v2 (sNv S) = false from by revert c_19; cases ixB v2 (sNv S) <;> simp, Bool.and_false]))]] at hq
    exact hq _ ((IB.w mW_m).tr (IB.w mW_m)) wI_ss hM6
  · have b_1 : ixB v (sNv S) = true := nt_f c_11
    obtain ⟨ev, hk⟩ := hv b_1
    subst ev
    refine wp_aload_n (i := 0) dX16_areSame_14 rfl rfl ?_
    refine wp_iload_n (i := 2) dX16_areSame_15 rfl rfl ?_
    refine wp_cV (y' := m_X16_noValue) 17 [vi v2] [vr (some m)] 0 0 dX16_areSame_16 ml_X16_114 im_X16_noValue se_X16_noValue (by decide) hM5.1.1 ok_X16_noValue rfl (Nat.le_of_ble_eq_true rfl) rfl (Nat.le_of_ble_eq_true rfl) (d' := d - 1) (by omega) (Nat.zero_le _) (Nat.zero_le _) (c_X16_noValue hM5 hS v2 (by omega) (cont_ret ?_))
    refine wp_if_eqB 26 dX16_areSame_19 (by decide) (fun c_19 => ?_) (fun c_19 => ?_)
    · have b_2 : ixB v2 (sNv S) = true := nt_f c_19
      obtain ⟨ew, hk2⟩ := hv2 b_2
      subst ew
      refine wp_iconst (nI 0) dX16_areSame_26 (by decide) ?_
      refine wp_iconst (nI 1) dX16_areSame_27 (by decide) ?_
      refine wp_cV (y' := m_X16_fails) 17 [vi (nI 0), vi (nI 1)] [] 0 0 dX16_areSame_28 ml_X16_102 im_X16_fails se_X16_fails (by decide) hM5.1.1 ok_X16_fails rfl (Nat.le_of_ble_eq_true rfl) rfl (Nat.le_of_ble_eq_true rfl) (d' := d - 1) (by omega) (Nat.zero_le _) (Nat.zero_le _) (c_X16_failsF hM5 hS wI_ss (nI 1) (by decide) (cont_ret ?_))
      skip
      refine wp_if_neN 119 dX16_areSame_31 (by decide) (by decide) (fun c_31 => absurd c_31 (by decide)) (fun c_31 => ?_)
      refine wp_aload_n (i := 0) dX16_areSame_34 rfl rfl ?_
      refine wp_aload_n (i := 0) dX16_areSame_35 rfl rfl ?_
      refine wp_get 17 3 (vr (some (A 3))) dX16_areSame_36 hM5.1.1 (by decide) (by decide) fl_X16_7 (congrArg (fun z => toV (vr z)) (hM5.1.r 3 (by decide) (by decide) (by decide) (by decide))) ?_
      refine wp_iload_n (i := 1) dX16_areSame_39 rfl rfl ?_
      refine wp_caloadN 60 (nI (sTy S k)) dX16_areSame_40 (hM5.1.k 3 (by decide) (by decide) (by decide) (by decide)) (hM5.1.n 3 (by decide) (by decide) (by decide)) (by omega) (by decide) (hM5.2.2.2.1 k) ?_
      refine wp_bipush (nI 120) dX16_areSame_41 (by decide) ?_
      refine wp_icmp_eqN 57 dX16_areSame_43 (by decide) (ty_bd hS k) (by decide) (fun c_43 => ?_) (fun c_43 => ?_)
      · skip
        refine wp_iconst (nI 1) dX16_areSame_57 (by decide) ?_
        refine wp_goto 62 dX16_areSame_58 (by decide) ?_
        refine wp_iconst (nI 2) dX16_areSame_62 (by decide) ?_
        refine wp_cV (y' := m_X16_fails) 17 [vi (nI 1), vi (nI 2)] [] 0 0 dX16_areSame_63 ml_X16_102 im_X16_fails se_X16_fails (by decide) hM5.1.1 ok_X16_fails rfl (Nat.le_of_ble_eq_true rfl) rfl (Nat.le_of_ble_eq_true rfl) (d' := d - 1) (by omega) (Nat.zero_le _) (Nat.zero_le _) (c_X16_failsT hM5 hS wI_ss (nI 2) (by decide) (cont_ret ?_))
        have hM8 := hM5.w0 (x := nI 2)
        refine wp_if_neN 119 dX16_areSame_66 (by decide) (by decide) (fun c_66 => ?_) (fun c_66 => absurd c_66 (by decide))
        refine wp_iconst (nI 0) dX16_areSame_119 (by decide) ?_
        refine wp_zreturn dX16_areSame_120 rfl (by first | rfl | assumption) ?_
        rw [show o_areSame S (nI k) k (nI k2) k2 = (nI 2, nI 0, S) from by unfold o_areSame; rw [if_neg (fun z => Bool.false_ne_true (z.symm.trans (show (ixB (nI k) (sNv S) && ixB (nI k2) (sNv S)) = true from by rw [b_1, b_2]; rfl))), if_pos (by first | exact Or.inl c_43 | exact Or.inr c_54)]] at hq
        exact hq _ ((IB.w mW_m).tr (IB.w mW_m)) wI_ss hM8
      · skip
        refine wp_aload_n (i := 0) dX16_areSame_46 rfl rfl ?_
        refine wp_get 17 3 (vr (some (A 3))) dX16_areSame_47 hM5.1.1 (by decide) (by decide) fl_X16_7 (congrArg (fun z => toV (vr z)) (hM5.1.r 3 (by decide) (by decide) (by decide) (by decide))) ?_
        refine wp_iload_n (i := 2) dX16_areSame_50 rfl rfl ?_
        refine wp_caloadN 60 (nI (sTy S k2)) dX16_areSame_51 (hM5.1.k 3 (by decide) (by decide) (by decide) (by decide)) (hM5.1.n 3 (by decide) (by decide) (by decide)) (by omega) (by decide) (hM5.2.2.2.1 k2) ?_
        refine wp_bipush (nI 120) dX16_areSame_52 (by decide) ?_
        refine wp_icmp_neN 61 dX16_areSame_54 (by decide) (ty_bd hS k2) (by decide) (fun c_54 => ?_) (fun c_54 => ?_)
        · skip
          refine wp_iconst (nI 0) dX16_areSame_61 (by decide) ?_
          refine wp_iconst (nI 2) dX16_areSame_62 (by decide) ?_
          refine wp_cV (y' := m_X16_fails) 17 [vi (nI 0), vi (nI 2)] [] 0 0 dX16_areSame_63 ml_X16_102 im_X16_fails se_X16_fails (by decide) hM5.1.1 ok_X16_fails rfl (Nat.le_of_ble_eq_true rfl) rfl (Nat.le_of_ble_eq_true rfl) (d' := d - 1) (by omega) (Nat.zero_le _) (Nat.zero_le _) (c_X16_failsF hM5 hS wI_ss (nI 2) (by decide) (cont_ret ?_))
          skip
          refine wp_if_neN 119 dX16_areSame_66 (by decide) (by decide) (fun c_66 => absurd c_66 (by decide)) (fun c_66 => ?_)
          refine wp_aload_n (i := 0) dX16_areSame_69 rfl rfl ?_
          refine wp_get 17 3 (vr (some (A 3))) dX16_areSame_70 hM5.1.1 (by decide) (by decide) fl_X16_7 (congrArg (fun z => toV (vr z)) (hM5.1.r 3 (by decide) (by decide) (by decide) (by decide))) ?_
          refine wp_iload_n (i := 1) dX16_areSame_73 rfl rfl ?_
          refine wp_caloadN 60 (nI (sTy S k)) dX16_areSame_74 (hM5.1.k 3 (by decide) (by decide) (by decide) (by decide)) (hM5.1.n 3 (by decide) (by decide) (by decide)) (by omega) (by decide) (hM5.2.2.2.1 k) ?_
          refine wp_bipush (nI 109) dX16_areSame_75 (by decide) ?_
          refine wp_icmp_neN 84 dX16_areSame_77 (by decide) (ty_bd hS k) (by decide) (fun c_77 => ?_) (fun c_77 => ?_)
          · skip
            refine wp_iconst (nI 0) dX16_areSame_84 (by decide) ?_
            refine wp_aload_n (i := 0) dX16_areSame_85 rfl rfl ?_
            refine wp_get 17 3 (vr (some (A 3))) dX16_areSame_86 hM5.1.1 (by decide) (by decide) fl_X16_7 (congrArg (fun z => toV (vr z)) (hM5.1.r 3 (by decide) (by decide) (by decide) (by decide))) ?_
            refine wp_iload_n (i := 2) dX16_areSame_89 rfl rfl ?_
            refine wp_caloadN 60 (nI (sTy S k2)) dX16_areSame_90 (hM5.1.k 3 (by decide) (by decide) (by decide) (by decide)) (hM5.1.n 3 (by decide) (by decide) (by decide)) (by omega) (by decide) (hM5.2.2.2.1 k2) ?_
            refine wp_bipush (nI 109) dX16_areSame_91 (by decide) ?_
            refine wp_icmp_neN 100 dX16_areSame_93 (by decide) (ty_bd hS k2) (by decide) (fun c_93 => ?_) (fun c_93 => ?_)
            · skip
              refine wp_iconst (nI 0) dX16_areSame_100 (by decide) ?_
              refine wp_icmp_neN 119 dX16_areSame_101 (by decide) (by decide) (by decide) (fun c_101 => absurd c_101 (by decide)) (fun c_101 => ?_)
              refine wp_aload_n (i := 0) dX16_areSame_104 rfl rfl ?_
              refine wp_get 17 4 (vr (some (A 4))) dX16_areSame_105 hM5.1.1 (by decide) (by decide) fl_X16_13 (congrArg (fun z => toV (vr z)) (hM5.1.r 4 (by decide) (by decide) (by decide) (by decide))) ?_
              refine wp_iload_n (i := 1) dX16_areSame_108 rfl rfl ?_
              refine wp_ialoadN 60 (nI (sSz S k)) dX16_areSame_109 (hM5.1.k 4 (by decide) (by decide) (by decide) (by decide)) (hM5.1.n 4 (by decide) (by decide) (by decide)) (by omega) (by decide) (hM5.2.2.2.2.1 k) ?_
              refine wp_aload_n (i := 0) dX16_areSame_110 rfl rfl ?_
              refine wp_get 17 4 (vr (some (A 4))) dX16_areSame_111 hM5.1.1 (by decide) (by decide) fl_X16_13 (congrArg (fun z => toV (vr z)) (hM5.1.r 4 (by decide) (by decide) (by decide) (by decide))) ?_
              refine wp_iload_n (i := 2) dX16_areSame_114 rfl rfl ?_
              refine wp_ialoadN 60 (nI (sSz S k2)) dX16_areSame_115 (hM5.1.k 4 (by decide) (by decide) (by decide) (by decide)) (hM5.1.n 4 (by decide) (by decide) (by decide)) (by omega) (by decide) (hM5.2.2.2.2.1 k2) ?_
              refine wp_icmp_eqN 121 dX16_areSame_116 (by decide) (sz_bd hS k) (sz_bd hS k2) (fun c_116 => ?_) (fun c_116 => ?_)
              · skip
                refine wp_iconst (nI 1) dX16_areSame_121 (by decide) ?_
                refine wp_istore_n (i := 3) (lv' := [(3, vi (nI 1)), (0, vr (some m)), (1, vi (nI k)), (2, vi (nI k2))]) dX16_areSame_122 rfl (by decide) rfl ?_
                refine wp_iconst (nI 0) dX16_areSame_123 (by decide) ?_
                refine wp_istore (i := 4) (lv' := [(4, vi (nI 0)), (3, vi (nI 1)), (0, vr (some m)), (1, vi (nI k)), (2, vi (nI k2))]) dX16_areSame_124 (by decide) rfl ?_
                rw [show o_areSame S (nI k) k (nI k2) k2 = (nI 0, bI (smA S k k2 (smN S k)), S) from by unfold o_areSame; rw [if_neg (fun z => Bool.false_ne_true (z.symm.trans (show (ixB (nI k) (sNv S) && ixB (nI k2) (sNv S)) = true from by rw [b_1, b_2]; rfl))), if_neg (fun z => z.elim (fun y => c_43 y) (fun y => c_54 y)), show decide (sTy S k = 109) = decide (sTy S k2 = 109) from (decide_eq_false c_77).trans (decide_eq_false c_93).symm, decide_eq_true (show sSz S k = sSz S k2 from c_116)]; simp] at hq
                have hq1 := hq _ (IB.w mW_m) wI_ss hM5
                refine wp_sub [(4, vi (nI 0)), (3, vi (nI 1)), (0, vr (some m)), (1, vi (nI k)), (2, vi (nI k2))] (sb_cons (.head _) (sb_cons (.tail _ (.head _)) (sb_cons (.tail _ (.tail _ (.head _))) (sb_cons (.tail _ (.tail _ (.tail _ (.head _)))) (sb_cons (.tail _ (.tail _ (.tail _ (.tail _ (.head _))))) sb_nil))))) ?_
                rw [show smN S k = sSz S k from if_neg c_77] at hq1
                exact l_X16_areSameV hM5 hS (by omega) (by omega) c_77 (by omega) hq1 (sSz S k) 0 (by omega)
              · skip
                refine wp_iconst (nI 0) dX16_areSame_119 (by decide) ?_
                refine wp_zreturn dX16_areSame_120 rfl (by first | rfl | assumption) ?_
                rw [show o_areSame S (nI k) k (nI k2) k2 = (nI 0, nI 0, S) from by unfold o_areSame; rw [if_neg (fun z => Bool.false_ne_true (z.symm.trans (show (ixB (nI k) (sNv S) && ixB (nI k2) (sNv S)) = true from by rw [b_1, b_2]; rfl))), if_neg (fun z => z.elim (fun y => c_43 y) (fun y => c_54 y)), decide_eq_false (show ¬ sSz S k = sSz S k2 from c_116), Bool.and_false, Bool.false_and]; rfl] at hq
                exact hq _ (IB.w mW_m) wI_ss hM5
            · skip
              refine wp_iconst (nI 1) dX16_areSame_96 (by decide) ?_
              refine wp_goto 101 dX16_areSame_97 (by decide) ?_
              refine wp_icmp_neN 119 dX16_areSame_101 (by decide) (by decide) (by decide) (fun c_101 => ?_) (fun c_101 => absurd c_101 (by decide))
              refine wp_iconst (nI 0) dX16_areSame_119 (by decide) ?_
              refine wp_zreturn dX16_areSame_120 rfl (by first | rfl | assumption) ?_
              rw [show o_areSame S (nI k) k (nI k2) k2 = (nI 0, nI 0, S) from by unfold o_areSame; rw [if_neg (fun z => Bool.false_ne_true (z.symm.trans (show (ixB (nI k) (sNv S) && ixB (nI k2) (sNv S)) = true from by rw [b_1, b_2]; rfl))), if_neg (fun z => z.elim (fun y => c_43 y) (fun y => c_54 y)), decide_eq_false c_77, decide_eq_true c_93]; rfl] at hq
              exact hq _ (IB.w mW_m) wI_ss hM5
          · skip
            refine wp_iconst (nI 1) dX16_areSame_80 (by decide) ?_
            refine wp_goto 85 dX16_areSame_81 (by decide) ?_
            refine wp_aload_n (i := 0) dX16_areSame_85 rfl rfl ?_
            refine wp_get 17 3 (vr (some (A 3))) dX16_areSame_86 hM5.1.1 (by decide) (by decide) fl_X16_7 (congrArg (fun z => toV (vr z)) (hM5.1.r 3 (by decide) (by decide) (by decide) (by decide))) ?_
            refine wp_iload_n (i := 2) dX16_areSame_89 rfl rfl ?_
            refine wp_caloadN 60 (nI (sTy S k2)) dX16_areSame_90 (hM5.1.k 3 (by decide) (by decide) (by decide) (by decide)) (hM5.1.n 3 (by decide) (by decide) (by decide)) (by omega) (by decide) (hM5.2.2.2.1 k2) ?_
            refine wp_bipush (nI 109) dX16_areSame_91 (by decide) ?_
            refine wp_icmp_neN 100 dX16_areSame_93 (by decide) (ty_bd hS k2) (by decide) (fun c_93 => ?_) (fun c_93 => ?_)
            · skip
              refine wp_iconst (nI 0) dX16_areSame_100 (by decide) ?_
              refine wp_icmp_neN 119 dX16_areSame_101 (by decide) (by decide) (by decide) (fun c_101 => ?_) (fun c_101 => absurd c_101 (by decide))
              refine wp_iconst (nI 0) dX16_areSame_119 (by decide) ?_
              refine wp_zreturn dX16_areSame_120 rfl (by first | rfl | assumption) ?_
              rw [show o_areSame S (nI k) k (nI k2) k2 = (nI 0, nI 0, S) from by unfold o_areSame; rw [if_neg (fun z => Bool.false_ne_true (z.symm.trans (show (ixB (nI k) (sNv S) && ixB (nI k2) (sNv S)) = true from by rw [b_1, b_2]; rfl))), if_neg (fun z => z.elim (fun y => c_43 y) (fun y => c_54 y)), decide_eq_true c_77, decide_eq_false c_93]; rfl] at hq
              exact hq _ (IB.w mW_m) wI_ss hM5
            · skip
              refine wp_iconst (nI 1) dX16_areSame_96 (by decide) ?_
              refine wp_goto 101 dX16_areSame_97 (by decide) ?_
              refine wp_icmp_neN 119 dX16_areSame_101 (by decide) (by decide) (by decide) (fun c_101 => absurd c_101 (by decide)) (fun c_101 => ?_)
              refine wp_aload_n (i := 0) dX16_areSame_104 rfl rfl ?_
              refine wp_get 17 4 (vr (some (A 4))) dX16_areSame_105 hM5.1.1 (by decide) (by decide) fl_X16_13 (congrArg (fun z => toV (vr z)) (hM5.1.r 4 (by decide) (by decide) (by decide) (by decide))) ?_
              refine wp_iload_n (i := 1) dX16_areSame_108 rfl rfl ?_
              refine wp_ialoadN 60 (nI (sSz S k)) dX16_areSame_109 (hM5.1.k 4 (by decide) (by decide) (by decide) (by decide)) (hM5.1.n 4 (by decide) (by decide) (by decide)) (by omega) (by decide) (hM5.2.2.2.2.1 k) ?_
              refine wp_aload_n (i := 0) dX16_areSame_110 rfl rfl ?_
              refine wp_get 17 4 (vr (some (A 4))) dX16_areSame_111 hM5.1.1 (by decide) (by decide) fl_X16_13 (congrArg (fun z => toV (vr z)) (hM5.1.r 4 (by decide) (by decide) (by decide) (by decide))) ?_
              refine wp_iload_n (i := 2) dX16_areSame_114 rfl rfl ?_
              refine wp_ialoadN 60 (nI (sSz S k2)) dX16_areSame_115 (hM5.1.k 4 (by decide) (by decide) (by decide) (by decide)) (hM5.1.n 4 (by decide) (by decide) (by decide)) (by omega) (by decide) (hM5.2.2.2.2.1 k2) ?_
              refine wp_icmp_eqN 121 dX16_areSame_116 (by decide) (sz_bd hS k) (sz_bd hS k2) (fun c_116 => ?_) (fun c_116 => ?_)
              · skip
                refine wp_iconst (nI 1) dX16_areSame_121 (by decide) ?_
                refine wp_istore_n (i := 3) (lv' := [(3, vi (nI 1)), (0, vr (some m)), (1, vi (nI k)), (2, vi (nI k2))]) dX16_areSame_122 rfl (by decide) rfl ?_
                refine wp_iconst (nI 0) dX16_areSame_123 (by decide) ?_
                refine wp_istore (i := 4) (lv' := [(4, vi (nI 0)), (3, vi (nI 1)), (0, vr (some m)), (1, vi (nI k)), (2, vi (nI k2))]) dX16_areSame_124 (by decide) rfl ?_
                rw [show o_areSame S (nI k) k (nI k2) k2 = (nI 0, bI (smA S k k2 (smN S k)), S) from by unfold o_areSame; rw [if_neg (fun z => Bool.false_ne_true (z.symm.trans (show (ixB (nI k) (sNv S) && ixB (nI k2) (sNv S)) = true from by rw [b_1, b_2]; rfl))), if_neg (fun z => z.elim (fun y => c_43 y) (fun y => c_54 y)), show decide (sTy S k = 109) = decide (sTy S k2 = 109) from (decide_eq_true c_77).trans (decide_eq_true c_93).symm, decide_eq_true (show sSz S k = sSz S k2 from c_116)]; simp] at hq
                have hq1 := hq _ (IB.w mW_m) wI_ss hM5
                refine wp_sub [(4, vi (nI 0)), (3, vi (nI 1)), (0, vr (some m)), (1, vi (nI k)), (2, vi (nI k2))] (sb_cons (.head _) (sb_cons (.tail _ (.head _)) (sb_cons (.tail _ (.tail _ (.head _))) (sb_cons (.tail _ (.tail _ (.tail _ (.head _)))) (sb_cons (.tail _ (.tail _ (.tail _ (.tail _ (.head _))))) sb_nil))))) ?_
                rw [show smN S k = 1000 from if_pos c_77] at hq1
                exact l_X16_areSameM hM5 hS (by omega) (by omega) c_77 (by omega) hq1 1000 0 (by omega)
              · skip
                refine wp_iconst (nI 0) dX16_areSame_119 (by decide) ?_
                refine wp_zreturn dX16_areSame_120 rfl (by first | rfl | assumption) ?_
                rw [show o_areSame S (nI k) k (nI k2) k2 = (nI 0, nI 0, S) from by unfold o_areSame; rw [if_neg (fun z => Bool.false_ne_true (z.symm.trans (show (ixB (nI k) (sNv S) && ixB (nI k2) (sNv S)) = true from by rw [b_1, b_2]; rfl))), if_neg (fun z => z.elim (fun y => c_43 y) (fun y => c_54 y)), decide_eq_false (show ¬ sSz S k = sSz S k2 from c_116), Bool.and_false, Bool.false_and]; rfl] at hq
                exact hq _ (IB.w mW_m) wI_ss hM5
        · skip
          refine wp_iconst (nI 1) dX16_areSame_57 (by decide) ?_
          refine wp_goto 62 dX16_areSame_58 (by decide) ?_
          refine wp_iconst (nI 2) dX16_areSame_62 (by decide) ?_
          refine wp_cV (y' := m_X16_fails) 17 [vi (nI 1), vi (nI 2)] [] 0 0 dX16_areSame_63 ml_X16_102 im_X16_fails se_X16_fails (by decide) hM5.1.1 ok_X16_fails rfl (Nat.le_of_ble_eq_true rfl) rfl (Nat.le_of_ble_eq_true rfl) (d' := d - 1) (by omega) (Nat.zero_le _) (Nat.zero_le _) (c_X16_failsT hM5 hS wI_ss (nI 2) (by decide) (cont_ret ?_))
          have hM10 := hM5.w0 (x := nI 2)
          refine wp_if_neN 119 dX16_areSame_66 (by decide) (by decide) (fun c_66 => ?_) (fun c_66 => absurd c_66 (by decide))
          refine wp_iconst (nI 0) dX16_areSame_119 (by decide) ?_
          refine wp_zreturn dX16_areSame_120 rfl (by first | rfl | assumption) ?_
          rw [show o_areSame S (nI k) k (nI k2) k2 = (nI 2, nI 0, S) from by unfold o_areSame; rw [if_neg (fun z => Bool.false_ne_true (z.symm.trans (show (ixB (nI k) (sNv S) && ixB (nI k2) (sNv S)) = true from by rw [b_1, b_2]; rfl))), if_pos (by first | exact Or.inl c_43 | exact Or.inr c_54)]] at hq
          exact hq _ ((IB.w mW_m).tr (IB.w mW_m)) wI_ss hM10
    · skip
      refine wp_iconst (nI 1) dX16_areSame_22 (by decide) ?_
      refine wp_goto 27 dX16_areSame_23 (by decide) ?_
      refine wp_iconst (nI 1) dX16_areSame_27 (by decide) ?_
      refine wp_cV (y' := m_X16_fails) 17 [vi (nI 1), vi (nI 1)] [] 0 0 dX16_areSame_28 ml_X16_102 im_X16_fails se_X16_fails (by decide) hM5.1.1 ok_X16_fails rfl (Nat.le_of_ble_eq_true rfl) rfl (Nat.le_of_ble_eq_true rfl) (d' := d - 1) (by omega) (Nat.zero_le _) (Nat.zero_le _) (c_X16_failsT hM5 hS wI_ss (nI 1) (by decide) (cont_ret ?_))
      have hM11 := hM5.w0 (x := nI 1)
      refine wp_if_neN 119 dX16_areSame_31 (by decide) (by decide) (fun c_31 => ?_) (fun c_31 => absurd c_31 (by decide))
      refine wp_iconst (nI 0) dX16_areSame_119 (by decide) ?_
      refine wp_zreturn dX16_areSame_120 rfl (by first | rfl | assumption) ?_
      rw [show o_areSame S (nI k) k v2 k2 = (nI 1, nI 0, S) from by unfold o_areSame; rw [if_pos (show (ixB (nI k) (sNv S) && ixB v2 (sNv S)) = false from by first | (rw [show ixB v (sNv S) = false from by revert c_11; cases ixB v (sNv S) <;> simp]; rfl) | (rw [show ixB v2 (sNv S) = false from by revert c_19; cases ixB v2 (sNv S) <;> simp, Bool.and_false]))]] at hq
      exact hq _ ((IB.w mW_m).tr (IB.w mW_m)) wI_ss hM11
