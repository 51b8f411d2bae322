/-! The model: get, levelOf; all values. -/
theorem hasB_j {S : SV} {k j : Nat} {u : Int32} (hz : sSz S k ≤ 64) (hu : ixB u 1000 = true → u = nI j ∧ j < 1000) (h : hasB S k u j = true) : u = nI j ∧ j < 1000 ∧ (sTy S k ≠ 109 → j < 64) := by
  unfold hasB at h
  by_cases e : sTy S k = 109
  · rw [if_pos e, Bool.and_eq_true] at h
    exact ⟨(hu h.1).1, (hu h.1).2, fun z => absurd e z⟩
  · rw [if_neg e] at h
    obtain ⟨q, hq, eq⟩ := ixB_t (by omega) h
    have h2 := hu (by rw [eq]; exact ixB_of (by omega) (by decide))
    refine ⟨h2.1, h2.2, fun _ => ?_⟩
    have e1 : nI j = nI q := h2.1.symm.trans eq
    have e2 := congrArg Int32.toNatClampNeg e1
    rw [nI_clamp (by omega), nI_clamp (by omega)] at e2
    omega
theorem lvF_le {S : SV} {v key : Nat} : ∀ m l, l ≤ 4 → lvF S v key m l ≤ 4 := by
  intro m
  induction m with
  | zero => intro l h; exact h
  | succ m ih => intro l h; rw [lvF]; split
                 · next z => exact ih _ (by omega)
                 · exact h
/-- how many places a value's nodes have; the number of a node, 0 for none; how many there are -/
def slN (S : SV) (v : Nat) : Nat := if sTy S v = 109 then 341 else 21
def ndN (S : SV) (v s : Nat) : Nat := if sTy S v = 109 then sMn S (341 * v + s) else if (vecB S v && ith s (sSz S v)) = true then sNd S (21 * v + s) else 0
def nsN (S : SV) (v : Nat) : Nat := sumN (fun s => if 0 < ndN S v s then 1 else 0) (slN S v)
def shN (S : SV) (v w : Nat) : Nat := sumN (fun s => if 0 < ndN S v s ∧ ndN S v s = ndN S w s then 1 else 0) (if slN S v = slN S w then slN S v else 0)
theorem slN_le {S : SV} {v : Nat} : slN S v ≤ 341 := by unfold slN; split <;> omega
theorem slN_21 {S : SV} {v s : Nat} (h : s < slN S v) : s < 341 ∧ (sTy S v ≠ 109 → s < 21) := by
  unfold slN at h
  split at h
  · next e => exact ⟨h, fun z => absurd e z⟩
  · exact ⟨by omega, fun _ => h⟩
theorem ndN_le {S : SV} (hS : SB S) {v s : Nat} : ndN S v s ≤ 1000000 := by
  unfold ndN
  split
  · exact hS.2.2.2.2.2 _
  · split
    · exact hS.2.2.2.2.1 _
    · exact Nat.zero_le _
theorem sum01 {f : Nat → Nat} (h : ∀ j, f j ≤ 1) : ∀ n, sumN f n ≤ n := by
  intro n
  induction n with
  | zero => exact Nat.le_refl _
  | succ n ih => rw [sumN]; have := h n; omega
/-- the same elements, up to the j-th -/
def smK (S : SV) (v w j : Nat) : Bool := (hasB S v (nI j) j == hasB S w (nI j) j) && (if sTy S v = 109 then decide (sOf S (1000 * v + j) = sOf S (1000 * w + j)) else decide (sEl S (64 * v + j) = sEl S (64 * w + j)))
def smA (S : SV) (v w : Nat) : Nat → Bool
  | 0 => true
  | j + 1 => smA S v w j && smK S v w j
def smN (S : SV) (v : Nat) : Nat := if sTy S v = 109 then 1000 else sSz S v
def o_nodes (S : SV) (v : Int32) (k : Nat) : Int32 × Int32 × SV := if (!ixB v (sNv S)) = true then (nI 1, nI 0, S) else (nI 0, nI (nsN S k), S)
def o_shared (S : SV) (v : Int32) (k : Nat) (v2 : Int32) (k2 : Nat) : Int32 × Int32 × SV := if (ixB v (sNv S) && ixB v2 (sNv S)) = false then (nI 1, nI 0, S) else (nI 0, nI (shN S k k2), S)
def o_areSame (S : SV) (v : Int32) (k : Nat) (v2 : Int32) (k2 : Nat) : Int32 × Int32 × SV :=
  if (ixB v (sNv S) && ixB v2 (sNv S)) = false then (nI 1, nI 0, S) else if sTy S k = 120 ∨ sTy S k2 = 120 then (nI 2, nI 0, S)
  else (nI 0, bI (decide (decide (sTy S k = 109) = decide (sTy S k2 = 109)) && decide (sSz S k = sSz S k2) && smA S k k2 (smN S k)), S)
set_option maxRecDepth 100000 in
set_option maxHeartbeats 4000000 in
theorem c_X16_get {G : GG} {d bc bs : Nat} {h : Hp} {Q : Pst} {m : Nat} {A : Nat → Nat} {S : SV} (hM : MP h m A S) (hS : SB S) {v : Int32} {k : Nat} (hv : ixB v (sNv S) = true → v = nI k ∧ k < sNv S) {u : Int32} {j : Nat} (hu : ixB u 1000 = true → u = nI j ∧ j < 1000) (hd : 6 ≤ d) (hq : PO Q h m A (o_get S v k u j)) : WP G m_X16_get d 0 (aargs 0 [vr (some m), vi v, vi u]) [] h bc bs Q := by
  refine wp_sub [(0, vr (some m)), (1, vi v), (2, vi u)] (fun _ hz => hz) ?_
  have hnv := hS.1
  have hsz := hS.2.2.2.1
  refine wp_aload_n (i := 0) dX16_get_0 rfl rfl ?_
  refine wp_iconst (nI 0) dX16_get_1 (by decide) ?_
  refine wp_putI 17 0 dX16_get_2 hM.1.1 (by decide) (by decide) (by decide) fl_X16_63 rfl (fun _ _ => rfl) rfl rfl ?_
  have hM1 := hM.w0 (x := (nI 0))
  refine wp_aload_n (i := 0) dX16_get_5 rfl rfl ?_
  refine wp_aload_n (i := 0) dX16_get_6 rfl rfl ?_
  refine wp_iload_n (i := 1) dX16_get_7 rfl rfl ?_
  refine wp_cV (y' := m_X16_noValue) 17 [vi v] [vr (some m)] 0 0 dX16_get_8 ml_X16_114 im_X16_noValue se_X16_noValue (by decide) hM1.1.1 ok_X16_noValue rfl (Nat.le_of_ble_eq_true rfl) rfl (Nat.le_of_ble_eq_true rfl) (d' := d - 1) (by omega) (Nat.zero_le _) (Nat.zero_le _) (c_X16_noValue hM1 hS v (by omega) (cont_ret ?_))
  refine wp_iconst (nI 1) dX16_get_11 (by decide) ?_
  refine wp_cV (y' := m_X16_fails) 17 [vi (bI (!ixB v (sNv S))), vi (nI 1)] [] 0 0 dX16_get_12 ml_X16_102 im_X16_fails se_X16_fails (by decide) hM1.1.1 ok_X16_fails rfl (Nat.le_of_ble_eq_true rfl) rfl (Nat.le_of_ble_eq_true rfl) (d' := d - 1) (by omega) (Nat.zero_le _) (Nat.zero_le _) (c_X16_failsB hM1 hS wI_ss (!ixB v (sNv S)) (nI 1) (by decide) (fun g_1 => cont_ret ?_) (fun g_1 => cont_ret ?_))
  · have hM2 := hM1.w0 (x := nI 1)
    refine wp_if_neN 40 dX16_get_15 (by decide) (by decide) (fun c_15 => ?_) (fun c_15 => absurd c_15 (by decide))
    refine wp_iconst (nI 0) dX16_get_40 (by decide) ?_
    refine wp_ireturn dX16_get_41 rfl ?_
    rw [show o_get S v k u j = (nI 1, nI 0, S) from by unfold o_get; rw [if_pos g_1]] at hq
    exact hq _ ((IB.w mW_m).tr (IB.w mW_m)) wI_ss hM2
  · obtain ⟨ev, hk⟩ := hv (nt_f g_1)
    subst ev
    refine wp_if_neN 40 dX16_get_15 (by decide) (by decide) (fun c_15 => absurd c_15 (by decide)) (fun c_15 => ?_)
    refine wp_aload_n (i := 0) dX16_get_18 rfl rfl ?_
    refine wp_aload_n (i := 0) dX16_get_19 rfl rfl ?_
    refine wp_iload_n (i := 1) dX16_get_20 rfl rfl ?_
    refine wp_iload_n (i := 2) dX16_get_21 rfl rfl ?_
    refine wp_cV (y' := m_X16_hasAt) 17 [vi (nI k), vi u] [vr (some m)] 0 0 dX16_get_22 ml_X16_153 im_X16_hasAt se_X16_hasAt (by decide) hM1.1.1 ok_X16_hasAt rfl (Nat.le_of_ble_eq_true rfl) rfl (Nat.le_of_ble_eq_true rfl) (d' := d - 1) (by omega) (Nat.zero_le _) (Nat.zero_le _) (c_X16_hasAt hM1 hS (by omega) (u := u) (j := j) hu (by omega) (cont_ret ?_))
    refine wp_if_neB 32 dX16_get_25 (by decide) (fun c_25 => ?_) (fun c_25 => ?_)
    · skip
      refine wp_iconst (nI 0) dX16_get_32 (by decide) ?_
      refine wp_iconst (nI 2) dX16_get_33 (by decide) ?_
      refine wp_cV (y' := m_X16_fails) 17 [vi (nI 0), vi (nI 2)] [] 0 0 dX16_get_34 ml_X16_102 im_X16_fails se_X16_fails (by decide) hM1.1.1 ok_X16_fails rfl (Nat.le_of_ble_eq_true rfl) rfl (Nat.le_of_ble_eq_true rfl) (d' := d - 1) (by omega) (Nat.zero_le _) (Nat.zero_le _) (c_X16_failsF hM1 hS wI_ss (nI 2) (by decide) (cont_ret ?_))
      obtain ⟨eu, hj, hj64⟩ := hasB_j (hsz k) hu c_25
      subst eu
      refine wp_if_eqN 42 dX16_get_37 (by decide) (by decide) (fun c_37 => ?_) (fun c_37 => absurd c_37 (by decide))
      refine wp_aload_n (i := 0) dX16_get_42 rfl rfl ?_
      refine wp_get 17 3 (vr (some (A 3))) dX16_get_43 hM1.1.1 (by decide) (by decide) fl_X16_7 (congrArg (fun z => toV (vr z)) (hM1.1.r 3 (by decide) (by decide) (by decide) (by decide))) ?_
      refine wp_iload_n (i := 1) dX16_get_46 rfl rfl ?_
      refine wp_caloadN 60 (nI (sTy S k)) dX16_get_47 (hM1.1.k 3 (by decide) (by decide) (by decide) (by decide)) (hM1.1.n 3 (by decide) (by decide) (by decide)) (by omega) (by decide) (hM1.2.2.2.1 k) ?_
      refine wp_bipush (nI 109) dX16_get_48 (by decide) ?_
      refine wp_icmp_neN 68 dX16_get_50 (by decide) (ty_bd hS k) (by decide) (fun c_50 => ?_) (fun c_50 => ?_)
      · have hj2 := hj64 c_50
        refine wp_aload_n (i := 0) dX16_get_68 rfl rfl ?_
        refine wp_get 17 5 (vr (some (A 5))) dX16_get_69 hM1.1.1 (by decide) (by decide) fl_X16_17 (congrArg (fun z => toV (vr z)) (hM1.1.r 5 (by decide) (by decide) (by decide) (by decide))) ?_
        refine wp_bipush (nI 64) dX16_get_72 (by decide) ?_
        refine wp_iload_n (i := 1) dX16_get_74 rfl rfl ?_
        refine wp_imulN dX16_get_75 ?_
        refine wp_iload_n (i := 2) dX16_get_76 rfl rfl ?_
        refine wp_iaddN dX16_get_77 ?_
        refine wp_ialoadN 3840 (sEl S ((64 * k) + j)) dX16_get_78 (hM1.1.k 5 (by decide) (by decide) (by decide) (by decide)) (hM1.1.n 5 (by decide) (by decide) (by decide)) (by omega) (by decide) (hM1.2.2.2.2.2.1 ((64 * k) + j)) ?_
        refine wp_ireturn dX16_get_79 rfl ?_
        rw [show o_get S (nI k) k (nI j) j = (nI 0, (sEl S ((64 * k) + j)), S) from by unfold o_get; rw [if_neg (fun z => Bool.false_ne_true (g_1.symm.trans z)), if_neg (by rw [c_25]; decide), show getV S k j = (sEl S ((64 * k) + j)) from if_neg c_50]] at hq
        exact hq _ (IB.w mW_m) wI_ss hM1
      · skip
        refine wp_aload_n (i := 0) dX16_get_53 rfl rfl ?_
        refine wp_get 17 9 (vr (some (A 9))) dX16_get_54 hM1.1.1 (by decide) (by decide) fl_X16_31 (congrArg (fun z => toV (vr z)) (hM1.1.r 9 (by decide) (by decide) (by decide) (by decide))) ?_
        refine wp_sipush (nI 1000) dX16_get_57 (by decide) ?_
        refine wp_iload_n (i := 1) dX16_get_60 rfl rfl ?_
        refine wp_imulN dX16_get_61 ?_
        refine wp_iload_n (i := 2) dX16_get_62 rfl rfl ?_
        refine wp_iaddN dX16_get_63 ?_
        refine wp_ialoadN 60000 (sOf S ((1000 * k) + j)) dX16_get_64 (hM1.1.k 9 (by decide) (by decide) (by decide) (by decide)) (hM1.1.n 9 (by decide) (by decide) (by decide)) (by omega) (by decide) (hM1.2.2.2.2.2.2.2.2.2.1 ((1000 * k) + j)) ?_
        refine wp_goto 79 dX16_get_65 (by decide) ?_
        refine wp_ireturn dX16_get_79 rfl ?_
        rw [show o_get S (nI k) k (nI j) j = (nI 0, (sOf S ((1000 * k) + j)), S) from by unfold o_get; rw [if_neg (fun z => Bool.false_ne_true (g_1.symm.trans z)), if_neg (by rw [c_25]; decide), show getV S k j = (sOf S ((1000 * k) + j)) from if_pos c_50]] at hq
        exact hq _ (IB.w mW_m) wI_ss hM1
    · skip
      refine wp_iconst (nI 1) dX16_get_28 (by decide) ?_
      refine wp_goto 33 dX16_get_29 (by decide) ?_
      refine wp_iconst (nI 2) dX16_get_33 (by decide) ?_
      refine wp_cV (y' := m_X16_fails) 17 [vi (nI 1), vi (nI 2)] [] 0 0 dX16_get_34 ml_X16_102 im_X16_fails se_X16_fails (by decide) hM1.1.1 ok_X16_fails rfl (Nat.le_of_ble_eq_true rfl) rfl (Nat.le_of_ble_eq_true rfl) (d' := d - 1) (by omega) (Nat.zero_le _) (Nat.zero_le _) (c_X16_failsT hM1 hS wI_ss (nI 2) (by decide) (cont_ret ?_))
      have hM4 := hM1.w0 (x := nI 2)
      refine wp_if_eqN 42 dX16_get_37 (by decide) (by decide) (fun c_37 => absurd c_37 (by decide)) (fun c_37 => ?_)
      refine wp_iconst (nI 0) dX16_get_40 (by decide) ?_
      refine wp_ireturn dX16_get_41 rfl ?_
      rw [show o_get S (nI k) k u j = (nI 2, nI 0, S) from by unfold o_get; rw [if_neg (fun z => Bool.false_ne_true (g_1.symm.trans z)), if_pos (by rw [c_25]; rfl)]] at hq
      exact hq _ ((IB.w mW_m).tr (IB.w mW_m)) wI_ss hM4
set_option maxRecDepth 100000 in
set_option maxHeartbeats 4000000 in
theorem c_X16_getPlain {G : GG} {d bc bs : Nat} {h : Hp} {Q : Pst} {m : Nat} {A : Nat → Nat} {S : SV} (hM : MP h m A S) (hS : SB S) {v : Int32} {k : Nat} (hv : ixB v (sNv S) = true → v = nI k ∧ k < sNv S) {u : Int32} {j : Nat} (hu : ixB u 1000 = true → u = nI j ∧ j < 1000) (hd : 7 ≤ d) (hq : PO Q h m A (o_get S v k u j)) : WP G m_X16_getPlain d 0 (aargs 0 [vr (some m), vi v, vi u]) [] h bc bs Q := by
  refine wp_sub [(0, vr (some m)), (1, vi v), (2, vi u)] (fun _ hz => hz) ?_
  refine wp_aload_n (i := 0) dX16_getPlain_0 rfl rfl ?_
  refine wp_iload_n (i := 1) dX16_getPlain_1 rfl rfl ?_
  refine wp_iload_n (i := 2) dX16_getPlain_2 rfl rfl ?_
  refine wp_cV (y' := m_X16_get) 17 [vi v, vi u] [] 0 0 dX16_getPlain_3 ml_X16_156 im_X16_get se_X16_get (by decide) hM.1.1 ok_X16_get rfl (Nat.le_of_ble_eq_true rfl) rfl (Nat.le_of_ble_eq_true rfl) (d' := d - 1) (by omega) (Nat.zero_le _) (Nat.zero_le _) (c_X16_get hM hS hv hu (by omega) (fun h1 a1 a2 a3 => cont_ret ?_))
  refine wp_ireturn dX16_getPlain_6 rfl ?_
  exact hq h1 a1 a2 a3
set_option maxRecDepth 100000 in
set_option maxHeartbeats 4000000 in
theorem l_X16_levelOf {G : GG} {d bc bs : Nat} {h : Hp} {Q : Pst} {m : Nat} {A : Nat → Nat} {S : SV} (hM : MP h m A S) (hS : SB S) {k j : Nat} (hk : k < 60) (hj : j < 1000) (hd : 4 ≤ d) (hq : Q (oRet (vi (nI (lvF S k j 4 0)))) h) : ∀ n l, n + l = 4 → lvF S k j n l = lvF S k j 4 0 → WP G m_X16_levelOf d 68 [(3, vi (nI l)), (0, vr (some m)), (1, vi (nI k)), (2, vi (nI j))] [] h bc bs Q := by
  have hnv := hS.1
  intro n
  induction n with
  | zero =>
    intro l hl he
    have hl : l = 4 := by omega
    subst hl
    rw [← he] at hq
    refine wp_iload_n (i := 3) dX16_levelOf_68 rfl rfl ?_
    refine wp_iconst (nI 4) dX16_levelOf_69 (by decide) ?_
    refine wp_icmp_geN 92 dX16_levelOf_70 (by decide) (by decide) (by decide) (fun c_70 => ?_) (fun c_70 => absurd c_70 (by decide))
    refine wp_iload_n (i := 3) dX16_levelOf_92 rfl rfl ?_
    refine wp_ireturn dX16_levelOf_93 rfl ?_
    exact hq
  | succ n ih =>
    intro l hl he
    have hal := alN_le2 (S := S) (v := k) (key := j) (l := l + 1)
    refine wp_iload_n (i := 3) dX16_levelOf_68 rfl rfl ?_
    refine wp_iconst (nI 4) dX16_levelOf_69 (by decide) ?_
    refine wp_icmp_geN 92 dX16_levelOf_70 (by decide) (by omega) (by decide) (fun c_70 => absurd c_70 (by omega)) (fun c_70 => ?_)
    refine wp_aload_n (i := 0) dX16_levelOf_73 rfl rfl ?_
    refine wp_iload_n (i := 1) dX16_levelOf_74 rfl rfl ?_
    refine wp_iload_n (i := 2) dX16_levelOf_75 rfl rfl ?_
    refine wp_iload_n (i := 3) dX16_levelOf_76 rfl rfl ?_
    refine wp_iconst (nI 1) dX16_levelOf_77 (by decide) ?_
    refine wp_iaddN dX16_levelOf_78 ?_
    refine wp_cV (y' := m_X16_alike) 17 [vi (nI k), vi (nI j), vi (nI (l + 1))] [] 0 0 dX16_levelOf_79 ml_X16_147 im_X16_alike se_X16_alike (by decide) hM.1.1 ok_X16_alike rfl (Nat.le_of_ble_eq_true rfl) rfl (Nat.le_of_ble_eq_true rfl) (d' := d - 1) (by omega) (Nat.zero_le _) (Nat.zero_le _) (c_X16_alike hM hS (by omega) (by omega) (by omega) (by omega) (cont_ret ?_))
    refine wp_iconst (nI 1) dX16_levelOf_82 (by decide) ?_
    refine wp_icmp_leN 92 dX16_levelOf_83 (by decide) (by omega) (by decide) (fun c_83 => ?_) (fun c_83 => ?_)
    · rw [lvF, if_neg (fun z => by omega)] at he
      rw [← he] at hq
      refine wp_iload_n (i := 3) dX16_levelOf_92 rfl rfl ?_
      refine wp_ireturn dX16_levelOf_93 rfl ?_
      exact hq
    · rw [lvF, if_pos ⟨by omega, c_83⟩] at he
      refine wp_iincN (a := l) (lv' := [(3, vi (nI (l + 1))), (0, vr (some m)), (1, vi (nI k)), (2, vi (nI j))]) 1 dX16_levelOf_86 rfl (by decide) (by decide) rfl ?_
      refine wp_goto 68 dX16_levelOf_89 (by decide) ?_
      refine wp_sub [(3, vi (nI (l + 1))), (0, vr (some m)), (1, vi (nI k)), (2, vi (nI j))] (sb_cons (.head _) (sb_cons (.tail _ (.head _)) (sb_cons (.tail _ (.tail _ (.head _))) (sb_cons (.tail _ (.tail _ (.tail _ (.head _)))) sb_nil)))) ?_
      exact ih (l + 1) (by omega) he
set_option maxRecDepth 100000 in
set_option maxHeartbeats 4000000 in
theorem c_X16_levelOf {G : GG} {d bc bs : Nat} {h : Hp} {Q : Pst} {m : Nat} {A : Nat → Nat} {S : SV} (hM : MP h m A S) (hS : SB S) {v : Int32} {k : Nat} (hv : ixB v (sNv S) = true → v = nI k ∧ k < sNv S) {u : Int32} {j : Nat} (hu : ixB u 1000 = true → u = nI j ∧ j < 1000) (hd : 6 ≤ d) (hq : PO Q h m A (o_levelOf S v k u j)) : WP G m_X16_levelOf d 0 (aargs 0 [vr (some m), vi v, vi u]) [] h bc bs Q := by
  refine wp_sub [(0, vr (some m)), (1, vi v), (2, vi u)] (fun _ hz => hz) ?_
  have hnv := hS.1
  have hsz := hS.2.2.2.1
  refine wp_aload_n (i := 0) dX16_levelOf_0 rfl rfl ?_
  refine wp_iconst (nI 0) dX16_levelOf_1 (by decide) ?_
  refine wp_putI 17 0 dX16_levelOf_2 hM.1.1 (by decide) (by decide) (by decide) fl_X16_63 rfl (fun _ _ => rfl) rfl rfl ?_
  have hM1 := hM.w0 (x := (nI 0))
  refine wp_aload_n (i := 0) dX16_levelOf_5 rfl rfl ?_
  refine wp_aload_n (i := 0) dX16_levelOf_6 rfl rfl ?_
  refine wp_iload_n (i := 1) dX16_levelOf_7 rfl rfl ?_
  refine wp_cV (y' := m_X16_noValue) 17 [vi v] [vr (some m)] 0 0 dX16_levelOf_8 ml_X16_114 im_X16_noValue se_X16_noValue (by decide) hM1.1.1 ok_X16_noValue rfl (Nat.le_of_ble_eq_true rfl) rfl (Nat.le_of_ble_eq_true rfl) (d' := d - 1) (by omega) (Nat.zero_le _) (Nat.zero_le _) (c_X16_noValue hM1 hS v (by omega) (cont_ret ?_))
  refine wp_iconst (nI 1) dX16_levelOf_11 (by decide) ?_
  refine wp_cV (y' := m_X16_fails) 17 [vi (bI (!ixB v (sNv S))), vi (nI 1)] [] 0 0 dX16_levelOf_12 ml_X16_102 im_X16_fails se_X16_fails (by decide) hM1.1.1 ok_X16_fails rfl (Nat.le_of_ble_eq_true rfl) rfl (Nat.le_of_ble_eq_true rfl) (d' := d - 1) (by omega) (Nat.zero_le _) (Nat.zero_le _) (c_X16_failsB hM1 hS wI_ss (!ixB v (sNv S)) (nI 1) (by decide) (fun g_1 => cont_ret ?_) (fun g_1 => cont_ret ?_))
  · have hM2 := hM1.w0 (x := nI 1)
    refine wp_if_neN 64 dX16_levelOf_15 (by decide) (by decide) (fun c_15 => ?_) (fun c_15 => absurd c_15 (by decide))
    refine wp_iconst (nI 0) dX16_levelOf_64 (by decide) ?_
    refine wp_ireturn dX16_levelOf_65 rfl ?_
    rw [show o_levelOf S v k u j = (nI 1, nI 0, S) from by unfold o_levelOf; rw [if_pos g_1]] at hq
    exact hq _ ((IB.w mW_m).tr (IB.w mW_m)) wI_ss hM2
  · obtain ⟨ev, hk⟩ := hv (nt_f g_1)
    subst ev
    refine wp_if_neN 64 dX16_levelOf_15 (by decide) (by decide) (fun c_15 => absurd c_15 (by decide)) (fun c_15 => ?_)
    refine wp_aload_n (i := 0) dX16_levelOf_18 rfl rfl ?_
    refine wp_aload_n (i := 0) dX16_levelOf_19 rfl rfl ?_
    refine wp_get 17 3 (vr (some (A 3))) dX16_levelOf_20 hM1.1.1 (by decide) (by decide) fl_X16_7 (congrArg (fun z => toV (vr z)) (hM1.1.r 3 (by decide) (by decide) (by decide) (by decide))) ?_
    refine wp_iload_n (i := 1) dX16_levelOf_23 rfl rfl ?_
    refine wp_caloadN 60 (nI (sTy S k)) dX16_levelOf_24 (hM1.1.k 3 (by decide) (by decide) (by decide) (by decide)) (hM1.1.n 3 (by decide) (by decide) (by decide)) (by omega) (by decide) (hM1.2.2.2.1 k) ?_
    refine wp_bipush (nI 109) dX16_levelOf_25 (by decide) ?_
    refine wp_icmp_eqN 34 dX16_levelOf_27 (by decide) (ty_bd hS k) (by decide) (fun c_27 => ?_) (fun c_27 => ?_)
    · skip
      refine wp_iconst (nI 0) dX16_levelOf_34 (by decide) ?_
      refine wp_iconst (nI 2) dX16_levelOf_35 (by decide) ?_
      refine wp_cV (y' := m_X16_fails) 17 [vi (nI 0), vi (nI 2)] [] 0 0 dX16_levelOf_36 ml_X16_102 im_X16_fails se_X16_fails (by decide) hM1.1.1 ok_X16_fails rfl (Nat.le_of_ble_eq_true rfl) rfl (Nat.le_of_ble_eq_true rfl) (d' := d - 1) (by omega) (Nat.zero_le _) (Nat.zero_le _) (c_X16_failsF hM1 hS wI_ss (nI 2) (by decide) (cont_ret ?_))
      skip
      refine wp_if_neN 64 dX16_levelOf_39 (by decide) (by decide) (fun c_39 => absurd c_39 (by decide)) (fun c_39 => ?_)
      refine wp_aload_n (i := 0) dX16_levelOf_42 rfl rfl ?_
      refine wp_aload_n (i := 0) dX16_levelOf_43 rfl rfl ?_
      refine wp_iload_n (i := 1) dX16_levelOf_44 rfl rfl ?_
      refine wp_iload_n (i := 2) dX16_levelOf_45 rfl rfl ?_
      refine wp_cV (y' := m_X16_hasAt) 17 [vi (nI k), vi u] [vr (some m)] 0 0 dX16_levelOf_46 ml_X16_153 im_X16_hasAt se_X16_hasAt (by decide) hM1.1.1 ok_X16_hasAt rfl (Nat.le_of_ble_eq_true rfl) rfl (Nat.le_of_ble_eq_true rfl) (d' := d - 1) (by omega) (Nat.zero_le _) (Nat.zero_le _) (c_X16_hasAt hM1 hS (by omega) (u := u) (j := j) hu (by omega) (cont_ret ?_))
      refine wp_if_neB 56 dX16_levelOf_49 (by decide) (fun c_49 => ?_) (fun c_49 => ?_)
      · skip
        refine wp_iconst (nI 0) dX16_levelOf_56 (by decide) ?_
        refine wp_iconst (nI 3) dX16_levelOf_57 (by decide) ?_
        refine wp_cV (y' := m_X16_fails) 17 [vi (nI 0), vi (nI 3)] [] 0 0 dX16_levelOf_58 ml_X16_102 im_X16_fails se_X16_fails (by decide) hM1.1.1 ok_X16_fails rfl (Nat.le_of_ble_eq_true rfl) rfl (Nat.le_of_ble_eq_true rfl) (d' := d - 1) (by omega) (Nat.zero_le _) (Nat.zero_le _) (c_X16_failsF hM1 hS wI_ss (nI 3) (by decide) (cont_ret ?_))
        obtain ⟨eu, hj, hj64⟩ := hasB_j (hsz k) hu c_49
        subst eu
        refine wp_if_eqN 66 dX16_levelOf_61 (by decide) (by decide) (fun c_61 => ?_) (fun c_61 => absurd c_61 (by decide))
        refine wp_iconst (nI 0) dX16_levelOf_66 (by decide) ?_
        refine wp_istore_n (i := 3) (lv' := [(3, vi (nI 0)), (0, vr (some m)), (1, vi (nI k)), (2, vi (nI j))]) dX16_levelOf_67 rfl (by decide) rfl ?_
        refine wp_sub [(3, vi (nI 0)), (0, vr (some m)), (1, vi (nI k)), (2, vi (nI j))] (sb_cons (.head _) (sb_cons (.tail _ (.head _)) (sb_cons (.tail _ (.tail _ (.head _))) (sb_cons (.tail _ (.tail _ (.tail _ (.head _)))) sb_nil)))) ?_
        rw [show o_levelOf S (nI k) k (nI j) j = (nI 0, nI (lvF S k j 4 0), S) from by unfold o_levelOf; rw [if_neg (fun z => Bool.false_ne_true (g_1.symm.trans z)), if_neg (fun z => z c_27), if_neg (by rw [c_49]; decide)]] at hq
        exact l_X16_levelOf hM1 hS (by omega) hj (by omega) (hq _ (IB.w mW_m) wI_ss hM1) 4 0 rfl rfl
      · skip
        refine wp_iconst (nI 1) dX16_levelOf_52 (by decide) ?_
        refine wp_goto 57 dX16_levelOf_53 (by decide) ?_
        refine wp_iconst (nI 3) dX16_levelOf_57 (by decide) ?_
        refine wp_cV (y' := m_X16_fails) 17 [vi (nI 1), vi (nI 3)] [] 0 0 dX16_levelOf_58 ml_X16_102 im_X16_fails se_X16_fails (by decide) hM1.1.1 ok_X16_fails rfl (Nat.le_of_ble_eq_true rfl) rfl (Nat.le_of_ble_eq_true rfl) (d' := d - 1) (by omega) (Nat.zero_le _) (Nat.zero_le _) (c_X16_failsT hM1 hS wI_ss (nI 3) (by decide) (cont_ret ?_))
        have hM5 := hM1.w0 (x := nI 3)
        refine wp_if_eqN 66 dX16_levelOf_61 (by decide) (by decide) (fun c_61 => absurd c_61 (by decide)) (fun c_61 => ?_)
        refine wp_iconst (nI 0) dX16_levelOf_64 (by decide) ?_
        refine wp_ireturn dX16_levelOf_65 rfl ?_
        rw [show o_levelOf S (nI k) k u j = (nI 3, nI 0, S) from by unfold o_levelOf; rw [if_neg (fun z => Bool.false_ne_true (g_1.symm.trans z)), if_neg (fun z => z c_27), if_pos (by rw [c_49]; rfl)]] at hq
        exact hq _ ((IB.w mW_m).tr (IB.w mW_m)) wI_ss hM5
    · skip
      refine wp_iconst (nI 1) dX16_levelOf_30 (by decide) ?_
      refine wp_goto 35 dX16_levelOf_31 (by decide) ?_
      refine wp_iconst (nI 2) dX16_levelOf_35 (by decide) ?_
      refine wp_cV (y' := m_X16_fails) 17 [vi (nI 1), vi (nI 2)] [] 0 0 dX16_levelOf_36 ml_X16_102 im_X16_fails se_X16_fails (by decide) hM1.1.1 ok_X16_fails rfl (Nat.le_of_ble_eq_true rfl) rfl (Nat.le_of_ble_eq_true rfl) (d' := d - 1) (by omega) (Nat.zero_le _) (Nat.zero_le _) (c_X16_failsT hM1 hS wI_ss (nI 2) (by decide) (cont_ret ?_))
      have hM6 := hM1.w0 (x := nI 2)
      refine wp_if_neN 64 dX16_levelOf_39 (by decide) (by decide) (fun c_39 => ?_) (fun c_39 => absurd c_39 (by decide))
      refine wp_iconst (nI 0) dX16_levelOf_64 (by decide) ?_
      refine wp_ireturn dX16_levelOf_65 rfl ?_
      rw [show o_levelOf S (nI k) k u j = (nI 2, nI 0, S) from by unfold o_levelOf; rw [if_neg (fun z => Bool.false_ne_true (g_1.symm.trans z)), if_pos c_27]] at hq
      exact hq _ ((IB.w mW_m).tr (IB.w mW_m)) wI_ss hM6
set_option maxRecDepth 100000 in
set_option maxHeartbeats 4000000 in
theorem c_X16_slots {G : GG} {d bc bs : Nat} {h : Hp} {Q : Pst} {m : Nat} {A : Nat → Nat} {S : SV} (hM : MP h m A S) (hS : SB S) {k : Nat} (hk : k < 60) (hq : Q (oRet (vi (nI (slN S k)))) h) : WP G m_X16_slots d 0 (aargs 0 [vr (some m), vi (nI k)]) [] h bc bs Q := by
  refine wp_sub [(0, vr (some m)), (1, vi (nI k))] (fun _ hz => hz) ?_
  refine wp_aload_n (i := 0) dX16_slots_0 rfl rfl ?_
  refine wp_get 17 3 (vr (some (A 3))) dX16_slots_1 hM.1.1 (by decide) (by decide) fl_X16_7 (congrArg (fun z => toV (vr z)) (hM.1.r 3 (by decide) (by decide) (by decide) (by decide))) ?_
  refine wp_iload_n (i := 1) dX16_slots_4 rfl rfl ?_
  refine wp_caloadN 60 (nI (sTy S k)) dX16_slots_5 (hM.1.k 3 (by decide) (by decide) (by decide) (by decide)) (hM.1.n 3 (by decide) (by decide) (by decide)) (by omega) (by decide) (hM.2.2.2.1 k) ?_
  refine wp_bipush (nI 109) dX16_slots_6 (by decide) ?_
  refine wp_icmp_neN 17 dX16_slots_8 (by decide) (ty_bd hS k) (by decide) (fun c_8 => ?_) (fun c_8 => ?_)
  · skip
    refine wp_bipush (nI 21) dX16_slots_17 (by decide) ?_
    refine wp_ireturn dX16_slots_19 rfl ?_
    exact (show slN S k = 21 from if_neg c_8) ▸ hq
  · skip
    refine wp_sipush (nI 341) dX16_slots_11 (by decide) ?_
    refine wp_goto 19 dX16_slots_14 (by decide) ?_
    refine wp_ireturn dX16_slots_19 rfl ?_
    exact (show slN S k = 341 from if_pos c_8) ▸ hq
set_option maxRecDepth 100000 in
set_option maxHeartbeats 4000000 in
theorem c_X16_nodeAt {G : GG} {d bc bs : Nat} {h : Hp} {Q : Pst} {m : Nat} {A : Nat → Nat} {S : SV} (hM : MP h m A S) (hS : SB S) {k s : Nat} (hk : k < 60) (hd : 2 ≤ d) (hs : s < 341 ∧ (sTy S k ≠ 109 → s < 21)) (hq : Q (oRet (vi (nI (ndN S k s)))) h) : WP G m_X16_nodeAt d 0 (aargs 0 [vr (some m), vi (nI k), vi (nI s)]) [] h bc bs Q := by
  obtain ⟨hs1, hs2⟩ := hs
  refine wp_sub [(0, vr (some m)), (1, vi (nI k)), (2, vi (nI s))] (fun _ hz => hz) ?_
  have hnv := hS.1
  refine wp_aload_n (i := 0) dX16_nodeAt_0 rfl rfl ?_
  refine wp_get 17 3 (vr (some (A 3))) dX16_nodeAt_1 hM.1.1 (by decide) (by decide) fl_X16_7 (congrArg (fun z => toV (vr z)) (hM.1.r 3 (by decide) (by decide) (by decide) (by decide))) ?_
  refine wp_iload_n (i := 1) dX16_nodeAt_4 rfl rfl ?_
  refine wp_caloadN 60 (nI (sTy S k)) dX16_nodeAt_5 (hM.1.k 3 (by decide) (by decide) (by decide) (by decide)) (hM.1.n 3 (by decide) (by decide) (by decide)) (by omega) (by decide) (hM.2.2.2.1 k) ?_
  refine wp_bipush (nI 109) dX16_nodeAt_6 (by decide) ?_
  refine wp_icmp_neN 24 dX16_nodeAt_8 (by decide) (ty_bd hS k) (by decide) (fun c_8 => ?_) (fun c_8 => ?_)
  · have hs21 := hs2 c_8
    refine wp_aload_n (i := 0) dX16_nodeAt_24 rfl rfl ?_
    refine wp_iload_n (i := 1) dX16_nodeAt_25 rfl rfl ?_
    refine wp_cV (y' := m_X16_isVector) 17 [vi (nI k)] [] 0 0 dX16_nodeAt_26 ml_X16_124 im_X16_isVector se_X16_isVector (by decide) hM.1.1 ok_X16_isVector rfl (Nat.le_of_ble_eq_true rfl) rfl (Nat.le_of_ble_eq_true rfl) (d' := d - 1) (by omega) (Nat.zero_le _) (Nat.zero_le _) (c_X16_isVector hM hS (by omega) (cont_ret ?_))
    refine wp_if_eqB 59 dX16_nodeAt_29 (by decide) (fun c_29 => ?_) (fun c_29 => ?_)
    · skip
      refine wp_iconst (nI 0) dX16_nodeAt_59 (by decide) ?_
      refine wp_ireturn dX16_nodeAt_60 rfl ?_
      exact (show ndN S k s = 0 from (if_neg c_8).trans (if_neg (by rw [c_29]; exact Bool.false_ne_true))) ▸ hq
    · skip
      refine wp_iload_n (i := 2) dX16_nodeAt_32 rfl rfl ?_
      refine wp_aload_n (i := 0) dX16_nodeAt_33 rfl rfl ?_
      refine wp_get 17 4 (vr (some (A 4))) dX16_nodeAt_34 hM.1.1 (by decide) (by decide) fl_X16_13 (congrArg (fun z => toV (vr z)) (hM.1.r 4 (by decide) (by decide) (by decide) (by decide))) ?_
      refine wp_iload_n (i := 1) dX16_nodeAt_37 rfl rfl ?_
      refine wp_ialoadN 60 (nI (sSz S k)) dX16_nodeAt_38 (hM.1.k 4 (by decide) (by decide) (by decide) (by decide)) (hM.1.n 4 (by decide) (by decide) (by decide)) (by omega) (by decide) (hM.2.2.2.2.1 k) ?_
      refine wp_cS (y' := m_X16_isThere) [vi (nI s), vi (nI (sSz S k))] [] 0 0 dX16_nodeAt_39 ml_X16_87 st_X16_isThere ok_X16_isThere rfl (Nat.le_of_ble_eq_true rfl) rfl (Nat.le_of_ble_eq_true rfl) (d' := d - 1) (by omega) (Nat.zero_le _) (Nat.zero_le _) (c_X16_isThere s (sSz S k) (by omega) (by have := hS.2.2.2.1 k; omega) (by omega) (cont_ret ?_))
      refine wp_if_eqB 59 dX16_nodeAt_42 (by decide) (fun c_42 => ?_) (fun c_42 => ?_)
      · skip
        refine wp_iconst (nI 0) dX16_nodeAt_59 (by decide) ?_
        refine wp_ireturn dX16_nodeAt_60 rfl ?_
        exact (show ndN S k s = 0 from (if_neg c_8).trans (if_neg (by rw [c_42, Bool.and_false]; exact Bool.false_ne_true))) ▸ hq
      · skip
        refine wp_aload_n (i := 0) dX16_nodeAt_45 rfl rfl ?_
        refine wp_get 17 6 (vr (some (A 6))) dX16_nodeAt_46 hM.1.1 (by decide) (by decide) fl_X16_20 (congrArg (fun z => toV (vr z)) (hM.1.r 6 (by decide) (by decide) (by decide) (by decide))) ?_
        refine wp_bipush (nI 21) dX16_nodeAt_49 (by decide) ?_
        refine wp_iload_n (i := 1) dX16_nodeAt_51 rfl rfl ?_
        refine wp_imulN dX16_nodeAt_52 ?_
        refine wp_iload_n (i := 2) dX16_nodeAt_53 rfl rfl ?_
        refine wp_iaddN dX16_nodeAt_54 ?_
        refine wp_ialoadN 1260 (nI (sNd S ((21 * k) + s))) dX16_nodeAt_55 (hM.1.k 6 (by decide) (by decide) (by decide) (by decide)) (hM.1.n 6 (by decide) (by decide) (by decide)) (by omega) (by decide) (hM.2.2.2.2.2.2.1 ((21 * k) + s)) ?_
        refine wp_goto 60 dX16_nodeAt_56 (by decide) ?_
        refine wp_ireturn dX16_nodeAt_60 rfl ?_
        exact (show ndN S k s = sNd S (21 * k + s) from (if_neg c_8).trans (if_pos (by rw [c_29, c_42]; rfl))) ▸ hq
  · skip
    refine wp_aload_n (i := 0) dX16_nodeAt_11 rfl rfl ?_
    refine wp_get 17 10 (vr (some (A 10))) dX16_nodeAt_12 hM.1.1 (by decide) (by decide) fl_X16_34 (congrArg (fun z => toV (vr z)) (hM.1.r 10 (by decide) (by decide) (by decide) (by decide))) ?_
    refine wp_sipush (nI 341) dX16_nodeAt_15 (by decide) ?_
    refine wp_iload_n (i := 1) dX16_nodeAt_18 rfl rfl ?_
    refine wp_imulN dX16_nodeAt_19 ?_
    refine wp_iload_n (i := 2) dX16_nodeAt_20 rfl rfl ?_
    refine wp_iaddN dX16_nodeAt_21 ?_
    refine wp_ialoadN 20460 (nI (sMn S ((341 * k) + s))) dX16_nodeAt_22 (hM.1.k 10 (by decide) (by decide) (by decide) (by decide)) (hM.1.n 10 (by decide) (by decide) (by decide)) (by omega) (by decide) (hM.2.2.2.2.2.2.2.2.2.2 ((341 * k) + s)) ?_
    refine wp_ireturn dX16_nodeAt_23 rfl ?_
    exact (show ndN S k s = sMn S (341 * k + s) from if_pos c_8) ▸ hq
set_option maxRecDepth 100000 in
set_option maxHeartbeats 4000000 in
theorem l_X16_nodesOf {G : GG} {d bc bs : Nat} {h : Hp} {Q : Pst} {m : Nat} {A : Nat → Nat} {S : SV} (hM : MP h m A S) (hS : SB S) {k : Nat} (hk : k < 60) (hd : 3 ≤ d) (hq : Q (oRet (vi (nI (nsN S k)))) h) : ∀ n s, n + s = slN S k → WP G m_X16_nodesOf d 4 [(3, vi (nI s)), (2, vi (nI (sumN (fun s => if 0 < ndN S k s then 1 else 0) s))), (0, vr (some m)), (1, vi (nI k))] [] h bc bs Q := by
  have hl := slN_le (S := S) (v := k)
  intro n
  induction n with
  | zero =>
    intro s hs
    have hs : s = slN S k := by omega
    subst hs
    refine wp_iload_n (i := 3) dX16_nodesOf_4 rfl rfl ?_
    refine wp_aload_n (i := 0) dX16_nodesOf_5 rfl rfl ?_
    refine wp_iload_n (i := 1) dX16_nodesOf_6 rfl rfl ?_
    refine wp_cV (y' := m_X16_slots) 17 [vi (nI k)] [vi (nI (slN S k))] 0 0 dX16_nodesOf_7 ml_X16_159 im_X16_slots se_X16_slots (by decide) hM.1.1 ok_X16_slots rfl (Nat.le_of_ble_eq_true rfl) rfl (Nat.le_of_ble_eq_true rfl) (d' := d - 1) (by omega) (Nat.zero_le _) (Nat.zero_le _) (c_X16_slots hM hS (by omega) (cont_ret ?_))
    refine wp_icmp_geN 36 dX16_nodesOf_10 (by decide) (by omega) (by omega) (fun c_10 => ?_) (fun c_10 => absurd c_10 (by omega))
    refine wp_iload_n (i := 2) dX16_nodesOf_36 rfl rfl ?_
    refine wp_ireturn dX16_nodesOf_37 rfl ?_
    exact hq
  | succ n ih =>
    intro s hs
    have hsl := slN_21 (S := S) (v := k) (s := s) (by omega)
    have hsum := sum01 (f := (fun s => if 0 < ndN S k s then 1 else 0)) (fun _ => by split <;> omega) s
    have hnd := ndN_le hS (v := k) (s := s)
    refine wp_iload_n (i := 3) dX16_nodesOf_4 rfl rfl ?_
    refine wp_aload_n (i := 0) dX16_nodesOf_5 rfl rfl ?_
    refine wp_iload_n (i := 1) dX16_nodesOf_6 rfl rfl ?_
    refine wp_cV (y' := m_X16_slots) 17 [vi (nI k)] [vi (nI s)] 0 0 dX16_nodesOf_7 ml_X16_159 im_X16_slots se_X16_slots (by decide) hM.1.1 ok_X16_slots rfl (Nat.le_of_ble_eq_true rfl) rfl (Nat.le_of_ble_eq_true rfl) (d' := d - 1) (by omega) (Nat.zero_le _) (Nat.zero_le _) (c_X16_slots hM hS (by omega) (cont_ret ?_))
    refine wp_icmp_geN 36 dX16_nodesOf_10 (by decide) (by omega) (by omega) (fun c_10 => absurd c_10 (by omega)) (fun c_10 => ?_)
    refine wp_iload_n (i := 2) dX16_nodesOf_13 rfl rfl ?_
    refine wp_aload_n (i := 0) dX16_nodesOf_14 rfl rfl ?_
    refine wp_iload_n (i := 1) dX16_nodesOf_15 rfl rfl ?_
    refine wp_iload_n (i := 3) dX16_nodesOf_16 rfl rfl ?_
    refine wp_cV (y' := m_X16_nodeAt) 17 [vi (nI k), vi (nI s)] [vi (nI (sumN (fun s => if 0 < ndN S k s then 1 else 0) s))] 0 0 dX16_nodesOf_17 ml_X16_162 im_X16_nodeAt se_X16_nodeAt (by decide) hM.1.1 ok_X16_nodeAt rfl (Nat.le_of_ble_eq_true rfl) rfl (Nat.le_of_ble_eq_true rfl) (d' := d - 1) (by omega) (Nat.zero_le _) (Nat.zero_le _) (c_X16_nodeAt hM hS (by omega) (by omega) hsl (cont_ret ?_))
    refine wp_if_leN 27 dX16_nodesOf_20 (by decide) (by omega) (fun c_20 => ?_) (fun c_20 => ?_)
    · skip
      refine wp_iconst (nI 0) dX16_nodesOf_27 (by decide) ?_
      refine wp_iaddN dX16_nodesOf_28 ?_
      refine wp_istore_n (i := 2) (lv' := [(2, vi (nI ((sumN (fun s => if 0 < ndN S k s then 1 else 0) s) + 0))), (3, vi (nI s)), (0, vr (some m)), (1, vi (nI k))]) dX16_nodesOf_29 rfl (by decide) rfl ?_
      refine wp_iincN (a := s) (lv' := [(3, vi (nI (s + 1))), (2, vi (nI ((sumN (fun s => if 0 < ndN S k s then 1 else 0) s) + 0))), (0, vr (some m)), (1, vi (nI k))]) 1 dX16_nodesOf_30 rfl (by decide) (by decide) rfl ?_
      refine wp_goto 4 dX16_nodesOf_33 (by decide) ?_
      refine wp_sub [(3, vi (nI (s + 1))), (2, vi (nI ((sumN (fun s => if 0 < ndN S k s then 1 else 0) s) + 0))), (0, vr (some m)), (1, vi (nI k))] (sb_cons (.head _) (sb_cons (.tail _ (.head _)) (sb_cons (.tail _ (.tail _ (.head _))) (sb_cons (.tail _ (.tail _ (.tail _ (.head _)))) sb_nil)))) ?_
      have e : sumN (fun s => if 0 < ndN S k s then 1 else 0) (s + 1) = sumN (fun s => if 0 < ndN S k s then 1 else 0) s + 0 := by rw [sumN]; congr 1; exact if_neg (by omega)
      exact e ▸ ih (s + 1) (by omega)
    · skip
      refine wp_iconst (nI 1) dX16_nodesOf_23 (by decide) ?_
      refine wp_goto 28 dX16_nodesOf_24 (by decide) ?_
      refine wp_iaddN dX16_nodesOf_28 ?_
      refine wp_istore_n (i := 2) (lv' := [(2, vi (nI ((sumN (fun s => if 0 < ndN S k s then 1 else 0) s) + 1))), (3, vi (nI s)), (0, vr (some m)), (1, vi (nI k))]) dX16_nodesOf_29 rfl (by decide) rfl ?_
      refine wp_iincN (a := s) (lv' := [(3, vi (nI (s + 1))), (2, vi (nI ((sumN (fun s => if 0 < ndN S k s then 1 else 0) s) + 1))), (0, vr (some m)), (1, vi (nI k))]) 1 dX16_nodesOf_30 rfl (by decide) (by decide) rfl ?_
      refine wp_goto 4 dX16_nodesOf_33 (by decide) ?_
      refine wp_sub [(3, vi (nI (s + 1))), (2, vi (nI ((sumN (fun s => if 0 < ndN S k s then 1 else 0) s) + 1))), (0, vr (some m)), (1, vi (nI k))] (sb_cons (.head _) (sb_cons (.tail _ (.head _)) (sb_cons (.tail _ (.tail _ (.head _))) (sb_cons (.tail _ (.tail _ (.tail _ (.head _)))) sb_nil)))) ?_
      have e : sumN (fun s => if 0 < ndN S k s then 1 else 0) (s + 1) = sumN (fun s => if 0 < ndN S k s then 1 else 0) s + 1 := by rw [sumN]; congr 1; exact if_pos c_20
      exact e ▸ ih (s + 1) (by omega)
set_option maxRecDepth 100000 in
set_option maxHeartbeats 4000000 in
theorem c_X16_nodesOf {G : GG} {d bc bs : Nat} {h : Hp} {Q : Pst} {m : Nat} {A : Nat → Nat} {S : SV} (hM : MP h m A S) (hS : SB S) {k : Nat} (hk : k < 60) (hd : 3 ≤ d) (hq : Q (oRet (vi (nI (nsN S k)))) h) : WP G m_X16_nodesOf d 0 (aargs 0 [vr (some m), vi (nI k)]) [] h bc bs Q := by
  refine wp_sub [(0, vr (some m)), (1, vi (nI k))] (fun _ hz => hz) ?_
  refine wp_iconst (nI 0) dX16_nodesOf_0 (by decide) ?_
  refine wp_istore_n (i := 2) (lv' := [(2, vi (nI 0)), (0, vr (some m)), (1, vi (nI k))]) dX16_nodesOf_1 rfl (by decide) rfl ?_
  refine wp_iconst (nI 0) dX16_nodesOf_2 (by decide) ?_
  refine wp_istore_n (i := 3) (lv' := [(3, vi (nI 0)), (2, vi (nI 0)), (0, vr (some m)), (1, vi (nI k))]) dX16_nodesOf_3 rfl (by decide) rfl ?_
  exact l_X16_nodesOf hM hS hk hd hq (slN S k) 0 rfl
set_option maxRecDepth 100000 in
set_option maxHeartbeats 4000000 in
theorem c_X16_nodes {G : GG} {d bc bs : Nat} {h : Hp} {Q : Pst} {m : Nat} {A : Nat → Nat} {S : SV} (hM : MP h m A S) (hS : SB S) {v : Int32} {k : Nat} (hv : ixB v (sNv S) = true → v = nI k ∧ k < sNv S) (hd : 6 ≤ d) (hq : PO Q h m A (o_nodes S v k)) : WP G m_X16_nodes d 0 (aargs 0 [vr (some m), vi v]) [] h bc bs Q := by
  refine wp_sub [(0, vr (some m)), (1, vi v)] (fun _ hz => hz) ?_
  have hnv := hS.1
  refine wp_aload_n (i := 0) dX16_nodes_0 rfl rfl ?_
  refine wp_iconst (nI 0) dX16_nodes_1 (by decide) ?_
  refine wp_putI 17 0 dX16_nodes_2 hM.1.1 (by decide) (by decide) (by decide) fl_X16_63 rfl (fun _ _ => rfl) rfl rfl ?_
  have hM7 := hM.w0 (x := (nI 0))
  refine wp_aload_n (i := 0) dX16_nodes_5 rfl rfl ?_
  refine wp_aload_n (i := 0) dX16_nodes_6 rfl rfl ?_
  refine wp_iload_n (i := 1) dX16_nodes_7 rfl rfl ?_
  refine wp_cV (y' := m_X16_noValue) 17 [vi v] [vr (some m)] 0 0 dX16_nodes_8 ml_X16_114 im_X16_noValue se_X16_noValue (by decide) hM7.1.1 ok_X16_noValue rfl (Nat.le_of_ble_eq_true rfl) rfl (Nat.le_of_ble_eq_true rfl) (d' := d - 1) (by omega) (Nat.zero_le _) (Nat.zero_le _) (c_X16_noValue hM7 hS v (by omega) (cont_ret ?_))
  refine wp_iconst (nI 1) dX16_nodes_11 (by decide) ?_
  refine wp_cV (y' := m_X16_fails) 17 [vi (bI (!ixB v (sNv S))), vi (nI 1)] [] 0 0 dX16_nodes_12 ml_X16_102 im_X16_fails se_X16_fails (by decide) hM7.1.1 ok_X16_fails rfl (Nat.le_of_ble_eq_true rfl) rfl (Nat.le_of_ble_eq_true rfl) (d' := d - 1) (by omega) (Nat.zero_le _) (Nat.zero_le _) (c_X16_failsB hM7 hS wI_ss (!ixB v (sNv S)) (nI 1) (by decide) (fun g_1 => cont_ret ?_) (fun g_1 => cont_ret ?_))
  · have hM8 := hM7.w0 (x := nI 1)
    refine wp_if_eqN 22 dX16_nodes_15 (by decide) (by decide) (fun c_15 => absurd c_15 (by decide)) (fun c_15 => ?_)
    refine wp_iconst (nI 0) dX16_nodes_18 (by decide) ?_
    refine wp_goto 27 dX16_nodes_19 (by decide) ?_
    refine wp_ireturn dX16_nodes_27 rfl ?_
    rw [show o_nodes S v k = (nI 1, nI 0, S) from by unfold o_nodes; rw [if_pos g_1]] at hq
    exact hq _ ((IB.w mW_m).tr (IB.w mW_m)) wI_ss hM8
  · obtain ⟨ev, hk⟩ := hv (nt_f g_1)
    subst ev
    refine wp_if_eqN 22 dX16_nodes_15 (by decide) (by decide) (fun c_15 => ?_) (fun c_15 => absurd c_15 (by decide))
    refine wp_aload_n (i := 0) dX16_nodes_22 rfl rfl ?_
    refine wp_iload_n (i := 1) dX16_nodes_23 rfl rfl ?_
    refine wp_cV (y' := m_X16_nodesOf) 17 [vi (nI k)] [] 0 0 dX16_nodes_24 ml_X16_165 im_X16_nodesOf se_X16_nodesOf (by decide) hM7.1.1 ok_X16_nodesOf rfl (Nat.le_of_ble_eq_true rfl) rfl (Nat.le_of_ble_eq_true rfl) (d' := d - 1) (by omega) (Nat.zero_le _) (Nat.zero_le _) (c_X16_nodesOf hM7 hS (by omega) (by omega) (cont_ret ?_))
    refine wp_ireturn dX16_nodes_27 rfl ?_
    rw [show o_nodes S (nI k) k = (nI 0, nI (nsN S k), S) from by unfold o_nodes; rw [if_neg (fun z => Bool.false_ne_true (g_1.symm.trans z))]] at hq
    exact hq _ (IB.w mW_m) wI_ss hM7
set_option maxRecDepth 100000 in
set_option maxHeartbeats 4000000 in
theorem c_X16_made {G : GG} {d bc bs : Nat} {h : Hp} {Q : Pst} {m : Nat} {A : Nat → Nat} {S : SV} (hM : MP h m A S) (hS : SB S) (hq : Q (oRet (vl (nI (sMd S)).toInt64)) (wI h m 0 (nI 0))) : WP G m_X16_made d 0 (aargs 0 [vr (some m)]) [] h bc bs Q := by
  refine wp_sub [(0, vr (some m))] (fun _ hz => hz) ?_
  refine wp_aload_n (i := 0) dX16_made_0 rfl rfl ?_
  refine wp_iconst (nI 0) dX16_made_1 (by decide) ?_
  refine wp_putI 17 0 dX16_made_2 hM.1.1 (by decide) (by decide) (by decide) fl_X16_63 rfl (fun _ _ => rfl) rfl rfl ?_
  have hM9 := hM.w0 (x := (nI 0))
  refine wp_aload_n (i := 0) dX16_made_5 rfl rfl ?_
  refine wp_get 17 2 (vi (nI (sMd S))) dX16_made_6 hM9.1.1 (by decide) (by decide) fl_X16_84 (congrArg (fun z => toV (vi z)) (hM9.2.2.1)) ?_
  refine wp_i2l dX16_made_9 ?_
  refine wp_lreturn dX16_made_10 rfl ?_
  exact hq
