/-! The model: vectors, one operation after another. -/
/-- what an operation of the model answers: what was thrown, the answer, the state -/
def PO (Q : Pst) (h : Hp) (m : Nat) (A : Nat → Nat) (o : Int32 × Int32 × SV) : Prop := ∀ h', IB h h' (mW m A) → h_I h' m 0 = o.1 → MP h' m A o.2.2 → Q (oRet (vi o.2.1)) h'
theorem nt_f {b : Bool} (h : (!b) = false) : b = true := by revert h; cases b <;> decide
theorem SB.w3 {S : SV} (hS : SB S) {k x : Nat} (hx : x < 65536) : SB (s_3 S k x) := by
  refine ⟨hS.1, hS.2.1, fun j => ?_, hS.2.2.2.1, hS.2.2.2.2.1, hS.2.2.2.2.2⟩
  show va_up (sTy S) k x j < 65536
  by_cases hj : j = k
  · subst hj; rw [va_up_self]; exact hx
  · rw [va_up_ne _ _ hj]; exact hS.2.2.1 j
theorem SB.w4 {S : SV} (hS : SB S) {k x : Nat} (hx : x ≤ 64) : SB (s_4 S k x) := by
  refine ⟨hS.1, hS.2.1, hS.2.2.1, fun j => ?_, hS.2.2.2.2.1, hS.2.2.2.2.2⟩
  show va_up (sSz S) k x j ≤ 64
  by_cases hj : j = k
  · subst hj; rw [va_up_self]; exact hx
  · rw [va_up_ne _ _ hj]; exact hS.2.2.2.1 j
theorem SB.w5 {S : SV} (hS : SB S) {k : Nat} {x : Int32} : SB (s_5 S k x) := hS
theorem SB.cp {S : SV} (hS : SB S) {a b : Nat} : SB (s_cp S a b) := SB.w4 hS (hS.2.2.2.1 b)
/-- the nodes of v, made anew after w -/
abbrev s_nf (S : SV) (v w : Nat) : SV := nfS S v (smO S v w) (shO S w) 21
/-- a value of kind c more, with the elements of k -/
abbrev s_dup (S : SV) (c k : Nat) : SV := s_cp (s_new S c) (sNv S) k
theorem dup_sz {S : SV} {c k : Nat} (hk : k < sNv S) : sSz (s_dup S c k) (sNv S) = sSz S k := by
  show va_up (va_up (sSz S) (sNv S) 0) (sNv S) (va_up (sSz S) (sNv S) 0 k) (sNv S) = _
  rw [va_up_self, va_up_ne _ _ (by omega)]
def o_vector (S : SV) : Int32 × Int32 × SV :=
  if sNv S = 60 then (nI 1, nI 0, S) else (nI 0, nI (sNv S), nfS (s_new S 118) (sNv S) (fun _ => false) (fun _ => 0) 21)
def o_append (S : SV) (v : Int32) (k : Nat) (e : Int32) : Int32 × Int32 × SV :=
  if (!ixB v (sNv S)) = true then (nI 1, nI 0, S) else if (!elB e) = true then (nI 2, nI 0, S) else if sTy S k ≠ 118 ∨ sSz S k = 64 then (nI 3, nI 0, S) else if sNv S = 60 then (nI 4, nI 0, S)
  else (nI 0, nI (sNv S), s_nf (s_4 (s_5 (s_dup S 118 k) (64 * sNv S + sSz S k) e) (sNv S) (sSz S k + 1)) (sNv S) k)
def o_set (S : SV) (v : Int32) (k : Nat) (i : Int32) (j : Nat) (e : Int32) : Int32 × Int32 × SV :=
  if (!ixB v (sNv S)) = true then (nI 1, nI 0, S) else if (!elB e) = true then (nI 2, nI 0, S) else if sTy S k ≠ 118 then (nI 3, nI 0, S) else if ixB i (sSz S k) = false then (nI 4, nI 0, S) else if sNv S = 60 then (nI 5, nI 0, S)
  else (nI 0, nI (sNv S), s_nf (s_5 (s_dup S 118 k) (64 * sNv S + j) e) (sNv S) k)
def o_cut (S : SV) (v : Int32) (k : Nat) : Int32 × Int32 × SV :=
  if (!ixB v (sNv S)) = true then (nI 1, nI 0, S) else if sTy S k ≠ 118 then (nI 2, nI 0, S) else if sSz S k = 0 then (nI 3, nI 0, S) else if sNv S = 60 then (nI 4, nI 0, S)
  else (nI 0, nI (sNv S), s_nf (s_4 (s_dup S 118 k) (sNv S) (sSz S k - 1)) (sNv S) k)
def o_depth (S : SV) (v : Int32) (k : Nat) : Int32 × Int32 × SV :=
  if (!ixB v (sNv S)) = true then (nI 1, nI 0, S) else if vecB S k = false then (nI 2, nI 0, S) else (nI 0, nI (dOf (sSz S k)), S)
def o_open (S : SV) (v : Int32) (k : Nat) : Int32 × Int32 × SV :=
  if (!ixB v (sNv S)) = true then (nI 1, nI 0, S) else if sTy S k ≠ 118 then (nI 2, nI 0, S) else if sNv S = 60 then (nI 3, nI 0, S)
  else (nI 0, nI (sNv S), s_nf (s_dup S 111 k) (sNv S) k)
def o_lasting (S : SV) (v : Int32) (k : Nat) : Int32 × Int32 × SV :=
  if (!ixB v (sNv S)) = true then (nI 1, nI 0, S) else if sTy S k ≠ 111 then (nI 2, nI 0, S) else if sNv S = 60 then (nI 3, nI 0, S)
  else (nI 0, nI (sNv S), s_4 (s_3 (s_nf (s_dup S 118 k) (sNv S) k) k 120) k 0)
def o_isOpen (S : SV) (v : Int32) (k : Nat) : Int32 × Int32 × SV :=
  if (!ixB v (sNv S)) = true then (nI 1, nI 0, S) else (nI 0, bI (decide (sTy S k = 111)), S)
set_option maxRecDepth 100000 in
set_option maxHeartbeats 4000000 in
theorem c_X16_vector {G : GG} {d bc bs : Nat} {h : Hp} {Q : Pst} {m : Nat} {A : Nat → Nat} {S : SV} (hM : MP h m A S) (hS : SB S) (hmd : sMd S + 21 ≤ 1000000) (hd : 3 ≤ d) (hq : PO Q h m A (o_vector S)) : WP G m_X16_vector d 0 (aargs 0 [vr (some m)]) [] h bc bs Q := by
  refine wp_sub [(0, vr (some m))] (fun _ hz => hz) ?_
  have hnv := hS.1
  refine wp_aload_n (i := 0) dX16_vector_0 rfl rfl ?_
  refine wp_iconst (nI 0) dX16_vector_1 (by decide) ?_
  refine wp_putI 17 0 dX16_vector_2 hM.1.1 (by decide) (by decide) (by decide) fl_X16_63 rfl (fun _ _ => rfl) rfl rfl ?_
  refine wp_aload_n (i := 0) dX16_vector_5 rfl rfl ?_
  refine wp_aload_n (i := 0) dX16_vector_6 rfl rfl ?_
  refine wp_cV (y' := m_X16_isFull) 17 [] [vr (some m)] 0 0 dX16_vector_7 ml_X16_98 im_X16_isFull se_X16_isFull (by decide) hM.1.1 ok_X16_isFull rfl (Nat.le_of_ble_eq_true rfl) rfl (Nat.le_of_ble_eq_true rfl) (d' := d - 1) (by omega) (Nat.zero_le _) (Nat.zero_le _) (c_X16_isFull hM.w0 hS (cont_ret ?_))
  refine wp_iconst (nI 1) dX16_vector_10 (by decide) ?_
  refine wp_cV (y' := m_X16_fails) 17 [vi (bI (decide (sNv S = 60))), vi (nI 1)] [] 0 0 dX16_vector_11 ml_X16_102 im_X16_fails se_X16_fails (by decide) hM.1.1 ok_X16_fails rfl (Nat.le_of_ble_eq_true rfl) rfl (Nat.le_of_ble_eq_true rfl) (d' := d - 1) (by omega) (Nat.zero_le _) (Nat.zero_le _) (c_X16_failsB hM.w0 hS wI_ss (decide (sNv S = 60)) (nI 1) (by decide) (fun c_11 => cont_ret ?_) (fun c_11 => cont_ret ?_))
  · have g_1 : sNv S = 60 := by first | exact c_11 | exact of_decide_eq_true c_11 | omega
    refine wp_if_eqN 19 dX16_vector_14 (by decide) (by decide) (fun c_14 => absurd c_14 (by decide)) (fun c_14 => ?_)
    refine wp_iconst (nI 0) dX16_vector_17 (by decide) ?_
    refine wp_ireturn dX16_vector_18 rfl ?_
    rw [show o_vector S = (nI 1, nI 0, S) from by unfold o_vector; rw [if_pos g_1]] at hq
    exact hq _ ((IB.w mW_m).tr (IB.w mW_m)) wI_ss hM.w0.w0
  · have g_1 : ¬ (sNv S = 60) := by first | exact fun z => Bool.false_ne_true (c_11.symm.trans z) | exact of_decide_eq_false c_11 | omega
    refine wp_if_eqN 19 dX16_vector_14 (by decide) (by decide) (fun c_14 => ?_) (fun c_14 => absurd c_14 (by decide))
    refine wp_aload_n (i := 0) dX16_vector_19 rfl rfl ?_
    refine wp_bipush (nI 118) dX16_vector_20 (by decide) ?_
    refine wp_cV (y' := m_X16_newValue) 17 [vi (nI 118)] [] 0 0 dX16_vector_22 ml_X16_106 im_X16_newValue se_X16_newValue (by decide) hM.1.1 ok_X16_newValue rfl (Nat.le_of_ble_eq_true rfl) rfl (Nat.le_of_ble_eq_true rfl) (d' := d - 1) (by omega) (Nat.zero_le _) (Nat.zero_le _) (c_X16_newValue hM.w0 hS (by decide) (by decide) (by omega) (fun h1 hP1 hM1 => cont_ret ?_))
    refine wp_istore_n (i := 1) (lv' := [(1, vi (nI (sNv S))), (0, vr (some m))]) dX16_vector_25 rfl (by decide) rfl ?_
    refine wp_aload_n (i := 0) dX16_vector_26 rfl rfl ?_
    refine wp_iload_n (i := 1) dX16_vector_27 rfl rfl ?_
    refine wp_iconst (-1) dX16_vector_28 (by decide) ?_
    refine wp_cV (y' := m_X16_nodesFrom) 17 [vi (nI (sNv S)), vi (-1)] [] 0 0 dX16_vector_29 ml_X16_110 im_X16_nodesFrom se_X16_nodesFrom (by decide) hM1.1.1 ok_X16_nodesFrom rfl (Nat.le_of_ble_eq_true rfl) rfl (Nat.le_of_ble_eq_true rfl) (d' := d - 1) (by omega) (Nat.zero_le _) (Nat.zero_le _) (c_X16_nodesFromN hM1 (hS.new (by decide) (by omega)) hmd (by omega) (by omega) (fun h3 hP3 hM3 => cont_void ?_))
    refine wp_iload_n (i := 1) dX16_vector_32 rfl rfl ?_
    refine wp_ireturn dX16_vector_33 rfl ?_
    rw [show o_vector S = (nI 0, nI (sNv S), nfS (s_new S 118) (sNv S) (fun _ => false) (fun _ => 0) 21) from by unfold o_vector; rw [if_neg g_1]] at hq
    exact hq _ ((IB.w mW_m).tr (hP1.tr hP3).1) ((hP1.tr hP3).2.trans wI_ss) hM3
set_option maxRecDepth 100000 in
set_option maxHeartbeats 4000000 in
theorem c_X16_append {G : GG} {d bc bs : Nat} {h : Hp} {Q : Pst} {m : Nat} {A : Nat → Nat} {S : SV} (hM : MP h m A S) (hS : SB S) (hmd : sMd S + 21 ≤ 1000000) {v : Int32} {k : Nat} (hv : ixB v (sNv S) = true → v = nI k ∧ k < sNv S) {e : Int32} (hd : 3 ≤ d) (hq : PO Q h m A (o_append S v k e)) : WP G m_X16_append d 0 (aargs 0 [vr (some m), vi v, vi e]) [] h bc bs Q := by
  refine wp_sub [(0, vr (some m)), (1, vi v), (2, vi e)] (fun _ hz => hz) ?_
  have hnv := hS.1
  refine wp_aload_n (i := 0) dX16_append_0 rfl rfl ?_
  refine wp_iconst (nI 0) dX16_append_1 (by decide) ?_
  refine wp_putI 17 0 dX16_append_2 hM.1.1 (by decide) (by decide) (by decide) fl_X16_63 rfl (fun _ _ => rfl) rfl rfl ?_
  refine wp_aload_n (i := 0) dX16_append_5 rfl rfl ?_
  refine wp_aload_n (i := 0) dX16_append_6 rfl rfl ?_
  refine wp_iload_n (i := 1) dX16_append_7 rfl rfl ?_
  refine wp_cV (y' := m_X16_noValue) 17 [vi v] [vr (some m)] 0 0 dX16_append_8 ml_X16_114 im_X16_noValue se_X16_noValue (by decide) hM.1.1 ok_X16_noValue rfl (Nat.le_of_ble_eq_true rfl) rfl (Nat.le_of_ble_eq_true rfl) (d' := d - 1) (by omega) (Nat.zero_le _) (Nat.zero_le _) (c_X16_noValue hM.w0 hS v (by omega) (cont_ret ?_))
  refine wp_iconst (nI 1) dX16_append_11 (by decide) ?_
  refine wp_cV (y' := m_X16_fails) 17 [vi (bI (!ixB v (sNv S))), vi (nI 1)] [] 0 0 dX16_append_12 ml_X16_102 im_X16_fails se_X16_fails (by decide) hM.1.1 ok_X16_fails rfl (Nat.le_of_ble_eq_true rfl) rfl (Nat.le_of_ble_eq_true rfl) (d' := d - 1) (by omega) (Nat.zero_le _) (Nat.zero_le _) (c_X16_failsB hM.w0 hS wI_ss (!ixB v (sNv S)) (nI 1) (by decide) (fun c_12 => cont_ret ?_) (fun c_12 => cont_ret ?_))
  · have g_1 : (!ixB v (sNv S)) = true := by first | exact c_12 | exact of_decide_eq_true c_12 | omega
    refine wp_if_neN 77 dX16_append_15 (by decide) (by decide) (fun c_15 => ?_) (fun c_15 => absurd c_15 (by decide))
    refine wp_iconst (nI 0) dX16_append_77 (by decide) ?_
    refine wp_ireturn dX16_append_78 rfl ?_
    rw [show o_append S v k e = (nI 1, nI 0, S) from by unfold o_append; rw [if_pos g_1]] at hq
    exact hq _ ((IB.w mW_m).tr (IB.w mW_m)) wI_ss hM.w0.w0
  · have g_1 : ¬ ((!ixB v (sNv S)) = true) := by first | exact fun z => Bool.false_ne_true (c_12.symm.trans z) | exact of_decide_eq_false c_12 | omega
    obtain ⟨ev, hk⟩ := hv (nt_f (Bool.eq_false_iff.mpr g_1))
    subst ev
    refine wp_if_neN 77 dX16_append_15 (by decide) (by decide) (fun c_15 => absurd c_15 (by decide)) (fun c_15 => ?_)
    refine wp_aload_n (i := 0) dX16_append_18 rfl rfl ?_
    refine wp_iload_n (i := 2) dX16_append_19 rfl rfl ?_
    refine wp_cS (y' := m_X16_noElement) [vi e] [vr (some m)] 0 0 dX16_append_20 ml_X16_118 st_X16_noElement ok_X16_noElement rfl (Nat.le_of_ble_eq_true rfl) rfl (Nat.le_of_ble_eq_true rfl) (d' := d - 1) (by omega) (Nat.zero_le _) (Nat.zero_le _) (c_X16_noElement e (by omega) (cont_ret ?_))
    refine wp_iconst (nI 2) dX16_append_23 (by decide) ?_
    refine wp_cV (y' := m_X16_fails) 17 [vi (bI (!elB e)), vi (nI 2)] [] 0 0 dX16_append_24 ml_X16_102 im_X16_fails se_X16_fails (by decide) hM.1.1 ok_X16_fails rfl (Nat.le_of_ble_eq_true rfl) rfl (Nat.le_of_ble_eq_true rfl) (d' := d - 1) (by omega) (Nat.zero_le _) (Nat.zero_le _) (c_X16_failsB hM.w0 hS wI_ss (!elB e) (nI 2) (by decide) (fun c_24 => cont_ret ?_) (fun c_24 => cont_ret ?_))
    · have g_2 : (!elB e) = true := by first | exact c_24 | exact of_decide_eq_true c_24 | omega
      refine wp_if_neN 77 dX16_append_27 (by decide) (by decide) (fun c_27 => ?_) (fun c_27 => absurd c_27 (by decide))
      refine wp_iconst (nI 0) dX16_append_77 (by decide) ?_
      refine wp_ireturn dX16_append_78 rfl ?_
      rw [show o_append S (nI k) k e = (nI 2, nI 0, S) from by unfold o_append; rw [if_neg g_1, if_pos g_2]] at hq
      exact hq _ ((IB.w mW_m).tr (IB.w mW_m)) wI_ss hM.w0.w0
    · have g_2 : ¬ ((!elB e) = true) := by first | exact fun z => Bool.false_ne_true (c_24.symm.trans z) | exact of_decide_eq_false c_24 | omega
      refine wp_if_neN 77 dX16_append_27 (by decide) (by decide) (fun c_27 => absurd c_27 (by decide)) (fun c_27 => ?_)
      refine wp_aload_n (i := 0) dX16_append_30 rfl rfl ?_
      refine wp_aload_n (i := 0) dX16_append_31 rfl rfl ?_
      refine wp_get 17 3 (vr (some (A 3))) dX16_append_32 hM.1.1 (by decide) (by decide) fl_X16_7 (congrArg (fun z => toV (vr z)) (hM.1.r 3 (by decide) (by decide) (by decide) (by decide))) ?_
      refine wp_iload_n (i := 1) dX16_append_35 rfl rfl ?_
      refine wp_caloadN 60 (nI (sTy S k)) dX16_append_36 (hM.1.k 3 (by decide) (by decide) (by decide) (by decide)) (hM.1.n 3 (by decide) (by decide) (by decide)) (by omega) (by decide) ((hM.w0 (x := nI 0)).2.2.2.1 k) ?_
      refine wp_bipush (nI 118) dX16_append_37 (by decide) ?_
      refine wp_icmp_neN 53 dX16_append_39 (by decide) (ty_bd hS k) (by decide) (fun c_39 => ?_) (fun c_39 => ?_)
      · skip
        refine wp_iconst (nI 1) dX16_append_53 (by decide) ?_
        refine wp_goto 58 dX16_append_54 (by decide) ?_
        refine wp_iconst (nI 3) dX16_append_58 (by decide) ?_
        refine wp_cV (y' := m_X16_fails) 17 [vi (nI 1), vi (nI 3)] [] 0 0 dX16_append_59 ml_X16_102 im_X16_fails se_X16_fails (by decide) hM.1.1 ok_X16_fails rfl (Nat.le_of_ble_eq_true rfl) rfl (Nat.le_of_ble_eq_true rfl) (d' := d - 1) (by omega) (Nat.zero_le _) (Nat.zero_le _) (c_X16_failsT hM.w0 hS wI_ss (nI 3) (by decide) (cont_ret ?_))
        have g_3 : sTy S k ≠ 118 ∨ sSz S k = 64 := by first | exact c_59 | exact of_decide_eq_true c_59 | omega
        refine wp_if_neN 77 dX16_append_62 (by decide) (by decide) (fun c_62 => ?_) (fun c_62 => absurd c_62 (by decide))
        refine wp_iconst (nI 0) dX16_append_77 (by decide) ?_
        refine wp_ireturn dX16_append_78 rfl ?_
        rw [show o_append S (nI k) k e = (nI 3, nI 0, S) from by unfold o_append; rw [if_neg g_1, if_neg g_2, if_pos g_3]] at hq
        exact hq _ ((IB.w mW_m).tr (IB.w mW_m)) wI_ss hM.w0.w0
      · skip
        refine wp_aload_n (i := 0) dX16_append_42 rfl rfl ?_
        refine wp_get 17 4 (vr (some (A 4))) dX16_append_43 hM.1.1 (by decide) (by decide) fl_X16_13 (congrArg (fun z => toV (vr z)) (hM.1.r 4 (by decide) (by decide) (by decide) (by decide))) ?_
        refine wp_iload_n (i := 1) dX16_append_46 rfl rfl ?_
        refine wp_ialoadN 60 (nI (sSz S k)) dX16_append_47 (hM.1.k 4 (by decide) (by decide) (by decide) (by decide)) (hM.1.n 4 (by decide) (by decide) (by decide)) (by omega) (by decide) ((hM.w0 (x := nI 0)).2.2.2.2.1 k) ?_
        refine wp_bipush (nI 64) dX16_append_48 (by decide) ?_
        refine wp_icmp_neN 57 dX16_append_50 (by decide) (sz_bd hS k) (by decide) (fun c_50 => ?_) (fun c_50 => ?_)
        · skip
          refine wp_iconst (nI 0) dX16_append_57 (by decide) ?_
          refine wp_iconst (nI 3) dX16_append_58 (by decide) ?_
          refine wp_cV (y' := m_X16_fails) 17 [vi (nI 0), vi (nI 3)] [] 0 0 dX16_append_59 ml_X16_102 im_X16_fails se_X16_fails (by decide) hM.1.1 ok_X16_fails rfl (Nat.le_of_ble_eq_true rfl) rfl (Nat.le_of_ble_eq_true rfl) (d' := d - 1) (by omega) (Nat.zero_le _) (Nat.zero_le _) (c_X16_failsF hM.w0 hS wI_ss (nI 3) (by decide) (cont_ret ?_))
          have g_3 : ¬ (sTy S k ≠ 118 ∨ sSz S k = 64) := by first | exact fun z => Bool.false_ne_true (c_59.symm.trans z) | exact of_decide_eq_false c_59 | omega
          refine wp_if_neN 77 dX16_append_62 (by decide) (by decide) (fun c_62 => absurd c_62 (by decide)) (fun c_62 => ?_)
          refine wp_aload_n (i := 0) dX16_append_65 rfl rfl ?_
          refine wp_aload_n (i := 0) dX16_append_66 rfl rfl ?_
          refine wp_cV (y' := m_X16_isFull) 17 [] [vr (some m)] 0 0 dX16_append_67 ml_X16_98 im_X16_isFull se_X16_isFull (by decide) hM.1.1 ok_X16_isFull rfl (Nat.le_of_ble_eq_true rfl) rfl (Nat.le_of_ble_eq_true rfl) (d' := d - 1) (by omega) (Nat.zero_le _) (Nat.zero_le _) (c_X16_isFull hM.w0 hS (cont_ret ?_))
          refine wp_iconst (nI 4) dX16_append_70 (by decide) ?_
          refine wp_cV (y' := m_X16_fails) 17 [vi (bI (decide (sNv S = 60))), vi (nI 4)] [] 0 0 dX16_append_71 ml_X16_102 im_X16_fails se_X16_fails (by decide) hM.1.1 ok_X16_fails rfl (Nat.le_of_ble_eq_true rfl) rfl (Nat.le_of_ble_eq_true rfl) (d' := d - 1) (by omega) (Nat.zero_le _) (Nat.zero_le _) (c_X16_failsB hM.w0 hS wI_ss (decide (sNv S = 60)) (nI 4) (by decide) (fun c_71 => cont_ret ?_) (fun c_71 => cont_ret ?_))
          · have g_4 : sNv S = 60 := by first | exact c_71 | exact of_decide_eq_true c_71 | omega
            refine wp_if_eqN 79 dX16_append_74 (by decide) (by decide) (fun c_74 => absurd c_74 (by decide)) (fun c_74 => ?_)
            refine wp_iconst (nI 0) dX16_append_77 (by decide) ?_
            refine wp_ireturn dX16_append_78 rfl ?_
            rw [show o_append S (nI k) k e = (nI 4, nI 0, S) from by unfold o_append; rw [if_neg g_1, if_neg g_2, if_neg g_3, if_pos g_4]] at hq
            exact hq _ ((IB.w mW_m).tr (IB.w mW_m)) wI_ss hM.w0.w0
          · have g_4 : ¬ (sNv S = 60) := by first | exact fun z => Bool.false_ne_true (c_71.symm.trans z) | exact of_decide_eq_false c_71 | omega
            refine wp_if_eqN 79 dX16_append_74 (by decide) (by decide) (fun c_74 => ?_) (fun c_74 => absurd c_74 (by decide))
            refine wp_aload_n (i := 0) dX16_append_79 rfl rfl ?_
            refine wp_bipush (nI 118) dX16_append_80 (by decide) ?_
            refine wp_cV (y' := m_X16_newValue) 17 [vi (nI 118)] [] 0 0 dX16_append_82 ml_X16_106 im_X16_newValue se_X16_newValue (by decide) hM.1.1 ok_X16_newValue rfl (Nat.le_of_ble_eq_true rfl) rfl (Nat.le_of_ble_eq_true rfl) (d' := d - 1) (by omega) (Nat.zero_le _) (Nat.zero_le _) (c_X16_newValue hM.w0 hS (by decide) (by decide) (by omega) (fun h1 hP1 hM1 => cont_ret ?_))
            refine wp_istore_n (i := 3) (lv' := [(3, vi (nI (sNv S))), (0, vr (some m)), (1, vi (nI k)), (2, vi e)]) dX16_append_85 rfl (by decide) rfl ?_
            have hsz := hS.2.2.2.1 k
            refine wp_aload_n (i := 0) dX16_append_86 rfl rfl ?_
            refine wp_iload_n (i := 3) dX16_append_87 rfl rfl ?_
            refine wp_iload_n (i := 1) dX16_append_88 rfl rfl ?_
            refine wp_cV (y' := m_X16_copyElements) 17 [vi (nI (sNv S)), vi (nI k)] [] 0 0 dX16_append_89 ml_X16_121 im_X16_copyElements se_X16_copyElements (by decide) hM1.1.1 ok_X16_copyElements rfl (Nat.le_of_ble_eq_true rfl) rfl (Nat.le_of_ble_eq_true rfl) (d' := d - 1) (by omega) (Nat.zero_le _) (Nat.zero_le _) (c_X16_copyElements hM1 (hS.new (by decide) (by omega)) (by omega) (by omega) (fun h2 hP2 hM2 => cont_void ?_))
            refine wp_aload_n (i := 0) dX16_append_92 rfl rfl ?_
            refine wp_get 17 5 (vr (some (A 5))) dX16_append_93 hM2.1.1 (by decide) (by decide) fl_X16_17 (congrArg (fun z => toV (vr z)) (hM2.1.r 5 (by decide) (by decide) (by decide) (by decide))) ?_
            refine wp_bipush (nI 64) dX16_append_96 (by decide) ?_
            refine wp_iload_n (i := 3) dX16_append_98 rfl rfl ?_
            refine wp_imulN dX16_append_99 ?_
            refine wp_aload_n (i := 0) dX16_append_100 rfl rfl ?_
            refine wp_get 17 4 (vr (some (A 4))) dX16_append_101 hM2.1.1 (by decide) (by decide) fl_X16_13 (congrArg (fun z => toV (vr z)) (hM2.1.r 4 (by decide) (by decide) (by decide) (by decide))) ?_
            refine wp_iload_n (i := 3) dX16_append_104 rfl rfl ?_
            refine wp_ialoadN 60 (nI (sSz S k)) dX16_append_105 (hM2.1.k 4 (by decide) (by decide) (by decide) (by decide)) (hM2.1.n 4 (by decide) (by decide) (by decide)) (by omega) (by decide) ((hM2.2.2.2.2.1 (sNv S)).trans (congrArg nI (dup_sz hk))) ?_
            refine wp_iaddN dX16_append_106 ?_
            refine wp_iload_n (i := 2) dX16_append_107 rfl rfl ?_
            refine wp_iastoreN 3840 dX16_append_108 (hM2.1.k 5 (by decide) (by decide) (by decide) (by decide)) (hM2.1.n 5 (by decide) (by decide) (by decide)) (by omega) (by decide) ?_
            have hM4 := hM2.w5 (k := 64 * sNv S + sSz S k) (x := e)
            have hP4 := PV.i (k := 64 * sNv S + sSz S k) (x := e) hM2 PV.rf 5 (by decide) (by decide)
            refine wp_aload_n (i := 0) dX16_append_109 rfl rfl ?_
            refine wp_get 17 4 (vr (some (A 4))) dX16_append_110 hM4.1.1 (by decide) (by decide) fl_X16_13 (congrArg (fun z => toV (vr z)) (hM4.1.r 4 (by decide) (by decide) (by decide) (by decide))) ?_
            refine wp_iload_n (i := 3) dX16_append_113 rfl rfl ?_
            refine wp_dup2 dX16_append_114 ?_
            refine wp_ialoadN 60 (nI (sSz S k)) dX16_append_115 (hM4.1.k 4 (by decide) (by decide) (by decide) (by decide)) (hM4.1.n 4 (by decide) (by decide) (by decide)) (by omega) (by decide) ((hM4.2.2.2.2.1 (sNv S)).trans (congrArg nI (dup_sz hk))) ?_
            refine wp_iconst (nI 1) dX16_append_116 (by decide) ?_
            refine wp_iaddN dX16_append_117 ?_
            refine wp_iastoreN 60 dX16_append_118 (hM4.1.k 4 (by decide) (by decide) (by decide) (by decide)) (hM4.1.n 4 (by decide) (by decide) (by decide)) (by omega) (by decide) ?_
            have hM5 := hM4.w4 (k := sNv S) (x := sSz S k + 1)
            have hPx := PV.i (k := sNv S) (x := nI (sSz S k + 1)) hM4 hP4 4 (by decide) (by decide)
            refine wp_aload_n (i := 0) dX16_append_119 rfl rfl ?_
            refine wp_iload_n (i := 3) dX16_append_120 rfl rfl ?_
            refine wp_iload_n (i := 1) dX16_append_121 rfl rfl ?_
            refine wp_cV (y' := m_X16_nodesFrom) 17 [vi (nI (sNv S)), vi (nI k)] [] 0 0 dX16_append_122 ml_X16_110 im_X16_nodesFrom se_X16_nodesFrom (by decide) hM5.1.1 ok_X16_nodesFrom rfl (Nat.le_of_ble_eq_true rfl) rfl (Nat.le_of_ble_eq_true rfl) (d' := d - 1) (by omega) (Nat.zero_le _) (Nat.zero_le _) (c_X16_nodesFromS hM5 (SB.w4 (SB.w5 (SB.cp (hS.new (by decide) (by omega)))) (by omega)) hmd (by omega) (by omega) (by omega) (fun h3 hP3 hM3 => cont_void ?_))
            refine wp_iload_n (i := 3) dX16_append_125 rfl rfl ?_
            refine wp_ireturn dX16_append_126 rfl ?_
            rw [show o_append S (nI k) k e = (nI 0, nI (sNv S), s_nf (s_4 (s_5 (s_dup S 118 k) (64 * sNv S + sSz S k) e) (sNv S) (sSz S k + 1)) (sNv S) k) from by unfold o_append; rw [if_neg g_1, if_neg g_2, if_neg g_3, if_neg g_4]] at hq
            exact hq _ ((IB.w mW_m).tr (((hP1.tr hP2).tr hPx).tr hP3).1) ((((hP1.tr hP2).tr hPx).tr hP3).2.trans wI_ss) hM3
        · skip
          refine wp_iconst (nI 1) dX16_append_53 (by decide) ?_
          refine wp_goto 58 dX16_append_54 (by decide) ?_
          refine wp_iconst (nI 3) dX16_append_58 (by decide) ?_
          refine wp_cV (y' := m_X16_fails) 17 [vi (nI 1), vi (nI 3)] [] 0 0 dX16_append_59 ml_X16_102 im_X16_fails se_X16_fails (by decide) hM.1.1 ok_X16_fails rfl (Nat.le_of_ble_eq_true rfl) rfl (Nat.le_of_ble_eq_true rfl) (d' := d - 1) (by omega) (Nat.zero_le _) (Nat.zero_le _) (c_X16_failsT hM.w0 hS wI_ss (nI 3) (by decide) (cont_ret ?_))
          have g_3 : sTy S k ≠ 118 ∨ sSz S k = 64 := by first | exact c_59 | exact of_decide_eq_true c_59 | omega
          refine wp_if_neN 77 dX16_append_62 (by decide) (by decide) (fun c_62 => ?_) (fun c_62 => absurd c_62 (by decide))
          refine wp_iconst (nI 0) dX16_append_77 (by decide) ?_
          refine wp_ireturn dX16_append_78 rfl ?_
          rw [show o_append S (nI k) k e = (nI 3, nI 0, S) from by unfold o_append; rw [if_neg g_1, if_neg g_2, if_pos g_3]] at hq
          exact hq _ ((IB.w mW_m).tr (IB.w mW_m)) wI_ss hM.w0.w0
set_option maxRecDepth 100000 in
set_option maxHeartbeats 4000000 in
theorem c_X16_set {G : GG} {d bc bs : Nat} {h : Hp} {Q : Pst} {m : Nat} {A : Nat → Nat} {S : SV} (hM : MP h m A S) (hS : SB S) (hmd : sMd S + 21 ≤ 1000000) {v : Int32} {k : Nat} (hv : ixB v (sNv S) = true → v = nI k ∧ k < sNv S) {i : Int32} {j : Nat} (hi : ixB i (sSz S k) = true → i = nI j ∧ j < sSz S k) {e : Int32} (hd : 3 ≤ d) (hq : PO Q h m A (o_set S v k i j e)) : WP G m_X16_set d 0 (aargs 0 [vr (some m), vi v, vi i, vi e]) [] h bc bs Q := by
  refine wp_sub [(0, vr (some m)), (1, vi v), (2, vi i), (3, vi e)] (fun _ hz => hz) ?_
  have hnv := hS.1
  refine wp_aload_n (i := 0) dX16_set_0 rfl rfl ?_
  refine wp_iconst (nI 0) dX16_set_1 (by decide) ?_
  refine wp_putI 17 0 dX16_set_2 hM.1.1 (by decide) (by decide) (by decide) fl_X16_63 rfl (fun _ _ => rfl) rfl rfl ?_
  refine wp_aload_n (i := 0) dX16_set_5 rfl rfl ?_
  refine wp_aload_n (i := 0) dX16_set_6 rfl rfl ?_
  refine wp_iload_n (i := 1) dX16_set_7 rfl rfl ?_
  refine wp_cV (y' := m_X16_noValue) 17 [vi v] [vr (some m)] 0 0 dX16_set_8 ml_X16_114 im_X16_noValue se_X16_noValue (by decide) hM.1.1 ok_X16_noValue rfl (Nat.le_of_ble_eq_true rfl) rfl (Nat.le_of_ble_eq_true rfl) (d' := d - 1) (by omega) (Nat.zero_le _) (Nat.zero_le _) (c_X16_noValue hM.w0 hS v (by omega) (cont_ret ?_))
  refine wp_iconst (nI 1) dX16_set_11 (by decide) ?_
  refine wp_cV (y' := m_X16_fails) 17 [vi (bI (!ixB v (sNv S))), vi (nI 1)] [] 0 0 dX16_set_12 ml_X16_102 im_X16_fails se_X16_fails (by decide) hM.1.1 ok_X16_fails rfl (Nat.le_of_ble_eq_true rfl) rfl (Nat.le_of_ble_eq_true rfl) (d' := d - 1) (by omega) (Nat.zero_le _) (Nat.zero_le _) (c_X16_failsB hM.w0 hS wI_ss (!ixB v (sNv S)) (nI 1) (by decide) (fun c_12 => cont_ret ?_) (fun c_12 => cont_ret ?_))
  · have g_1 : (!ixB v (sNv S)) = true := by first | exact c_12 | exact of_decide_eq_true c_12 | omega
    refine wp_if_neN 95 dX16_set_15 (by decide) (by decide) (fun c_15 => ?_) (fun c_15 => absurd c_15 (by decide))
    refine wp_iconst (nI 0) dX16_set_95 (by decide) ?_
    refine wp_ireturn dX16_set_96 rfl ?_
    rw [show o_set S v k i j e = (nI 1, nI 0, S) from by unfold o_set; rw [if_pos g_1]] at hq
    exact hq _ ((IB.w mW_m).tr (IB.w mW_m)) wI_ss hM.w0.w0
  · have g_1 : ¬ ((!ixB v (sNv S)) = true) := by first | exact fun z => Bool.false_ne_true (c_12.symm.trans z) | exact of_decide_eq_false c_12 | omega
    obtain ⟨ev, hk⟩ := hv (nt_f (Bool.eq_false_iff.mpr g_1))
    subst ev
    refine wp_if_neN 95 dX16_set_15 (by decide) (by decide) (fun c_15 => absurd c_15 (by decide)) (fun c_15 => ?_)
    refine wp_aload_n (i := 0) dX16_set_18 rfl rfl ?_
    refine wp_iload_n (i := 3) dX16_set_19 rfl rfl ?_
    refine wp_cS (y' := m_X16_noElement) [vi e] [vr (some m)] 0 0 dX16_set_20 ml_X16_118 st_X16_noElement ok_X16_noElement rfl (Nat.le_of_ble_eq_true rfl) rfl (Nat.le_of_ble_eq_true rfl) (d' := d - 1) (by omega) (Nat.zero_le _) (Nat.zero_le _) (c_X16_noElement e (by omega) (cont_ret ?_))
    refine wp_iconst (nI 2) dX16_set_23 (by decide) ?_
    refine wp_cV (y' := m_X16_fails) 17 [vi (bI (!elB e)), vi (nI 2)] [] 0 0 dX16_set_24 ml_X16_102 im_X16_fails se_X16_fails (by decide) hM.1.1 ok_X16_fails rfl (Nat.le_of_ble_eq_true rfl) rfl (Nat.le_of_ble_eq_true rfl) (d' := d - 1) (by omega) (Nat.zero_le _) (Nat.zero_le _) (c_X16_failsB hM.w0 hS wI_ss (!elB e) (nI 2) (by decide) (fun c_24 => cont_ret ?_) (fun c_24 => cont_ret ?_))
    · have g_2 : (!elB e) = true := by first | exact c_24 | exact of_decide_eq_true c_24 | omega
      refine wp_if_neN 95 dX16_set_27 (by decide) (by decide) (fun c_27 => ?_) (fun c_27 => absurd c_27 (by decide))
      refine wp_iconst (nI 0) dX16_set_95 (by decide) ?_
      refine wp_ireturn dX16_set_96 rfl ?_
      rw [show o_set S (nI k) k i j e = (nI 2, nI 0, S) from by unfold o_set; rw [if_neg g_1, if_pos g_2]] at hq
      exact hq _ ((IB.w mW_m).tr (IB.w mW_m)) wI_ss hM.w0.w0
    · have g_2 : ¬ ((!elB e) = true) := by first | exact fun z => Bool.false_ne_true (c_24.symm.trans z) | exact of_decide_eq_false c_24 | omega
      refine wp_if_neN 95 dX16_set_27 (by decide) (by decide) (fun c_27 => absurd c_27 (by decide)) (fun c_27 => ?_)
      refine wp_aload_n (i := 0) dX16_set_30 rfl rfl ?_
      refine wp_aload_n (i := 0) dX16_set_31 rfl rfl ?_
      refine wp_get 17 3 (vr (some (A 3))) dX16_set_32 hM.1.1 (by decide) (by decide) fl_X16_7 (congrArg (fun z => toV (vr z)) (hM.1.r 3 (by decide) (by decide) (by decide) (by decide))) ?_
      refine wp_iload_n (i := 1) dX16_set_35 rfl rfl ?_
      refine wp_caloadN 60 (nI (sTy S k)) dX16_set_36 (hM.1.k 3 (by decide) (by decide) (by decide) (by decide)) (hM.1.n 3 (by decide) (by decide) (by decide)) (by omega) (by decide) ((hM.w0 (x := nI 0)).2.2.2.1 k) ?_
      refine wp_bipush (nI 118) dX16_set_37 (by decide) ?_
      refine wp_icmp_eqN 46 dX16_set_39 (by decide) (ty_bd hS k) (by decide) (fun c_39 => ?_) (fun c_39 => ?_)
      · skip
        refine wp_iconst (nI 0) dX16_set_46 (by decide) ?_
        refine wp_iconst (nI 3) dX16_set_47 (by decide) ?_
        refine wp_cV (y' := m_X16_fails) 17 [vi (nI 0), vi (nI 3)] [] 0 0 dX16_set_48 ml_X16_102 im_X16_fails se_X16_fails (by decide) hM.1.1 ok_X16_fails rfl (Nat.le_of_ble_eq_true rfl) rfl (Nat.le_of_ble_eq_true rfl) (d' := d - 1) (by omega) (Nat.zero_le _) (Nat.zero_le _) (c_X16_failsF hM.w0 hS wI_ss (nI 3) (by decide) (cont_ret ?_))
        have g_3 : ¬ (sTy S k ≠ 118) := by first | exact fun z => Bool.false_ne_true (c_48.symm.trans z) | exact of_decide_eq_false c_48 | omega
        refine wp_if_neN 95 dX16_set_51 (by decide) (by decide) (fun c_51 => absurd c_51 (by decide)) (fun c_51 => ?_)
        refine wp_aload_n (i := 0) dX16_set_54 rfl rfl ?_
        refine wp_iload_n (i := 2) dX16_set_55 rfl rfl ?_
        refine wp_iconst (nI 0) dX16_set_56 (by decide) ?_
        refine wp_aload_n (i := 0) dX16_set_57 rfl rfl ?_
        refine wp_get 17 4 (vr (some (A 4))) dX16_set_58 hM.1.1 (by decide) (by decide) fl_X16_13 (congrArg (fun z => toV (vr z)) (hM.1.r 4 (by decide) (by decide) (by decide) (by decide))) ?_
        refine wp_iload_n (i := 1) dX16_set_61 rfl rfl ?_
        refine wp_ialoadN 60 (nI (sSz S k)) dX16_set_62 (hM.1.k 4 (by decide) (by decide) (by decide) (by decide)) (hM.1.n 4 (by decide) (by decide) (by decide)) (by omega) (by decide) ((hM.w0 (x := nI 0)).2.2.2.2.1 k) ?_
        refine wp_iconst (nI 1) dX16_set_63 (by decide) ?_
        refine wp_isub dX16_set_64 ?_
        refine wp_cS (y' := m_X16_in) [vi i, vi (nI 0), vi ((nI (sSz S k)) - (nI 1))] [vr (some m)] 0 0 dX16_set_65 ml_X16_70 st_X16_in ok_X16_in rfl (Nat.le_of_ble_eq_true rfl) rfl (Nat.le_of_ble_eq_true rfl) (d' := d - 1) (by omega) (Nat.zero_le _) (Nat.zero_le _) (c_X16_in i (nI 0) ((nI (sSz S k)) - (nI 1))  (cont_ret ?_))
        refine wp_if_neB 75 dX16_set_68 (by decide) (fun c_68 => ?_) (fun c_68 => ?_)
        · skip
          refine wp_iconst (nI 0) dX16_set_75 (by decide) ?_
          refine wp_iconst (nI 4) dX16_set_76 (by decide) ?_
          refine wp_cV (y' := m_X16_fails) 17 [vi (nI 0), vi (nI 4)] [] 0 0 dX16_set_77 ml_X16_102 im_X16_fails se_X16_fails (by decide) hM.1.1 ok_X16_fails rfl (Nat.le_of_ble_eq_true rfl) rfl (Nat.le_of_ble_eq_true rfl) (d' := d - 1) (by omega) (Nat.zero_le _) (Nat.zero_le _) (c_X16_failsF hM.w0 hS wI_ss (nI 4) (by decide) (cont_ret ?_))
          have g_4 : ¬ (ixB i (sSz S k) = false) := by exact fun z => Bool.false_ne_true (z.symm.trans c_68)
          obtain ⟨ei, hj⟩ := hi (by revert g_4; cases ixB i (sSz S k) <;> simp)
          subst ei
          refine wp_if_neN 95 dX16_set_80 (by decide) (by decide) (fun c_80 => absurd c_80 (by decide)) (fun c_80 => ?_)
          refine wp_aload_n (i := 0) dX16_set_83 rfl rfl ?_
          refine wp_aload_n (i := 0) dX16_set_84 rfl rfl ?_
          refine wp_cV (y' := m_X16_isFull) 17 [] [vr (some m)] 0 0 dX16_set_85 ml_X16_98 im_X16_isFull se_X16_isFull (by decide) hM.1.1 ok_X16_isFull rfl (Nat.le_of_ble_eq_true rfl) rfl (Nat.le_of_ble_eq_true rfl) (d' := d - 1) (by omega) (Nat.zero_le _) (Nat.zero_le _) (c_X16_isFull hM.w0 hS (cont_ret ?_))
          refine wp_iconst (nI 5) dX16_set_88 (by decide) ?_
          refine wp_cV (y' := m_X16_fails) 17 [vi (bI (decide (sNv S = 60))), vi (nI 5)] [] 0 0 dX16_set_89 ml_X16_102 im_X16_fails se_X16_fails (by decide) hM.1.1 ok_X16_fails rfl (Nat.le_of_ble_eq_true rfl) rfl (Nat.le_of_ble_eq_true rfl) (d' := d - 1) (by omega) (Nat.zero_le _) (Nat.zero_le _) (c_X16_failsB hM.w0 hS wI_ss (decide (sNv S = 60)) (nI 5) (by decide) (fun c_89 => cont_ret ?_) (fun c_89 => cont_ret ?_))
          · have g_5 : sNv S = 60 := by first | exact c_89 | exact of_decide_eq_true c_89 | omega
            refine wp_if_eqN 97 dX16_set_92 (by decide) (by decide) (fun c_92 => absurd c_92 (by decide)) (fun c_92 => ?_)
            refine wp_iconst (nI 0) dX16_set_95 (by decide) ?_
            refine wp_ireturn dX16_set_96 rfl ?_
            rw [show o_set S (nI k) k (nI j) j e = (nI 5, nI 0, S) from by unfold o_set; rw [if_neg g_1, if_neg g_2, if_neg g_3, if_neg g_4, if_pos g_5]] at hq
            exact hq _ ((IB.w mW_m).tr (IB.w mW_m)) wI_ss hM.w0.w0
          · have g_5 : ¬ (sNv S = 60) := by first | exact fun z => Bool.false_ne_true (c_89.symm.trans z) | exact of_decide_eq_false c_89 | omega
            refine wp_if_eqN 97 dX16_set_92 (by decide) (by decide) (fun c_92 => ?_) (fun c_92 => absurd c_92 (by decide))
            refine wp_aload_n (i := 0) dX16_set_97 rfl rfl ?_
            refine wp_bipush (nI 118) dX16_set_98 (by decide) ?_
            refine wp_cV (y' := m_X16_newValue) 17 [vi (nI 118)] [] 0 0 dX16_set_100 ml_X16_106 im_X16_newValue se_X16_newValue (by decide) hM.1.1 ok_X16_newValue rfl (Nat.le_of_ble_eq_true rfl) rfl (Nat.le_of_ble_eq_true rfl) (d' := d - 1) (by omega) (Nat.zero_le _) (Nat.zero_le _) (c_X16_newValue hM.w0 hS (by decide) (by decide) (by omega) (fun h1 hP1 hM1 => cont_ret ?_))
            refine wp_istore (i := 4) (lv' := [(4, vi (nI (sNv S))), (0, vr (some m)), (1, vi (nI k)), (2, vi (nI j)), (3, vi e)]) dX16_set_103 (by decide) rfl ?_
            refine wp_aload_n (i := 0) dX16_set_105 rfl rfl ?_
            have hsz := hS.2.2.2.1 k
            refine wp_iload (i := 4) dX16_set_106 rfl ?_
            refine wp_iload_n (i := 1) dX16_set_108 rfl rfl ?_
            refine wp_cV (y' := m_X16_copyElements) 17 [vi (nI (sNv S)), vi (nI k)] [] 0 0 dX16_set_109 ml_X16_121 im_X16_copyElements se_X16_copyElements (by decide) hM1.1.1 ok_X16_copyElements rfl (Nat.le_of_ble_eq_true rfl) rfl (Nat.le_of_ble_eq_true rfl) (d' := d - 1) (by omega) (Nat.zero_le _) (Nat.zero_le _) (c_X16_copyElements hM1 (hS.new (by decide) (by omega)) (by omega) (by omega) (fun h2 hP2 hM2 => cont_void ?_))
            refine wp_aload_n (i := 0) dX16_set_112 rfl rfl ?_
            refine wp_get 17 5 (vr (some (A 5))) dX16_set_113 hM2.1.1 (by decide) (by decide) fl_X16_17 (congrArg (fun z => toV (vr z)) (hM2.1.r 5 (by decide) (by decide) (by decide) (by decide))) ?_
            refine wp_bipush (nI 64) dX16_set_116 (by decide) ?_
            refine wp_iload (i := 4) dX16_set_118 rfl ?_
            refine wp_imulN dX16_set_120 ?_
            refine wp_iload_n (i := 2) dX16_set_121 rfl rfl ?_
            refine wp_iaddN dX16_set_122 ?_
            refine wp_iload_n (i := 3) dX16_set_123 rfl rfl ?_
            refine wp_iastoreN 3840 dX16_set_124 (hM2.1.k 5 (by decide) (by decide) (by decide) (by decide)) (hM2.1.n 5 (by decide) (by decide) (by decide)) (by omega) (by decide) ?_
            have hM4 := hM2.w5 (k := 64 * sNv S + j) (x := e)
            have hP4 := PV.i (k := 64 * sNv S + j) (x := e) hM2 PV.rf 5 (by decide) (by decide)
            refine wp_aload_n (i := 0) dX16_set_125 rfl rfl ?_
            refine wp_iload (i := 4) dX16_set_126 rfl ?_
            refine wp_iload_n (i := 1) dX16_set_128 rfl rfl ?_
            refine wp_cV (y' := m_X16_nodesFrom) 17 [vi (nI (sNv S)), vi (nI k)] [] 0 0 dX16_set_129 ml_X16_110 im_X16_nodesFrom se_X16_nodesFrom (by decide) hM4.1.1 ok_X16_nodesFrom rfl (Nat.le_of_ble_eq_true rfl) rfl (Nat.le_of_ble_eq_true rfl) (d' := d - 1) (by omega) (Nat.zero_le _) (Nat.zero_le _) (c_X16_nodesFromS hM4 (SB.w5 (SB.cp (hS.new (by decide) (by omega)))) hmd (by omega) (by omega) (by omega) (fun h3 hP3 hM3 => cont_void ?_))
            refine wp_iload (i := 4) dX16_set_132 rfl ?_
            refine wp_ireturn dX16_set_134 rfl ?_
            rw [show o_set S (nI k) k (nI j) j e = (nI 0, nI (sNv S), s_nf (s_5 (s_dup S 118 k) (64 * sNv S + j) e) (sNv S) k) from by unfold o_set; rw [if_neg g_1, if_neg g_2, if_neg g_3, if_neg g_4, if_neg g_5]] at hq
            exact hq _ ((IB.w mW_m).tr (((hP1.tr hP2).tr hP4).tr hP3).1) ((((hP1.tr hP2).tr hP4).tr hP3).2.trans wI_ss) hM3
        · skip
          refine wp_iconst (nI 1) dX16_set_71 (by decide) ?_
          refine wp_goto 76 dX16_set_72 (by decide) ?_
          refine wp_iconst (nI 4) dX16_set_76 (by decide) ?_
          refine wp_cV (y' := m_X16_fails) 17 [vi (nI 1), vi (nI 4)] [] 0 0 dX16_set_77 ml_X16_102 im_X16_fails se_X16_fails (by decide) hM.1.1 ok_X16_fails rfl (Nat.le_of_ble_eq_true rfl) rfl (Nat.le_of_ble_eq_true rfl) (d' := d - 1) (by omega) (Nat.zero_le _) (Nat.zero_le _) (c_X16_failsT hM.w0 hS wI_ss (nI 4) (by decide) (cont_ret ?_))
          have g_4 : ixB i (sSz S k) = false := by exact c_68
          refine wp_if_neN 95 dX16_set_80 (by decide) (by decide) (fun c_80 => ?_) (fun c_80 => absurd c_80 (by decide))
          refine wp_iconst (nI 0) dX16_set_95 (by decide) ?_
          refine wp_ireturn dX16_set_96 rfl ?_
          rw [show o_set S (nI k) k i j e = (nI 4, nI 0, S) from by unfold o_set; rw [if_neg g_1, if_neg g_2, if_neg g_3, if_pos g_4]] at hq
          exact hq _ ((IB.w mW_m).tr (IB.w mW_m)) wI_ss hM.w0.w0
      · skip
        refine wp_iconst (nI 1) dX16_set_42 (by decide) ?_
        refine wp_goto 47 dX16_set_43 (by decide) ?_
        refine wp_iconst (nI 3) dX16_set_47 (by decide) ?_
        refine wp_cV (y' := m_X16_fails) 17 [vi (nI 1), vi (nI 3)] [] 0 0 dX16_set_48 ml_X16_102 im_X16_fails se_X16_fails (by decide) hM.1.1 ok_X16_fails rfl (Nat.le_of_ble_eq_true rfl) rfl (Nat.le_of_ble_eq_true rfl) (d' := d - 1) (by omega) (Nat.zero_le _) (Nat.zero_le _) (c_X16_failsT hM.w0 hS wI_ss (nI 3) (by decide) (cont_ret ?_))
        have g_3 : sTy S k ≠ 118 := by first | exact c_48 | exact of_decide_eq_true c_48 | omega
        refine wp_if_neN 95 dX16_set_51 (by decide) (by decide) (fun c_51 => ?_) (fun c_51 => absurd c_51 (by decide))
        refine wp_iconst (nI 0) dX16_set_95 (by decide) ?_
        refine wp_ireturn dX16_set_96 rfl ?_
        rw [show o_set S (nI k) k i j e = (nI 3, nI 0, S) from by unfold o_set; rw [if_neg g_1, if_neg g_2, if_pos g_3]] at hq
        exact hq _ ((IB.w mW_m).tr (IB.w mW_m)) wI_ss hM.w0.w0
set_option maxRecDepth 100000 in
set_option maxHeartbeats 4000000 in
theorem c_X16_cut {G : GG} {d bc bs : Nat} {h : Hp} {Q : Pst} {m : Nat} {A : Nat → Nat} {S : SV} (hM : MP h m A S) (hS : SB S) (hmd : sMd S + 21 ≤ 1000000) {v : Int32} {k : Nat} (hv : ixB v (sNv S) = true → v = nI k ∧ k < sNv S) (hd : 3 ≤ d) (hq : PO Q h m A (o_cut S v k)) : WP G m_X16_cut d 0 (aargs 0 [vr (some m), vi v]) [] h bc bs Q := by
  refine wp_sub [(0, vr (some m)), (1, vi v)] (fun _ hz => hz) ?_
  have hnv := hS.1
  refine wp_aload_n (i := 0) dX16_cut_0 rfl rfl ?_
  refine wp_iconst (nI 0) dX16_cut_1 (by decide) ?_
  refine wp_putI 17 0 dX16_cut_2 hM.1.1 (by decide) (by decide) (by decide) fl_X16_63 rfl (fun _ _ => rfl) rfl rfl ?_
  refine wp_aload_n (i := 0) dX16_cut_5 rfl rfl ?_
  refine wp_aload_n (i := 0) dX16_cut_6 rfl rfl ?_
  refine wp_iload_n (i := 1) dX16_cut_7 rfl rfl ?_
  refine wp_cV (y' := m_X16_noValue) 17 [vi v] [vr (some m)] 0 0 dX16_cut_8 ml_X16_114 im_X16_noValue se_X16_noValue (by decide) hM.1.1 ok_X16_noValue rfl (Nat.le_of_ble_eq_true rfl) rfl (Nat.le_of_ble_eq_true rfl) (d' := d - 1) (by omega) (Nat.zero_le _) (Nat.zero_le _) (c_X16_noValue hM.w0 hS v (by omega) (cont_ret ?_))
  refine wp_iconst (nI 1) dX16_cut_11 (by decide) ?_
  refine wp_cV (y' := m_X16_fails) 17 [vi (bI (!ixB v (sNv S))), vi (nI 1)] [] 0 0 dX16_cut_12 ml_X16_102 im_X16_fails se_X16_fails (by decide) hM.1.1 ok_X16_fails rfl (Nat.le_of_ble_eq_true rfl) rfl (Nat.le_of_ble_eq_true rfl) (d' := d - 1) (by omega) (Nat.zero_le _) (Nat.zero_le _) (c_X16_failsB hM.w0 hS wI_ss (!ixB v (sNv S)) (nI 1) (by decide) (fun c_12 => cont_ret ?_) (fun c_12 => cont_ret ?_))
  · have g_1 : (!ixB v (sNv S)) = true := by first | exact c_12 | exact of_decide_eq_true c_12 | omega
    refine wp_if_neN 76 dX16_cut_15 (by decide) (by decide) (fun c_15 => ?_) (fun c_15 => absurd c_15 (by decide))
    refine wp_iconst (nI 0) dX16_cut_76 (by decide) ?_
    refine wp_ireturn dX16_cut_77 rfl ?_
    rw [show o_cut S v k = (nI 1, nI 0, S) from by unfold o_cut; rw [if_pos g_1]] at hq
    exact hq _ ((IB.w mW_m).tr (IB.w mW_m)) wI_ss hM.w0.w0
  · have g_1 : ¬ ((!ixB v (sNv S)) = true) := by first | exact fun z => Bool.false_ne_true (c_12.symm.trans z) | exact of_decide_eq_false c_12 | omega
    obtain ⟨ev, hk⟩ := hv (nt_f (Bool.eq_false_iff.mpr g_1))
    subst ev
    refine wp_if_neN 76 dX16_cut_15 (by decide) (by decide) (fun c_15 => absurd c_15 (by decide)) (fun c_15 => ?_)
    refine wp_aload_n (i := 0) dX16_cut_18 rfl rfl ?_
    refine wp_aload_n (i := 0) dX16_cut_19 rfl rfl ?_
    refine wp_get 17 3 (vr (some (A 3))) dX16_cut_20 hM.1.1 (by decide) (by decide) fl_X16_7 (congrArg (fun z => toV (vr z)) (hM.1.r 3 (by decide) (by decide) (by decide) (by decide))) ?_
    refine wp_iload_n (i := 1) dX16_cut_23 rfl rfl ?_
    refine wp_caloadN 60 (nI (sTy S k)) dX16_cut_24 (hM.1.k 3 (by decide) (by decide) (by decide) (by decide)) (hM.1.n 3 (by decide) (by decide) (by decide)) (by omega) (by decide) ((hM.w0 (x := nI 0)).2.2.2.1 k) ?_
    refine wp_bipush (nI 118) dX16_cut_25 (by decide) ?_
    refine wp_icmp_eqN 34 dX16_cut_27 (by decide) (ty_bd hS k) (by decide) (fun c_27 => ?_) (fun c_27 => ?_)
    · skip
      refine wp_iconst (nI 0) dX16_cut_34 (by decide) ?_
      refine wp_iconst (nI 2) dX16_cut_35 (by decide) ?_
      refine wp_cV (y' := m_X16_fails) 17 [vi (nI 0), vi (nI 2)] [] 0 0 dX16_cut_36 ml_X16_102 im_X16_fails se_X16_fails (by decide) hM.1.1 ok_X16_fails rfl (Nat.le_of_ble_eq_true rfl) rfl (Nat.le_of_ble_eq_true rfl) (d' := d - 1) (by omega) (Nat.zero_le _) (Nat.zero_le _) (c_X16_failsF hM.w0 hS wI_ss (nI 2) (by decide) (cont_ret ?_))
      have g_2 : ¬ (sTy S k ≠ 118) := by first | exact fun z => Bool.false_ne_true (c_36.symm.trans z) | exact of_decide_eq_false c_36 | omega
      refine wp_if_neN 76 dX16_cut_39 (by decide) (by decide) (fun c_39 => absurd c_39 (by decide)) (fun c_39 => ?_)
      refine wp_aload_n (i := 0) dX16_cut_42 rfl rfl ?_
      refine wp_aload_n (i := 0) dX16_cut_43 rfl rfl ?_
      refine wp_get 17 4 (vr (some (A 4))) dX16_cut_44 hM.1.1 (by decide) (by decide) fl_X16_13 (congrArg (fun z => toV (vr z)) (hM.1.r 4 (by decide) (by decide) (by decide) (by decide))) ?_
      refine wp_iload_n (i := 1) dX16_cut_47 rfl rfl ?_
      refine wp_ialoadN 60 (nI (sSz S k)) dX16_cut_48 (hM.1.k 4 (by decide) (by decide) (by decide) (by decide)) (hM.1.n 4 (by decide) (by decide) (by decide)) (by omega) (by decide) ((hM.w0 (x := nI 0)).2.2.2.2.1 k) ?_
      refine wp_if_neN 56 dX16_cut_49 (by decide) (sz_bd hS k) (fun c_49 => ?_) (fun c_49 => ?_)
      · skip
        refine wp_iconst (nI 0) dX16_cut_56 (by decide) ?_
        refine wp_iconst (nI 3) dX16_cut_57 (by decide) ?_
        refine wp_cV (y' := m_X16_fails) 17 [vi (nI 0), vi (nI 3)] [] 0 0 dX16_cut_58 ml_X16_102 im_X16_fails se_X16_fails (by decide) hM.1.1 ok_X16_fails rfl (Nat.le_of_ble_eq_true rfl) rfl (Nat.le_of_ble_eq_true rfl) (d' := d - 1) (by omega) (Nat.zero_le _) (Nat.zero_le _) (c_X16_failsF hM.w0 hS wI_ss (nI 3) (by decide) (cont_ret ?_))
        have g_3 : ¬ (sSz S k = 0) := by first | exact fun z => Bool.false_ne_true (c_58.symm.trans z) | exact of_decide_eq_false c_58 | omega
        refine wp_if_neN 76 dX16_cut_61 (by decide) (by decide) (fun c_61 => absurd c_61 (by decide)) (fun c_61 => ?_)
        refine wp_aload_n (i := 0) dX16_cut_64 rfl rfl ?_
        refine wp_aload_n (i := 0) dX16_cut_65 rfl rfl ?_
        refine wp_cV (y' := m_X16_isFull) 17 [] [vr (some m)] 0 0 dX16_cut_66 ml_X16_98 im_X16_isFull se_X16_isFull (by decide) hM.1.1 ok_X16_isFull rfl (Nat.le_of_ble_eq_true rfl) rfl (Nat.le_of_ble_eq_true rfl) (d' := d - 1) (by omega) (Nat.zero_le _) (Nat.zero_le _) (c_X16_isFull hM.w0 hS (cont_ret ?_))
        refine wp_iconst (nI 4) dX16_cut_69 (by decide) ?_
        refine wp_cV (y' := m_X16_fails) 17 [vi (bI (decide (sNv S = 60))), vi (nI 4)] [] 0 0 dX16_cut_70 ml_X16_102 im_X16_fails se_X16_fails (by decide) hM.1.1 ok_X16_fails rfl (Nat.le_of_ble_eq_true rfl) rfl (Nat.le_of_ble_eq_true rfl) (d' := d - 1) (by omega) (Nat.zero_le _) (Nat.zero_le _) (c_X16_failsB hM.w0 hS wI_ss (decide (sNv S = 60)) (nI 4) (by decide) (fun c_70 => cont_ret ?_) (fun c_70 => cont_ret ?_))
        · have g_4 : sNv S = 60 := by first | exact c_70 | exact of_decide_eq_true c_70 | omega
          refine wp_if_eqN 78 dX16_cut_73 (by decide) (by decide) (fun c_73 => absurd c_73 (by decide)) (fun c_73 => ?_)
          refine wp_iconst (nI 0) dX16_cut_76 (by decide) ?_
          refine wp_ireturn dX16_cut_77 rfl ?_
          rw [show o_cut S (nI k) k = (nI 4, nI 0, S) from by unfold o_cut; rw [if_neg g_1, if_neg g_2, if_neg g_3, if_pos g_4]] at hq
          exact hq _ ((IB.w mW_m).tr (IB.w mW_m)) wI_ss hM.w0.w0
        · have g_4 : ¬ (sNv S = 60) := by first | exact fun z => Bool.false_ne_true (c_70.symm.trans z) | exact of_decide_eq_false c_70 | omega
          refine wp_if_eqN 78 dX16_cut_73 (by decide) (by decide) (fun c_73 => ?_) (fun c_73 => absurd c_73 (by decide))
          refine wp_aload_n (i := 0) dX16_cut_78 rfl rfl ?_
          refine wp_bipush (nI 118) dX16_cut_79 (by decide) ?_
          refine wp_cV (y' := m_X16_newValue) 17 [vi (nI 118)] [] 0 0 dX16_cut_81 ml_X16_106 im_X16_newValue se_X16_newValue (by decide) hM.1.1 ok_X16_newValue rfl (Nat.le_of_ble_eq_true rfl) rfl (Nat.le_of_ble_eq_true rfl) (d' := d - 1) (by omega) (Nat.zero_le _) (Nat.zero_le _) (c_X16_newValue hM.w0 hS (by decide) (by decide) (by omega) (fun h1 hP1 hM1 => cont_ret ?_))
          refine wp_istore_n (i := 2) (lv' := [(2, vi (nI (sNv S))), (0, vr (some m)), (1, vi (nI k))]) dX16_cut_84 rfl (by decide) rfl ?_
          have hsz := hS.2.2.2.1 k
          refine wp_aload_n (i := 0) dX16_cut_85 rfl rfl ?_
          refine wp_iload_n (i := 2) dX16_cut_86 rfl rfl ?_
          refine wp_iload_n (i := 1) dX16_cut_87 rfl rfl ?_
          refine wp_cV (y' := m_X16_copyElements) 17 [vi (nI (sNv S)), vi (nI k)] [] 0 0 dX16_cut_88 ml_X16_121 im_X16_copyElements se_X16_copyElements (by decide) hM1.1.1 ok_X16_copyElements rfl (Nat.le_of_ble_eq_true rfl) rfl (Nat.le_of_ble_eq_true rfl) (d' := d - 1) (by omega) (Nat.zero_le _) (Nat.zero_le _) (c_X16_copyElements hM1 (hS.new (by decide) (by omega)) (by omega) (by omega) (fun h2 hP2 hM2 => cont_void ?_))
          refine wp_aload_n (i := 0) dX16_cut_91 rfl rfl ?_
          refine wp_get 17 4 (vr (some (A 4))) dX16_cut_92 hM2.1.1 (by decide) (by decide) fl_X16_13 (congrArg (fun z => toV (vr z)) (hM2.1.r 4 (by decide) (by decide) (by decide) (by decide))) ?_
          refine wp_iload_n (i := 2) dX16_cut_95 rfl rfl ?_
          refine wp_dup2 dX16_cut_96 ?_
          refine wp_ialoadN 60 (nI (sSz S k)) dX16_cut_97 (hM2.1.k 4 (by decide) (by decide) (by decide) (by decide)) (hM2.1.n 4 (by decide) (by decide) (by decide)) (by omega) (by decide) ((hM2.2.2.2.2.1 (sNv S)).trans (congrArg nI (dup_sz hk))) ?_
          refine wp_iconst (nI 1) dX16_cut_98 (by decide) ?_
          refine wp_isubN dX16_cut_99 (by omega) ?_
          refine wp_iastoreN 60 dX16_cut_100 (hM2.1.k 4 (by decide) (by decide) (by decide) (by decide)) (hM2.1.n 4 (by decide) (by decide) (by decide)) (by omega) (by decide) ?_
          have hM4 := hM2.w4 (k := sNv S) (x := sSz S k - 1)
          have hP4 := PV.i (k := sNv S) (x := nI (sSz S k - 1)) hM2 PV.rf 4 (by decide) (by decide)
          refine wp_aload_n (i := 0) dX16_cut_101 rfl rfl ?_
          refine wp_iload_n (i := 2) dX16_cut_102 rfl rfl ?_
          refine wp_iload_n (i := 1) dX16_cut_103 rfl rfl ?_
          refine wp_cV (y' := m_X16_nodesFrom) 17 [vi (nI (sNv S)), vi (nI k)] [] 0 0 dX16_cut_104 ml_X16_110 im_X16_nodesFrom se_X16_nodesFrom (by decide) hM4.1.1 ok_X16_nodesFrom rfl (Nat.le_of_ble_eq_true rfl) rfl (Nat.le_of_ble_eq_true rfl) (d' := d - 1) (by omega) (Nat.zero_le _) (Nat.zero_le _) (c_X16_nodesFromS hM4 (SB.w4 (SB.cp (hS.new (by decide) (by omega))) (by omega)) hmd (by omega) (by omega) (by omega) (fun h3 hP3 hM3 => cont_void ?_))
          refine wp_iload_n (i := 2) dX16_cut_107 rfl rfl ?_
          refine wp_ireturn dX16_cut_108 rfl ?_
          rw [show o_cut S (nI k) k = (nI 0, nI (sNv S), s_nf (s_4 (s_dup S 118 k) (sNv S) (sSz S k - 1)) (sNv S) k) from by unfold o_cut; rw [if_neg g_1, if_neg g_2, if_neg g_3, if_neg g_4]] at hq
          exact hq _ ((IB.w mW_m).tr (((hP1.tr hP2).tr hP4).tr hP3).1) ((((hP1.tr hP2).tr hP4).tr hP3).2.trans wI_ss) hM3
      · skip
        refine wp_iconst (nI 1) dX16_cut_52 (by decide) ?_
        refine wp_goto 57 dX16_cut_53 (by decide) ?_
        refine wp_iconst (nI 3) dX16_cut_57 (by decide) ?_
        refine wp_cV (y' := m_X16_fails) 17 [vi (nI 1), vi (nI 3)] [] 0 0 dX16_cut_58 ml_X16_102 im_X16_fails se_X16_fails (by decide) hM.1.1 ok_X16_fails rfl (Nat.le_of_ble_eq_true rfl) rfl (Nat.le_of_ble_eq_true rfl) (d' := d - 1) (by omega) (Nat.zero_le _) (Nat.zero_le _) (c_X16_failsT hM.w0 hS wI_ss (nI 3) (by decide) (cont_ret ?_))
        have g_3 : sSz S k = 0 := by first | exact c_58 | exact of_decide_eq_true c_58 | omega
        refine wp_if_neN 76 dX16_cut_61 (by decide) (by decide) (fun c_61 => ?_) (fun c_61 => absurd c_61 (by decide))
        refine wp_iconst (nI 0) dX16_cut_76 (by decide) ?_
        refine wp_ireturn dX16_cut_77 rfl ?_
        rw [show o_cut S (nI k) k = (nI 3, nI 0, S) from by unfold o_cut; rw [if_neg g_1, if_neg g_2, if_pos g_3]] at hq
        exact hq _ ((IB.w mW_m).tr (IB.w mW_m)) wI_ss hM.w0.w0
    · skip
      refine wp_iconst (nI 1) dX16_cut_30 (by decide) ?_
      refine wp_goto 35 dX16_cut_31 (by decide) ?_
      refine wp_iconst (nI 2) dX16_cut_35 (by decide) ?_
      refine wp_cV (y' := m_X16_fails) 17 [vi (nI 1), vi (nI 2)] [] 0 0 dX16_cut_36 ml_X16_102 im_X16_fails se_X16_fails (by decide) hM.1.1 ok_X16_fails rfl (Nat.le_of_ble_eq_true rfl) rfl (Nat.le_of_ble_eq_true rfl) (d' := d - 1) (by omega) (Nat.zero_le _) (Nat.zero_le _) (c_X16_failsT hM.w0 hS wI_ss (nI 2) (by decide) (cont_ret ?_))
      have g_2 : sTy S k ≠ 118 := by first | exact c_36 | exact of_decide_eq_true c_36 | omega
      refine wp_if_neN 76 dX16_cut_39 (by decide) (by decide) (fun c_39 => ?_) (fun c_39 => absurd c_39 (by decide))
      refine wp_iconst (nI 0) dX16_cut_76 (by decide) ?_
      refine wp_ireturn dX16_cut_77 rfl ?_
      rw [show o_cut S (nI k) k = (nI 2, nI 0, S) from by unfold o_cut; rw [if_neg g_1, if_pos g_2]] at hq
      exact hq _ ((IB.w mW_m).tr (IB.w mW_m)) wI_ss hM.w0.w0
set_option maxRecDepth 100000 in
set_option maxHeartbeats 4000000 in
theorem c_X16_depth {G : GG} {d bc bs : Nat} {h : Hp} {Q : Pst} {m : Nat} {A : Nat → Nat} {S : SV} (hM : MP h m A S) (hS : SB S) {v : Int32} {k : Nat} (hv : ixB v (sNv S) = true → v = nI k ∧ k < sNv S) (hd : 3 ≤ d) (hq : PO Q h m A (o_depth S v k)) : WP G m_X16_depth d 0 (aargs 0 [vr (some m), vi v]) [] h bc bs Q := by
  refine wp_sub [(0, vr (some m)), (1, vi v)] (fun _ hz => hz) ?_
  have hnv := hS.1
  refine wp_aload_n (i := 0) dX16_depth_0 rfl rfl ?_
  refine wp_iconst (nI 0) dX16_depth_1 (by decide) ?_
  refine wp_putI 17 0 dX16_depth_2 hM.1.1 (by decide) (by decide) (by decide) fl_X16_63 rfl (fun _ _ => rfl) rfl rfl ?_
  refine wp_aload_n (i := 0) dX16_depth_5 rfl rfl ?_
  refine wp_aload_n (i := 0) dX16_depth_6 rfl rfl ?_
  refine wp_iload_n (i := 1) dX16_depth_7 rfl rfl ?_
  refine wp_cV (y' := m_X16_noValue) 17 [vi v] [vr (some m)] 0 0 dX16_depth_8 ml_X16_114 im_X16_noValue se_X16_noValue (by decide) hM.1.1 ok_X16_noValue rfl (Nat.le_of_ble_eq_true rfl) rfl (Nat.le_of_ble_eq_true rfl) (d' := d - 1) (by omega) (Nat.zero_le _) (Nat.zero_le _) (c_X16_noValue hM.w0 hS v (by omega) (cont_ret ?_))
  refine wp_iconst (nI 1) dX16_depth_11 (by decide) ?_
  refine wp_cV (y' := m_X16_fails) 17 [vi (bI (!ixB v (sNv S))), vi (nI 1)] [] 0 0 dX16_depth_12 ml_X16_102 im_X16_fails se_X16_fails (by decide) hM.1.1 ok_X16_fails rfl (Nat.le_of_ble_eq_true rfl) rfl (Nat.le_of_ble_eq_true rfl) (d' := d - 1) (by omega) (Nat.zero_le _) (Nat.zero_le _) (c_X16_failsB hM.w0 hS wI_ss (!ixB v (sNv S)) (nI 1) (by decide) (fun c_12 => cont_ret ?_) (fun c_12 => cont_ret ?_))
  · have g_1 : (!ixB v (sNv S)) = true := by first | exact c_12 | exact of_decide_eq_true c_12 | omega
    refine wp_if_neN 39 dX16_depth_15 (by decide) (by decide) (fun c_15 => ?_) (fun c_15 => absurd c_15 (by decide))
    refine wp_iconst (nI 0) dX16_depth_39 (by decide) ?_
    refine wp_goto 52 dX16_depth_40 (by decide) ?_
    refine wp_ireturn dX16_depth_52 rfl ?_
    rw [show o_depth S v k = (nI 1, nI 0, S) from by unfold o_depth; rw [if_pos g_1]] at hq
    exact hq _ ((IB.w mW_m).tr (IB.w mW_m)) wI_ss hM.w0.w0
  · have g_1 : ¬ ((!ixB v (sNv S)) = true) := by first | exact fun z => Bool.false_ne_true (c_12.symm.trans z) | exact of_decide_eq_false c_12 | omega
    obtain ⟨ev, hk⟩ := hv (nt_f (Bool.eq_false_iff.mpr g_1))
    subst ev
    refine wp_if_neN 39 dX16_depth_15 (by decide) (by decide) (fun c_15 => absurd c_15 (by decide)) (fun c_15 => ?_)
    refine wp_aload_n (i := 0) dX16_depth_18 rfl rfl ?_
    refine wp_aload_n (i := 0) dX16_depth_19 rfl rfl ?_
    refine wp_iload_n (i := 1) dX16_depth_20 rfl rfl ?_
    refine wp_cV (y' := m_X16_isVector) 17 [vi (nI k)] [vr (some m)] 0 0 dX16_depth_21 ml_X16_124 im_X16_isVector se_X16_isVector (by decide) hM.1.1 ok_X16_isVector rfl (Nat.le_of_ble_eq_true rfl) rfl (Nat.le_of_ble_eq_true rfl) (d' := d - 1) (by omega) (Nat.zero_le _) (Nat.zero_le _) (c_X16_isVector hM.w0 hS (by omega) (cont_ret ?_))
    refine wp_if_neB 31 dX16_depth_24 (by decide) (fun c_24 => ?_) (fun c_24 => ?_)
    · skip
      refine wp_iconst (nI 0) dX16_depth_31 (by decide) ?_
      refine wp_iconst (nI 2) dX16_depth_32 (by decide) ?_
      refine wp_cV (y' := m_X16_fails) 17 [vi (nI 0), vi (nI 2)] [] 0 0 dX16_depth_33 ml_X16_102 im_X16_fails se_X16_fails (by decide) hM.1.1 ok_X16_fails rfl (Nat.le_of_ble_eq_true rfl) rfl (Nat.le_of_ble_eq_true rfl) (d' := d - 1) (by omega) (Nat.zero_le _) (Nat.zero_le _) (c_X16_failsF hM.w0 hS wI_ss (nI 2) (by decide) (cont_ret ?_))
      have g_2 : ¬ (vecB S k = false) := by exact fun z => Bool.false_ne_true (z.symm.trans c_24)
      refine wp_if_eqN 43 dX16_depth_36 (by decide) (by decide) (fun c_36 => ?_) (fun c_36 => absurd c_36 (by decide))
      have hsz := hS.2.2.2.1 k
      refine wp_aload_n (i := 0) dX16_depth_43 rfl rfl ?_
      refine wp_get 17 4 (vr (some (A 4))) dX16_depth_44 hM.1.1 (by decide) (by decide) fl_X16_13 (congrArg (fun z => toV (vr z)) (hM.1.r 4 (by decide) (by decide) (by decide) (by decide))) ?_
      refine wp_iload_n (i := 1) dX16_depth_47 rfl rfl ?_
      refine wp_ialoadN 60 (nI (sSz S k)) dX16_depth_48 (hM.1.k 4 (by decide) (by decide) (by decide) (by decide)) (hM.1.n 4 (by decide) (by decide) (by decide)) (by omega) (by decide) ((hM.w0 (x := nI 0)).2.2.2.2.1 k) ?_
      refine wp_cS (y' := m_X16_depthOf) [vi (nI (sSz S k))] [] 0 0 dX16_depth_49 ml_X16_74 st_X16_depthOf ok_X16_depthOf rfl (Nat.le_of_ble_eq_true rfl) rfl (Nat.le_of_ble_eq_true rfl) (d' := d - 1) (by omega) (Nat.zero_le _) (Nat.zero_le _) (c_X16_depthOf (sSz S k) (by omega) (cont_ret ?_))
      refine wp_ireturn dX16_depth_52 rfl ?_
      rw [show o_depth S (nI k) k = (nI 0, nI (dOf (sSz S k)), S) from by unfold o_depth; rw [if_neg g_1, if_neg g_2]] at hq
      exact hq _ (IB.w mW_m) wI_ss hM.w0
    · skip
      refine wp_iconst (nI 1) dX16_depth_27 (by decide) ?_
      refine wp_goto 32 dX16_depth_28 (by decide) ?_
      refine wp_iconst (nI 2) dX16_depth_32 (by decide) ?_
      refine wp_cV (y' := m_X16_fails) 17 [vi (nI 1), vi (nI 2)] [] 0 0 dX16_depth_33 ml_X16_102 im_X16_fails se_X16_fails (by decide) hM.1.1 ok_X16_fails rfl (Nat.le_of_ble_eq_true rfl) rfl (Nat.le_of_ble_eq_true rfl) (d' := d - 1) (by omega) (Nat.zero_le _) (Nat.zero_le _) (c_X16_failsT hM.w0 hS wI_ss (nI 2) (by decide) (cont_ret ?_))
      have g_2 : vecB S k = false := by exact c_24
      refine wp_if_eqN 43 dX16_depth_36 (by decide) (by decide) (fun c_36 => absurd c_36 (by decide)) (fun c_36 => ?_)
      refine wp_iconst (nI 0) dX16_depth_39 (by decide) ?_
      refine wp_goto 52 dX16_depth_40 (by decide) ?_
      refine wp_ireturn dX16_depth_52 rfl ?_
      rw [show o_depth S (nI k) k = (nI 2, nI 0, S) from by unfold o_depth; rw [if_neg g_1, if_pos g_2]] at hq
      exact hq _ ((IB.w mW_m).tr (IB.w mW_m)) wI_ss hM.w0.w0
set_option maxRecDepth 100000 in
set_option maxHeartbeats 4000000 in
theorem c_X16_open {G : GG} {d bc bs : Nat} {h : Hp} {Q : Pst} {m : Nat} {A : Nat → Nat} {S : SV} (hM : MP h m A S) (hS : SB S) (hmd : sMd S + 21 ≤ 1000000) {v : Int32} {k : Nat} (hv : ixB v (sNv S) = true → v = nI k ∧ k < sNv S) (hd : 3 ≤ d) (hq : PO Q h m A (o_open S v k)) : WP G m_X16_open d 0 (aargs 0 [vr (some m), vi v]) [] h bc bs Q := by
  refine wp_sub [(0, vr (some m)), (1, vi v)] (fun _ hz => hz) ?_
  have hnv := hS.1
  refine wp_aload_n (i := 0) dX16_open_0 rfl rfl ?_
  refine wp_iconst (nI 0) dX16_open_1 (by decide) ?_
  refine wp_putI 17 0 dX16_open_2 hM.1.1 (by decide) (by decide) (by decide) fl_X16_63 rfl (fun _ _ => rfl) rfl rfl ?_
  refine wp_aload_n (i := 0) dX16_open_5 rfl rfl ?_
  refine wp_aload_n (i := 0) dX16_open_6 rfl rfl ?_
  refine wp_iload_n (i := 1) dX16_open_7 rfl rfl ?_
  refine wp_cV (y' := m_X16_noValue) 17 [vi v] [vr (some m)] 0 0 dX16_open_8 ml_X16_114 im_X16_noValue se_X16_noValue (by decide) hM.1.1 ok_X16_noValue rfl (Nat.le_of_ble_eq_true rfl) rfl (Nat.le_of_ble_eq_true rfl) (d' := d - 1) (by omega) (Nat.zero_le _) (Nat.zero_le _) (c_X16_noValue hM.w0 hS v (by omega) (cont_ret ?_))
  refine wp_iconst (nI 1) dX16_open_11 (by decide) ?_
  refine wp_cV (y' := m_X16_fails) 17 [vi (bI (!ixB v (sNv S))), vi (nI 1)] [] 0 0 dX16_open_12 ml_X16_102 im_X16_fails se_X16_fails (by decide) hM.1.1 ok_X16_fails rfl (Nat.le_of_ble_eq_true rfl) rfl (Nat.le_of_ble_eq_true rfl) (d' := d - 1) (by omega) (Nat.zero_le _) (Nat.zero_le _) (c_X16_failsB hM.w0 hS wI_ss (!ixB v (sNv S)) (nI 1) (by decide) (fun c_12 => cont_ret ?_) (fun c_12 => cont_ret ?_))
  · have g_1 : (!ixB v (sNv S)) = true := by first | exact c_12 | exact of_decide_eq_true c_12 | omega
    refine wp_if_neN 54 dX16_open_15 (by decide) (by decide) (fun c_15 => ?_) (fun c_15 => absurd c_15 (by decide))
    refine wp_iconst (nI 0) dX16_open_54 (by decide) ?_
    refine wp_ireturn dX16_open_55 rfl ?_
    rw [show o_open S v k = (nI 1, nI 0, S) from by unfold o_open; rw [if_pos g_1]] at hq
    exact hq _ ((IB.w mW_m).tr (IB.w mW_m)) wI_ss hM.w0.w0
  · have g_1 : ¬ ((!ixB v (sNv S)) = true) := by first | exact fun z => Bool.false_ne_true (c_12.symm.trans z) | exact of_decide_eq_false c_12 | omega
    obtain ⟨ev, hk⟩ := hv (nt_f (Bool.eq_false_iff.mpr g_1))
    subst ev
    refine wp_if_neN 54 dX16_open_15 (by decide) (by decide) (fun c_15 => absurd c_15 (by decide)) (fun c_15 => ?_)
    refine wp_aload_n (i := 0) dX16_open_18 rfl rfl ?_
    refine wp_aload_n (i := 0) dX16_open_19 rfl rfl ?_
    refine wp_get 17 3 (vr (some (A 3))) dX16_open_20 hM.1.1 (by decide) (by decide) fl_X16_7 (congrArg (fun z => toV (vr z)) (hM.1.r 3 (by decide) (by decide) (by decide) (by decide))) ?_
    refine wp_iload_n (i := 1) dX16_open_23 rfl rfl ?_
    refine wp_caloadN 60 (nI (sTy S k)) dX16_open_24 (hM.1.k 3 (by decide) (by decide) (by decide) (by decide)) (hM.1.n 3 (by decide) (by decide) (by decide)) (by omega) (by decide) ((hM.w0 (x := nI 0)).2.2.2.1 k) ?_
    refine wp_bipush (nI 118) dX16_open_25 (by decide) ?_
    refine wp_icmp_eqN 34 dX16_open_27 (by decide) (ty_bd hS k) (by decide) (fun c_27 => ?_) (fun c_27 => ?_)
    · skip
      refine wp_iconst (nI 0) dX16_open_34 (by decide) ?_
      refine wp_iconst (nI 2) dX16_open_35 (by decide) ?_
      refine wp_cV (y' := m_X16_fails) 17 [vi (nI 0), vi (nI 2)] [] 0 0 dX16_open_36 ml_X16_102 im_X16_fails se_X16_fails (by decide) hM.1.1 ok_X16_fails rfl (Nat.le_of_ble_eq_true rfl) rfl (Nat.le_of_ble_eq_true rfl) (d' := d - 1) (by omega) (Nat.zero_le _) (Nat.zero_le _) (c_X16_failsF hM.w0 hS wI_ss (nI 2) (by decide) (cont_ret ?_))
      have g_2 : ¬ (sTy S k ≠ 118) := by first | exact fun z => Bool.false_ne_true (c_36.symm.trans z) | exact of_decide_eq_false c_36 | omega
      refine wp_if_neN 54 dX16_open_39 (by decide) (by decide) (fun c_39 => absurd c_39 (by decide)) (fun c_39 => ?_)
      refine wp_aload_n (i := 0) dX16_open_42 rfl rfl ?_
      refine wp_aload_n (i := 0) dX16_open_43 rfl rfl ?_
      refine wp_cV (y' := m_X16_isFull) 17 [] [vr (some m)] 0 0 dX16_open_44 ml_X16_98 im_X16_isFull se_X16_isFull (by decide) hM.1.1 ok_X16_isFull rfl (Nat.le_of_ble_eq_true rfl) rfl (Nat.le_of_ble_eq_true rfl) (d' := d - 1) (by omega) (Nat.zero_le _) (Nat.zero_le _) (c_X16_isFull hM.w0 hS (cont_ret ?_))
      refine wp_iconst (nI 3) dX16_open_47 (by decide) ?_
      refine wp_cV (y' := m_X16_fails) 17 [vi (bI (decide (sNv S = 60))), vi (nI 3)] [] 0 0 dX16_open_48 ml_X16_102 im_X16_fails se_X16_fails (by decide) hM.1.1 ok_X16_fails rfl (Nat.le_of_ble_eq_true rfl) rfl (Nat.le_of_ble_eq_true rfl) (d' := d - 1) (by omega) (Nat.zero_le _) (Nat.zero_le _) (c_X16_failsB hM.w0 hS wI_ss (decide (sNv S = 60)) (nI 3) (by decide) (fun c_48 => cont_ret ?_) (fun c_48 => cont_ret ?_))
      · have g_3 : sNv S = 60 := by first | exact c_48 | exact of_decide_eq_true c_48 | omega
        refine wp_if_eqN 56 dX16_open_51 (by decide) (by decide) (fun c_51 => absurd c_51 (by decide)) (fun c_51 => ?_)
        refine wp_iconst (nI 0) dX16_open_54 (by decide) ?_
        refine wp_ireturn dX16_open_55 rfl ?_
        rw [show o_open S (nI k) k = (nI 3, nI 0, S) from by unfold o_open; rw [if_neg g_1, if_neg g_2, if_pos g_3]] at hq
        exact hq _ ((IB.w mW_m).tr (IB.w mW_m)) wI_ss hM.w0.w0
      · have g_3 : ¬ (sNv S = 60) := by first | exact fun z => Bool.false_ne_true (c_48.symm.trans z) | exact of_decide_eq_false c_48 | omega
        refine wp_if_eqN 56 dX16_open_51 (by decide) (by decide) (fun c_51 => ?_) (fun c_51 => absurd c_51 (by decide))
        refine wp_aload_n (i := 0) dX16_open_56 rfl rfl ?_
        refine wp_bipush (nI 111) dX16_open_57 (by decide) ?_
        refine wp_cV (y' := m_X16_newValue) 17 [vi (nI 111)] [] 0 0 dX16_open_59 ml_X16_106 im_X16_newValue se_X16_newValue (by decide) hM.1.1 ok_X16_newValue rfl (Nat.le_of_ble_eq_true rfl) rfl (Nat.le_of_ble_eq_true rfl) (d' := d - 1) (by omega) (Nat.zero_le _) (Nat.zero_le _) (c_X16_newValue hM.w0 hS (by decide) (by decide) (by omega) (fun h1 hP1 hM1 => cont_ret ?_))
        refine wp_istore_n (i := 2) (lv' := [(2, vi (nI (sNv S))), (0, vr (some m)), (1, vi (nI k))]) dX16_open_62 rfl (by decide) rfl ?_
        refine wp_aload_n (i := 0) dX16_open_63 rfl rfl ?_
        refine wp_iload_n (i := 2) dX16_open_64 rfl rfl ?_
        refine wp_iload_n (i := 1) dX16_open_65 rfl rfl ?_
        refine wp_cV (y' := m_X16_copyElements) 17 [vi (nI (sNv S)), vi (nI k)] [] 0 0 dX16_open_66 ml_X16_121 im_X16_copyElements se_X16_copyElements (by decide) hM1.1.1 ok_X16_copyElements rfl (Nat.le_of_ble_eq_true rfl) rfl (Nat.le_of_ble_eq_true rfl) (d' := d - 1) (by omega) (Nat.zero_le _) (Nat.zero_le _) (c_X16_copyElements hM1 (hS.new (by decide) (by omega)) (by omega) (by omega) (fun h2 hP2 hM2 => cont_void ?_))
        refine wp_aload_n (i := 0) dX16_open_69 rfl rfl ?_
        refine wp_iload_n (i := 2) dX16_open_70 rfl rfl ?_
        refine wp_iload_n (i := 1) dX16_open_71 rfl rfl ?_
        refine wp_cV (y' := m_X16_nodesFrom) 17 [vi (nI (sNv S)), vi (nI k)] [] 0 0 dX16_open_72 ml_X16_110 im_X16_nodesFrom se_X16_nodesFrom (by decide) hM2.1.1 ok_X16_nodesFrom rfl (Nat.le_of_ble_eq_true rfl) rfl (Nat.le_of_ble_eq_true rfl) (d' := d - 1) (by omega) (Nat.zero_le _) (Nat.zero_le _) (c_X16_nodesFromS hM2 (SB.cp (hS.new (by decide) (by omega))) hmd (by omega) (by omega) (by omega) (fun h3 hP3 hM3 => cont_void ?_))
        refine wp_iload_n (i := 2) dX16_open_75 rfl rfl ?_
        refine wp_ireturn dX16_open_76 rfl ?_
        rw [show o_open S (nI k) k = (nI 0, nI (sNv S), s_nf (s_dup S 111 k) (sNv S) k) from by unfold o_open; rw [if_neg g_1, if_neg g_2, if_neg g_3]] at hq
        exact hq _ ((IB.w mW_m).tr ((hP1.tr hP2).tr hP3).1) (((hP1.tr hP2).tr hP3).2.trans wI_ss) hM3
    · skip
      refine wp_iconst (nI 1) dX16_open_30 (by decide) ?_
      refine wp_goto 35 dX16_open_31 (by decide) ?_
      refine wp_iconst (nI 2) dX16_open_35 (by decide) ?_
      refine wp_cV (y' := m_X16_fails) 17 [vi (nI 1), vi (nI 2)] [] 0 0 dX16_open_36 ml_X16_102 im_X16_fails se_X16_fails (by decide) hM.1.1 ok_X16_fails rfl (Nat.le_of_ble_eq_true rfl) rfl (Nat.le_of_ble_eq_true rfl) (d' := d - 1) (by omega) (Nat.zero_le _) (Nat.zero_le _) (c_X16_failsT hM.w0 hS wI_ss (nI 2) (by decide) (cont_ret ?_))
      have g_2 : sTy S k ≠ 118 := by first | exact c_36 | exact of_decide_eq_true c_36 | omega
      refine wp_if_neN 54 dX16_open_39 (by decide) (by decide) (fun c_39 => ?_) (fun c_39 => absurd c_39 (by decide))
      refine wp_iconst (nI 0) dX16_open_54 (by decide) ?_
      refine wp_ireturn dX16_open_55 rfl ?_
      rw [show o_open S (nI k) k = (nI 2, nI 0, S) from by unfold o_open; rw [if_neg g_1, if_pos g_2]] at hq
      exact hq _ ((IB.w mW_m).tr (IB.w mW_m)) wI_ss hM.w0.w0
set_option maxRecDepth 100000 in
set_option maxHeartbeats 4000000 in
theorem c_X16_makeLasting {G : GG} {d bc bs : Nat} {h : Hp} {Q : Pst} {m : Nat} {A : Nat → Nat} {S : SV} (hM : MP h m A S) (hS : SB S) (hmd : sMd S + 21 ≤ 1000000) {v : Int32} {k : Nat} (hv : ixB v (sNv S) = true → v = nI k ∧ k < sNv S) (hd : 3 ≤ d) (hq : PO Q h m A (o_lasting S v k)) : WP G m_X16_makeLasting d 0 (aargs 0 [vr (some m), vi v]) [] h bc bs Q := by
  refine wp_sub [(0, vr (some m)), (1, vi v)] (fun _ hz => hz) ?_
  have hnv := hS.1
  refine wp_aload_n (i := 0) dX16_makeLasting_0 rfl rfl ?_
  refine wp_iconst (nI 0) dX16_makeLasting_1 (by decide) ?_
  refine wp_putI 17 0 dX16_makeLasting_2 hM.1.1 (by decide) (by decide) (by decide) fl_X16_63 rfl (fun _ _ => rfl) rfl rfl ?_
  refine wp_aload_n (i := 0) dX16_makeLasting_5 rfl rfl ?_
  refine wp_aload_n (i := 0) dX16_makeLasting_6 rfl rfl ?_
  refine wp_iload_n (i := 1) dX16_makeLasting_7 rfl rfl ?_
  refine wp_cV (y' := m_X16_noValue) 17 [vi v] [vr (some m)] 0 0 dX16_makeLasting_8 ml_X16_114 im_X16_noValue se_X16_noValue (by decide) hM.1.1 ok_X16_noValue rfl (Nat.le_of_ble_eq_true rfl) rfl (Nat.le_of_ble_eq_true rfl) (d' := d - 1) (by omega) (Nat.zero_le _) (Nat.zero_le _) (c_X16_noValue hM.w0 hS v (by omega) (cont_ret ?_))
  refine wp_iconst (nI 1) dX16_makeLasting_11 (by decide) ?_
  refine wp_cV (y' := m_X16_fails) 17 [vi (bI (!ixB v (sNv S))), vi (nI 1)] [] 0 0 dX16_makeLasting_12 ml_X16_102 im_X16_fails se_X16_fails (by decide) hM.1.1 ok_X16_fails rfl (Nat.le_of_ble_eq_true rfl) rfl (Nat.le_of_ble_eq_true rfl) (d' := d - 1) (by omega) (Nat.zero_le _) (Nat.zero_le _) (c_X16_failsB hM.w0 hS wI_ss (!ixB v (sNv S)) (nI 1) (by decide) (fun c_12 => cont_ret ?_) (fun c_12 => cont_ret ?_))
  · have g_1 : (!ixB v (sNv S)) = true := by first | exact c_12 | exact of_decide_eq_true c_12 | omega
    refine wp_if_neN 54 dX16_makeLasting_15 (by decide) (by decide) (fun c_15 => ?_) (fun c_15 => absurd c_15 (by decide))
    refine wp_iconst (nI 0) dX16_makeLasting_54 (by decide) ?_
    refine wp_ireturn dX16_makeLasting_55 rfl ?_
    rw [show o_lasting S v k = (nI 1, nI 0, S) from by unfold o_lasting; rw [if_pos g_1]] at hq
    exact hq _ ((IB.w mW_m).tr (IB.w mW_m)) wI_ss hM.w0.w0
  · have g_1 : ¬ ((!ixB v (sNv S)) = true) := by first | exact fun z => Bool.false_ne_true (c_12.symm.trans z) | exact of_decide_eq_false c_12 | omega
    obtain ⟨ev, hk⟩ := hv (nt_f (Bool.eq_false_iff.mpr g_1))
    subst ev
    refine wp_if_neN 54 dX16_makeLasting_15 (by decide) (by decide) (fun c_15 => absurd c_15 (by decide)) (fun c_15 => ?_)
    refine wp_aload_n (i := 0) dX16_makeLasting_18 rfl rfl ?_
    refine wp_aload_n (i := 0) dX16_makeLasting_19 rfl rfl ?_
    refine wp_get 17 3 (vr (some (A 3))) dX16_makeLasting_20 hM.1.1 (by decide) (by decide) fl_X16_7 (congrArg (fun z => toV (vr z)) (hM.1.r 3 (by decide) (by decide) (by decide) (by decide))) ?_
    refine wp_iload_n (i := 1) dX16_makeLasting_23 rfl rfl ?_
    refine wp_caloadN 60 (nI (sTy S k)) dX16_makeLasting_24 (hM.1.k 3 (by decide) (by decide) (by decide) (by decide)) (hM.1.n 3 (by decide) (by decide) (by decide)) (by omega) (by decide) ((hM.w0 (x := nI 0)).2.2.2.1 k) ?_
    refine wp_bipush (nI 111) dX16_makeLasting_25 (by decide) ?_
    refine wp_icmp_eqN 34 dX16_makeLasting_27 (by decide) (ty_bd hS k) (by decide) (fun c_27 => ?_) (fun c_27 => ?_)
    · skip
      refine wp_iconst (nI 0) dX16_makeLasting_34 (by decide) ?_
      refine wp_iconst (nI 2) dX16_makeLasting_35 (by decide) ?_
      refine wp_cV (y' := m_X16_fails) 17 [vi (nI 0), vi (nI 2)] [] 0 0 dX16_makeLasting_36 ml_X16_102 im_X16_fails se_X16_fails (by decide) hM.1.1 ok_X16_fails rfl (Nat.le_of_ble_eq_true rfl) rfl (Nat.le_of_ble_eq_true rfl) (d' := d - 1) (by omega) (Nat.zero_le _) (Nat.zero_le _) (c_X16_failsF hM.w0 hS wI_ss (nI 2) (by decide) (cont_ret ?_))
      have g_2 : ¬ (sTy S k ≠ 111) := by first | exact fun z => Bool.false_ne_true (c_36.symm.trans z) | exact of_decide_eq_false c_36 | omega
      refine wp_if_neN 54 dX16_makeLasting_39 (by decide) (by decide) (fun c_39 => absurd c_39 (by decide)) (fun c_39 => ?_)
      refine wp_aload_n (i := 0) dX16_makeLasting_42 rfl rfl ?_
      refine wp_aload_n (i := 0) dX16_makeLasting_43 rfl rfl ?_
      refine wp_cV (y' := m_X16_isFull) 17 [] [vr (some m)] 0 0 dX16_makeLasting_44 ml_X16_98 im_X16_isFull se_X16_isFull (by decide) hM.1.1 ok_X16_isFull rfl (Nat.le_of_ble_eq_true rfl) rfl (Nat.le_of_ble_eq_true rfl) (d' := d - 1) (by omega) (Nat.zero_le _) (Nat.zero_le _) (c_X16_isFull hM.w0 hS (cont_ret ?_))
      refine wp_iconst (nI 3) dX16_makeLasting_47 (by decide) ?_
      refine wp_cV (y' := m_X16_fails) 17 [vi (bI (decide (sNv S = 60))), vi (nI 3)] [] 0 0 dX16_makeLasting_48 ml_X16_102 im_X16_fails se_X16_fails (by decide) hM.1.1 ok_X16_fails rfl (Nat.le_of_ble_eq_true rfl) rfl (Nat.le_of_ble_eq_true rfl) (d' := d - 1) (by omega) (Nat.zero_le _) (Nat.zero_le _) (c_X16_failsB hM.w0 hS wI_ss (decide (sNv S = 60)) (nI 3) (by decide) (fun c_48 => cont_ret ?_) (fun c_48 => cont_ret ?_))
      · have g_3 : sNv S = 60 := by first | exact c_48 | exact of_decide_eq_true c_48 | omega
        refine wp_if_eqN 56 dX16_makeLasting_51 (by decide) (by decide) (fun c_51 => absurd c_51 (by decide)) (fun c_51 => ?_)
        refine wp_iconst (nI 0) dX16_makeLasting_54 (by decide) ?_
        refine wp_ireturn dX16_makeLasting_55 rfl ?_
        rw [show o_lasting S (nI k) k = (nI 3, nI 0, S) from by unfold o_lasting; rw [if_neg g_1, if_neg g_2, if_pos g_3]] at hq
        exact hq _ ((IB.w mW_m).tr (IB.w mW_m)) wI_ss hM.w0.w0
      · have g_3 : ¬ (sNv S = 60) := by first | exact fun z => Bool.false_ne_true (c_48.symm.trans z) | exact of_decide_eq_false c_48 | omega
        refine wp_if_eqN 56 dX16_makeLasting_51 (by decide) (by decide) (fun c_51 => ?_) (fun c_51 => absurd c_51 (by decide))
        refine wp_aload_n (i := 0) dX16_makeLasting_56 rfl rfl ?_
        refine wp_bipush (nI 118) dX16_makeLasting_57 (by decide) ?_
        refine wp_cV (y' := m_X16_newValue) 17 [vi (nI 118)] [] 0 0 dX16_makeLasting_59 ml_X16_106 im_X16_newValue se_X16_newValue (by decide) hM.1.1 ok_X16_newValue rfl (Nat.le_of_ble_eq_true rfl) rfl (Nat.le_of_ble_eq_true rfl) (d' := d - 1) (by omega) (Nat.zero_le _) (Nat.zero_le _) (c_X16_newValue hM.w0 hS (by decide) (by decide) (by omega) (fun h1 hP1 hM1 => cont_ret ?_))
        refine wp_istore_n (i := 2) (lv' := [(2, vi (nI (sNv S))), (0, vr (some m)), (1, vi (nI k))]) dX16_makeLasting_62 rfl (by decide) rfl ?_
        refine wp_aload_n (i := 0) dX16_makeLasting_63 rfl rfl ?_
        refine wp_iload_n (i := 2) dX16_makeLasting_64 rfl rfl ?_
        refine wp_iload_n (i := 1) dX16_makeLasting_65 rfl rfl ?_
        refine wp_cV (y' := m_X16_copyElements) 17 [vi (nI (sNv S)), vi (nI k)] [] 0 0 dX16_makeLasting_66 ml_X16_121 im_X16_copyElements se_X16_copyElements (by decide) hM1.1.1 ok_X16_copyElements rfl (Nat.le_of_ble_eq_true rfl) rfl (Nat.le_of_ble_eq_true rfl) (d' := d - 1) (by omega) (Nat.zero_le _) (Nat.zero_le _) (c_X16_copyElements hM1 (hS.new (by decide) (by omega)) (by omega) (by omega) (fun h2 hP2 hM2 => cont_void ?_))
        refine wp_aload_n (i := 0) dX16_makeLasting_69 rfl rfl ?_
        refine wp_iload_n (i := 2) dX16_makeLasting_70 rfl rfl ?_
        refine wp_iload_n (i := 1) dX16_makeLasting_71 rfl rfl ?_
        refine wp_cV (y' := m_X16_nodesFrom) 17 [vi (nI (sNv S)), vi (nI k)] [] 0 0 dX16_makeLasting_72 ml_X16_110 im_X16_nodesFrom se_X16_nodesFrom (by decide) hM2.1.1 ok_X16_nodesFrom rfl (Nat.le_of_ble_eq_true rfl) rfl (Nat.le_of_ble_eq_true rfl) (d' := d - 1) (by omega) (Nat.zero_le _) (Nat.zero_le _) (c_X16_nodesFromS hM2 (SB.cp (hS.new (by decide) (by omega))) hmd (by omega) (by omega) (by omega) (fun h3 hP3 hM3 => cont_void ?_))
        refine wp_aload_n (i := 0) dX16_makeLasting_75 rfl rfl ?_
        refine wp_get 17 3 (vr (some (A 3))) dX16_makeLasting_76 hM3.1.1 (by decide) (by decide) fl_X16_7 (congrArg (fun z => toV (vr z)) (hM3.1.r 3 (by decide) (by decide) (by decide) (by decide))) ?_
        refine wp_iload_n (i := 1) dX16_makeLasting_79 rfl rfl ?_
        refine wp_bipush (nI 120) dX16_makeLasting_80 (by decide) ?_
        refine wp_castoreN 60 dX16_makeLasting_82 (hM3.1.k 3 (by decide) (by decide) (by decide) (by decide)) (hM3.1.n 3 (by decide) (by decide) (by decide)) (by omega) (by decide) (by decide) ?_
        refine wp_aload_n (i := 0) dX16_makeLasting_83 rfl rfl ?_
        refine wp_get 17 4 (vr (some (A 4))) dX16_makeLasting_84 hM3.1.1 (by decide) (by decide) fl_X16_13 (congrArg (fun z => toV (vr z)) (hM3.1.r 4 (by decide) (by decide) (by decide) (by decide))) ?_
        refine wp_iload_n (i := 1) dX16_makeLasting_87 rfl rfl ?_
        refine wp_iconst (nI 0) dX16_makeLasting_88 (by decide) ?_
        refine wp_iastoreN 60 dX16_makeLasting_89 (hM3.1.k 4 (by decide) (by decide) (by decide) (by decide)) (hM3.1.n 4 (by decide) (by decide) (by decide)) (by omega) (by decide) ?_
        refine wp_iload_n (i := 2) dX16_makeLasting_90 rfl rfl ?_
        refine wp_ireturn dX16_makeLasting_91 rfl ?_
        rw [show o_lasting S (nI k) k = (nI 0, nI (sNv S), s_4 (s_3 (s_nf (s_dup S 118 k) (sNv S) k) k 120) k 0) from by unfold o_lasting; rw [if_neg g_1, if_neg g_2, if_neg g_3]] at hq
        exact hq _ ((IB.w mW_m).tr ((PV.i (hM3.w3 (k := k) (x := 120)) (PV.i (k := k) (x := nI 120) hM3 ((hP1.tr hP2).tr hP3) 3 (by decide) (by decide)) 4 (by decide) (by decide))).1) (((PV.i (hM3.w3 (k := k) (x := 120)) (PV.i (k := k) (x := nI 120) hM3 ((hP1.tr hP2).tr hP3) 3 (by decide) (by decide)) 4 (by decide) (by decide))).2.trans wI_ss) ((hM3.w3 (k := k) (x := 120)).w4 (k := k) (x := 0))
    · skip
      refine wp_iconst (nI 1) dX16_makeLasting_30 (by decide) ?_
      refine wp_goto 35 dX16_makeLasting_31 (by decide) ?_
      refine wp_iconst (nI 2) dX16_makeLasting_35 (by decide) ?_
      refine wp_cV (y' := m_X16_fails) 17 [vi (nI 1), vi (nI 2)] [] 0 0 dX16_makeLasting_36 ml_X16_102 im_X16_fails se_X16_fails (by decide) hM.1.1 ok_X16_fails rfl (Nat.le_of_ble_eq_true rfl) rfl (Nat.le_of_ble_eq_true rfl) (d' := d - 1) (by omega) (Nat.zero_le _) (Nat.zero_le _) (c_X16_failsT hM.w0 hS wI_ss (nI 2) (by decide) (cont_ret ?_))
      have g_2 : sTy S k ≠ 111 := by first | exact c_36 | exact of_decide_eq_true c_36 | omega
      refine wp_if_neN 54 dX16_makeLasting_39 (by decide) (by decide) (fun c_39 => ?_) (fun c_39 => absurd c_39 (by decide))
      refine wp_iconst (nI 0) dX16_makeLasting_54 (by decide) ?_
      refine wp_ireturn dX16_makeLasting_55 rfl ?_
      rw [show o_lasting S (nI k) k = (nI 2, nI 0, S) from by unfold o_lasting; rw [if_neg g_1, if_pos g_2]] at hq
      exact hq _ ((IB.w mW_m).tr (IB.w mW_m)) wI_ss hM.w0.w0
set_option maxRecDepth 100000 in
set_option maxHeartbeats 4000000 in
theorem c_X16_isOpen {G : GG} {d bc bs : Nat} {h : Hp} {Q : Pst} {m : Nat} {A : Nat → Nat} {S : SV} (hM : MP h m A S) (hS : SB S) {v : Int32} {k : Nat} (hv : ixB v (sNv S) = true → v = nI k ∧ k < sNv S) (hd : 3 ≤ d) (hq : PO Q h m A (o_isOpen S v k)) : WP G m_X16_isOpen d 0 (aargs 0 [vr (some m), vi v]) [] h bc bs Q := by
  refine wp_sub [(0, vr (some m)), (1, vi v)] (fun _ hz => hz) ?_
  have hnv := hS.1
  refine wp_aload_n (i := 0) dX16_isOpen_0 rfl rfl ?_
  refine wp_iconst (nI 0) dX16_isOpen_1 (by decide) ?_
  refine wp_putI 17 0 dX16_isOpen_2 hM.1.1 (by decide) (by decide) (by decide) fl_X16_63 rfl (fun _ _ => rfl) rfl rfl ?_
  refine wp_aload_n (i := 0) dX16_isOpen_5 rfl rfl ?_
  refine wp_aload_n (i := 0) dX16_isOpen_6 rfl rfl ?_
  refine wp_iload_n (i := 1) dX16_isOpen_7 rfl rfl ?_
  refine wp_cV (y' := m_X16_noValue) 17 [vi v] [vr (some m)] 0 0 dX16_isOpen_8 ml_X16_114 im_X16_noValue se_X16_noValue (by decide) hM.1.1 ok_X16_noValue rfl (Nat.le_of_ble_eq_true rfl) rfl (Nat.le_of_ble_eq_true rfl) (d' := d - 1) (by omega) (Nat.zero_le _) (Nat.zero_le _) (c_X16_noValue hM.w0 hS v (by omega) (cont_ret ?_))
  refine wp_iconst (nI 1) dX16_isOpen_11 (by decide) ?_
  refine wp_cV (y' := m_X16_fails) 17 [vi (bI (!ixB v (sNv S))), vi (nI 1)] [] 0 0 dX16_isOpen_12 ml_X16_102 im_X16_fails se_X16_fails (by decide) hM.1.1 ok_X16_fails rfl (Nat.le_of_ble_eq_true rfl) rfl (Nat.le_of_ble_eq_true rfl) (d' := d - 1) (by omega) (Nat.zero_le _) (Nat.zero_le _) (c_X16_failsB hM.w0 hS wI_ss (!ixB v (sNv S)) (nI 1) (by decide) (fun c_12 => cont_ret ?_) (fun c_12 => cont_ret ?_))
  · have g_1 : (!ixB v (sNv S)) = true := by first | exact c_12 | exact of_decide_eq_true c_12 | omega
    refine wp_if_neN 33 dX16_isOpen_15 (by decide) (by decide) (fun c_15 => ?_) (fun c_15 => absurd c_15 (by decide))
    refine wp_iconst (nI 0) dX16_isOpen_33 (by decide) ?_
    refine wp_zreturn dX16_isOpen_34 rfl (by first | rfl | assumption) ?_
    rw [show o_isOpen S v k = (nI 1, nI 0, S) from by unfold o_isOpen; rw [if_pos g_1]] at hq
    exact hq _ ((IB.w mW_m).tr (IB.w mW_m)) wI_ss hM.w0.w0
  · have g_1 : ¬ ((!ixB v (sNv S)) = true) := by first | exact fun z => Bool.false_ne_true (c_12.symm.trans z) | exact of_decide_eq_false c_12 | omega
    obtain ⟨ev, hk⟩ := hv (nt_f (Bool.eq_false_iff.mpr g_1))
    subst ev
    refine wp_if_neN 33 dX16_isOpen_15 (by decide) (by decide) (fun c_15 => absurd c_15 (by decide)) (fun c_15 => ?_)
    refine wp_aload_n (i := 0) dX16_isOpen_18 rfl rfl ?_
    refine wp_get 17 3 (vr (some (A 3))) dX16_isOpen_19 hM.1.1 (by decide) (by decide) fl_X16_7 (congrArg (fun z => toV (vr z)) (hM.1.r 3 (by decide) (by decide) (by decide) (by decide))) ?_
    refine wp_iload_n (i := 1) dX16_isOpen_22 rfl rfl ?_
    refine wp_caloadN 60 (nI (sTy S k)) dX16_isOpen_23 (hM.1.k 3 (by decide) (by decide) (by decide) (by decide)) (hM.1.n 3 (by decide) (by decide) (by decide)) (by omega) (by decide) ((hM.w0 (x := nI 0)).2.2.2.1 k) ?_
    refine wp_bipush (nI 111) dX16_isOpen_24 (by decide) ?_
    refine wp_icmp_neN 33 dX16_isOpen_26 (by decide) (ty_bd hS k) (by decide) (fun c_26 => ?_) (fun c_26 => ?_)
    · skip
      refine wp_iconst (nI 0) dX16_isOpen_33 (by decide) ?_
      refine wp_zreturn dX16_isOpen_34 rfl (by first | rfl | assumption) ?_
      rw [show o_isOpen S (nI k) k = (nI 0, nI 0, S) from by unfold o_isOpen; rw [if_neg g_1, decide_eq_false c_26] <;> rfl] at hq
      exact hq _ (IB.w mW_m) wI_ss hM.w0
    · skip
      refine wp_iconst (nI 1) dX16_isOpen_29 (by decide) ?_
      refine wp_goto 34 dX16_isOpen_30 (by decide) ?_
      refine wp_zreturn dX16_isOpen_34 rfl (by first | rfl | assumption) ?_
      rw [show o_isOpen S (nI k) k = (nI 0, nI 1, S) from by unfold o_isOpen; rw [if_neg g_1, decide_eq_true c_26] <;> rfl] at hq
      exact hq _ (IB.w mW_m) wI_ss hM.w0
