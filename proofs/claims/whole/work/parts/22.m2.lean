/-! The model: its helpers of the values. -/
set_option maxRecDepth 100000 in
set_option maxHeartbeats 4000000 in
theorem c_X16_fails {G : GG} {d bc bs : Nat} {h : Hp} {Q : Pst} {m : Nat} {A : Nat → Nat} {S : SV} (hM : MP h m A S) (hS : SB S) (ht : h_I h m 0 = 0) (c e : Int32) (he : ¬ e = 0) (k1 : ¬ c = 0 → Q (oRet (vi (nI 1))) (wI h m 0 e)) (k0 : c = 0 → Q (oRet (vi (nI 0))) h) : WP G m_X16_fails d 0 (aargs 0 [vr (some m), vi c, vi e]) [] h bc bs Q := by
  refine wp_sub [(0, vr (some m)), (1, vi c), (2, vi e)] (fun _ hz => hz) ?_
  refine wp_iload_n (i := 1) dX16_fails_0 rfl rfl ?_
  refine wp_if_eq 16 dX16_fails_1 (by decide) (fun c_1 => ?_) (fun c_1 => ?_)
  · skip
    refine wp_aload_n (i := 0) dX16_fails_16 rfl rfl ?_
    refine wp_get 17 0 (vi (nI 0)) dX16_fails_17 hM.1.1 (by decide) (by decide) fl_X16_63 (congrArg (fun z => toV (vi z)) (ht)) ?_
    refine wp_if_eqN 27 dX16_fails_20 (by decide) (by decide) (fun c_20 => ?_) (fun c_20 => absurd c_20 (by decide))
    refine wp_iconst (nI 0) dX16_fails_27 (by decide) ?_
    refine wp_zreturn dX16_fails_28 rfl (by first | rfl | assumption) ?_
    exact k0 c_1
  · skip
    refine wp_aload_n (i := 0) dX16_fails_4 rfl rfl ?_
    refine wp_get 17 0 (vi (nI 0)) dX16_fails_5 hM.1.1 (by decide) (by decide) fl_X16_63 (congrArg (fun z => toV (vi z)) (ht)) ?_
    refine wp_if_neN 16 dX16_fails_8 (by decide) (by decide) (fun c_8 => absurd c_8 (by decide)) (fun c_8 => ?_)
    refine wp_aload_n (i := 0) dX16_fails_11 rfl rfl ?_
    refine wp_iload_n (i := 2) dX16_fails_12 rfl rfl ?_
    refine wp_putI 17 0 dX16_fails_13 hM.1.1 (by decide) (by decide) (by decide) fl_X16_63 rfl (fun _ _ => rfl) rfl rfl ?_
    refine wp_aload_n (i := 0) dX16_fails_16 rfl rfl ?_
    refine wp_get 17 0 (vi e) dX16_fails_17 hM.1.1 (by decide) (by decide) fl_X16_63 (congrArg (fun z => toV (vi z)) (wI_ss)) ?_
    refine wp_if_eq 27 dX16_fails_20 (by decide) (fun c_20 => absurd c_20 (he)) (fun c_20 => ?_)
    refine wp_iconst (nI 1) dX16_fails_23 (by decide) ?_
    refine wp_goto 28 dX16_fails_24 (by decide) ?_
    refine wp_zreturn dX16_fails_28 rfl (by first | rfl | assumption) ?_
    exact k1 c_1
theorem c_X16_failsT {G : GG} {d bc bs : Nat} {h : Hp} {Q : Pst} {m : Nat} {A : Nat → Nat} {S : SV} (hM : MP h m A S) (hS : SB S) (ht : h_I h m 0 = 0) (e : Int32) (he : ¬ e = 0) (k1 : Q (oRet (vi (nI 1))) (wI h m 0 e)) : WP G m_X16_fails d 0 (aargs 0 [vr (some m), vi (nI 1), vi e]) [] h bc bs Q :=
  c_X16_fails hM hS ht (nI 1) e he (fun _ => k1) (fun z => absurd z (by decide))
theorem c_X16_failsF {G : GG} {d bc bs : Nat} {h : Hp} {Q : Pst} {m : Nat} {A : Nat → Nat} {S : SV} (hM : MP h m A S) (hS : SB S) (ht : h_I h m 0 = 0) (e : Int32) (he : ¬ e = 0) (k0 : Q (oRet (vi (nI 0))) h) : WP G m_X16_fails d 0 (aargs 0 [vr (some m), vi (nI 0), vi e]) [] h bc bs Q :=
  c_X16_fails hM hS ht (nI 0) e he (fun z => absurd rfl z) (fun _ => k0)
theorem c_X16_failsB {G : GG} {d bc bs : Nat} {h : Hp} {Q : Pst} {m : Nat} {A : Nat → Nat} {S : SV} (hM : MP h m A S) (hS : SB S) (ht : h_I h m 0 = 0) (b : Bool) (e : Int32) (he : ¬ e = 0) (k1 : b = true → Q (oRet (vi (nI 1))) (wI h m 0 e)) (k0 : b = false → Q (oRet (vi (nI 0))) h) : WP G m_X16_fails d 0 (aargs 0 [vr (some m), vi (bI b), vi e]) [] h bc bs Q :=
  c_X16_fails hM hS ht (bI b) e he (fun z => k1 (bI_n.mp z)) (fun z => k0 (bI_0.mp z))
set_option maxRecDepth 100000 in
set_option maxHeartbeats 4000000 in
theorem c_X16_noValue {G : GG} {d bc bs : Nat} {h : Hp} {Q : Pst} {m : Nat} {A : Nat → Nat} {S : SV} (hM : MP h m A S) (hS : SB S) (v : Int32) (hd : 2 ≤ d) (hq : Q (oRet (vi (bI (!ixB v (sNv S))))) h) : WP G m_X16_noValue d 0 (aargs 0 [vr (some m), vi v]) [] h bc bs Q := by
  refine wp_sub [(0, vr (some m)), (1, vi v)] (fun _ hz => hz) ?_
  refine wp_iload_n (i := 1) dX16_noValue_0 rfl rfl ?_
  refine wp_iconst (nI 0) dX16_noValue_1 (by decide) ?_
  refine wp_aload_n (i := 0) dX16_noValue_2 rfl rfl ?_
  refine wp_get 17 1 (vi (nI (sNv S))) dX16_noValue_3 hM.1.1 (by decide) (by decide) fl_X16_67 (congrArg (fun z => toV (vi z)) (hM.2.1)) ?_
  refine wp_iconst (nI 1) dX16_noValue_6 (by decide) ?_
  refine wp_isub dX16_noValue_7 ?_
  refine wp_cS (y' := m_X16_in) [vi v, vi (nI 0), vi ((nI (sNv S)) - (nI 1))] [] 0 0 dX16_noValue_8 ml_X16_70 st_X16_in ok_X16_in rfl (Nat.le_of_ble_eq_true rfl) rfl (Nat.le_of_ble_eq_true rfl) (d' := d - 1) (by omega) (Nat.zero_le _) (Nat.zero_le _) (c_X16_in v (nI 0) ((nI (sNv S)) - (nI 1))  (cont_ret ?_))
  refine wp_if_neB 18 dX16_noValue_11 (by decide) (fun c_11 => ?_) (fun c_11 => ?_)
  · rw [show ixB v (sNv S) = true from c_11] at hq
    refine wp_iconst (nI 0) dX16_noValue_18 (by decide) ?_
    refine wp_zreturn dX16_noValue_19 rfl (by first | rfl | assumption) ?_
    exact hq
  · rw [show ixB v (sNv S) = false from c_11] at hq
    refine wp_iconst (nI 1) dX16_noValue_14 (by decide) ?_
    refine wp_goto 19 dX16_noValue_15 (by decide) ?_
    refine wp_zreturn dX16_noValue_19 rfl (by first | rfl | assumption) ?_
    exact hq
set_option maxRecDepth 100000 in
set_option maxHeartbeats 4000000 in
theorem c_X16_isFull {G : GG} {d bc bs : Nat} {h : Hp} {Q : Pst} {m : Nat} {A : Nat → Nat} {S : SV} (hM : MP h m A S) (hS : SB S) (hq : Q (oRet (vi (bI (decide (sNv S = 60))))) h) : WP G m_X16_isFull d 0 (aargs 0 [vr (some m)]) [] h bc bs Q := by
  refine wp_sub [(0, vr (some m))] (fun _ hz => hz) ?_
  refine wp_aload_n (i := 0) dX16_isFull_0 rfl rfl ?_
  refine wp_get 17 1 (vi (nI (sNv S))) dX16_isFull_1 hM.1.1 (by decide) (by decide) fl_X16_67 (congrArg (fun z => toV (vi z)) (hM.2.1)) ?_
  refine wp_bipush (nI 60) dX16_isFull_4 (by decide) ?_
  refine wp_icmp_neN 13 dX16_isFull_6 (by decide) (by have := hS.1; omega) (by decide) (fun c_6 => ?_) (fun c_6 => ?_)
  · rw [decide_eq_false c_6] at hq
    refine wp_iconst (nI 0) dX16_isFull_13 (by decide) ?_
    refine wp_zreturn dX16_isFull_14 rfl (by first | rfl | assumption) ?_
    exact hq
  · rw [decide_eq_true c_6] at hq
    refine wp_iconst (nI 1) dX16_isFull_9 (by decide) ?_
    refine wp_goto 14 dX16_isFull_10 (by decide) ?_
    refine wp_zreturn dX16_isFull_14 rfl (by first | rfl | assumption) ?_
    exact hq
def vecB (S : SV) (k : Nat) : Bool := decide (sTy S k = 118) || decide (sTy S k = 111)
theorem ty_bd {S : SV} (hS : SB S) (k : Nat) : sTy S k < 2147483648 := by have := hS.2.2.1 k; omega
theorem sz_bd {S : SV} (hS : SB S) (k : Nat) : sSz S k < 2147483648 := by have := hS.2.2.2.1 k; omega
theorem nd_bd {S : SV} (hS : SB S) (k : Nat) : sNd S k < 2147483648 := by have := hS.2.2.2.2.1 k; omega
theorem mn_bd {S : SV} (hS : SB S) (k : Nat) : sMn S k < 2147483648 := by have := hS.2.2.2.2.2 k; omega
theorem md_bd {S : SV} (hS : SB S) : sMd S < 2147483648 := by have := hS.2.1; omega
theorem nv_bd {S : SV} (hS : SB S) : sNv S < 2147483648 := by have := hS.1; omega
set_option maxRecDepth 100000 in
set_option maxHeartbeats 4000000 in
theorem c_X16_isVector {G : GG} {d bc bs : Nat} {h : Hp} {Q : Pst} {m : Nat} {A : Nat → Nat} {S : SV} (hM : MP h m A S) (hS : SB S) {k : Nat} (hk : k < 60) (hq : Q (oRet (vi (bI (vecB S k)))) h) : WP G m_X16_isVector d 0 (aargs 0 [vr (some m), vi (nI k)]) [] h bc bs Q := by
  refine wp_sub [(0, vr (some m)), (1, vi (nI k))] (fun _ hz => hz) ?_
  refine wp_aload_n (i := 0) dX16_isVector_0 rfl rfl ?_
  refine wp_get 17 3 (vr (some (A 3))) dX16_isVector_1 hM.1.1 (by decide) (by decide) fl_X16_7 (congrArg (fun z => toV (vr z)) (hM.1.r 3 (by decide) (by decide) (by decide) (by decide))) ?_
  refine wp_iload_n (i := 1) dX16_isVector_4 rfl rfl ?_
  refine wp_caloadN 60 (nI (sTy S k)) dX16_isVector_5 (hM.1.k 3 (by decide) (by decide) (by decide) (by decide)) (hM.1.n 3 (by decide) (by decide) (by decide)) (by omega) (by decide) (hM.2.2.2.1 k) ?_
  refine wp_bipush (nI 118) dX16_isVector_6 (by decide) ?_
  refine wp_icmp_eqN 22 dX16_isVector_8 (by decide) (ty_bd hS k) (by decide) (fun c_8 => ?_) (fun c_8 => ?_)
  · have e : vecB S k = true := by unfold vecB; rw [decide_eq_true c_8]; rfl
    rw [e] at hq
    refine wp_iconst (nI 1) dX16_isVector_22 (by decide) ?_
    refine wp_goto 27 dX16_isVector_23 (by decide) ?_
    refine wp_zreturn dX16_isVector_27 rfl (by first | rfl | assumption) ?_
    exact hq
  · skip
    refine wp_aload_n (i := 0) dX16_isVector_11 rfl rfl ?_
    refine wp_get 17 3 (vr (some (A 3))) dX16_isVector_12 hM.1.1 (by decide) (by decide) fl_X16_7 (congrArg (fun z => toV (vr z)) (hM.1.r 3 (by decide) (by decide) (by decide) (by decide))) ?_
    refine wp_iload_n (i := 1) dX16_isVector_15 rfl rfl ?_
    refine wp_caloadN 60 (nI (sTy S k)) dX16_isVector_16 (hM.1.k 3 (by decide) (by decide) (by decide) (by decide)) (hM.1.n 3 (by decide) (by decide) (by decide)) (by omega) (by decide) (hM.2.2.2.1 k) ?_
    refine wp_bipush (nI 111) dX16_isVector_17 (by decide) ?_
    refine wp_icmp_neN 26 dX16_isVector_19 (by decide) (ty_bd hS k) (by decide) (fun c_19 => ?_) (fun c_19 => ?_)
    · have e : vecB S k = false := by unfold vecB; rw [decide_eq_false c_8, decide_eq_false c_19]; rfl
      rw [e] at hq
      refine wp_iconst (nI 0) dX16_isVector_26 (by decide) ?_
      refine wp_zreturn dX16_isVector_27 rfl (by first | rfl | assumption) ?_
      exact hq
    · have e : vecB S k = true := by unfold vecB; rw [decide_eq_true c_19]; exact Bool.or_true _
      rw [e] at hq
      refine wp_iconst (nI 1) dX16_isVector_22 (by decide) ?_
      refine wp_goto 27 dX16_isVector_23 (by decide) ?_
      refine wp_zreturn dX16_isVector_27 rfl (by first | rfl | assumption) ?_
      exact hq
/-- the state with one more node made -/
abbrev s_2 (S : SV) (x : Nat) : SV := (sNv S, x, sTy S, sSz S, sEl S, sNd S, sOw S, sHs S, sOf S, sMn S)
abbrev s_1 (S : SV) (x : Nat) : SV := (x, sMd S, sTy S, sSz S, sEl S, sNd S, sOw S, sHs S, sOf S, sMn S)
set_option maxRecDepth 100000 in
set_option maxHeartbeats 4000000 in
theorem c_X16_newNode {G : GG} {d bc bs : Nat} {h : Hp} {Q : Pst} {m : Nat} {A : Nat → Nat} {S : SV} (hM : MP h m A S) (hS : SB S) (hq : Q (oRet (vi (nI (sMd S + 1)))) (wI h m 2 (nI (sMd S + 1)))) : WP G m_X16_newNode d 0 (aargs 0 [vr (some m)]) [] h bc bs Q := by
  refine wp_sub [(0, vr (some m))] (fun _ hz => hz) ?_
  refine wp_aload_n (i := 0) dX16_newNode_0 rfl rfl ?_
  refine wp_dup dX16_newNode_1 ?_
  refine wp_get 17 2 (vi (nI (sMd S))) dX16_newNode_2 hM.1.1 (by decide) (by decide) fl_X16_84 (congrArg (fun z => toV (vi z)) (hM.2.2.1)) ?_
  refine wp_iconst (nI 1) dX16_newNode_5 (by decide) ?_
  refine wp_iaddN dX16_newNode_6 ?_
  refine wp_putI 17 2 dX16_newNode_7 hM.1.1 (by decide) (by decide) (by decide) fl_X16_84 rfl (fun _ _ => rfl) rfl rfl ?_
  refine wp_aload_n (i := 0) dX16_newNode_10 rfl rfl ?_
  refine wp_get 17 2 (vi (nI (sMd S + 1))) dX16_newNode_11 hM.1.1 (by decide) (by decide) fl_X16_84 (congrArg (fun z => toV (vi z)) (wI_ss)) ?_
  refine wp_ireturn dX16_newNode_14 rfl ?_
  exact hq
