/-! The model: new values, copies of elements. -/
/-- only the model's values changed, and not what was thrown -/
def PV (h h' : Hp) (m : Nat) (A : Nat → Nat) : Prop := IB h h' (mW m A) ∧ h_I h' m 0 = h_I h m 0
theorem PV.rf {h : Hp} {m : Nat} {A : Nat → Nat} : PV h h m A := ⟨IB.rf, rfl⟩
theorem PV.tr {h h1 h2 : Hp} {m : Nat} {A : Nat → Nat} (a : PV h h1 m A) (b : PV h1 h2 m A) : PV h h2 m A := ⟨a.1.tr b.1, b.2.trans a.2⟩
theorem PV.i {h h1 : Hp} {m k : Nat} {A : Nat → Nat} {S : SV} {x : Int32} (H : MP h m A S) (a : PV h1 h m A) (i : Nat) (h1' : 3 ≤ i) (h2' : i ≤ 10) : PV h1 (wI h (A i) k x) m A :=
  ⟨a.1.tr (IB.w (mW_i i h1' h2')), (congrFun (wI_ne (Ne.symm (H.1.m i h1' (by omega) (by omega) (by omega)))) 0).trans a.2⟩
theorem PV.m {h h1 : Hp} {m k : Nat} {A : Nat → Nat} {x : Int32} (a : PV h1 h m A) (hk : (0 : Nat) ≠ k) (h2 : k ≤ 2 := by decide) : PV h1 (wI h m k x) m A :=
  ⟨a.1.tr (IB.w (mW_m h2)), (wI_sn hk).trans a.2⟩
/-- the state with a value of kind c more -/
def s_new (S : SV) (c : Nat) : SV := s_1 (s_4 (s_3 S (sNv S) c) (sNv S) 0) (sNv S + 1)
theorem SB.new {S : SV} (hS : SB S) {c : Nat} (hc : c < 65536) (hn : sNv S < 60) : SB (s_new S c) := by
  refine ⟨hn, hS.2.1, fun j => ?_, fun j => ?_, hS.2.2.2.2.1, hS.2.2.2.2.2⟩
  · show va_up (sTy S) (sNv S) c j < 65536
    by_cases hj : j = sNv S
    · subst hj; rw [va_up_self]; exact hc
    · rw [va_up_ne _ _ hj]; exact hS.2.2.1 j
  · show va_up (sSz S) (sNv S) 0 j ≤ 64
    by_cases hj : j = sNv S
    · subst hj; rw [va_up_self]; exact Nat.zero_le _
    · rw [va_up_ne _ _ hj]; exact hS.2.2.2.1 j
set_option maxRecDepth 100000 in
set_option maxHeartbeats 4000000 in
theorem c_X16_newValue {G : GG} {d bc bs : Nat} {h : Hp} {Q : Pst} {m : Nat} {A : Nat → Nat} {S : SV} (hM : MP h m A S) (hS : SB S) {c : Nat} (hv : vp_nar .char (nI c) = nI c) (hc : c < 65536) (hn : sNv S < 60) (hq : ∀ h', PV h h' m A → MP h' m A (s_new S c) → Q (oRet (vi (nI (sNv S)))) h') : WP G m_X16_newValue d 0 (aargs 0 [vr (some m), vi (nI c)]) [] h bc bs Q := by
  refine wp_sub [(0, vr (some m)), (1, vi (nI c))] (fun _ hz => hz) ?_
  refine wp_aload_n (i := 0) dX16_newValue_0 rfl rfl ?_
  refine wp_get 17 3 (vr (some (A 3))) dX16_newValue_1 hM.1.1 (by decide) (by decide) fl_X16_7 (congrArg (fun z => toV (vr z)) (hM.1.r 3 (by decide) (by decide) (by decide) (by decide))) ?_
  refine wp_aload_n (i := 0) dX16_newValue_4 rfl rfl ?_
  refine wp_get 17 1 (vi (nI (sNv S))) dX16_newValue_5 hM.1.1 (by decide) (by decide) fl_X16_67 (congrArg (fun z => toV (vi z)) (hM.2.1)) ?_
  refine wp_iload_n (i := 1) dX16_newValue_8 rfl rfl ?_
  refine wp_castoreN 60 dX16_newValue_9 (hM.1.k 3 (by decide) (by decide) (by decide) (by decide)) (hM.1.n 3 (by decide) (by decide) (by decide)) (by omega) (by decide) hv ?_
  refine wp_aload_n (i := 0) dX16_newValue_10 rfl rfl ?_
  refine wp_get 17 4 (vr (some (A 4))) dX16_newValue_11 hM.1.1 (by decide) (by decide) fl_X16_13 (congrArg (fun z => toV (vr z)) (hM.1.r 4 (by decide) (by decide) (by decide) (by decide))) ?_
  refine wp_aload_n (i := 0) dX16_newValue_14 rfl rfl ?_
  refine wp_get 17 1 (vi (nI (sNv S))) dX16_newValue_15 hM.1.1 (by decide) (by decide) fl_X16_67 (congrArg (fun z => toV (vi z)) ((hM.w3 (x := c) (k := sNv S)).2.1)) ?_
  refine wp_iconst (nI 0) dX16_newValue_18 (by decide) ?_
  refine wp_iastoreN 60 dX16_newValue_19 (hM.1.k 4 (by decide) (by decide) (by decide) (by decide)) (hM.1.n 4 (by decide) (by decide) (by decide)) (by omega) (by decide) ?_
  refine wp_aload_n (i := 0) dX16_newValue_20 rfl rfl ?_
  refine wp_dup dX16_newValue_21 ?_
  refine wp_get 17 1 (vi (nI (sNv S))) dX16_newValue_22 hM.1.1 (by decide) (by decide) fl_X16_67 (congrArg (fun z => toV (vi z)) (((hM.w3 (x := c) (k := sNv S)).w4 (x := 0) (k := sNv S)).2.1)) ?_
  refine wp_iconst (nI 1) dX16_newValue_25 (by decide) ?_
  refine wp_iaddN dX16_newValue_26 ?_
  refine wp_putI 17 1 dX16_newValue_27 hM.1.1 (by decide) (by decide) (by decide) fl_X16_67 rfl (fun _ _ => rfl) rfl rfl ?_
  refine wp_aload_n (i := 0) dX16_newValue_30 rfl rfl ?_
  refine wp_get 17 1 (vi (nI (sNv S + 1))) dX16_newValue_31 hM.1.1 (by decide) (by decide) fl_X16_67 (congrArg (fun z => toV (vi z)) (wI_ss)) ?_
  refine wp_iconst (nI 1) dX16_newValue_34 (by decide) ?_
  refine wp_isubN dX16_newValue_35 (by omega) ?_
  refine wp_ireturn dX16_newValue_36 rfl ?_
  exact hq _ (PV.m (PV.i (hM.w3 (x := c) (k := sNv S)) (PV.i hM PV.rf 3 (by decide) (by decide)) 4 (by decide) (by decide)) (by decide)) ((hM.w3 (x := c) (k := sNv S)).w4 (x := 0) (k := sNv S)).w1
/-- f, with k elements of block b written over block a -/
def cpE (f : Nat → Int32) (a b k : Nat) : Nat → Int32 := fun j => if 64 * a ≤ j ∧ j < 64 * a + k then f (64 * b + (j - 64 * a)) else f j
theorem cpE_0 {f : Nat → Int32} {a b : Nat} : cpE f a b 0 = f := by
  funext j; unfold cpE; rw [if_neg (by omega)]
theorem cpE_b {f : Nat → Int32} {a b k : Nat} (hk : k < 64) : cpE f a b k (64 * b + k) = f (64 * b + k) := by
  unfold cpE
  split
  · next z => congr 1; omega
  · rfl
theorem cpE_s {f : Nat → Int32} {a b k : Nat} : va_up (cpE f a b k) (64 * a + k) (f (64 * b + k)) = cpE f a b (k + 1) := by
  funext j
  by_cases hj : j = 64 * a + k
  · subst hj; rw [va_up_self]; unfold cpE; rw [if_pos (by omega)]; congr 1; omega
  · rw [va_up_ne _ _ hj]; unfold cpE
    by_cases hh : 64 * a ≤ j ∧ j < 64 * a + k
    · rw [if_pos hh, if_pos (by omega)]
    · rw [if_neg hh, if_neg (by omega)]
/-- the state, with b's size and k elements of b written over a -/
def s_cpk (S : SV) (a b k : Nat) : SV := (sNv S, sMd S, sTy S, va_up (sSz S) a (sSz S b), cpE (sEl S) a b k, sNd S, sOw S, sHs S, sOf S, sMn S)
abbrev s_cp (S : SV) (a b : Nat) : SV := s_cpk S a b 64
set_option maxRecDepth 100000 in
set_option maxHeartbeats 4000000 in
theorem l_X16_copy {G : GG} {d bc bs : Nat} {Q : Pst} {h0 : Hp} {m : Nat} {A : Nat → Nat} {S : SV} {a b : Nat} (ha : a < 60) (hb : b < 60) (hq : ∀ h', PV h0 h' m A → MP h' m A (s_cp S a b) → Q oVoid h') : ∀ n k h, k + n = 64 → MP h m A (s_cpk S a b k) → PV h0 h m A → WP G m_X16_copyElements d 14 [(3, vi (nI k)), (0, vr (some m)), (1, vi (nI a)), (2, vi (nI b))] [] h bc bs Q := by
  intro n
  induction n with
  | zero =>
    intro k h hk hM hP
    have hk : k = 64 := hk
    subst hk
    refine wp_iload_n (i := 3) dX16_copyElements_14 rfl rfl ?_
    refine wp_bipush (nI 64) dX16_copyElements_15 (by decide) ?_
    refine wp_icmp_geN 48 dX16_copyElements_17 (by decide) (by decide) (by decide) (fun c_17 => ?_) (fun c_17 => absurd c_17 (by omega))
    refine wp_return dX16_copyElements_48 rfl ?_
    exact hq _ hP hM
  | succ n ih =>
    intro k h hk hM hP
    refine wp_iload_n (i := 3) dX16_copyElements_14 rfl rfl ?_
    refine wp_bipush (nI 64) dX16_copyElements_15 (by decide) ?_
    refine wp_icmp_geN 48 dX16_copyElements_17 (by decide) (by omega) (by decide) (fun c_17 => absurd c_17 (by omega)) (fun c_17 => ?_)
    refine wp_aload_n (i := 0) dX16_copyElements_20 rfl rfl ?_
    refine wp_get 17 5 (vr (some (A 5))) dX16_copyElements_21 hM.1.1 (by decide) (by decide) fl_X16_17 (congrArg (fun z => toV (vr z)) (hM.1.r 5 (by decide) (by decide) (by decide) (by decide))) ?_
    refine wp_bipush (nI 64) dX16_copyElements_24 (by decide) ?_
    refine wp_iload_n (i := 1) dX16_copyElements_26 rfl rfl ?_
    refine wp_imulN dX16_copyElements_27 ?_
    refine wp_iload_n (i := 3) dX16_copyElements_28 rfl rfl ?_
    refine wp_iaddN dX16_copyElements_29 ?_
    refine wp_aload_n (i := 0) dX16_copyElements_30 rfl rfl ?_
    refine wp_get 17 5 (vr (some (A 5))) dX16_copyElements_31 hM.1.1 (by decide) (by decide) fl_X16_17 (congrArg (fun z => toV (vr z)) (hM.1.r 5 (by decide) (by decide) (by decide) (by decide))) ?_
    refine wp_bipush (nI 64) dX16_copyElements_34 (by decide) ?_
    refine wp_iload_n (i := 2) dX16_copyElements_36 rfl rfl ?_
    refine wp_imulN dX16_copyElements_37 ?_
    refine wp_iload_n (i := 3) dX16_copyElements_38 rfl rfl ?_
    refine wp_iaddN dX16_copyElements_39 ?_
    refine wp_ialoadN 3840 (sEl S (64 * b + k)) dX16_copyElements_40 (hM.1.k 5 (by decide) (by decide) (by decide) (by decide)) (hM.1.n 5 (by decide) (by decide) (by decide)) (by omega) (by decide) ((hM.2.2.2.2.2.1 (64 * b + k)).trans (cpE_b (by omega))) ?_
    refine wp_iastoreN 3840 dX16_copyElements_41 (hM.1.k 5 (by decide) (by decide) (by decide) (by decide)) (hM.1.n 5 (by decide) (by decide) (by decide)) (by omega) (by decide) ?_
    refine wp_iincN (a := k) (lv' := [(3, vi (nI (k + 1))), (0, vr (some m)), (1, vi (nI a)), (2, vi (nI b))]) 1 dX16_copyElements_42 rfl (by decide) (by decide) rfl ?_
    refine wp_goto 14 dX16_copyElements_45 (by decide) ?_
    exact ih (k + 1) _ (by omega) (by have e := hM.w5 (k := 64 * a + k) (x := sEl S (64 * b + k)); rw [show s_5 (s_cpk S a b k) (64 * a + k) (sEl S (64 * b + k)) = s_cpk S a b (k + 1) from congrArg (fun z => (sNv S, sMd S, sTy S, va_up (sSz S) a (sSz S b), z, sNd S, sOw S, sHs S, sOf S, sMn S)) cpE_s] at e; exact e) (PV.i hM hP 5 (by decide) (by decide))
set_option maxRecDepth 100000 in
set_option maxHeartbeats 4000000 in
theorem c_X16_copyElements {G : GG} {d bc bs : Nat} {h : Hp} {Q : Pst} {m : Nat} {A : Nat → Nat} {S : SV} (hM : MP h m A S) (hS : SB S) {a b : Nat} (ha : a < 60) (hb : b < 60) (hq : ∀ h', PV h h' m A → MP h' m A (s_cp S a b) → Q oVoid h') : WP G m_X16_copyElements d 0 (aargs 0 [vr (some m), vi (nI a), vi (nI b)]) [] h bc bs Q := by
  refine wp_sub [(0, vr (some m)), (1, vi (nI a)), (2, vi (nI b))] (fun _ hz => hz) ?_
  refine wp_aload_n (i := 0) dX16_copyElements_0 rfl rfl ?_
  refine wp_get 17 4 (vr (some (A 4))) dX16_copyElements_1 hM.1.1 (by decide) (by decide) fl_X16_13 (congrArg (fun z => toV (vr z)) (hM.1.r 4 (by decide) (by decide) (by decide) (by decide))) ?_
  refine wp_iload_n (i := 1) dX16_copyElements_4 rfl rfl ?_
  refine wp_aload_n (i := 0) dX16_copyElements_5 rfl rfl ?_
  refine wp_get 17 4 (vr (some (A 4))) dX16_copyElements_6 hM.1.1 (by decide) (by decide) fl_X16_13 (congrArg (fun z => toV (vr z)) (hM.1.r 4 (by decide) (by decide) (by decide) (by decide))) ?_
  refine wp_iload_n (i := 2) dX16_copyElements_9 rfl rfl ?_
  refine wp_ialoadN 60 (nI (sSz S b)) dX16_copyElements_10 (hM.1.k 4 (by decide) (by decide) (by decide) (by decide)) (hM.1.n 4 (by decide) (by decide) (by decide)) (by omega) (by decide) (hM.2.2.2.2.1 b) ?_
  refine wp_iastoreN 60 dX16_copyElements_11 (hM.1.k 4 (by decide) (by decide) (by decide) (by decide)) (hM.1.n 4 (by decide) (by decide) (by decide)) (by omega) (by decide) ?_
  refine wp_iconst (nI 0) dX16_copyElements_12 (by decide) ?_
  refine wp_istore_n (i := 3) (lv' := [(3, vi (nI 0)), (0, vr (some m)), (1, vi (nI a)), (2, vi (nI b))]) dX16_copyElements_13 rfl (by decide) rfl ?_
  exact l_X16_copy ha hb hq 64 0 _ rfl (by have e := hM.w4 (k := a) (x := sSz S b); rw [show s_4 S a (sSz S b) = s_cpk S a b 0 from congrArg (fun z => (sNv S, sMd S, sTy S, va_up (sSz S) a (sSz S b), z, sNd S, sOw S, sHs S, sOf S, sMn S)) cpE_0.symm] at e; exact e) (PV.i hM PV.rf 4 (by decide) (by decide))
