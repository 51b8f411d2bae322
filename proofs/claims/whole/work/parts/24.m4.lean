/-! The model: which nodes are the same below. -/
theorem fw_le (s : Nat) : frm s + wid s ≤ 64 := by unfold frm wid; (repeat' split) <;> omega
/-- where value x ends below node s -/
def lim (S : SV) (s x : Nat) : Nat := if sSz S x < frm s + wid s then sSz S x else frm s + wid s
theorem lim_le (S : SV) (s x : Nat) : lim S s x ≤ 64 := by have := fw_le s; unfold lim; split <;> omega
def eqUp (f : Nat → Int32) (a b lo : Nat) : Nat → Bool
  | 0 => true
  | n + 1 => eqUp f a b lo n && decide (f (64 * a + (lo + n)) = f (64 * b + (lo + n)))
def smF (S : SV) (s a b j : Nat) : Bool := decide (lim S s a = lim S s b) && eqUp (sEl S) a b (frm s) j
theorem smF_s {S : SV} {s a b j : Nat} : smF S s a b (j + 1) = (smF S s a b j && decide (sEl S (64 * a + (frm s + j)) = sEl S (64 * b + (frm s + j)))) := by
  unfold smF; rw [eqUp, Bool.and_assoc]
theorem smF_m {S : SV} {s a b j : Nat} (h : smF S s a b j = false) : ∀ i, smF S s a b (j + i) = false := by
  intro i
  induction i with
  | zero => exact h
  | succ i ih => rw [Nat.add_succ, smF_s, ih]; rfl
/-- a and b are the same below node s -/
def smB (S : SV) (s a b : Nat) : Bool := smF S s a b (lim S s a - frm s)
set_option maxRecDepth 100000 in
set_option maxHeartbeats 4000000 in
theorem l_X16_below {G : GG} {d bc bs : Nat} {Q : Pst} {h : Hp} {m : Nat} {A : Nat → Nat} {S : SV} (hM : MP h m A S) (hS : SB S) {s a b : Nat} (ha : a < 60) (hb : b < 60) (hq : Q (oRet (vi (bI (smB S s a b)))) h) : ∀ n j x, n + j = lim S s a - frm s → x = bI (smF S s a b j) → WP G m_X16_isSameBelow d 79 [(8, vi (nI (frm s + j))), (7, vi x), (6, vi (nI (lim S s b))), (5, vi (nI (lim S s a))), (4, vi (nI (frm s + wid s))), (0, vr (some m)), (1, vi (nI s)), (2, vi (nI a)), (3, vi (nI b))] [] h bc bs Q := by
  have hw := lim_le S s a
  have hf := frm_le s
  intro n
  induction n with
  | zero =>
    intro j x hj hx
    have hx : x = bI (smB S s a b) := by rw [hx]; unfold smB; congr 2; omega
    subst hx
    refine wp_iload (i := 8) dX16_isSameBelow_79 rfl ?_
    refine wp_iload (i := 5) dX16_isSameBelow_81 rfl ?_
    refine wp_icmp_geN 131 dX16_isSameBelow_83 (by decide) (by omega) (by omega) (fun c_83 => ?_) (fun c_83 => absurd c_83 (by omega))
    refine wp_iload (i := 7) dX16_isSameBelow_131 rfl ?_
    refine wp_zreturn dX16_isSameBelow_133 rfl (nar_z (bI_z _)) ?_
    exact hq
  | succ n ih =>
    intro j x hj hx
    refine wp_iload (i := 8) dX16_isSameBelow_79 rfl ?_
    refine wp_iload (i := 5) dX16_isSameBelow_81 rfl ?_
    refine wp_icmp_geN 131 dX16_isSameBelow_83 (by decide) (by omega) (by omega) (fun c_83 => absurd c_83 (by omega)) (fun c_83 => ?_)
    refine wp_iload (i := 7) dX16_isSameBelow_86 rfl ?_
    refine wp_if_eq 131 dX16_isSameBelow_88 (by decide) (fun c_88 => ?_) (fun c_88 => ?_)
    · have e : smB S s a b = false := by
        have := smF_m (bI_0.mp (hx.symm.trans c_88)) (n + 1)
        rw [show j + (n + 1) = lim S s a - frm s from by omega] at this
        exact this
      rw [e] at hq
      subst c_88
      refine wp_iload (i := 7) dX16_isSameBelow_131 rfl ?_
      refine wp_zreturn dX16_isSameBelow_133 rfl rfl ?_
      exact hq
    · skip
      refine wp_aload_n (i := 0) dX16_isSameBelow_91 rfl rfl ?_
      refine wp_get 17 5 (vr (some (A 5))) dX16_isSameBelow_92 hM.1.1 (by decide) (by decide) fl_X16_17 (congrArg (fun z => toV (vr z)) (hM.1.r 5 (by decide) (by decide) (by decide) (by decide))) ?_
      refine wp_bipush (nI 64) dX16_isSameBelow_95 (by decide) ?_
      refine wp_iload_n (i := 2) dX16_isSameBelow_97 rfl rfl ?_
      refine wp_imulN dX16_isSameBelow_98 ?_
      refine wp_iload (i := 8) dX16_isSameBelow_99 rfl ?_
      refine wp_iaddN dX16_isSameBelow_101 ?_
      refine wp_ialoadN 3840 (sEl S (64 * a + (frm s + j))) dX16_isSameBelow_102 (hM.1.k 5 (by decide) (by decide) (by decide) (by decide)) (hM.1.n 5 (by decide) (by decide) (by decide)) (by omega) (by decide) (hM.2.2.2.2.2.1 (64 * a + (frm s + j))) ?_
      refine wp_aload_n (i := 0) dX16_isSameBelow_103 rfl rfl ?_
      refine wp_get 17 5 (vr (some (A 5))) dX16_isSameBelow_104 hM.1.1 (by decide) (by decide) fl_X16_17 (congrArg (fun z => toV (vr z)) (hM.1.r 5 (by decide) (by decide) (by decide) (by decide))) ?_
      refine wp_bipush (nI 64) dX16_isSameBelow_107 (by decide) ?_
      refine wp_iload_n (i := 3) dX16_isSameBelow_109 rfl rfl ?_
      refine wp_imulN dX16_isSameBelow_110 ?_
      refine wp_iload (i := 8) dX16_isSameBelow_111 rfl ?_
      refine wp_iaddN dX16_isSameBelow_113 ?_
      refine wp_ialoadN 3840 (sEl S (64 * b + (frm s + j))) dX16_isSameBelow_114 (hM.1.k 5 (by decide) (by decide) (by decide) (by decide)) (hM.1.n 5 (by decide) (by decide) (by decide)) (by omega) (by decide) (hM.2.2.2.2.2.1 (64 * b + (frm s + j))) ?_
      refine wp_icmp_ne 122 dX16_isSameBelow_115 (by decide) (fun c_115 => ?_) (fun c_115 => ?_)
      · skip
        refine wp_iconst (nI 0) dX16_isSameBelow_122 (by decide) ?_
        refine wp_istore (i := 7) (lv' := [(7, vi (nI 0)), (8, vi (nI (frm s + j))), (6, vi (nI (lim S s b))), (5, vi (nI (lim S s a))), (4, vi (nI (frm s + wid s))), (0, vr (some m)), (1, vi (nI s)), (2, vi (nI a)), (3, vi (nI b))]) dX16_isSameBelow_123 (by decide) rfl ?_
        refine wp_iincN (a := (frm s + j)) (lv' := [(8, vi (nI ((frm s + j) + 1))), (7, vi (nI 0)), (6, vi (nI (lim S s b))), (5, vi (nI (lim S s a))), (4, vi (nI (frm s + wid s))), (0, vr (some m)), (1, vi (nI s)), (2, vi (nI a)), (3, vi (nI b))]) 1 dX16_isSameBelow_125 rfl (by decide) (by decide) rfl ?_
        refine wp_goto 79 dX16_isSameBelow_128 (by decide) ?_
        exact ih (j + 1) _ (by omega) (by rw [smF_s, decide_eq_false c_115, Bool.and_false]; rfl)
      · skip
        refine wp_iconst (nI 1) dX16_isSameBelow_118 (by decide) ?_
        refine wp_goto 123 dX16_isSameBelow_119 (by decide) ?_
        refine wp_istore (i := 7) (lv' := [(7, vi (nI 1)), (8, vi (nI (frm s + j))), (6, vi (nI (lim S s b))), (5, vi (nI (lim S s a))), (4, vi (nI (frm s + wid s))), (0, vr (some m)), (1, vi (nI s)), (2, vi (nI a)), (3, vi (nI b))]) dX16_isSameBelow_123 (by decide) rfl ?_
        refine wp_iincN (a := (frm s + j)) (lv' := [(8, vi (nI ((frm s + j) + 1))), (7, vi (nI 1)), (6, vi (nI (lim S s b))), (5, vi (nI (lim S s a))), (4, vi (nI (frm s + wid s))), (0, vr (some m)), (1, vi (nI s)), (2, vi (nI a)), (3, vi (nI b))]) 1 dX16_isSameBelow_125 rfl (by decide) (by decide) rfl ?_
        refine wp_goto 79 dX16_isSameBelow_128 (by decide) ?_
        exact ih (j + 1) _ (by omega) (by rw [smF_s, show smF S s a b j = true from bI_n.mp (fun z => c_88 (hx.trans z)), decide_eq_true c_115]; rfl)
set_option maxRecDepth 100000 in
set_option maxHeartbeats 4000000 in
theorem c_X16_isSameBelow {G : GG} {d bc bs : Nat} {h : Hp} {Q : Pst} {m : Nat} {A : Nat → Nat} {S : SV} (hM : MP h m A S) (hS : SB S) {s a b : Nat} (hd : 1 ≤ d) (hs : s < 21) (ha : a < 60) (hb : b < 60) (hq : Q (oRet (vi (bI (smB S s a b)))) h) : WP G m_X16_isSameBelow d 0 (aargs 0 [vr (some m), vi (nI s), vi (nI a), vi (nI b)]) [] h bc bs Q := by
  refine wp_sub [(0, vr (some m)), (1, vi (nI s)), (2, vi (nI a)), (3, vi (nI b))] (fun _ hz => hz) ?_
  refine wp_iload_n (i := 1) dX16_isSameBelow_0 rfl rfl ?_
  refine wp_cS (y' := m_X16_from) [vi (nI s)] [] 0 0 dX16_isSameBelow_1 ml_X16_78 st_X16_from ok_X16_from rfl (Nat.le_of_ble_eq_true rfl) rfl (Nat.le_of_ble_eq_true rfl) (d' := d - 1) (by omega) (Nat.zero_le _) (Nat.zero_le _) (c_X16_from s (by omega) (cont_ret ?_))
  refine wp_iload_n (i := 1) dX16_isSameBelow_4 rfl rfl ?_
  refine wp_cS (y' := m_X16_width) [vi (nI s)] [vi (nI (frm s))] 0 0 dX16_isSameBelow_5 ml_X16_81 st_X16_width ok_X16_width rfl (Nat.le_of_ble_eq_true rfl) rfl (Nat.le_of_ble_eq_true rfl) (d' := d - 1) (by omega) (Nat.zero_le _) (Nat.zero_le _) (c_X16_width s (by omega) (cont_ret ?_))
  refine wp_iaddN dX16_isSameBelow_8 ?_
  refine wp_istore (i := 4) (lv' := [(4, vi (nI ((frm s) + (wid s)))), (0, vr (some m)), (1, vi (nI s)), (2, vi (nI a)), (3, vi (nI b))]) dX16_isSameBelow_9 (by decide) rfl ?_
  have hw := fw_le s
  have la := lim_le S s a
  have lb := lim_le S s b
  have K33 : ∀ e5 : Nat, e5 = lim S s a → WP G m_X16_isSameBelow d 33 [(4, vi (nI ((frm s) + (wid s)))), (0, vr (some m)), (1, vi (nI s)), (2, vi (nI a)), (3, vi (nI b))] [vi (nI e5)] h bc bs Q := by
    intro e5 j_33
    refine wp_istore (i := 5) (lv' := [(5, vi (nI e5)), (4, vi (nI ((frm s) + (wid s)))), (0, vr (some m)), (1, vi (nI s)), (2, vi (nI a)), (3, vi (nI b))]) dX16_isSameBelow_33 (by decide) rfl ?_
    have K57 : ∀ e6 : Nat, e6 = lim S s b → WP G m_X16_isSameBelow d 57 [(5, vi (nI e5)), (4, vi (nI ((frm s) + (wid s)))), (0, vr (some m)), (1, vi (nI s)), (2, vi (nI a)), (3, vi (nI b))] [vi (nI e6)] h bc bs Q := by
      intro e6 j_57
      refine wp_istore (i := 6) (lv' := [(6, vi (nI e6)), (5, vi (nI e5)), (4, vi (nI ((frm s) + (wid s)))), (0, vr (some m)), (1, vi (nI s)), (2, vi (nI a)), (3, vi (nI b))]) dX16_isSameBelow_57 (by decide) rfl ?_
      have K71 : ∀ e7 : Int32, e7 = bI (decide (e5 = e6)) → WP G m_X16_isSameBelow d 71 [(6, vi (nI e6)), (5, vi (nI e5)), (4, vi (nI ((frm s) + (wid s)))), (0, vr (some m)), (1, vi (nI s)), (2, vi (nI a)), (3, vi (nI b))] [vi e7] h bc bs Q := by
        intro e7 j_71
        refine wp_istore (i := 7) (lv' := [(7, vi e7), (6, vi (nI e6)), (5, vi (nI e5)), (4, vi (nI ((frm s) + (wid s)))), (0, vr (some m)), (1, vi (nI s)), (2, vi (nI a)), (3, vi (nI b))]) dX16_isSameBelow_71 (by decide) rfl ?_
        refine wp_iload_n (i := 1) dX16_isSameBelow_73 rfl rfl ?_
        refine wp_cS (y' := m_X16_from) [vi (nI s)] [] 0 0 dX16_isSameBelow_74 ml_X16_78 st_X16_from ok_X16_from rfl (Nat.le_of_ble_eq_true rfl) rfl (Nat.le_of_ble_eq_true rfl) (d' := d - 1) (by omega) (Nat.zero_le _) (Nat.zero_le _) (c_X16_from s (by omega) (cont_ret ?_))
        refine wp_istore (i := 8) (lv' := [(8, vi (nI (frm s))), (7, vi e7), (6, vi (nI e6)), (5, vi (nI e5)), (4, vi (nI ((frm s) + (wid s)))), (0, vr (some m)), (1, vi (nI s)), (2, vi (nI a)), (3, vi (nI b))]) dX16_isSameBelow_77 (by decide) rfl ?_
        subst j_33
        subst j_57
        exact l_X16_below hM hS ha hb hq (lim S s a - frm s) 0 _ rfl (by rw [j_71]; unfold smF eqUp; rw [Bool.and_true])
      refine wp_iload (i := 5) dX16_isSameBelow_59 rfl ?_
      refine wp_iload (i := 6) dX16_isSameBelow_61 rfl ?_
      refine wp_icmp_neN 70 dX16_isSameBelow_63 (by decide) (by omega) (by omega) (fun c_63 => ?_) (fun c_63 => ?_)
      · skip
        refine wp_iconst (nI 0) dX16_isSameBelow_70 (by decide) ?_
        exact K71 _ (by first | rw [decide_eq_true c_63]; rfl | rw [decide_eq_false c_63]; rfl)
      · skip
        refine wp_iconst (nI 1) dX16_isSameBelow_66 (by decide) ?_
        refine wp_goto 71 dX16_isSameBelow_67 (by decide) ?_
        exact K71 _ (by first | rw [decide_eq_true c_63]; rfl | rw [decide_eq_false c_63]; rfl)
    refine wp_aload_n (i := 0) dX16_isSameBelow_35 rfl rfl ?_
    refine wp_get 17 4 (vr (some (A 4))) dX16_isSameBelow_36 hM.1.1 (by decide) (by decide) fl_X16_13 (congrArg (fun z => toV (vr z)) (hM.1.r 4 (by decide) (by decide) (by decide) (by decide))) ?_
    refine wp_iload_n (i := 3) dX16_isSameBelow_39 rfl rfl ?_
    refine wp_ialoadN 60 (nI (sSz S b)) dX16_isSameBelow_40 (hM.1.k 4 (by decide) (by decide) (by decide) (by decide)) (hM.1.n 4 (by decide) (by decide) (by decide)) (by omega) (by decide) (hM.2.2.2.2.1 b) ?_
    refine wp_iload (i := 4) dX16_isSameBelow_41 rfl ?_
    refine wp_icmp_geN 55 dX16_isSameBelow_43 (by decide) (sz_bd hS b) (by omega) (fun c_43 => ?_) (fun c_43 => ?_)
    · skip
      refine wp_iload (i := 4) dX16_isSameBelow_55 rfl ?_
      exact K57 _ (by unfold lim; split <;> omega)
    · skip
      refine wp_aload_n (i := 0) dX16_isSameBelow_46 rfl rfl ?_
      refine wp_get 17 4 (vr (some (A 4))) dX16_isSameBelow_47 hM.1.1 (by decide) (by decide) fl_X16_13 (congrArg (fun z => toV (vr z)) (hM.1.r 4 (by decide) (by decide) (by decide) (by decide))) ?_
      refine wp_iload_n (i := 3) dX16_isSameBelow_50 rfl rfl ?_
      refine wp_ialoadN 60 (nI (sSz S b)) dX16_isSameBelow_51 (hM.1.k 4 (by decide) (by decide) (by decide) (by decide)) (hM.1.n 4 (by decide) (by decide) (by decide)) (by omega) (by decide) (hM.2.2.2.2.1 b) ?_
      refine wp_goto 57 dX16_isSameBelow_52 (by decide) ?_
      exact K57 _ (by unfold lim; split <;> omega)
  refine wp_aload_n (i := 0) dX16_isSameBelow_11 rfl rfl ?_
  refine wp_get 17 4 (vr (some (A 4))) dX16_isSameBelow_12 hM.1.1 (by decide) (by decide) fl_X16_13 (congrArg (fun z => toV (vr z)) (hM.1.r 4 (by decide) (by decide) (by decide) (by decide))) ?_
  refine wp_iload_n (i := 2) dX16_isSameBelow_15 rfl rfl ?_
  refine wp_ialoadN 60 (nI (sSz S a)) dX16_isSameBelow_16 (hM.1.k 4 (by decide) (by decide) (by decide) (by decide)) (hM.1.n 4 (by decide) (by decide) (by decide)) (by omega) (by decide) (hM.2.2.2.2.1 a) ?_
  refine wp_iload (i := 4) dX16_isSameBelow_17 rfl ?_
  refine wp_icmp_geN 31 dX16_isSameBelow_19 (by decide) (sz_bd hS a) (by omega) (fun c_19 => ?_) (fun c_19 => ?_)
  · skip
    refine wp_iload (i := 4) dX16_isSameBelow_31 rfl ?_
    exact K33 _ (by unfold lim; split <;> omega)
  · skip
    refine wp_aload_n (i := 0) dX16_isSameBelow_22 rfl rfl ?_
    refine wp_get 17 4 (vr (some (A 4))) dX16_isSameBelow_23 hM.1.1 (by decide) (by decide) fl_X16_13 (congrArg (fun z => toV (vr z)) (hM.1.r 4 (by decide) (by decide) (by decide) (by decide))) ?_
    refine wp_iload_n (i := 2) dX16_isSameBelow_26 rfl rfl ?_
    refine wp_ialoadN 60 (nI (sSz S a)) dX16_isSameBelow_27 (hM.1.k 4 (by decide) (by decide) (by decide) (by decide)) (hM.1.n 4 (by decide) (by decide) (by decide)) (by omega) (by decide) (hM.2.2.2.2.1 a) ?_
    refine wp_goto 33 dX16_isSameBelow_28 (by decide) ?_
    exact K33 _ (by unfold lim; split <;> omega)
