/-! The model: its small functions of numbers. -/
theorem i32_lt {a b : Int32} : a < b ↔ a.toInt < b.toInt := Int32.lt_iff_toInt_lt
theorem i32_le {a b : Int32} : a ≤ b ↔ a.toInt ≤ b.toInt := Int32.le_iff_toInt_le
def inB (v lo hi : Int32) : Bool := decide (lo ≤ v) && decide (v ≤ hi)
theorem inB_t {v lo hi : Int32} (h1 : ¬ v < lo) (h2 : ¬ hi < v) : inB v lo hi = true := by
  rw [i32_lt] at h1 h2
  simp only [inB, Bool.and_eq_true, decide_eq_true_eq, i32_le]
  omega
theorem inB_f1 {v lo hi : Int32} (h1 : v < lo) : inB v lo hi = false := by
  rw [i32_lt] at h1
  simp only [inB, Bool.and_eq_false_iff, decide_eq_false_iff_not, i32_le]
  omega
theorem inB_f2 {v lo hi : Int32} (h1 : hi < v) : inB v lo hi = false := by
  rw [i32_lt] at h1
  simp only [inB, Bool.and_eq_false_iff, decide_eq_false_iff_not, i32_le]
  omega
/-- an index below n -/
def ixB (v : Int32) (n : Nat) : Bool := inB v 0 (nI n - 1)
theorem ixB_nI {k n : Nat} (hn : n < 2 ^ 31) : ixB (nI k) n = true → k < 2 ^ 31 → k < n := by
  intro h1 hk
  simp only [ixB, inB, Bool.and_eq_true, decide_eq_true_eq, i32_le] at h1
  obtain ⟨-, h2⟩ := h1
  rw [nI_toInt hk] at h2
  rcases Nat.eq_zero_or_pos n with e | e
  · subst e
    rw [show (nI 0 - 1).toInt = -1 by decide] at h2
    omega
  · rw [show (1 : Int32) = nI 1 from rfl, pk_sub e, nI_toInt (by omega)] at h2
    omega
theorem ixB_t {v : Int32} {n : Nat} (hn : n < 2 ^ 31) (h : ixB v n = true) : ∃ k, k < n ∧ v = nI k := by
  have h0 : ¬ v < 0 := by
    simp only [ixB, inB, Bool.and_eq_true, decide_eq_true_eq, i32_le] at h
    rw [i32_lt]
    have := h.1
    omega
  obtain ⟨k, hk, rfl⟩ := nI_of h0
  exact ⟨k, ixB_nI hn h hk, rfl⟩
theorem ixB_of {k n : Nat} (hk : k < n) (hn : n < 2 ^ 31) : ixB (nI k) n = true := by
  simp only [ixB, inB, Bool.and_eq_true, decide_eq_true_eq, i32_le]
  rw [show (1 : Int32) = nI 1 from rfl, pk_sub (by omega), nI_toInt (by omega), nI_toInt (by omega)]
  refine ⟨?_, by omega⟩
  rw [show (0 : Int32).toInt = 0 from rfl]
  omega
def elB (e : Int32) : Bool := inB e (-999) (nI 999)
def dOf (n : Nat) : Nat := if n ≤ 4 then 1 else if n ≤ 16 then 2 else 3
def hOf (s : Nat) : Nat := if s < 16 then 1 else if s < 20 then 2 else 3
def wid (s : Nat) : Nat := if s < 16 then 4 else if s < 20 then 16 else 64
def frm (s : Nat) : Nat := if s < 16 then 4 * s else if s < 20 then 16 * (s - 16) else 0
def ith (s n : Nat) : Bool := decide (hOf s ≤ dOf n) && (decide (frm s < n) || decide (s = 0))
theorem dOf_le (n : Nat) : 1 ≤ dOf n ∧ dOf n ≤ 3 := by unfold dOf; (repeat' split) <;> omega
theorem wid_le (n : Nat) : wid n ≤ 64 := by unfold wid; (repeat' split) <;> omega
theorem frm_le (n : Nat) : frm n ≤ 60 := by unfold frm; (repeat' split) <;> omega
set_option maxRecDepth 100000 in
set_option maxHeartbeats 4000000 in
theorem c_X16_in {G : GG} {d bc bs : Nat} {h : Hp} {Q : Pst} (v lo hi : Int32) (hq : Q (oRet (vi (bI (inB v lo hi)))) h) : WP G m_X16_in d 0 (aargs 0 [vi v, vi lo, vi hi]) [] h bc bs Q := by
  refine wp_sub [(0, vi v), (1, vi lo), (2, vi hi)] (fun _ hz => hz) ?_
  refine wp_iload_n (i := 0) dX16_in_0 rfl rfl ?_
  refine wp_iload_n (i := 1) dX16_in_1 rfl rfl ?_
  refine wp_icmp_lt 14 dX16_in_2 (by decide) (fun c_2 => ?_) (fun c_2 => ?_)
  · rw [inB_f1 c_2] at hq
    refine wp_iconst (nI 0) dX16_in_14 (by decide) ?_
    refine wp_zreturn dX16_in_15 rfl (by first | rfl | assumption) ?_
    exact hq
  · skip
    refine wp_iload_n (i := 0) dX16_in_5 rfl rfl ?_
    refine wp_iload_n (i := 2) dX16_in_6 rfl rfl ?_
    refine wp_icmp_gt 14 dX16_in_7 (by decide) (fun c_7 => ?_) (fun c_7 => ?_)
    · rw [inB_f2 c_7] at hq
      refine wp_iconst (nI 0) dX16_in_14 (by decide) ?_
      refine wp_zreturn dX16_in_15 rfl (by first | rfl | assumption) ?_
      exact hq
    · rw [inB_t c_2 c_7] at hq
      refine wp_iconst (nI 1) dX16_in_10 (by decide) ?_
      refine wp_goto 15 dX16_in_11 (by decide) ?_
      refine wp_zreturn dX16_in_15 rfl (by first | rfl | assumption) ?_
      exact hq
set_option maxRecDepth 100000 in
set_option maxHeartbeats 4000000 in
theorem c_X16_noElement {G : GG} {d bc bs : Nat} {h : Hp} {Q : Pst} (v : Int32) (hd : 1 ≤ d) (hq : Q (oRet (vi (bI (!elB v)))) h) : WP G m_X16_noElement d 0 (aargs 0 [vi v]) [] h bc bs Q := by
  refine wp_sub [(0, vi v)] (fun _ hz => hz) ?_
  refine wp_iload_n (i := 0) dX16_noElement_0 rfl rfl ?_
  refine wp_sipush (-999) dX16_noElement_1 (by decide) ?_
  refine wp_sipush (nI 999) dX16_noElement_4 (by decide) ?_
  refine wp_cS (y' := m_X16_in) [vi v, vi (-999), vi (nI 999)] [] 0 0 dX16_noElement_7 ml_X16_70 st_X16_in ok_X16_in rfl (Nat.le_of_ble_eq_true rfl) rfl (Nat.le_of_ble_eq_true rfl) (d' := d - 1) (by omega) (Nat.zero_le _) (Nat.zero_le _) (c_X16_in v (-999) (nI 999)  (cont_ret ?_))
  refine wp_if_neB 17 dX16_noElement_10 (by decide) (fun c_10 => ?_) (fun c_10 => ?_)
  · rw [show elB v = true from c_10] at hq
    refine wp_iconst (nI 0) dX16_noElement_17 (by decide) ?_
    refine wp_zreturn dX16_noElement_18 rfl (by first | rfl | assumption) ?_
    exact hq
  · rw [show elB v = false from c_10] at hq
    refine wp_iconst (nI 1) dX16_noElement_13 (by decide) ?_
    refine wp_goto 18 dX16_noElement_14 (by decide) ?_
    refine wp_zreturn dX16_noElement_18 rfl (by first | rfl | assumption) ?_
    exact hq
set_option maxRecDepth 100000 in
set_option maxHeartbeats 4000000 in
theorem c_X16_depthOf {G : GG} {d bc bs : Nat} {h : Hp} {Q : Pst} (n : Nat) (hn : n < 2 ^ 31) (hq : Q (oRet (vi (nI (dOf n)))) h) : WP G m_X16_depthOf d 0 (aargs 0 [vi (nI n)]) [] h bc bs Q := by
  refine wp_sub [(0, vi (nI n))] (fun _ hz => hz) ?_
  refine wp_iload_n (i := 0) dX16_depthOf_0 rfl rfl ?_
  refine wp_iconst (nI 4) dX16_depthOf_1 (by decide) ?_
  refine wp_icmp_gtN 9 dX16_depthOf_2 (by decide) (by omega) (by decide) (fun c_2 => ?_) (fun c_2 => ?_)
  · skip
    refine wp_iload_n (i := 0) dX16_depthOf_9 rfl rfl ?_
    refine wp_bipush (nI 16) dX16_depthOf_10 (by decide) ?_
    refine wp_icmp_gtN 19 dX16_depthOf_12 (by decide) (by omega) (by decide) (fun c_12 => ?_) (fun c_12 => ?_)
    · skip
      refine wp_iconst (nI 3) dX16_depthOf_19 (by decide) ?_
      refine wp_ireturn dX16_depthOf_20 rfl ?_
      exact (show dOf n = 3 from (by unfold dOf; (repeat' split) <;> omega)) ▸ hq
    · skip
      refine wp_iconst (nI 2) dX16_depthOf_15 (by decide) ?_
      refine wp_goto 20 dX16_depthOf_16 (by decide) ?_
      refine wp_ireturn dX16_depthOf_20 rfl ?_
      exact (show dOf n = 2 from (by unfold dOf; (repeat' split) <;> omega)) ▸ hq
  · skip
    refine wp_iconst (nI 1) dX16_depthOf_5 (by decide) ?_
    refine wp_goto 20 dX16_depthOf_6 (by decide) ?_
    refine wp_ireturn dX16_depthOf_20 rfl ?_
    exact (show dOf n = 1 from (by unfold dOf; (repeat' split) <;> omega)) ▸ hq
set_option maxRecDepth 100000 in
set_option maxHeartbeats 4000000 in
theorem c_X16_width {G : GG} {d bc bs : Nat} {h : Hp} {Q : Pst} (n : Nat) (hn : n < 2 ^ 31) (hq : Q (oRet (vi (nI (wid n)))) h) : WP G m_X16_width d 0 (aargs 0 [vi (nI n)]) [] h bc bs Q := by
  refine wp_sub [(0, vi (nI n))] (fun _ hz => hz) ?_
  refine wp_iload_n (i := 0) dX16_width_0 rfl rfl ?_
  refine wp_bipush (nI 16) dX16_width_1 (by decide) ?_
  refine wp_icmp_geN 10 dX16_width_3 (by decide) (by omega) (by decide) (fun c_3 => ?_) (fun c_3 => ?_)
  · skip
    refine wp_iload_n (i := 0) dX16_width_10 rfl rfl ?_
    refine wp_bipush (nI 20) dX16_width_11 (by decide) ?_
    refine wp_icmp_geN 21 dX16_width_13 (by decide) (by omega) (by decide) (fun c_13 => ?_) (fun c_13 => ?_)
    · skip
      refine wp_bipush (nI 64) dX16_width_21 (by decide) ?_
      refine wp_ireturn dX16_width_23 rfl ?_
      exact (show wid n = 64 from (by unfold wid; (repeat' split) <;> omega)) ▸ hq
    · skip
      refine wp_bipush (nI 16) dX16_width_16 (by decide) ?_
      refine wp_goto 23 dX16_width_18 (by decide) ?_
      refine wp_ireturn dX16_width_23 rfl ?_
      exact (show wid n = 16 from (by unfold wid; (repeat' split) <;> omega)) ▸ hq
  · skip
    refine wp_iconst (nI 4) dX16_width_6 (by decide) ?_
    refine wp_goto 23 dX16_width_7 (by decide) ?_
    refine wp_ireturn dX16_width_23 rfl ?_
    exact (show wid n = 4 from (by unfold wid; (repeat' split) <;> omega)) ▸ hq
set_option maxRecDepth 100000 in
set_option maxHeartbeats 4000000 in
theorem c_X16_from {G : GG} {d bc bs : Nat} {h : Hp} {Q : Pst} (n : Nat) (hn : n < 2 ^ 31) (hq : Q (oRet (vi (nI (frm n)))) h) : WP G m_X16_from d 0 (aargs 0 [vi (nI n)]) [] h bc bs Q := by
  refine wp_sub [(0, vi (nI n))] (fun _ hz => hz) ?_
  refine wp_iload_n (i := 0) dX16_from_0 rfl rfl ?_
  refine wp_bipush (nI 16) dX16_from_1 (by decide) ?_
  refine wp_icmp_geN 12 dX16_from_3 (by decide) (by omega) (by decide) (fun c_3 => ?_) (fun c_3 => ?_)
  · skip
    refine wp_iload_n (i := 0) dX16_from_12 rfl rfl ?_
    refine wp_bipush (nI 20) dX16_from_13 (by decide) ?_
    refine wp_icmp_geN 28 dX16_from_15 (by decide) (by omega) (by decide) (fun c_15 => ?_) (fun c_15 => ?_)
    · skip
      refine wp_iconst (nI 0) dX16_from_28 (by decide) ?_
      refine wp_ireturn dX16_from_29 rfl ?_
      exact (show frm n = 0 from (by unfold frm; (repeat' split) <;> omega)) ▸ hq
    · skip
      refine wp_bipush (nI 16) dX16_from_18 (by decide) ?_
      refine wp_iload_n (i := 0) dX16_from_20 rfl rfl ?_
      refine wp_bipush (nI 16) dX16_from_21 (by decide) ?_
      refine wp_isubN dX16_from_23 (by omega) ?_
      refine wp_imulN dX16_from_24 ?_
      refine wp_goto 29 dX16_from_25 (by decide) ?_
      refine wp_ireturn dX16_from_29 rfl ?_
      exact (show frm n = 16 * (n - 16) from (by unfold frm; (repeat' split) <;> omega)) ▸ hq
  · skip
    refine wp_iconst (nI 4) dX16_from_6 (by decide) ?_
    refine wp_iload_n (i := 0) dX16_from_7 rfl rfl ?_
    refine wp_imulN dX16_from_8 ?_
    refine wp_goto 29 dX16_from_9 (by decide) ?_
    refine wp_ireturn dX16_from_29 rfl ?_
    exact (show frm n = 4 * n from (by unfold frm; (repeat' split) <;> omega)) ▸ hq
set_option maxRecDepth 100000 in
set_option maxHeartbeats 4000000 in
theorem c_X16_isThere {G : GG} {d bc bs : Nat} {h : Hp} {Q : Pst} (s n : Nat) (hs : s < 2 ^ 31) (hn : n < 2 ^ 31) (hd : 1 ≤ d) (hq : Q (oRet (vi (bI (ith s n)))) h) : WP G m_X16_isThere d 0 (aargs 0 [vi (nI s), vi (nI n)]) [] h bc bs Q := by
  refine wp_sub [(0, vi (nI s)), (1, vi (nI n))] (fun _ hz => hz) ?_
  refine wp_iload_n (i := 0) dX16_isThere_0 rfl rfl ?_
  refine wp_bipush (nI 16) dX16_isThere_1 (by decide) ?_
  refine wp_icmp_geN 10 dX16_isThere_3 (by decide) (by omega) (by decide) (fun c_3 => ?_) (fun c_3 => ?_)
  · skip
    refine wp_iload_n (i := 0) dX16_isThere_10 rfl rfl ?_
    refine wp_bipush (nI 20) dX16_isThere_11 (by decide) ?_
    refine wp_icmp_geN 20 dX16_isThere_13 (by decide) (by omega) (by decide) (fun c_13 => ?_) (fun c_13 => ?_)
    · skip
      refine wp_iconst (nI 3) dX16_isThere_20 (by decide) ?_
      refine wp_istore_n (i := 2) (lv' := [(2, vi (nI 3)), (0, vi (nI s)), (1, vi (nI n))]) dX16_isThere_21 rfl (by decide) rfl ?_
      refine wp_iload_n (i := 2) dX16_isThere_22 rfl rfl ?_
      refine wp_iload_n (i := 1) dX16_isThere_23 rfl rfl ?_
      have hz := dOf_le n
      have hz2 := frm_le s
      refine wp_cS (y' := m_X16_depthOf) [vi (nI n)] [vi (nI 3)] 0 0 dX16_isThere_24 ml_X16_74 st_X16_depthOf ok_X16_depthOf rfl (Nat.le_of_ble_eq_true rfl) rfl (Nat.le_of_ble_eq_true rfl) (d' := d - 1) (by omega) (Nat.zero_le _) (Nat.zero_le _) (c_X16_depthOf n (by omega) (cont_ret ?_))
      refine wp_icmp_gtN 46 dX16_isThere_27 (by decide) (by decide) (by have := dOf_le n; omega) (fun c_27 => ?_) (fun c_27 => ?_)
      · skip
        refine wp_iconst (nI 0) dX16_isThere_46 (by decide) ?_
        refine wp_zreturn dX16_isThere_47 rfl (by first | rfl | assumption) ?_
        have e : ith s n = false := (by unfold ith hOf; simp only [Bool.and_eq_false_iff, Bool.or_eq_false_iff, decide_eq_false_iff_not]; (repeat' split) <;> omega)
        rw [e] at hq
        exact hq
      · skip
        refine wp_iload_n (i := 0) dX16_isThere_30 rfl rfl ?_
        refine wp_cS (y' := m_X16_from) [vi (nI s)] [] 0 0 dX16_isThere_31 ml_X16_78 st_X16_from ok_X16_from rfl (Nat.le_of_ble_eq_true rfl) rfl (Nat.le_of_ble_eq_true rfl) (d' := d - 1) (by omega) (Nat.zero_le _) (Nat.zero_le _) (c_X16_from s (by omega) (cont_ret ?_))
        refine wp_iload_n (i := 1) dX16_isThere_34 rfl rfl ?_
        refine wp_icmp_ltN 42 dX16_isThere_35 (by decide) (by have := frm_le s; omega) (by omega) (fun c_35 => ?_) (fun c_35 => ?_)
        · skip
          refine wp_iconst (nI 1) dX16_isThere_42 (by decide) ?_
          refine wp_goto 47 dX16_isThere_43 (by decide) ?_
          refine wp_zreturn dX16_isThere_47 rfl (by first | rfl | assumption) ?_
          have e : ith s n = true := (by unfold ith hOf; simp only [Bool.and_eq_true, Bool.or_eq_true, decide_eq_true_eq]; (repeat' split) <;> omega)
          rw [e] at hq
          exact hq
        · skip
          refine wp_iload_n (i := 0) dX16_isThere_38 rfl rfl ?_
          refine wp_if_neN 46 dX16_isThere_39 (by decide) (by omega) (fun c_39 => ?_) (fun c_39 => ?_)
          · skip
            refine wp_iconst (nI 0) dX16_isThere_46 (by decide) ?_
            refine wp_zreturn dX16_isThere_47 rfl (by first | rfl | assumption) ?_
            have e : ith s n = false := (by unfold ith hOf; simp only [Bool.and_eq_false_iff, Bool.or_eq_false_iff, decide_eq_false_iff_not]; (repeat' split) <;> omega)
            rw [e] at hq
            exact hq
          · skip
            refine wp_iconst (nI 1) dX16_isThere_42 (by decide) ?_
            refine wp_goto 47 dX16_isThere_43 (by decide) ?_
            refine wp_zreturn dX16_isThere_47 rfl (by first | rfl | assumption) ?_
            have e : ith s n = true := (by unfold ith hOf; simp only [Bool.and_eq_true, Bool.or_eq_true, decide_eq_true_eq]; (repeat' split) <;> omega)
            rw [e] at hq
            exact hq
    · skip
      refine wp_iconst (nI 2) dX16_isThere_16 (by decide) ?_
      refine wp_goto 21 dX16_isThere_17 (by decide) ?_
      refine wp_istore_n (i := 2) (lv' := [(2, vi (nI 2)), (0, vi (nI s)), (1, vi (nI n))]) dX16_isThere_21 rfl (by decide) rfl ?_
      refine wp_iload_n (i := 2) dX16_isThere_22 rfl rfl ?_
      refine wp_iload_n (i := 1) dX16_isThere_23 rfl rfl ?_
      have hz := dOf_le n
      have hz2 := frm_le s
      refine wp_cS (y' := m_X16_depthOf) [vi (nI n)] [vi (nI 2)] 0 0 dX16_isThere_24 ml_X16_74 st_X16_depthOf ok_X16_depthOf rfl (Nat.le_of_ble_eq_true rfl) rfl (Nat.le_of_ble_eq_true rfl) (d' := d - 1) (by omega) (Nat.zero_le _) (Nat.zero_le _) (c_X16_depthOf n (by omega) (cont_ret ?_))
      refine wp_icmp_gtN 46 dX16_isThere_27 (by decide) (by decide) (by have := dOf_le n; omega) (fun c_27 => ?_) (fun c_27 => ?_)
      · skip
        refine wp_iconst (nI 0) dX16_isThere_46 (by decide) ?_
        refine wp_zreturn dX16_isThere_47 rfl (by first | rfl | assumption) ?_
        have e : ith s n = false := (by unfold ith hOf; simp only [Bool.and_eq_false_iff, Bool.or_eq_false_iff, decide_eq_false_iff_not]; (repeat' split) <;> omega)
        rw [e] at hq
        exact hq
      · skip
        refine wp_iload_n (i := 0) dX16_isThere_30 rfl rfl ?_
        refine wp_cS (y' := m_X16_from) [vi (nI s)] [] 0 0 dX16_isThere_31 ml_X16_78 st_X16_from ok_X16_from rfl (Nat.le_of_ble_eq_true rfl) rfl (Nat.le_of_ble_eq_true rfl) (d' := d - 1) (by omega) (Nat.zero_le _) (Nat.zero_le _) (c_X16_from s (by omega) (cont_ret ?_))
        refine wp_iload_n (i := 1) dX16_isThere_34 rfl rfl ?_
        refine wp_icmp_ltN 42 dX16_isThere_35 (by decide) (by have := frm_le s; omega) (by omega) (fun c_35 => ?_) (fun c_35 => ?_)
        · skip
          refine wp_iconst (nI 1) dX16_isThere_42 (by decide) ?_
          refine wp_goto 47 dX16_isThere_43 (by decide) ?_
          refine wp_zreturn dX16_isThere_47 rfl (by first | rfl | assumption) ?_
          have e : ith s n = true := (by unfold ith hOf; simp only [Bool.and_eq_true, Bool.or_eq_true, decide_eq_true_eq]; (repeat' split) <;> omega)
          rw [e] at hq
          exact hq
        · skip
          refine wp_iload_n (i := 0) dX16_isThere_38 rfl rfl ?_
          refine wp_if_neN 46 dX16_isThere_39 (by decide) (by omega) (fun c_39 => ?_) (fun c_39 => ?_)
          · skip
            refine wp_iconst (nI 0) dX16_isThere_46 (by decide) ?_
            refine wp_zreturn dX16_isThere_47 rfl (by first | rfl | assumption) ?_
            have e : ith s n = false := (by unfold ith hOf; simp only [Bool.and_eq_false_iff, Bool.or_eq_false_iff, decide_eq_false_iff_not]; (repeat' split) <;> omega)
            rw [e] at hq
            exact hq
          · skip
            refine wp_iconst (nI 1) dX16_isThere_42 (by decide) ?_
            refine wp_goto 47 dX16_isThere_43 (by decide) ?_
            refine wp_zreturn dX16_isThere_47 rfl (by first | rfl | assumption) ?_
            have e : ith s n = true := (by unfold ith hOf; simp only [Bool.and_eq_true, Bool.or_eq_true, decide_eq_true_eq]; (repeat' split) <;> omega)
            rw [e] at hq
            exact hq
  · skip
    refine wp_iconst (nI 1) dX16_isThere_6 (by decide) ?_
    refine wp_goto 21 dX16_isThere_7 (by decide) ?_
    refine wp_istore_n (i := 2) (lv' := [(2, vi (nI 1)), (0, vi (nI s)), (1, vi (nI n))]) dX16_isThere_21 rfl (by decide) rfl ?_
    refine wp_iload_n (i := 2) dX16_isThere_22 rfl rfl ?_
    refine wp_iload_n (i := 1) dX16_isThere_23 rfl rfl ?_
    have hz := dOf_le n
    have hz2 := frm_le s
    refine wp_cS (y' := m_X16_depthOf) [vi (nI n)] [vi (nI 1)] 0 0 dX16_isThere_24 ml_X16_74 st_X16_depthOf ok_X16_depthOf rfl (Nat.le_of_ble_eq_true rfl) rfl (Nat.le_of_ble_eq_true rfl) (d' := d - 1) (by omega) (Nat.zero_le _) (Nat.zero_le _) (c_X16_depthOf n (by omega) (cont_ret ?_))
    refine wp_icmp_gtN 46 dX16_isThere_27 (by decide) (by decide) (by have := dOf_le n; omega) (fun c_27 => ?_) (fun c_27 => ?_)
    · skip
      refine wp_iconst (nI 0) dX16_isThere_46 (by decide) ?_
      refine wp_zreturn dX16_isThere_47 rfl (by first | rfl | assumption) ?_
      have e : ith s n = false := (by unfold ith hOf; simp only [Bool.and_eq_false_iff, Bool.or_eq_false_iff, decide_eq_false_iff_not]; (repeat' split) <;> omega)
      rw [e] at hq
      exact hq
    · skip
      refine wp_iload_n (i := 0) dX16_isThere_30 rfl rfl ?_
      refine wp_cS (y' := m_X16_from) [vi (nI s)] [] 0 0 dX16_isThere_31 ml_X16_78 st_X16_from ok_X16_from rfl (Nat.le_of_ble_eq_true rfl) rfl (Nat.le_of_ble_eq_true rfl) (d' := d - 1) (by omega) (Nat.zero_le _) (Nat.zero_le _) (c_X16_from s (by omega) (cont_ret ?_))
      refine wp_iload_n (i := 1) dX16_isThere_34 rfl rfl ?_
      refine wp_icmp_ltN 42 dX16_isThere_35 (by decide) (by have := frm_le s; omega) (by omega) (fun c_35 => ?_) (fun c_35 => ?_)
      · skip
        refine wp_iconst (nI 1) dX16_isThere_42 (by decide) ?_
        refine wp_goto 47 dX16_isThere_43 (by decide) ?_
        refine wp_zreturn dX16_isThere_47 rfl (by first | rfl | assumption) ?_
        have e : ith s n = true := (by unfold ith hOf; simp only [Bool.and_eq_true, Bool.or_eq_true, decide_eq_true_eq]; (repeat' split) <;> omega)
        rw [e] at hq
        exact hq
      · skip
        refine wp_iload_n (i := 0) dX16_isThere_38 rfl rfl ?_
        refine wp_if_neN 46 dX16_isThere_39 (by decide) (by omega) (fun c_39 => ?_) (fun c_39 => ?_)
        · skip
          refine wp_iconst (nI 0) dX16_isThere_46 (by decide) ?_
          refine wp_zreturn dX16_isThere_47 rfl (by first | rfl | assumption) ?_
          have e : ith s n = false := (by unfold ith hOf; simp only [Bool.and_eq_false_iff, Bool.or_eq_false_iff, decide_eq_false_iff_not]; (repeat' split) <;> omega)
          rw [e] at hq
          exact hq
        · skip
          refine wp_iconst (nI 1) dX16_isThere_42 (by decide) ?_
          refine wp_goto 47 dX16_isThere_43 (by decide) ?_
          refine wp_zreturn dX16_isThere_47 rfl (by first | rfl | assumption) ?_
          have e : ith s n = true := (by unfold ith hOf; simp only [Bool.and_eq_true, Bool.or_eq_true, decide_eq_true_eq]; (repeat' split) <;> omega)
          rw [e] at hq
          exact hq
