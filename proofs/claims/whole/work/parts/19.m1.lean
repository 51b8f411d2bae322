/-! The model: its small functions of numbers. -/
theorem i32_lt {a b : Int32} : a < b ↔ a.toInt < b.toInt := Int32.lt_iff_toInt_lt
theorem i32_le {a b : Int32} : a ≤ b ↔ a.toInt ≤ b.toInt := Int32.le_iff_toInt_le
def inB (v lo hi : Int32) : Bool := decide (lo ≤ v) && decide (v ≤ hi)
theorem inB_t {v lo hi : Int32} (h1 : ¬ v < lo) (h2 : ¬ hi < v) : inB v lo hi = true := by
  rw [i32_lt] at h1 h2
  simp only [inB, Bool.and_eq_true, decide_eq_true_eq, i32_le]
  omega
theorem inB_f1 {v lo hi : Int32} (h1 : v < lo) : inB v lo hi = false := by
  rw [i32_lt] at h1
  simp only [inB, Bool.and_eq_false_iff, decide_eq_false_iff_not, i32_le]
  omega
theorem inB_f2 {v lo hi : Int32} (h1 : hi < v) : inB v lo hi = false := by
  rw [i32_lt] at h1
  simp only [inB, Bool.and_eq_false_iff, decide_eq_false_iff_not, i32_le]
  omega
set_option maxRecDepth 100000 in
set_option maxHeartbeats 4000000 in
theorem c_X16_in {G : GG} {d bc bs : Nat} {h : Hp} {Q : Pst} (v lo hi : Int32) (hq : Q (oRet (vi (bI (inB v lo hi)))) h) : WP G m_X16_in d 0 (aargs 0 [vi v, vi lo, vi hi]) [] h bc bs Q := by
  refine wp_sub [(0, vi v), (1, vi lo), (2, vi hi)] (fun _ hz => hz) ?_
  refine wp_iload_n (i := 0) dX16_in_0 rfl rfl ?_
  refine wp_iload_n (i := 1) dX16_in_1 rfl rfl ?_
  refine wp_icmp_lt 14 dX16_in_2 (by decide) (fun c_2 => ?_) (fun c_2 => ?_)
  · rw [inB_f1 c_2] at hq
    refine wp_iconst (0) dX16_in_14 (by decide) ?_
    refine wp_zreturn dX16_in_15 rfl (by first | rfl | assumption) ?_
    exact hq
  · skip
    refine wp_iload_n (i := 0) dX16_in_5 rfl rfl ?_
    refine wp_iload_n (i := 2) dX16_in_6 rfl rfl ?_
    refine wp_icmp_gt 14 dX16_in_7 (by decide) (fun c_7 => ?_) (fun c_7 => ?_)
    · rw [inB_f2 c_7] at hq
      refine wp_iconst (0) dX16_in_14 (by decide) ?_
      refine wp_zreturn dX16_in_15 rfl (by first | rfl | assumption) ?_
      exact hq
    · rw [inB_t c_2 c_7] at hq
      refine wp_iconst (1) dX16_in_10 (by decide) ?_
      refine wp_goto 15 dX16_in_11 (by decide) ?_
      refine wp_zreturn dX16_in_15 rfl (by first | rfl | assumption) ?_
      exact hq
