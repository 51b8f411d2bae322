/-! The law's draws. -/
def cellA (s i : Int32) : Int32 := 69069 * (s + nI 1009 * i) + nI 12345
def cellB (x : Int32) : Int32 := (x ^^^ (x.toUInt32 >>> ((nI 13).toUInt32 &&& Int32.toUInt32 31)).toInt32) * 1103515245
def cellC (x : Int32) : Int32 := x ^^^ (x.toUInt32 >>> ((nI 16).toUInt32 &&& Int32.toUInt32 31)).toInt32
/-- the mixed cell of the script -/
def celV (G : GG) (i : Nat) : Int32 := cellC (cellB (cellA (if i < slen G then sxs G i else nI 0) (nI i)))
def celU (G : GG) (i : Nat) : UInt32 := (celV G i).toUInt32 >>> ((nI 8).toUInt32 &&& Int32.toUInt32 31)
/-- what pick answers -/
def pkV (G : GG) (i m : Nat) : Nat := (celU G i).toNat % m
theorem pkv_lt {G : GG} {i m : Nat} (hm : 0 < m) : pkV G i m < m := Nat.mod_lt _ hm
theorem u2n (u : UInt32) : u.toInt32 = nI u.toNat := by
  apply Int32.toBitVec_inj.mp
  show u.toBitVec = BitVec.ofNat 32 u.toNat
  apply BitVec.eq_of_toNat_eq
  rw [BitVec.toNat_ofNat]
  exact (Nat.mod_eq_of_lt u.toNat_lt).symm
theorem celU_lt {G : GG} {i : Nat} : (celU G i).toNat < 2 ^ 31 := by
  unfold celU
  rw [UInt32.toNat_shiftRight, show ((nI 8).toUInt32 &&& Int32.toUInt32 31).toNat % 32 = 8 from by decide, Nat.shiftRight_eq_div_pow]
  have := (celV G i).toUInt32.toNat_lt
  omega
set_option maxRecDepth 100000 in
set_option maxHeartbeats 4000000 in
theorem l_L_cell {G : GG} {d bc bs : Nat} {h : Hp} {Q : Pst} {s i : Int32} (hq : Q (oRet (vi (cellC (cellB (cellA s i))))) h) : WP G m_L_cell d 15 [(0, vr (some nS)), (1, vi i)] [vi s, vi 69069] h bc bs Q := by
  refine wp_sipush (nI 1009) dL_cell_15 (by decide) ?_
  refine wp_iload_n (i := 1) dL_cell_18 rfl rfl ?_
  refine wp_imul dL_cell_19 ?_
  refine wp_iadd dL_cell_20 ?_
  refine wp_imul dL_cell_21 ?_
  refine wp_sipush (nI 12345) dL_cell_22 (by decide) ?_
  refine wp_iadd dL_cell_25 ?_
  refine wp_istore_n (i := 2) (lv' := [(2, vi (cellA s i)), (0, vr (some nS)), (1, vi i)]) dL_cell_26 rfl (by decide) rfl ?_
  refine wp_iload_n (i := 2) dL_cell_27 rfl rfl ?_
  refine wp_iload_n (i := 2) dL_cell_28 rfl rfl ?_
  refine wp_bipush (nI 13) dL_cell_29 (by decide) ?_
  refine wp_iushr dL_cell_31 ?_
  refine wp_ixor dL_cell_32 ?_
  refine wp_ldc dL_cell_33 cn_L_8 ?_
  refine wp_imul dL_cell_35 ?_
  refine wp_istore_n (i := 2) (lv' := [(2, vi (cellB (cellA s i))), (0, vr (some nS)), (1, vi i)]) dL_cell_36 rfl (by decide) rfl ?_
  refine wp_iload_n (i := 2) dL_cell_37 rfl rfl ?_
  refine wp_iload_n (i := 2) dL_cell_38 rfl rfl ?_
  refine wp_bipush (nI 16) dL_cell_39 (by decide) ?_
  refine wp_iushr dL_cell_41 ?_
  refine wp_ixor dL_cell_42 ?_
  exact wp_ireturn dL_cell_43 rfl hq
set_option maxRecDepth 100000 in
set_option maxHeartbeats 4000000 in
theorem c_L_cell {G : GG} {d bc bs i : Nat} {h : Hp} {Q : Pst} (hi : i < 2 ^ 31) (hL : slen G < 2 ^ 31) (hq : Q (oRet (vi (celV G i))) h) : WP G m_L_cell d 0 (aargs 0 [vr (some nS), vi (nI i)]) [] h bc bs Q := by
  refine wp_sub [(0, vr (some nS)), (1, vi (nI i))] (fun _ hz => hz) ?_
  refine wp_ldc dL_cell_0 cn_L_7 ?_
  refine wp_iload_n (i := 1) dL_cell_2 rfl rfl ?_
  refine wp_aload_n (i := 0) dL_cell_3 rfl rfl ?_
  refine wp_slen dL_cell_4 ?_
  refine wp_icmp_geN 14 dL_cell_5 (by decide) hi hL (fun c => ?_) (fun c => ?_)
  · refine wp_iconst (nI 0) dL_cell_14 (by decide) ?_
    refine l_L_cell ?_
    unfold celV at hq
    rw [if_neg (by omega)] at hq
    exact hq
  · refine wp_aload_n (i := 0) dL_cell_8 rfl rfl ?_
    refine wp_iload_n (i := 1) dL_cell_9 rfl rfl ?_
    refine wp_sld dL_cell_10 (vp_in_nI (by omega) (by omega)) ?_
    rw [nI_clamp hi]
    refine wp_goto 15 dL_cell_11 (by decide) ?_
    refine l_L_cell ?_
    unfold celV at hq
    rw [if_pos (by omega)] at hq
    exact hq
set_option maxRecDepth 100000 in
set_option maxHeartbeats 4000000 in
theorem c_L_pick {G : GG} {d bc bs i m : Nat} {h : Hp} {Q : Pst} (hi : i < 2 ^ 31) (hm : 0 < m) (hm2 : m < 2 ^ 31) (hL : slen G < 2 ^ 31) (hd : 1 ≤ d) (hq : Q (oRet (vi (nI (pkV G i m)))) h) : WP G m_L_pick d 0 (aargs 0 [vr (some nS), vi (nI i), vi (nI m)]) [] h bc bs Q := by
  refine wp_sub [(0, vr (some nS)), (1, vi (nI i)), (2, vi (nI m))] (fun _ hz => hz) ?_
  refine wp_aload_n (i := 0) dL_pick_0 rfl rfl ?_
  refine wp_iload_n (i := 1) dL_pick_1 rfl rfl ?_
  refine wp_cS (y' := m_L_cell) [vr (some nS), vi (nI i)] [] 0 0 dL_pick_2 ml_L_9 st_L_cell ok_L_cell rfl (Nat.le_of_ble_eq_true rfl) rfl (Nat.le_of_ble_eq_true rfl) (d' := d - 1) (by omega) (Nat.zero_le _) (Nat.zero_le _) (c_L_cell hi hL (cont_ret ?_))
  refine wp_bipush (nI 8) dL_pick_5 (by decide) ?_
  refine wp_iushr dL_pick_7 ?_
  refine wp_iload_n (i := 2) dL_pick_8 rfl rfl ?_
  rw [show ((celV G i).toUInt32 >>> ((nI 8).toUInt32 &&& Int32.toUInt32 31)).toInt32 = nI (celU G i).toNat from u2n _]
  refine wp_iremN dL_pick_9 celU_lt hm hm2 ?_
  exact wp_ireturn dL_pick_10 rfl hq
