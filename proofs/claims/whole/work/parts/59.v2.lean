/-! The model: maps, their helpers. -/
/-- the code of a key, its bits up to a level, the place of a node -/
def cdN (k : Nat) : Nat := ((37 * k) ^^^ (k / 8)) &&& 255
def btN (k l : Nat) : Nat := cdN k % 2 ^ (2 * l)
def lst (l : Nat) : Nat := if l = 0 then 0 else if l = 1 then 1 else if l = 2 then 5 else if l = 3 then 21 else 85
def sltN (k l : Nat) : Nat := lst l + btN k l
theorem cdN_le (k : Nat) : cdN k ≤ 255 := Nat.and_le_right
theorem cdN_lt (k : Nat) : cdN k < 256 := by have := cdN_le k; omega
theorem btN_lt (k l : Nat) : btN k l < 2 ^ (2 * l) := Nat.mod_lt _ (Nat.two_pow_pos _)
theorem btN_le (k l : Nat) : btN k l ≤ 255 := Nat.le_trans (Nat.mod_le _ _) (cdN_le k)
theorem sltN_lt {k l : Nat} (hl : l ≤ 4) : sltN k l < 341 := by
  have h1 := btN_lt k l
  have h2 := btN_le k l
  unfold sltN lst
  match l, hl with
  | 0, _ => simp at h1 ⊢; omega
  | 1, _ => simp at h1 ⊢; omega
  | 2, _ => simp at h1 ⊢; omega
  | 3, _ => simp at h1 ⊢; omega
  | 4, _ => simp at h1 ⊢; omega
theorem btN_and {k l : Nat} : cdN k &&& (1 * 2 ^ (2 * l) - 1) = btN k l := by
  rw [Nat.one_mul, Nat.and_two_pow_sub_one_eq_mod]; rfl
/-- how many keys of v have the bits of a key -/
def alK (S : SV) (v key l j : Nat) : Nat := if sHs S (1000 * v + j) = true ∧ btN j l = btN key l then 1 else 0
def alN (S : SV) (v key l : Nat) : Nat := sumN (alK S v key l) 1000
theorem alN_le {S : SV} {v key l : Nat} : ∀ n, sumN (alK S v key l) n ≤ n := by
  intro n
  induction n with
  | zero => exact Nat.le_refl _
  | succ n ih => rw [sumN]; have : alK S v key l n ≤ 1 := by unfold alK; split <;> omega
                 omega
set_option maxRecDepth 100000 in
set_option maxHeartbeats 4000000 in
theorem c_X16_codeOf {G : GG} {d bc bs : Nat} {h : Hp} {Q : Pst} {k : Nat} (hk : k < 1000) (hq : Q (oRet (vi (nI (cdN k)))) h) : WP G m_X16_codeOf d 0 (aargs 0 [vi (nI k)]) [] h bc bs Q := by
  refine wp_sub [(0, vi (nI k))] (fun _ hz => hz) ?_
  refine wp_bipush (nI 37) dX16_codeOf_0 (by decide) ?_
  refine wp_iload_n (i := 0) dX16_codeOf_2 rfl rfl ?_
  refine wp_imulN dX16_codeOf_3 ?_
  refine wp_iload_n (i := 0) dX16_codeOf_4 rfl rfl ?_
  refine wp_bipush (nI 8) dX16_codeOf_5 (by decide) ?_
  refine wp_idivN dX16_codeOf_7 (by omega) (by omega) (by omega) ?_
  refine wp_ixor dX16_codeOf_8 ?_
  rw [nx_xor]
  refine wp_sipush (nI 255) dX16_codeOf_9 (by decide) ?_
  refine wp_iand dX16_codeOf_12 ?_
  rw [nx_and]
  refine wp_ireturn dX16_codeOf_13 rfl ?_
  exact hq
set_option maxRecDepth 100000 in
set_option maxHeartbeats 4000000 in
theorem c_X16_levelStart {G : GG} {d bc bs : Nat} {h : Hp} {Q : Pst} {l : Nat} (hl : l ≤ 4) (hq : Q (oRet (vi (nI (lst l)))) h) : WP G m_X16_levelStart d 0 (aargs 0 [vi (nI l)]) [] h bc bs Q := by
  refine wp_sub [(0, vi (nI l))] (fun _ hz => hz) ?_
  refine wp_iload_n (i := 0) dX16_levelStart_0 rfl rfl ?_
  refine wp_if_neN 8 dX16_levelStart_1 (by decide) (by omega) (fun c_1 => ?_) (fun c_1 => ?_)
  · skip
    refine wp_iload_n (i := 0) dX16_levelStart_8 rfl rfl ?_
    refine wp_iconst (nI 1) dX16_levelStart_9 (by decide) ?_
    refine wp_icmp_neN 17 dX16_levelStart_10 (by decide) (by omega) (by decide) (fun c_10 => ?_) (fun c_10 => ?_)
    · skip
      refine wp_iload_n (i := 0) dX16_levelStart_17 rfl rfl ?_
      refine wp_iconst (nI 2) dX16_levelStart_18 (by decide) ?_
      refine wp_icmp_neN 26 dX16_levelStart_19 (by decide) (by omega) (by decide) (fun c_19 => ?_) (fun c_19 => ?_)
      · skip
        refine wp_iload_n (i := 0) dX16_levelStart_26 rfl rfl ?_
        refine wp_iconst (nI 3) dX16_levelStart_27 (by decide) ?_
        refine wp_icmp_neN 36 dX16_levelStart_28 (by decide) (by omega) (by decide) (fun c_28 => ?_) (fun c_28 => ?_)
        · skip
          refine wp_bipush (nI 85) dX16_levelStart_36 (by decide) ?_
          refine wp_ireturn dX16_levelStart_38 rfl ?_
          exact (show lst l = 85 by unfold lst; (repeat' split) <;> omega) ▸ hq
        · skip
          refine wp_bipush (nI 21) dX16_levelStart_31 (by decide) ?_
          refine wp_goto 38 dX16_levelStart_33 (by decide) ?_
          refine wp_ireturn dX16_levelStart_38 rfl ?_
          exact (show lst l = 21 by unfold lst; (repeat' split) <;> omega) ▸ hq
      · skip
        refine wp_iconst (nI 5) dX16_levelStart_22 (by decide) ?_
        refine wp_goto 38 dX16_levelStart_23 (by decide) ?_
        refine wp_ireturn dX16_levelStart_38 rfl ?_
        exact (show lst l = 5 by unfold lst; (repeat' split) <;> omega) ▸ hq
    · skip
      refine wp_iconst (nI 1) dX16_levelStart_13 (by decide) ?_
      refine wp_goto 38 dX16_levelStart_14 (by decide) ?_
      refine wp_ireturn dX16_levelStart_38 rfl ?_
      exact (show lst l = 1 by unfold lst; (repeat' split) <;> omega) ▸ hq
  · skip
    refine wp_iconst (nI 0) dX16_levelStart_4 (by decide) ?_
    refine wp_goto 38 dX16_levelStart_5 (by decide) ?_
    refine wp_ireturn dX16_levelStart_38 rfl ?_
    exact (show lst l = 0 by unfold lst; (repeat' split) <;> omega) ▸ hq
set_option maxRecDepth 100000 in
set_option maxHeartbeats 4000000 in
theorem c_X16_bitsOf {G : GG} {d bc bs : Nat} {h : Hp} {Q : Pst} {k l : Nat} (hk : k < 1000) (hl : l ≤ 4) (hd : 1 ≤ d) (hq : Q (oRet (vi (nI (btN k l)))) h) : WP G m_X16_bitsOf d 0 (aargs 0 [vi (nI k), vi (nI l)]) [] h bc bs Q := by
  refine wp_sub [(0, vi (nI k)), (1, vi (nI l))] (fun _ hz => hz) ?_
  refine wp_iload_n (i := 0) dX16_bitsOf_0 rfl rfl ?_
  refine wp_cS (y' := m_X16_codeOf) [vi (nI k)] [] 0 0 dX16_bitsOf_1 ml_X16_131 st_X16_codeOf ok_X16_codeOf rfl (Nat.le_of_ble_eq_true rfl) rfl (Nat.le_of_ble_eq_true rfl) (d' := d - 1) (by omega) (Nat.zero_le _) (Nat.zero_le _) (c_X16_codeOf (by omega) (cont_ret ?_))
  refine wp_iconst (nI 1) dX16_bitsOf_4 (by decide) ?_
  refine wp_iconst (nI 2) dX16_bitsOf_5 (by decide) ?_
  refine wp_iload_n (i := 1) dX16_bitsOf_6 rfl rfl ?_
  refine wp_imulN dX16_bitsOf_7 ?_
  refine wp_ishl dX16_bitsOf_8 ?_
  rw [nI_shl (by omega)]
  refine wp_iconst (nI 1) dX16_bitsOf_9 (by decide) ?_
  refine wp_isubN dX16_bitsOf_10 (by have := Nat.two_pow_pos (2 * l); omega) ?_
  refine wp_iand dX16_bitsOf_11 ?_
  rw [nx_and]
  rw [btN_and]
  refine wp_ireturn dX16_bitsOf_12 rfl ?_
  exact hq
set_option maxRecDepth 100000 in
set_option maxHeartbeats 4000000 in
theorem c_X16_slotOf {G : GG} {d bc bs : Nat} {h : Hp} {Q : Pst} {m k l : Nat} (hk : k < 1000) (hl : l ≤ 4) (hd : 2 ≤ d) (hq : Q (oRet (vi (nI (sltN k l)))) h) : WP G m_X16_slotOf d 0 (aargs 0 [vr (some m), vi (nI k), vi (nI l)]) [] h bc bs Q := by
  refine wp_sub [(0, vr (some m)), (1, vi (nI k)), (2, vi (nI l))] (fun _ hz => hz) ?_
  refine wp_iload_n (i := 2) dX16_slotOf_0 rfl rfl ?_
  refine wp_cS (y' := m_X16_levelStart) [vi (nI l)] [] 0 0 dX16_slotOf_1 ml_X16_134 st_X16_levelStart ok_X16_levelStart rfl (Nat.le_of_ble_eq_true rfl) rfl (Nat.le_of_ble_eq_true rfl) (d' := d - 1) (by omega) (Nat.zero_le _) (Nat.zero_le _) (c_X16_levelStart (by omega) (cont_ret ?_))
  refine wp_iload_n (i := 1) dX16_slotOf_4 rfl rfl ?_
  refine wp_iload_n (i := 2) dX16_slotOf_5 rfl rfl ?_
  refine wp_cS (y' := m_X16_bitsOf) [vi (nI k), vi (nI l)] [vi (nI (lst l))] 0 0 dX16_slotOf_6 ml_X16_137 st_X16_bitsOf ok_X16_bitsOf rfl (Nat.le_of_ble_eq_true rfl) rfl (Nat.le_of_ble_eq_true rfl) (d' := d - 1) (by omega) (Nat.zero_le _) (Nat.zero_le _) (c_X16_bitsOf (by omega) (by omega) (by omega) (cont_ret ?_))
  refine wp_iaddN dX16_slotOf_9 ?_
  refine wp_ireturn dX16_slotOf_10 rfl ?_
  exact hq
set_option maxRecDepth 100000 in
set_option maxHeartbeats 4000000 in
theorem l_X16_alike {G : GG} {d bc bs : Nat} {h : Hp} {Q : Pst} {m : Nat} {A : Nat → Nat} {S : SV} (hM : MP h m A S) (hS : SB S) {v key l : Nat} (hv : v < 60) (hk : key < 1000) (hl : l ≤ 4) (hd : 2 ≤ d) (hq : Q (oRet (vi (nI (alN S v key l)))) h) : ∀ n j, n + j = 1000 → WP G m_X16_alike d 6 [(5, vi (nI j)), (4, vi (nI (sumN (alK S v key l) j))), (0, vr (some m)), (1, vi (nI v)), (2, vi (nI key)), (3, vi (nI l))] [] h bc bs Q := by
  have hnv := hS.1
  intro n
  induction n with
  | zero =>
    intro j hj
    have hj : j = 1000 := by omega
    subst hj
    refine wp_iload (i := 5) dX16_alike_6 rfl ?_
    refine wp_sipush (nI 1000) dX16_alike_8 (by decide) ?_
    refine wp_icmp_geN 60 dX16_alike_11 (by decide) (by decide) (by decide) (fun c_11 => ?_) (fun c_11 => absurd c_11 (by decide))
    refine wp_iload (i := 4) dX16_alike_60 rfl ?_
    refine wp_ireturn dX16_alike_62 rfl ?_
    exact hq
  | succ n ih =>
    intro j hj
    have hal := alN_le (S := S) (v := v) (key := key) (l := l) j
    have hb1 := btN_le j l
    have hb2 := btN_le key l
    refine wp_iload (i := 5) dX16_alike_6 rfl ?_
    refine wp_sipush (nI 1000) dX16_alike_8 (by decide) ?_
    refine wp_icmp_geN 60 dX16_alike_11 (by decide) (by omega) (by decide) (fun c_11 => absurd c_11 (by omega)) (fun c_11 => ?_)
    refine wp_iload (i := 4) dX16_alike_14 rfl ?_
    refine wp_aload_n (i := 0) dX16_alike_16 rfl rfl ?_
    refine wp_get 17 8 (vr (some (A 8))) dX16_alike_17 hM.1.1 (by decide) (by decide) fl_X16_28 (congrArg (fun z => toV (vr z)) (hM.1.r 8 (by decide) (by decide) (by decide) (by decide))) ?_
    refine wp_sipush (nI 1000) dX16_alike_20 (by decide) ?_
    refine wp_iload_n (i := 1) dX16_alike_23 rfl rfl ?_
    refine wp_imulN dX16_alike_24 ?_
    refine wp_iload (i := 5) dX16_alike_25 rfl ?_
    refine wp_iaddN dX16_alike_27 ?_
    refine wp_zaloadN 60000 (bI (sHs S ((1000 * v) + j))) dX16_alike_28 (hM.1.k 8 (by decide) (by decide) (by decide) (by decide)) (hM.1.n 8 (by decide) (by decide) (by decide)) (by omega) (by decide) (hM.2.2.2.2.2.2.2.2.1 ((1000 * v) + j)) ?_
    refine wp_if_eqB 50 dX16_alike_29 (by decide) (fun c_29 => ?_) (fun c_29 => ?_)
    · skip
      refine wp_iconst (nI 0) dX16_alike_50 (by decide) ?_
      refine wp_iaddN dX16_alike_51 ?_
      refine wp_istore (i := 4) (lv' := [(4, vi (nI ((sumN (alK S v key l) j) + 0))), (5, vi (nI j)), (0, vr (some m)), (1, vi (nI v)), (2, vi (nI key)), (3, vi (nI l))]) dX16_alike_52 (by decide) rfl ?_
      refine wp_iincN (a := j) (lv' := [(5, vi (nI (j + 1))), (4, vi (nI ((sumN (alK S v key l) j) + 0))), (0, vr (some m)), (1, vi (nI v)), (2, vi (nI key)), (3, vi (nI l))]) 1 dX16_alike_54 rfl (by decide) (by decide) rfl ?_
      refine wp_goto 6 dX16_alike_57 (by decide) ?_
      refine wp_sub [(5, vi (nI (j + 1))), (4, vi (nI ((sumN (alK S v key l) j) + 0))), (0, vr (some m)), (1, vi (nI v)), (2, vi (nI key)), (3, vi (nI l))] (sb_cons (.head _) (sb_cons (.tail _ (.head _)) (sb_cons (.tail _ (.tail _ (.head _))) (sb_cons (.tail _ (.tail _ (.tail _ (.head _)))) (sb_cons (.tail _ (.tail _ (.tail _ (.tail _ (.head _))))) (sb_cons (.tail _ (.tail _ (.tail _ (.tail _ (.tail _ (.head _)))))) sb_nil)))))) ?_
      have e : alK S v key l j = 0 := if_neg (fun z => Bool.false_ne_true (c_29.symm.trans z.1))
      exact (show sumN (alK S v key l) (j + 1) = sumN (alK S v key l) j + 0 by rw [sumN, e]) ▸ ih (j + 1) (by omega)
    · skip
      refine wp_iload (i := 5) dX16_alike_32 rfl ?_
      refine wp_iload_n (i := 3) dX16_alike_34 rfl rfl ?_
      refine wp_cS (y' := m_X16_bitsOf) [vi (nI j), vi (nI l)] [vi (nI (sumN (alK S v key l) j))] 0 0 dX16_alike_35 ml_X16_137 st_X16_bitsOf ok_X16_bitsOf rfl (Nat.le_of_ble_eq_true rfl) rfl (Nat.le_of_ble_eq_true rfl) (d' := d - 1) (by omega) (Nat.zero_le _) (Nat.zero_le _) (c_X16_bitsOf (by omega) (by omega) (by omega) (cont_ret ?_))
      refine wp_iload_n (i := 2) dX16_alike_38 rfl rfl ?_
      refine wp_iload_n (i := 3) dX16_alike_39 rfl rfl ?_
      refine wp_cS (y' := m_X16_bitsOf) [vi (nI key), vi (nI l)] [vi (nI (btN j l)), vi (nI (sumN (alK S v key l) j))] 0 0 dX16_alike_40 ml_X16_137 st_X16_bitsOf ok_X16_bitsOf rfl (Nat.le_of_ble_eq_true rfl) rfl (Nat.le_of_ble_eq_true rfl) (d' := d - 1) (by omega) (Nat.zero_le _) (Nat.zero_le _) (c_X16_bitsOf (by omega) (by omega) (by omega) (cont_ret ?_))
      refine wp_icmp_neN 50 dX16_alike_43 (by decide) (by omega) (by omega) (fun c_43 => ?_) (fun c_43 => ?_)
      · skip
        refine wp_iconst (nI 0) dX16_alike_50 (by decide) ?_
        refine wp_iaddN dX16_alike_51 ?_
        refine wp_istore (i := 4) (lv' := [(4, vi (nI ((sumN (alK S v key l) j) + 0))), (5, vi (nI j)), (0, vr (some m)), (1, vi (nI v)), (2, vi (nI key)), (3, vi (nI l))]) dX16_alike_52 (by decide) rfl ?_
        refine wp_iincN (a := j) (lv' := [(5, vi (nI (j + 1))), (4, vi (nI ((sumN (alK S v key l) j) + 0))), (0, vr (some m)), (1, vi (nI v)), (2, vi (nI key)), (3, vi (nI l))]) 1 dX16_alike_54 rfl (by decide) (by decide) rfl ?_
        refine wp_goto 6 dX16_alike_57 (by decide) ?_
        refine wp_sub [(5, vi (nI (j + 1))), (4, vi (nI ((sumN (alK S v key l) j) + 0))), (0, vr (some m)), (1, vi (nI v)), (2, vi (nI key)), (3, vi (nI l))] (sb_cons (.head _) (sb_cons (.tail _ (.head _)) (sb_cons (.tail _ (.tail _ (.head _))) (sb_cons (.tail _ (.tail _ (.tail _ (.head _)))) (sb_cons (.tail _ (.tail _ (.tail _ (.tail _ (.head _))))) (sb_cons (.tail _ (.tail _ (.tail _ (.tail _ (.tail _ (.head _)))))) sb_nil)))))) ?_
        have e : alK S v key l j = 0 := if_neg (fun z => c_43 z.2)
        exact (show sumN (alK S v key l) (j + 1) = sumN (alK S v key l) j + 0 by rw [sumN, e]) ▸ ih (j + 1) (by omega)
      · skip
        refine wp_iconst (nI 1) dX16_alike_46 (by decide) ?_
        refine wp_goto 51 dX16_alike_47 (by decide) ?_
        refine wp_iaddN dX16_alike_51 ?_
        refine wp_istore (i := 4) (lv' := [(4, vi (nI ((sumN (alK S v key l) j) + 1))), (5, vi (nI j)), (0, vr (some m)), (1, vi (nI v)), (2, vi (nI key)), (3, vi (nI l))]) dX16_alike_52 (by decide) rfl ?_
        refine wp_iincN (a := j) (lv' := [(5, vi (nI (j + 1))), (4, vi (nI ((sumN (alK S v key l) j) + 1))), (0, vr (some m)), (1, vi (nI v)), (2, vi (nI key)), (3, vi (nI l))]) 1 dX16_alike_54 rfl (by decide) (by decide) rfl ?_
        refine wp_goto 6 dX16_alike_57 (by decide) ?_
        refine wp_sub [(5, vi (nI (j + 1))), (4, vi (nI ((sumN (alK S v key l) j) + 1))), (0, vr (some m)), (1, vi (nI v)), (2, vi (nI key)), (3, vi (nI l))] (sb_cons (.head _) (sb_cons (.tail _ (.head _)) (sb_cons (.tail _ (.tail _ (.head _))) (sb_cons (.tail _ (.tail _ (.tail _ (.head _)))) (sb_cons (.tail _ (.tail _ (.tail _ (.tail _ (.head _))))) (sb_cons (.tail _ (.tail _ (.tail _ (.tail _ (.tail _ (.head _)))))) sb_nil)))))) ?_
        have e : alK S v key l j = 1 := if_pos ⟨c_29, c_43⟩
        exact (show sumN (alK S v key l) (j + 1) = sumN (alK S v key l) j + 1 by rw [sumN, e]) ▸ ih (j + 1) (by omega)
set_option maxRecDepth 100000 in
set_option maxHeartbeats 4000000 in
theorem c_X16_alike {G : GG} {d bc bs : Nat} {h : Hp} {Q : Pst} {m : Nat} {A : Nat → Nat} {S : SV} (hM : MP h m A S) (hS : SB S) {v key l : Nat} (hv : v < 60) (hk : key < 1000) (hl : l ≤ 4) (hd : 2 ≤ d) (hq : Q (oRet (vi (nI (alN S v key l)))) h) : WP G m_X16_alike d 0 (aargs 0 [vr (some m), vi (nI v), vi (nI key), vi (nI l)]) [] h bc bs Q := by
  refine wp_sub [(0, vr (some m)), (1, vi (nI v)), (2, vi (nI key)), (3, vi (nI l))] (fun _ hz => hz) ?_
  refine wp_iconst (nI 0) dX16_alike_0 (by decide) ?_
  refine wp_istore (i := 4) (lv' := [(4, vi (nI 0)), (0, vr (some m)), (1, vi (nI v)), (2, vi (nI key)), (3, vi (nI l))]) dX16_alike_1 (by decide) rfl ?_
  refine wp_iconst (nI 0) dX16_alike_3 (by decide) ?_
  refine wp_istore (i := 5) (lv' := [(5, vi (nI 0)), (4, vi (nI 0)), (0, vr (some m)), (1, vi (nI v)), (2, vi (nI key)), (3, vi (nI l))]) dX16_alike_4 (by decide) rfl ?_
  exact l_X16_alike hM hS hv hk hl hd hq 1000 0 rfl
/-- f, with g written over the first k places of block a of width w -/
def blk {α : Type} (f g : Nat → α) (w a k : Nat) : Nat → α := fun j => if w * a ≤ j ∧ j < w * a + k then g (j - w * a) else f j
theorem blk_0 {α : Type} {f g : Nat → α} {w a : Nat} : blk f g w a 0 = f := by
  funext j; unfold blk; rw [if_neg (by omega)]
theorem blk_s {α : Type} {f g : Nat → α} {w a k : Nat} : va_up (blk f g w a k) (w * a + k) (g k) = blk f g w a (k + 1) := by
  funext j
  rw [va_up_app]
  unfold blk
  by_cases hj : j = w * a + k
  · rw [if_pos hj, if_pos (by omega), show j - w * a = k by omega]
  · rw [if_neg hj]
    by_cases hh : w * a ≤ j ∧ j < w * a + k
    · rw [if_pos hh, if_pos (by omega)]
    · rw [if_neg hh, if_neg (by omega)]
theorem blk_o {α : Type} {f g : Nat → α} {w a k j : Nat} (h : j < w * a ∨ w * a + k ≤ j) : blk f g w a k j = f j := by
  unfold blk; rw [if_neg (by omega)]
theorem blk_i {α : Type} {f g : Nat → α} {w a k i : Nat} (h : i < k) : blk f g w a k (w * a + i) = g i := by
  unfold blk; rw [if_pos (by omega), Nat.add_sub_cancel_left]
/-- a map's rows: what is copied into the new one's -/
def mpS (T : SV) (a z : Nat) (gh : Nat → Bool) (go : Nat → Int32) (gm : Nat → Nat) (k1 k2 : Nat) : SV := (sNv T, sMd T, sTy T, va_up (sSz T) a z, sEl T, sNd T, sOw T, blk (sHs T) gh 1000 a k1, blk (sOf T) go 1000 a k1, blk (sMn T) gm 341 a k2)
def s_mapN (S : SV) : SV := mpS (s_new S 109) (sNv S) 0 (fun _ => false) (fun _ => nI 0) (fun _ => 0) 1000 341
def s_mapS (S : SV) (b : Nat) : SV := mpS (s_new S 109) (sNv S) (sSz S b) (fun i => sHs S (1000 * b + i)) (fun i => sOf S (1000 * b + i)) (fun i => sMn S (341 * b + i)) 1000 341
theorem mp_B {T : SV} (hT : SB T) {a z : Nat} (hz : z ≤ 64) {gh : Nat → Bool} {go : Nat → Int32} {gm : Nat → Nat} (hg : ∀ i, gm i ≤ 1000000) {k1 k2 : Nat} : SB (mpS T a z gh go gm k1 k2) := by
  refine ⟨hT.1, hT.2.1, hT.2.2.1, fun j => ?_, hT.2.2.2.2.1, fun j => ?_⟩
  · show va_up (sSz T) a z j ≤ 64
    rw [va_up_app]; split
    · exact hz
    · exact hT.2.2.2.1 j
  · show blk (sMn T) gm 341 a k2 j ≤ 1000000
    unfold blk; split
    · exact hg _
    · exact hT.2.2.2.2.2 j
set_option maxRecDepth 100000 in
set_option maxHeartbeats 4000000 in
theorem l_X16_newMapN1 {G : GG} {d bc bs : Nat} {Q : Pst} {h0 : Hp} {m : Nat} {A : Nat → Nat} {T : SV} {a z : Nat} (ha : a < 60) (hq : ∀ h', PV h0 h' m A → MP h' m A (mpS T a z (fun _ => false) (fun _ => nI 0) (fun _ => 0) 1000 0) → WP G m_X16_newMap d 113 [(2, vi (nI a)), (0, vr (some m)), (1, vi (-1))] [] h' bc bs Q) : ∀ n k h, n + k = 1000 → MP h m A (mpS T a z (fun _ => false) (fun _ => nI 0) (fun _ => 0) k 0) → PV h0 h m A → WP G m_X16_newMap d 30 [(3, vi (nI k)), (2, vi (nI a)), (0, vr (some m)), (1, vi (-1))] [] h bc bs Q := by
  intro n
  induction n with
  | zero =>
    intro k h hk hM hP
    have hk : k = 1000 := by omega
    subst hk
    refine wp_iload_n (i := 3) dX16_newMap_30 rfl rfl ?_
    refine wp_sipush (nI 1000) dX16_newMap_31 (by decide) ?_
    refine wp_icmp_geN 113 dX16_newMap_34 (by decide) (by decide) (by decide) (fun c_34 => ?_) (fun c_34 => absurd c_34 (by decide))
    refine wp_sub [(2, vi (nI a)), (0, vr (some m)), (1, vi (-1))] (sb_cons (.tail _ (.head _)) (sb_cons (.tail _ (.tail _ (.head _))) (sb_cons (.tail _ (.tail _ (.tail _ (.head _)))) sb_nil))) ?_
    exact hq _ hP hM
  | succ n ih =>
    intro k h hk hM hP
    refine wp_iload_n (i := 3) dX16_newMap_30 rfl rfl ?_
    refine wp_sipush (nI 1000) dX16_newMap_31 (by decide) ?_
    refine wp_icmp_geN 113 dX16_newMap_34 (by decide) (by omega) (by decide) (fun c_34 => absurd c_34 (by omega)) (fun c_34 => ?_)
    refine wp_aload_n (i := 0) dX16_newMap_37 rfl rfl ?_
    refine wp_get 17 8 (vr (some (A 8))) dX16_newMap_38 hM.1.1 (by decide) (by decide) fl_X16_28 (congrArg (fun z => toV (vr z)) (hM.1.r 8 (by decide) (by decide) (by decide) (by decide))) ?_
    refine wp_sipush (nI 1000) dX16_newMap_41 (by decide) ?_
    refine wp_iload_n (i := 2) dX16_newMap_44 rfl rfl ?_
    refine wp_imulN dX16_newMap_45 ?_
    refine wp_iload_n (i := 3) dX16_newMap_46 rfl rfl ?_
    refine wp_iaddN dX16_newMap_47 ?_
    refine wp_iload_n (i := 1) dX16_newMap_48 rfl rfl ?_
    refine wp_iconst (-1) dX16_newMap_49 (by decide) ?_
    refine wp_icmp_eq 72 dX16_newMap_50 (by decide) (fun c_50 => ?_) (fun c_50 => absurd c_50 (fun z => z rfl))
    refine wp_iconst (nI 0) dX16_newMap_72 (by decide) ?_
    refine wp_zastoreN 60000 dX16_newMap_73 (hM.1.k 8 (by decide) (by decide) (by decide) (by decide)) (hM.1.n 8 (by decide) (by decide) (by decide)) (by omega) (by decide) (by decide) ?_
    have hP2 := PV.i (k := (1000 * a) + k) (x := bI false) hM hP 8 (by decide) (by decide)
    have hM1 := hM.w8 (k := (1000 * a) + k) (x := false)
    refine wp_aload_n (i := 0) dX16_newMap_74 rfl rfl ?_
    refine wp_get 17 9 (vr (some (A 9))) dX16_newMap_75 hM1.1.1 (by decide) (by decide) fl_X16_31 (congrArg (fun z => toV (vr z)) (hM1.1.r 9 (by decide) (by decide) (by decide) (by decide))) ?_
    refine wp_sipush (nI 1000) dX16_newMap_78 (by decide) ?_
    refine wp_iload_n (i := 2) dX16_newMap_81 rfl rfl ?_
    refine wp_imulN dX16_newMap_82 ?_
    refine wp_iload_n (i := 3) dX16_newMap_83 rfl rfl ?_
    refine wp_iaddN dX16_newMap_84 ?_
    refine wp_iload_n (i := 1) dX16_newMap_85 rfl rfl ?_
    refine wp_iconst (-1) dX16_newMap_86 (by decide) ?_
    refine wp_icmp_ne 94 dX16_newMap_87 (by decide) (fun c_87 => absurd c_87 (fun z => z rfl)) (fun c_87 => ?_)
    refine wp_iconst (nI 0) dX16_newMap_90 (by decide) ?_
    refine wp_goto 106 dX16_newMap_91 (by decide) ?_
    refine wp_iastoreN 60000 dX16_newMap_106 (hM1.1.k 9 (by decide) (by decide) (by decide) (by decide)) (hM1.1.n 9 (by decide) (by decide) (by decide)) (by omega) (by decide) ?_
    have hP4 := PV.i (k := (1000 * a) + k) (x := (nI 0)) hM1 hP2 9 (by decide) (by decide)
    have hM3 := hM1.w9 (k := (1000 * a) + k) (x := nI 0)
    refine wp_iincN (a := k) (lv' := [(3, vi (nI (k + 1))), (2, vi (nI a)), (0, vr (some m)), (1, vi (-1))]) 1 dX16_newMap_107 rfl (by decide) (by decide) rfl ?_
    refine wp_goto 30 dX16_newMap_110 (by decide) ?_
    refine wp_sub [(3, vi (nI (k + 1))), (2, vi (nI a)), (0, vr (some m)), (1, vi (-1))] (sb_cons (.head _) (sb_cons (.tail _ (.head _)) (sb_cons (.tail _ (.tail _ (.head _))) (sb_cons (.tail _ (.tail _ (.tail _ (.head _)))) sb_nil)))) ?_
    have e1 := blk_s (f := sHs T) (g := (fun _ => false)) (w := 1000) (a := a) (k := k)
    have e2 := blk_s (f := sOf T) (g := (fun _ => nI 0)) (w := 1000) (a := a) (k := k)
    exact ih (k + 1) _ (by omega) (by unfold mpS; rw [← e1, ← e2]; exact hM3) hP4
set_option maxRecDepth 100000 in
set_option maxHeartbeats 4000000 in
theorem l_X16_newMapN2 {G : GG} {d bc bs : Nat} {Q : Pst} {h0 : Hp} {m : Nat} {A : Nat → Nat} {T : SV} {a z : Nat} (ha : a < 60) (hq : ∀ h', PV h0 h' m A → MP h' m A (mpS T a z (fun _ => false) (fun _ => nI 0) (fun _ => 0) 1000 341) → WP G m_X16_newMap d 161 [(2, vi (nI a)), (0, vr (some m))] [] h' bc bs Q) : ∀ n k h, n + k = 341 → MP h m A (mpS T a z (fun _ => false) (fun _ => nI 0) (fun _ => 0) 1000 k) → PV h0 h m A → WP G m_X16_newMap d 115 [(3, vi (nI k)), (2, vi (nI a)), (0, vr (some m)), (1, vi (-1))] [] h bc bs Q := by
  intro n
  induction n with
  | zero =>
    intro k h hk hM hP
    have hk : k = 341 := by omega
    subst hk
    refine wp_iload_n (i := 3) dX16_newMap_115 rfl rfl ?_
    refine wp_sipush (nI 341) dX16_newMap_116 (by decide) ?_
    refine wp_icmp_geN 161 dX16_newMap_119 (by decide) (by decide) (by decide) (fun c_119 => ?_) (fun c_119 => absurd c_119 (by decide))
    refine wp_sub [(2, vi (nI a)), (0, vr (some m))] (sb_cons (.tail _ (.head _)) (sb_cons (.tail _ (.tail _ (.head _))) sb_nil)) ?_
    exact hq _ hP hM
  | succ n ih =>
    intro k h hk hM hP
    refine wp_iload_n (i := 3) dX16_newMap_115 rfl rfl ?_
    refine wp_sipush (nI 341) dX16_newMap_116 (by decide) ?_
    refine wp_icmp_geN 161 dX16_newMap_119 (by decide) (by omega) (by decide) (fun c_119 => absurd c_119 (by omega)) (fun c_119 => ?_)
    refine wp_aload_n (i := 0) dX16_newMap_122 rfl rfl ?_
    refine wp_get 17 10 (vr (some (A 10))) dX16_newMap_123 hM.1.1 (by decide) (by decide) fl_X16_34 (congrArg (fun z => toV (vr z)) (hM.1.r 10 (by decide) (by decide) (by decide) (by decide))) ?_
    refine wp_sipush (nI 341) dX16_newMap_126 (by decide) ?_
    refine wp_iload_n (i := 2) dX16_newMap_129 rfl rfl ?_
    refine wp_imulN dX16_newMap_130 ?_
    refine wp_iload_n (i := 3) dX16_newMap_131 rfl rfl ?_
    refine wp_iaddN dX16_newMap_132 ?_
    refine wp_iload_n (i := 1) dX16_newMap_133 rfl rfl ?_
    refine wp_iconst (-1) dX16_newMap_134 (by decide) ?_
    refine wp_icmp_ne 142 dX16_newMap_135 (by decide) (fun c_135 => absurd c_135 (fun z => z rfl)) (fun c_135 => ?_)
    refine wp_iconst (nI 0) dX16_newMap_138 (by decide) ?_
    refine wp_goto 154 dX16_newMap_139 (by decide) ?_
    refine wp_iastoreN 20460 dX16_newMap_154 (hM.1.k 10 (by decide) (by decide) (by decide) (by decide)) (hM.1.n 10 (by decide) (by decide) (by decide)) (by omega) (by decide) ?_
    have hP6 := PV.i (k := (341 * a) + k) (x := nI 0) hM hP 10 (by decide) (by decide)
    have hM5 := hM.w10 (k := (341 * a) + k) (x := 0)
    refine wp_iincN (a := k) (lv' := [(3, vi (nI (k + 1))), (2, vi (nI a)), (0, vr (some m)), (1, vi (-1))]) 1 dX16_newMap_155 rfl (by decide) (by decide) rfl ?_
    refine wp_goto 115 dX16_newMap_158 (by decide) ?_
    refine wp_sub [(3, vi (nI (k + 1))), (2, vi (nI a)), (0, vr (some m)), (1, vi (-1))] (sb_cons (.head _) (sb_cons (.tail _ (.head _)) (sb_cons (.tail _ (.tail _ (.head _))) (sb_cons (.tail _ (.tail _ (.tail _ (.head _)))) sb_nil)))) ?_
    have e1 := blk_s (f := sMn T) (g := (fun _ => 0)) (w := 341) (a := a) (k := k)
    exact ih (k + 1) _ (by omega) (by unfold mpS; rw [← e1]; exact hM5) hP6
set_option maxRecDepth 100000 in
set_option maxHeartbeats 4000000 in
theorem l_X16_newMapS1 {G : GG} {d bc bs : Nat} {Q : Pst} {h0 : Hp} {m : Nat} {A : Nat → Nat} {T : SV} {a z : Nat} (ha : a < 60) {b : Nat} (hb : b < a) (hq : ∀ h', PV h0 h' m A → MP h' m A (mpS T a z (fun i => sHs T (1000 * b + i)) (fun i => sOf T (1000 * b + i)) (fun i => sMn T (341 * b + i)) 1000 0) → WP G m_X16_newMap d 113 [(2, vi (nI a)), (0, vr (some m)), (1, vi (nI b))] [] h' bc bs Q) : ∀ n k h, n + k = 1000 → MP h m A (mpS T a z (fun i => sHs T (1000 * b + i)) (fun i => sOf T (1000 * b + i)) (fun i => sMn T (341 * b + i)) k 0) → PV h0 h m A → WP G m_X16_newMap d 30 [(3, vi (nI k)), (2, vi (nI a)), (0, vr (some m)), (1, vi (nI b))] [] h bc bs Q := by
  intro n
  induction n with
  | zero =>
    intro k h hk hM hP
    have hk : k = 1000 := by omega
    subst hk
    refine wp_iload_n (i := 3) dX16_newMap_30 rfl rfl ?_
    refine wp_sipush (nI 1000) dX16_newMap_31 (by decide) ?_
    refine wp_icmp_geN 113 dX16_newMap_34 (by decide) (by decide) (by decide) (fun c_34 => ?_) (fun c_34 => absurd c_34 (by decide))
    refine wp_sub [(2, vi (nI a)), (0, vr (some m)), (1, vi (nI b))] (sb_cons (.tail _ (.head _)) (sb_cons (.tail _ (.tail _ (.head _))) (sb_cons (.tail _ (.tail _ (.tail _ (.head _)))) sb_nil))) ?_
    exact hq _ hP hM
  | succ n ih =>
    intro k h hk hM hP
    have r1 : blk (sHs T) (fun i => sHs T (1000 * b + i)) 1000 a k (1000 * b + k) = sHs T (1000 * b + k) := blk_o (by omega)
    have r2 : blk (sOf T) (fun i => sOf T (1000 * b + i)) 1000 a k (1000 * b + k) = sOf T (1000 * b + k) := blk_o (by omega)
    refine wp_iload_n (i := 3) dX16_newMap_30 rfl rfl ?_
    refine wp_sipush (nI 1000) dX16_newMap_31 (by decide) ?_
    refine wp_icmp_geN 113 dX16_newMap_34 (by decide) (by omega) (by decide) (fun c_34 => absurd c_34 (by omega)) (fun c_34 => ?_)
    refine wp_aload_n (i := 0) dX16_newMap_37 rfl rfl ?_
    refine wp_get 17 8 (vr (some (A 8))) dX16_newMap_38 hM.1.1 (by decide) (by decide) fl_X16_28 (congrArg (fun z => toV (vr z)) (hM.1.r 8 (by decide) (by decide) (by decide) (by decide))) ?_
    refine wp_sipush (nI 1000) dX16_newMap_41 (by decide) ?_
    refine wp_iload_n (i := 2) dX16_newMap_44 rfl rfl ?_
    refine wp_imulN dX16_newMap_45 ?_
    refine wp_iload_n (i := 3) dX16_newMap_46 rfl rfl ?_
    refine wp_iaddN dX16_newMap_47 ?_
    refine wp_iload_n (i := 1) dX16_newMap_48 rfl rfl ?_
    refine wp_iconst (-1) dX16_newMap_49 (by decide) ?_
    refine wp_icmp_eq 72 dX16_newMap_50 (by decide) (fun c_50 => absurd c_50 (nI_m1 (by omega))) (fun c_50 => ?_)
    refine wp_aload_n (i := 0) dX16_newMap_53 rfl rfl ?_
    refine wp_get 17 8 (vr (some (A 8))) dX16_newMap_54 hM.1.1 (by decide) (by decide) fl_X16_28 (congrArg (fun z => toV (vr z)) (hM.1.r 8 (by decide) (by decide) (by decide) (by decide))) ?_
    refine wp_sipush (nI 1000) dX16_newMap_57 (by decide) ?_
    refine wp_iload_n (i := 1) dX16_newMap_60 rfl rfl ?_
    refine wp_imulN dX16_newMap_61 ?_
    refine wp_iload_n (i := 3) dX16_newMap_62 rfl rfl ?_
    refine wp_iaddN dX16_newMap_63 ?_
    refine wp_zaloadN 60000 (bI (sHs T (1000 * b + k))) dX16_newMap_64 (hM.1.k 8 (by decide) (by decide) (by decide) (by decide)) (hM.1.n 8 (by decide) (by decide) (by decide)) (by omega) (by decide) ((hM.2.2.2.2.2.2.2.2.1 (1000 * b + k)).trans (congrArg bI r1)) ?_
    refine wp_if_eqB 72 dX16_newMap_65 (by decide) (fun c_65 => ?_) (fun c_65 => ?_)
    · skip
      refine wp_iconst (nI 0) dX16_newMap_72 (by decide) ?_
      refine wp_zastoreN 60000 dX16_newMap_73 (hM.1.k 8 (by decide) (by decide) (by decide) (by decide)) (hM.1.n 8 (by decide) (by decide) (by decide)) (by omega) (by decide) (by decide) ?_
      have hP8 := PV.i (k := (1000 * a) + k) (x := bI false) hM hP 8 (by decide) (by decide)
      have hM7 := hM.w8 (k := (1000 * a) + k) (x := false)
      refine wp_aload_n (i := 0) dX16_newMap_74 rfl rfl ?_
      refine wp_get 17 9 (vr (some (A 9))) dX16_newMap_75 hM7.1.1 (by decide) (by decide) fl_X16_31 (congrArg (fun z => toV (vr z)) (hM7.1.r 9 (by decide) (by decide) (by decide) (by decide))) ?_
      refine wp_sipush (nI 1000) dX16_newMap_78 (by decide) ?_
      refine wp_iload_n (i := 2) dX16_newMap_81 rfl rfl ?_
      refine wp_imulN dX16_newMap_82 ?_
      refine wp_iload_n (i := 3) dX16_newMap_83 rfl rfl ?_
      refine wp_iaddN dX16_newMap_84 ?_
      refine wp_iload_n (i := 1) dX16_newMap_85 rfl rfl ?_
      refine wp_iconst (-1) dX16_newMap_86 (by decide) ?_
      refine wp_icmp_ne 94 dX16_newMap_87 (by decide) (fun c_87 => ?_) (fun c_87 => absurd c_87 (nI_m1 (by omega)))
      refine wp_aload_n (i := 0) dX16_newMap_94 rfl rfl ?_
      refine wp_get 17 9 (vr (some (A 9))) dX16_newMap_95 hM7.1.1 (by decide) (by decide) fl_X16_31 (congrArg (fun z => toV (vr z)) (hM7.1.r 9 (by decide) (by decide) (by decide) (by decide))) ?_
      refine wp_sipush (nI 1000) dX16_newMap_98 (by decide) ?_
      refine wp_iload_n (i := 1) dX16_newMap_101 rfl rfl ?_
      refine wp_imulN dX16_newMap_102 ?_
      refine wp_iload_n (i := 3) dX16_newMap_103 rfl rfl ?_
      refine wp_iaddN dX16_newMap_104 ?_
      refine wp_ialoadN 60000 (sOf T (1000 * b + k)) dX16_newMap_105 (hM7.1.k 9 (by decide) (by decide) (by decide) (by decide)) (hM7.1.n 9 (by decide) (by decide) (by decide)) (by omega) (by decide) ((hM7.2.2.2.2.2.2.2.2.2.1 (1000 * b + k)).trans r2) ?_
      refine wp_iastoreN 60000 dX16_newMap_106 (hM7.1.k 9 (by decide) (by decide) (by decide) (by decide)) (hM7.1.n 9 (by decide) (by decide) (by decide)) (by omega) (by decide) ?_
      have hP10 := PV.i (k := (1000 * a) + k) (x := (sOf T (1000 * b + k))) hM7 hP8 9 (by decide) (by decide)
      have hM9 := hM7.w9 (k := (1000 * a) + k) (x := sOf T (1000 * b + k))
      refine wp_iincN (a := k) (lv' := [(3, vi (nI (k + 1))), (2, vi (nI a)), (0, vr (some m)), (1, vi (nI b))]) 1 dX16_newMap_107 rfl (by decide) (by decide) rfl ?_
      refine wp_goto 30 dX16_newMap_110 (by decide) ?_
      refine wp_sub [(3, vi (nI (k + 1))), (2, vi (nI a)), (0, vr (some m)), (1, vi (nI b))] (sb_cons (.head _) (sb_cons (.tail _ (.head _)) (sb_cons (.tail _ (.tail _ (.head _))) (sb_cons (.tail _ (.tail _ (.tail _ (.head _)))) sb_nil)))) ?_
      have e1 := blk_s (f := sHs T) (g := (fun i => sHs T (1000 * b + i))) (w := 1000) (a := a) (k := k)
      have e2 := blk_s (f := sOf T) (g := (fun i => sOf T (1000 * b + i))) (w := 1000) (a := a) (k := k)
      simp only [c_65] at e1
      exact ih (k + 1) _ (by omega) (by unfold mpS; rw [← e1, ← e2]; exact hM9) hP10
    · skip
      refine wp_iconst (nI 1) dX16_newMap_68 (by decide) ?_
      refine wp_goto 73 dX16_newMap_69 (by decide) ?_
      refine wp_zastoreN 60000 dX16_newMap_73 (hM.1.k 8 (by decide) (by decide) (by decide) (by decide)) (hM.1.n 8 (by decide) (by decide) (by decide)) (by omega) (by decide) (by decide) ?_
      have hP12 := PV.i (k := (1000 * a) + k) (x := bI true) hM hP 8 (by decide) (by decide)
      have hM11 := hM.w8 (k := (1000 * a) + k) (x := true)
      refine wp_aload_n (i := 0) dX16_newMap_74 rfl rfl ?_
      refine wp_get 17 9 (vr (some (A 9))) dX16_newMap_75 hM11.1.1 (by decide) (by decide) fl_X16_31 (congrArg (fun z => toV (vr z)) (hM11.1.r 9 (by decide) (by decide) (by decide) (by decide))) ?_
      refine wp_sipush (nI 1000) dX16_newMap_78 (by decide) ?_
      refine wp_iload_n (i := 2) dX16_newMap_81 rfl rfl ?_
      refine wp_imulN dX16_newMap_82 ?_
      refine wp_iload_n (i := 3) dX16_newMap_83 rfl rfl ?_
      refine wp_iaddN dX16_newMap_84 ?_
      refine wp_iload_n (i := 1) dX16_newMap_85 rfl rfl ?_
      refine wp_iconst (-1) dX16_newMap_86 (by decide) ?_
      refine wp_icmp_ne 94 dX16_newMap_87 (by decide) (fun c_87 => ?_) (fun c_87 => absurd c_87 (nI_m1 (by omega)))
      refine wp_aload_n (i := 0) dX16_newMap_94 rfl rfl ?_
      refine wp_get 17 9 (vr (some (A 9))) dX16_newMap_95 hM11.1.1 (by decide) (by decide) fl_X16_31 (congrArg (fun z => toV (vr z)) (hM11.1.r 9 (by decide) (by decide) (by decide) (by decide))) ?_
      refine wp_sipush (nI 1000) dX16_newMap_98 (by decide) ?_
      refine wp_iload_n (i := 1) dX16_newMap_101 rfl rfl ?_
      refine wp_imulN dX16_newMap_102 ?_
      refine wp_iload_n (i := 3) dX16_newMap_103 rfl rfl ?_
      refine wp_iaddN dX16_newMap_104 ?_
      refine wp_ialoadN 60000 (sOf T (1000 * b + k)) dX16_newMap_105 (hM11.1.k 9 (by decide) (by decide) (by decide) (by decide)) (hM11.1.n 9 (by decide) (by decide) (by decide)) (by omega) (by decide) ((hM11.2.2.2.2.2.2.2.2.2.1 (1000 * b + k)).trans r2) ?_
      refine wp_iastoreN 60000 dX16_newMap_106 (hM11.1.k 9 (by decide) (by decide) (by decide) (by decide)) (hM11.1.n 9 (by decide) (by decide) (by decide)) (by omega) (by decide) ?_
      have hP14 := PV.i (k := (1000 * a) + k) (x := (sOf T (1000 * b + k))) hM11 hP12 9 (by decide) (by decide)
      have hM13 := hM11.w9 (k := (1000 * a) + k) (x := sOf T (1000 * b + k))
      refine wp_iincN (a := k) (lv' := [(3, vi (nI (k + 1))), (2, vi (nI a)), (0, vr (some m)), (1, vi (nI b))]) 1 dX16_newMap_107 rfl (by decide) (by decide) rfl ?_
      refine wp_goto 30 dX16_newMap_110 (by decide) ?_
      refine wp_sub [(3, vi (nI (k + 1))), (2, vi (nI a)), (0, vr (some m)), (1, vi (nI b))] (sb_cons (.head _) (sb_cons (.tail _ (.head _)) (sb_cons (.tail _ (.tail _ (.head _))) (sb_cons (.tail _ (.tail _ (.tail _ (.head _)))) sb_nil)))) ?_
      have e1 := blk_s (f := sHs T) (g := (fun i => sHs T (1000 * b + i))) (w := 1000) (a := a) (k := k)
      have e2 := blk_s (f := sOf T) (g := (fun i => sOf T (1000 * b + i))) (w := 1000) (a := a) (k := k)
      simp only [c_65] at e1
      exact ih (k + 1) _ (by omega) (by unfold mpS; rw [← e1, ← e2]; exact hM13) hP14
set_option maxRecDepth 100000 in
set_option maxHeartbeats 4000000 in
theorem l_X16_newMapS2 {G : GG} {d bc bs : Nat} {Q : Pst} {h0 : Hp} {m : Nat} {A : Nat → Nat} {T : SV} {a z : Nat} (ha : a < 60) {b : Nat} (hb : b < a) (hq : ∀ h', PV h0 h' m A → MP h' m A (mpS T a z (fun i => sHs T (1000 * b + i)) (fun i => sOf T (1000 * b + i)) (fun i => sMn T (341 * b + i)) 1000 341) → WP G m_X16_newMap d 161 [(2, vi (nI a)), (0, vr (some m))] [] h' bc bs Q) : ∀ n k h, n + k = 341 → MP h m A (mpS T a z (fun i => sHs T (1000 * b + i)) (fun i => sOf T (1000 * b + i)) (fun i => sMn T (341 * b + i)) 1000 k) → PV h0 h m A → WP G m_X16_newMap d 115 [(3, vi (nI k)), (2, vi (nI a)), (0, vr (some m)), (1, vi (nI b))] [] h bc bs Q := by
  intro n
  induction n with
  | zero =>
    intro k h hk hM hP
    have hk : k = 341 := by omega
    subst hk
    refine wp_iload_n (i := 3) dX16_newMap_115 rfl rfl ?_
    refine wp_sipush (nI 341) dX16_newMap_116 (by decide) ?_
    refine wp_icmp_geN 161 dX16_newMap_119 (by decide) (by decide) (by decide) (fun c_119 => ?_) (fun c_119 => absurd c_119 (by decide))
    refine wp_sub [(2, vi (nI a)), (0, vr (some m))] (sb_cons (.tail _ (.head _)) (sb_cons (.tail _ (.tail _ (.head _))) sb_nil)) ?_
    exact hq _ hP hM
  | succ n ih =>
    intro k h hk hM hP
    have r3 : blk (sMn T) (fun i => sMn T (341 * b + i)) 341 a k (341 * b + k) = sMn T (341 * b + k) := blk_o (by omega)
    refine wp_iload_n (i := 3) dX16_newMap_115 rfl rfl ?_
    refine wp_sipush (nI 341) dX16_newMap_116 (by decide) ?_
    refine wp_icmp_geN 161 dX16_newMap_119 (by decide) (by omega) (by decide) (fun c_119 => absurd c_119 (by omega)) (fun c_119 => ?_)
    refine wp_aload_n (i := 0) dX16_newMap_122 rfl rfl ?_
    refine wp_get 17 10 (vr (some (A 10))) dX16_newMap_123 hM.1.1 (by decide) (by decide) fl_X16_34 (congrArg (fun z => toV (vr z)) (hM.1.r 10 (by decide) (by decide) (by decide) (by decide))) ?_
    refine wp_sipush (nI 341) dX16_newMap_126 (by decide) ?_
    refine wp_iload_n (i := 2) dX16_newMap_129 rfl rfl ?_
    refine wp_imulN dX16_newMap_130 ?_
    refine wp_iload_n (i := 3) dX16_newMap_131 rfl rfl ?_
    refine wp_iaddN dX16_newMap_132 ?_
    refine wp_iload_n (i := 1) dX16_newMap_133 rfl rfl ?_
    refine wp_iconst (-1) dX16_newMap_134 (by decide) ?_
    refine wp_icmp_ne 142 dX16_newMap_135 (by decide) (fun c_135 => ?_) (fun c_135 => absurd c_135 (nI_m1 (by omega)))
    refine wp_aload_n (i := 0) dX16_newMap_142 rfl rfl ?_
    refine wp_get 17 10 (vr (some (A 10))) dX16_newMap_143 hM.1.1 (by decide) (by decide) fl_X16_34 (congrArg (fun z => toV (vr z)) (hM.1.r 10 (by decide) (by decide) (by decide) (by decide))) ?_
    refine wp_sipush (nI 341) dX16_newMap_146 (by decide) ?_
    refine wp_iload_n (i := 1) dX16_newMap_149 rfl rfl ?_
    refine wp_imulN dX16_newMap_150 ?_
    refine wp_iload_n (i := 3) dX16_newMap_151 rfl rfl ?_
    refine wp_iaddN dX16_newMap_152 ?_
    refine wp_ialoadN 20460 (nI (sMn T (341 * b + k))) dX16_newMap_153 (hM.1.k 10 (by decide) (by decide) (by decide) (by decide)) (hM.1.n 10 (by decide) (by decide) (by decide)) (by omega) (by decide) ((hM.2.2.2.2.2.2.2.2.2.2 (341 * b + k)).trans (congrArg nI r3)) ?_
    refine wp_iastoreN 20460 dX16_newMap_154 (hM.1.k 10 (by decide) (by decide) (by decide) (by decide)) (hM.1.n 10 (by decide) (by decide) (by decide)) (by omega) (by decide) ?_
    have hP16 := PV.i (k := (341 * a) + k) (x := nI (sMn T (341 * b + k))) hM hP 10 (by decide) (by decide)
    have hM15 := hM.w10 (k := (341 * a) + k) (x := (sMn T (341 * b + k)))
    refine wp_iincN (a := k) (lv' := [(3, vi (nI (k + 1))), (2, vi (nI a)), (0, vr (some m)), (1, vi (nI b))]) 1 dX16_newMap_155 rfl (by decide) (by decide) rfl ?_
    refine wp_goto 115 dX16_newMap_158 (by decide) ?_
    refine wp_sub [(3, vi (nI (k + 1))), (2, vi (nI a)), (0, vr (some m)), (1, vi (nI b))] (sb_cons (.head _) (sb_cons (.tail _ (.head _)) (sb_cons (.tail _ (.tail _ (.head _))) (sb_cons (.tail _ (.tail _ (.tail _ (.head _)))) sb_nil)))) ?_
    have e1 := blk_s (f := sMn T) (g := (fun i => sMn T (341 * b + i))) (w := 341) (a := a) (k := k)
    exact ih (k + 1) _ (by omega) (by unfold mpS; rw [← e1]; exact hM15) hP16
set_option maxRecDepth 100000 in
set_option maxHeartbeats 4000000 in
theorem c_X16_newMapN {G : GG} {d bc bs : Nat} {h : Hp} {Q : Pst} {m : Nat} {A : Nat → Nat} {S : SV} (hM : MP h m A S) (hS : SB S) (hn : sNv S < 60) (hd : 2 ≤ d) (hq : ∀ h', PV h h' m A → MP h' m A (s_mapN S) → Q (oRet (vi (nI (sNv S)))) h') : WP G m_X16_newMap d 0 (aargs 0 [vr (some m), vi (-1)]) [] h bc bs Q := by
  refine wp_sub [(0, vr (some m)), (1, vi (-1))] (fun _ hz => hz) ?_
  have hnv := hS.1
  refine wp_aload_n (i := 0) dX16_newMap_0 rfl rfl ?_
  refine wp_bipush (nI 109) dX16_newMap_1 (by decide) ?_
  refine wp_cV (y' := m_X16_newValue) 17 [vi (nI 109)] [] 0 0 dX16_newMap_3 ml_X16_106 im_X16_newValue se_X16_newValue (by decide) hM.1.1 ok_X16_newValue rfl (Nat.le_of_ble_eq_true rfl) rfl (Nat.le_of_ble_eq_true rfl) (d' := d - 1) (by omega) (Nat.zero_le _) (Nat.zero_le _) (c_X16_newValue hM hS (by decide) (by decide) (by omega) (fun h1 hP1 hM1 => cont_ret ?_))
  refine wp_istore_n (i := 2) (lv' := [(2, vi (nI (sNv S))), (0, vr (some m)), (1, vi (-1))]) dX16_newMap_6 rfl (by decide) rfl ?_
  refine wp_aload_n (i := 0) dX16_newMap_7 rfl rfl ?_
  refine wp_get 17 4 (vr (some (A 4))) dX16_newMap_8 hM1.1.1 (by decide) (by decide) fl_X16_13 (congrArg (fun z => toV (vr z)) (hM1.1.r 4 (by decide) (by decide) (by decide) (by decide))) ?_
  refine wp_iload_n (i := 2) dX16_newMap_11 rfl rfl ?_
  refine wp_iload_n (i := 1) dX16_newMap_12 rfl rfl ?_
  refine wp_iconst (-1) dX16_newMap_13 (by decide) ?_
  refine wp_icmp_ne 21 dX16_newMap_14 (by decide) (fun c_14 => absurd c_14 (fun z => z rfl)) (fun c_14 => ?_)
  refine wp_iconst (nI 0) dX16_newMap_17 (by decide) ?_
  refine wp_goto 27 dX16_newMap_18 (by decide) ?_
  refine wp_iastoreN 60 dX16_newMap_27 (hM1.1.k 4 (by decide) (by decide) (by decide) (by decide)) (hM1.1.n 4 (by decide) (by decide) (by decide)) (by omega) (by decide) ?_
  have hP18 := PV.i (k := sNv S) (x := nI 0) hM1 hP1 4 (by decide) (by decide)
  have hM17 := hM1.w4 (k := sNv S) (x := 0)
  refine wp_iconst (nI 0) dX16_newMap_28 (by decide) ?_
  refine wp_istore_n (i := 3) (lv' := [(3, vi (nI 0)), (2, vi (nI (sNv S))), (0, vr (some m)), (1, vi (-1))]) dX16_newMap_29 rfl (by decide) rfl ?_
  refine wp_sub [(3, vi (nI 0)), (2, vi (nI (sNv S))), (0, vr (some m)), (1, vi (-1))] (sb_cons (.head _) (sb_cons (.tail _ (.head _)) (sb_cons (.tail _ (.tail _ (.head _))) (sb_cons (.tail _ (.tail _ (.tail _ (.head _)))) sb_nil)))) ?_
  refine l_X16_newMapN1 (T := s_new S 109) (a := sNv S) (z := 0) (h0 := h) (by omega) (fun h2 hP2 hM2 => ?_) 1000 0 _ rfl (by unfold mpS; rw [blk_0, blk_0, blk_0]; exact hM17) (hP18)
  refine wp_iconst (nI 0) dX16_newMap_113 (by decide) ?_
  refine wp_istore_n (i := 3) (lv' := [(3, vi (nI 0)), (2, vi (nI (sNv S))), (0, vr (some m)), (1, vi (-1))]) dX16_newMap_114 rfl (by decide) rfl ?_
  refine wp_sub [(3, vi (nI 0)), (2, vi (nI (sNv S))), (0, vr (some m)), (1, vi (-1))] (sb_cons (.head _) (sb_cons (.tail _ (.head _)) (sb_cons (.tail _ (.tail _ (.head _))) (sb_cons (.tail _ (.tail _ (.tail _ (.head _)))) sb_nil)))) ?_
  refine l_X16_newMapN2 (T := s_new S 109) (a := sNv S) (z := 0) (h0 := h) (by omega) (fun h3 hP3 hM3 => ?_) 341 0 _ rfl hM2 hP2
  refine wp_iload_n (i := 2) dX16_newMap_161 rfl rfl ?_
  refine wp_ireturn dX16_newMap_162 rfl ?_
  exact hq _ hP3 hM3
set_option maxRecDepth 100000 in
set_option maxHeartbeats 4000000 in
theorem c_X16_newMapS {G : GG} {d bc bs : Nat} {h : Hp} {Q : Pst} {m : Nat} {A : Nat → Nat} {S : SV} (hM : MP h m A S) (hS : SB S) {b : Nat} (hb : b < sNv S) (hn : sNv S < 60) (hd : 2 ≤ d) (hq : ∀ h', PV h h' m A → MP h' m A (s_mapS S b) → Q (oRet (vi (nI (sNv S)))) h') : WP G m_X16_newMap d 0 (aargs 0 [vr (some m), vi (nI b)]) [] h bc bs Q := by
  refine wp_sub [(0, vr (some m)), (1, vi (nI b))] (fun _ hz => hz) ?_
  have hnv := hS.1
  refine wp_aload_n (i := 0) dX16_newMap_0 rfl rfl ?_
  refine wp_bipush (nI 109) dX16_newMap_1 (by decide) ?_
  refine wp_cV (y' := m_X16_newValue) 17 [vi (nI 109)] [] 0 0 dX16_newMap_3 ml_X16_106 im_X16_newValue se_X16_newValue (by decide) hM.1.1 ok_X16_newValue rfl (Nat.le_of_ble_eq_true rfl) rfl (Nat.le_of_ble_eq_true rfl) (d' := d - 1) (by omega) (Nat.zero_le _) (Nat.zero_le _) (c_X16_newValue hM hS (by decide) (by decide) (by omega) (fun h1 hP1 hM1 => cont_ret ?_))
  refine wp_istore_n (i := 2) (lv' := [(2, vi (nI (sNv S))), (0, vr (some m)), (1, vi (nI b))]) dX16_newMap_6 rfl (by decide) rfl ?_
  refine wp_aload_n (i := 0) dX16_newMap_7 rfl rfl ?_
  refine wp_get 17 4 (vr (some (A 4))) dX16_newMap_8 hM1.1.1 (by decide) (by decide) fl_X16_13 (congrArg (fun z => toV (vr z)) (hM1.1.r 4 (by decide) (by decide) (by decide) (by decide))) ?_
  refine wp_iload_n (i := 2) dX16_newMap_11 rfl rfl ?_
  refine wp_iload_n (i := 1) dX16_newMap_12 rfl rfl ?_
  refine wp_iconst (-1) dX16_newMap_13 (by decide) ?_
  refine wp_icmp_ne 21 dX16_newMap_14 (by decide) (fun c_14 => ?_) (fun c_14 => absurd c_14 (nI_m1 (by omega)))
  refine wp_aload_n (i := 0) dX16_newMap_21 rfl rfl ?_
  refine wp_get 17 4 (vr (some (A 4))) dX16_newMap_22 hM1.1.1 (by decide) (by decide) fl_X16_13 (congrArg (fun z => toV (vr z)) (hM1.1.r 4 (by decide) (by decide) (by decide) (by decide))) ?_
  refine wp_iload_n (i := 1) dX16_newMap_25 rfl rfl ?_
  refine wp_ialoadN 60 (nI (sSz S b)) dX16_newMap_26 (hM1.1.k 4 (by decide) (by decide) (by decide) (by decide)) (hM1.1.n 4 (by decide) (by decide) (by decide)) (by omega) (by decide) ((hM1.2.2.2.2.1 b).trans (congrArg nI (va_up_ne _ _ (by omega)))) ?_
  refine wp_iastoreN 60 dX16_newMap_27 (hM1.1.k 4 (by decide) (by decide) (by decide) (by decide)) (hM1.1.n 4 (by decide) (by decide) (by decide)) (by omega) (by decide) ?_
  have hP20 := PV.i (k := sNv S) (x := nI (sSz S b)) hM1 hP1 4 (by decide) (by decide)
  have hM19 := hM1.w4 (k := sNv S) (x := (sSz S b))
  refine wp_iconst (nI 0) dX16_newMap_28 (by decide) ?_
  refine wp_istore_n (i := 3) (lv' := [(3, vi (nI 0)), (2, vi (nI (sNv S))), (0, vr (some m)), (1, vi (nI b))]) dX16_newMap_29 rfl (by decide) rfl ?_
  refine wp_sub [(3, vi (nI 0)), (2, vi (nI (sNv S))), (0, vr (some m)), (1, vi (nI b))] (sb_cons (.head _) (sb_cons (.tail _ (.head _)) (sb_cons (.tail _ (.tail _ (.head _))) (sb_cons (.tail _ (.tail _ (.tail _ (.head _)))) sb_nil)))) ?_
  refine l_X16_newMapS1 (T := s_new S 109) (a := sNv S) (z := (sSz S b)) (h0 := h) (by omega) hb (fun h2 hP2 hM2 => ?_) 1000 0 _ rfl (by unfold mpS; rw [blk_0, blk_0, blk_0]; exact hM19) (hP20)
  refine wp_iconst (nI 0) dX16_newMap_113 (by decide) ?_
  refine wp_istore_n (i := 3) (lv' := [(3, vi (nI 0)), (2, vi (nI (sNv S))), (0, vr (some m)), (1, vi (nI b))]) dX16_newMap_114 rfl (by decide) rfl ?_
  refine wp_sub [(3, vi (nI 0)), (2, vi (nI (sNv S))), (0, vr (some m)), (1, vi (nI b))] (sb_cons (.head _) (sb_cons (.tail _ (.head _)) (sb_cons (.tail _ (.tail _ (.head _))) (sb_cons (.tail _ (.tail _ (.tail _ (.head _)))) sb_nil)))) ?_
  refine l_X16_newMapS2 (T := s_new S 109) (a := sNv S) (z := (sSz S b)) (h0 := h) (by omega) hb (fun h3 hP3 hM3 => ?_) 341 0 _ rfl hM2 hP2
  refine wp_iload_n (i := 2) dX16_newMap_161 rfl rfl ?_
  refine wp_ireturn dX16_newMap_162 rfl ?_
  exact hq _ hP3 hM3
