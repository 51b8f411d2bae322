/-! The model: the nodes of a new value. -/
theorem sb_nil {L : LV} : ∀ q ∈ ([] : LV), q ∈ L := fun _ h => nomatch h
theorem sb_cons {L l : LV} {a : Nat × AV} (h : a ∈ L) (t : ∀ q ∈ l, q ∈ L) : ∀ q ∈ a :: l, q ∈ L := List.forall_mem_cons.2 ⟨h, t⟩
theorem nI_m1 {k : Nat} (hk : k < 2147483648) : ¬ nI k = -1 := by
  intro e
  have := congrArg Int32.toInt e
  rw [nI_toInt hk] at this
  have z : (-1 : Int32).toInt = -1 := by decide
  omega
/-- nodes made, the numbers of v's nodes and whose they are, once k of them stand -/
def nfM (S : SV) (v : Nat) (sm : Nat → Bool) : Nat → Nat
  | 0 => sMd S
  | k + 1 => if (ith k (sSz S v) && !sm k) = true then nfM S v sm k + 1 else nfM S v sm k
def nfN (S : SV) (v : Nat) (sm : Nat → Bool) (sh : Nat → Nat) : Nat → Nat → Nat
  | 0 => sNd S
  | k + 1 => va_up (nfN S v sm sh k) (21 * v + k) (if ith k (sSz S v) = true then (if sm k = true then sh k else nfM S v sm k + 1) else 0)
def nfO (S : SV) (v : Nat) : Nat → Nat → Bool
  | 0 => sOw S
  | k + 1 => va_up (nfO S v k) (21 * v + k) false
def nfS (S : SV) (v : Nat) (sm : Nat → Bool) (sh : Nat → Nat) (k : Nat) : SV := (sNv S, nfM S v sm k, sTy S, sSz S, sEl S, nfN S v sm sh k, nfO S v k, sHs S, sOf S, sMn S)
section
variable {S : SV} {v : Nat} {sm : Nat → Bool} {sh : Nat → Nat} {k : Nat}
theorem nfS_0 : nfS S v sm sh 0 = S := rfl
theorem nfS_z (h1 : ith k (sSz S v) = false) : s_7 (s_6 (nfS S v sm sh k) (21 * v + k) 0) (21 * v + k) false = nfS S v sm sh (k + 1) := by
  simp only [nfS, nfM, nfN, nfO, h1, Bool.false_and, if_neg Bool.false_ne_true]
theorem nfS_o (h1 : ith k (sSz S v) = true) (h2 : sm k = true) : s_7 (s_6 (nfS S v sm sh k) (21 * v + k) (sh k)) (21 * v + k) false = nfS S v sm sh (k + 1) := by
  simp only [nfS, nfM, nfN, nfO, h1, h2, Bool.true_and, Bool.not_true, if_neg Bool.false_ne_true, if_true]
theorem nfS_n (h1 : ith k (sSz S v) = true) (h2 : sm k = false) : s_7 (s_6 (s_2 (nfS S v sm sh k) (nfM S v sm k + 1)) (21 * v + k) (nfM S v sm k + 1)) (21 * v + k) false = nfS S v sm sh (k + 1) := by
  simp only [nfS, nfM, nfN, nfO, h1, h2, Bool.true_and, Bool.not_false, if_neg Bool.false_ne_true, if_true]
theorem nfM_le : nfM S v sm k ≤ sMd S + k := by
  induction k with
  | zero => exact Nat.le_refl _
  | succ k ih => rw [nfM]; split <;> omega
theorem nfN_b (w : Nat) {j : Nat} (hj : k ≤ j) (hj2 : j < 21) : nfN S v sm sh k (21 * w + j) = sNd S (21 * w + j) := by
  induction k with
  | zero => rfl
  | succ k ih => rw [nfN, va_up_ne _ _ (by omega), ih (by omega)]
theorem nfN_le (hS : SB S) (hmd : sMd S + 21 ≤ 1000000) (hsh : ∀ s, sh s ≤ 1000000) (hk : k ≤ 21) (j : Nat) : nfN S v sm sh k j ≤ 1000000 := by
  induction k with
  | zero => exact hS.2.2.2.2.1 j
  | succ k ih =>
    have hm := nfM_le (S := S) (v := v) (sm := sm) (k := k)
    have hz := hsh k
    rw [nfN]
    by_cases hj : j = 21 * v + k
    · subst hj; rw [va_up_self]; (repeat' split) <;> omega
    · rw [va_up_ne _ _ hj]; exact ih (by omega)
theorem SB.nf (hS : SB S) (hmd : sMd S + 21 ≤ 1000000) (hsh : ∀ s, sh s ≤ 1000000) (hk : k ≤ 21) : SB (nfS S v sm sh k) := by
  have hm := nfM_le (S := S) (v := v) (sm := sm) (k := k)
  exact ⟨hS.1, by show nfM S v sm k ≤ 1000000; omega, hS.2.2.1, hS.2.2.2.1, fun j => nfN_le hS hmd hsh hk j, hS.2.2.2.2.2⟩
end
/-- what v shares with w -/
def smO (S : SV) (v w s : Nat) : Bool := ith s (sSz S w) && smB S s v w
def shO (S : SV) (w s : Nat) : Nat := sNd S (21 * w + s)
set_option maxRecDepth 100000 in
set_option maxHeartbeats 4000000 in
theorem l_X16_nodesN {G : GG} {d bc bs : Nat} {Q : Pst} {h0 : Hp} {m : Nat} {A : Nat → Nat} {S : SV} (hS : SB S) (hmd : sMd S + 21 ≤ 1000000) {v : Nat} (hd : 2 ≤ d) (hv : v < 60) (hq : ∀ h', PV h0 h' m A → MP h' m A (nfS S v (fun _ => false) (fun _ => 0) 21) → Q oVoid h') : ∀ n k h, n + k = 21 → MP h m A (nfS S v (fun _ => false) (fun _ => 0) k) → PV h0 h m A → WP G m_X16_nodesFrom d 2 [(3, vi (nI k)), (0, vr (some m)), (1, vi (nI v)), (2, vi (-1))] [] h bc bs Q := by
  intro n
  induction n with
  | zero =>
    intro k h hk hM hP
    have hk : k = 21 := by omega
    subst hk
    refine wp_iload_n (i := 3) dX16_nodesFrom_2 rfl rfl ?_
    refine wp_bipush (nI 21) dX16_nodesFrom_3 (by decide) ?_
    refine wp_icmp_geN 112 dX16_nodesFrom_5 (by decide) (by decide) (by decide) (fun c_5 => ?_) (fun c_5 => absurd c_5 (by decide))
    refine wp_return dX16_nodesFrom_112 rfl ?_
    exact hq _ hP hM
  | succ n ih =>
    intro k h hk hM hP
    have hT : SB (nfS S v (fun _ => false) (fun _ => 0) k) := hS.nf hmd (fun _ => Nat.zero_le _) (by omega)
    refine wp_iload_n (i := 3) dX16_nodesFrom_2 rfl rfl ?_
    refine wp_bipush (nI 21) dX16_nodesFrom_3 (by decide) ?_
    refine wp_icmp_geN 112 dX16_nodesFrom_5 (by decide) (by omega) (by decide) (fun c_5 => absurd c_5 (by omega)) (fun c_5 => ?_)
    have K41 : ∀ x4 : Int32, x4 = bI (false) → WP G m_X16_nodesFrom d 41 [(3, vi (nI k)), (0, vr (some m)), (1, vi (nI v)), (2, vi (-1))] [vi x4] h bc bs Q := by
      intro x4 j_41
      refine wp_istore (i := 4) (lv' := [(4, vi x4), (3, vi (nI k)), (0, vr (some m)), (1, vi (nI v)), (2, vi (-1))]) dX16_nodesFrom_41 (by decide) rfl ?_
      refine wp_aload_n (i := 0) dX16_nodesFrom_43 rfl rfl ?_
      refine wp_get 17 6 (vr (some (A 6))) dX16_nodesFrom_44 hM.1.1 (by decide) (by decide) fl_X16_20 (congrArg (fun z => toV (vr z)) (hM.1.r 6 (by decide) (by decide) (by decide) (by decide))) ?_
      refine wp_bipush (nI 21) dX16_nodesFrom_47 (by decide) ?_
      refine wp_iload_n (i := 1) dX16_nodesFrom_49 rfl rfl ?_
      refine wp_imulN dX16_nodesFrom_50 ?_
      refine wp_iload_n (i := 3) dX16_nodesFrom_51 rfl rfl ?_
      refine wp_iaddN dX16_nodesFrom_52 ?_
      refine wp_iload_n (i := 3) dX16_nodesFrom_53 rfl rfl ?_
      refine wp_aload_n (i := 0) dX16_nodesFrom_54 rfl rfl ?_
      refine wp_get 17 4 (vr (some (A 4))) dX16_nodesFrom_55 hM.1.1 (by decide) (by decide) fl_X16_13 (congrArg (fun z => toV (vr z)) (hM.1.r 4 (by decide) (by decide) (by decide) (by decide))) ?_
      refine wp_iload_n (i := 1) dX16_nodesFrom_58 rfl rfl ?_
      refine wp_ialoadN 60 (nI (sSz S v)) dX16_nodesFrom_59 (hM.1.k 4 (by decide) (by decide) (by decide) (by decide)) (hM.1.n 4 (by decide) (by decide) (by decide)) (by omega) (by decide) (hM.2.2.2.2.1 v) ?_
      refine wp_cS (y' := m_X16_isThere) [vi (nI k), vi (nI (sSz S v))] [vi (nI ((21 * v) + k)), vr (some (A 6))] 0 0 dX16_nodesFrom_60 ml_X16_87 st_X16_isThere ok_X16_isThere rfl (Nat.le_of_ble_eq_true rfl) rfl (Nat.le_of_ble_eq_true rfl) (d' := d - 1) (by omega) (Nat.zero_le _) (Nat.zero_le _) (c_X16_isThere k (sSz S v) (by omega) (by have := sz_bd hS v; omega) (by omega) (cont_ret ?_))
      refine wp_if_neB 70 dX16_nodesFrom_63 (by decide) (fun c_63 => ?_) (fun c_63 => ?_)
      · skip
        refine wp_iload (i := 4) dX16_nodesFrom_70 rfl ?_
        skip
        refine wp_if_eq 89 dX16_nodesFrom_72 (by decide) (fun c_72 => ?_) (fun c_72 => absurd c_72 (fun z => z j_41))
        refine wp_aload_n (i := 0) dX16_nodesFrom_89 rfl rfl ?_
        refine wp_cV (y' := m_X16_newNode) 17 [] [vi (nI ((21 * v) + k)), vr (some (A 6))] 0 0 dX16_nodesFrom_90 ml_X16_94 im_X16_newNode se_X16_newNode (by decide) hM.1.1 ok_X16_newNode rfl (Nat.le_of_ble_eq_true rfl) rfl (Nat.le_of_ble_eq_true rfl) (d' := d - 1) (by omega) (Nat.zero_le _) (Nat.zero_le _) (c_X16_newNode hM hT (cont_ret ?_))
        refine wp_iastoreN 1260 dX16_nodesFrom_93 (hM.1.k 6 (by decide) (by decide) (by decide) (by decide)) (hM.1.n 6 (by decide) (by decide) (by decide)) (by omega) (by decide) ?_
        refine wp_aload_n (i := 0) dX16_nodesFrom_94 rfl rfl ?_
        refine wp_get 17 7 (vr (some (A 7))) dX16_nodesFrom_95 hM.1.1 (by decide) (by decide) fl_X16_23 (congrArg (fun z => toV (vr z)) (hM.1.r 7 (by decide) (by decide) (by decide) (by decide))) ?_
        refine wp_bipush (nI 21) dX16_nodesFrom_98 (by decide) ?_
        refine wp_iload_n (i := 1) dX16_nodesFrom_100 rfl rfl ?_
        refine wp_imulN dX16_nodesFrom_101 ?_
        refine wp_iload_n (i := 3) dX16_nodesFrom_102 rfl rfl ?_
        refine wp_iaddN dX16_nodesFrom_103 ?_
        refine wp_iconst (nI 0) dX16_nodesFrom_104 (by decide) ?_
        refine wp_zastoreN 1260 dX16_nodesFrom_105 (hM.1.k 7 (by decide) (by decide) (by decide) (by decide)) (hM.1.n 7 (by decide) (by decide) (by decide)) (by omega) (by decide) (by decide) ?_
        refine wp_iincN (a := k) (lv' := [(3, vi (nI (k + 1))), (4, vi x4), (0, vr (some m)), (1, vi (nI v)), (2, vi (-1))]) 1 dX16_nodesFrom_106 rfl (by decide) (by decide) rfl ?_
        refine wp_goto 2 dX16_nodesFrom_109 (by decide) ?_
        refine wp_sub [(3, vi (nI (k + 1))), (0, vr (some m)), (1, vi (nI v)), (2, vi (-1))] (sb_cons (.head _) (sb_cons (.tail _ (.tail _ (.head _))) (sb_cons (.tail _ (.tail _ (.tail _ (.head _)))) (sb_cons (.tail _ (.tail _ (.tail _ (.tail _ (.head _))))) sb_nil)))) ?_
        have e := (((hM.w2 (x := nfM S v (fun _ => false) k + 1)).w6 (k := 21 * v + k) (x := nfM S v (fun _ => false) k + 1)).w7 (k := 21 * v + k) (x := false))
        exact ih (k + 1) _ (by omega) ((nfS_n c_63 rfl : _ = nfS S v (fun _ => false) (fun _ => 0) (k + 1)) ▸ e) (PV.i ((hM.w2 (x := nfM S v (fun _ => false) k + 1)).w6 (k := 21 * v + k) (x := nfM S v (fun _ => false) k + 1)) (PV.i (hM.w2 (x := nfM S v (fun _ => false) k + 1)) (PV.m hP (by decide)) 6 (by decide) (by decide)) 7 (by decide) (by decide))
      · skip
        refine wp_iconst (nI 0) dX16_nodesFrom_66 (by decide) ?_
        refine wp_goto 93 dX16_nodesFrom_67 (by decide) ?_
        refine wp_iastoreN 1260 dX16_nodesFrom_93 (hM.1.k 6 (by decide) (by decide) (by decide) (by decide)) (hM.1.n 6 (by decide) (by decide) (by decide)) (by omega) (by decide) ?_
        refine wp_aload_n (i := 0) dX16_nodesFrom_94 rfl rfl ?_
        refine wp_get 17 7 (vr (some (A 7))) dX16_nodesFrom_95 hM.1.1 (by decide) (by decide) fl_X16_23 (congrArg (fun z => toV (vr z)) (hM.1.r 7 (by decide) (by decide) (by decide) (by decide))) ?_
        refine wp_bipush (nI 21) dX16_nodesFrom_98 (by decide) ?_
        refine wp_iload_n (i := 1) dX16_nodesFrom_100 rfl rfl ?_
        refine wp_imulN dX16_nodesFrom_101 ?_
        refine wp_iload_n (i := 3) dX16_nodesFrom_102 rfl rfl ?_
        refine wp_iaddN dX16_nodesFrom_103 ?_
        refine wp_iconst (nI 0) dX16_nodesFrom_104 (by decide) ?_
        refine wp_zastoreN 1260 dX16_nodesFrom_105 (hM.1.k 7 (by decide) (by decide) (by decide) (by decide)) (hM.1.n 7 (by decide) (by decide) (by decide)) (by omega) (by decide) (by decide) ?_
        refine wp_iincN (a := k) (lv' := [(3, vi (nI (k + 1))), (4, vi x4), (0, vr (some m)), (1, vi (nI v)), (2, vi (-1))]) 1 dX16_nodesFrom_106 rfl (by decide) (by decide) rfl ?_
        refine wp_goto 2 dX16_nodesFrom_109 (by decide) ?_
        refine wp_sub [(3, vi (nI (k + 1))), (0, vr (some m)), (1, vi (nI v)), (2, vi (-1))] (sb_cons (.head _) (sb_cons (.tail _ (.tail _ (.head _))) (sb_cons (.tail _ (.tail _ (.tail _ (.head _)))) (sb_cons (.tail _ (.tail _ (.tail _ (.tail _ (.head _))))) sb_nil)))) ?_
        have e := ((hM.w6 (k := 21 * v + k) (x := 0)).w7 (k := 21 * v + k) (x := false))
        exact ih (k + 1) _ (by omega) ((nfS_z c_63 : _ = nfS S v (fun _ => false) (fun _ => 0) (k + 1)) ▸ e) (PV.i (hM.w6 (k := 21 * v + k) (x := 0)) (PV.i hM hP 6 (by decide) (by decide)) 7 (by decide) (by decide))
    refine wp_iload_n (i := 2) dX16_nodesFrom_8 rfl rfl ?_
    refine wp_iconst (-1) dX16_nodesFrom_9 (by decide) ?_
    refine wp_icmp_eq 40 dX16_nodesFrom_10 (by decide) (fun c_10 => ?_) (fun c_10 => absurd c_10 (fun z => z rfl))
    refine wp_iconst (nI 0) dX16_nodesFrom_40 (by decide) ?_
    exact K41 _ rfl
set_option maxRecDepth 100000 in
set_option maxHeartbeats 4000000 in
theorem l_X16_nodesS {G : GG} {d bc bs : Nat} {Q : Pst} {h0 : Hp} {m : Nat} {A : Nat → Nat} {S : SV} (hS : SB S) (hmd : sMd S + 21 ≤ 1000000) {v : Nat} {w : Nat} (hw : w < 60) (hd : 2 ≤ d) (hv : v < 60) (hq : ∀ h', PV h0 h' m A → MP h' m A (nfS S v (smO S v w) (shO S w) 21) → Q oVoid h') : ∀ n k h, n + k = 21 → MP h m A (nfS S v (smO S v w) (shO S w) k) → PV h0 h m A → WP G m_X16_nodesFrom d 2 [(3, vi (nI k)), (0, vr (some m)), (1, vi (nI v)), (2, vi (nI w))] [] h bc bs Q := by
  intro n
  induction n with
  | zero =>
    intro k h hk hM hP
    have hk : k = 21 := by omega
    subst hk
    refine wp_iload_n (i := 3) dX16_nodesFrom_2 rfl rfl ?_
    refine wp_bipush (nI 21) dX16_nodesFrom_3 (by decide) ?_
    refine wp_icmp_geN 112 dX16_nodesFrom_5 (by decide) (by decide) (by decide) (fun c_5 => ?_) (fun c_5 => absurd c_5 (by decide))
    refine wp_return dX16_nodesFrom_112 rfl ?_
    exact hq _ hP hM
  | succ n ih =>
    intro k h hk hM hP
    have hT : SB (nfS S v (smO S v w) (shO S w) k) := hS.nf hmd (fun s => hS.2.2.2.2.1 (21 * w + s)) (by omega)
    refine wp_iload_n (i := 3) dX16_nodesFrom_2 rfl rfl ?_
    refine wp_bipush (nI 21) dX16_nodesFrom_3 (by decide) ?_
    refine wp_icmp_geN 112 dX16_nodesFrom_5 (by decide) (by omega) (by decide) (fun c_5 => absurd c_5 (by omega)) (fun c_5 => ?_)
    have K41 : ∀ x4 : Int32, x4 = bI (ith k (sSz S w) && smB S k v w) → WP G m_X16_nodesFrom d 41 [(3, vi (nI k)), (0, vr (some m)), (1, vi (nI v)), (2, vi (nI w))] [vi x4] h bc bs Q := by
      intro x4 j_41
      refine wp_istore (i := 4) (lv' := [(4, vi x4), (3, vi (nI k)), (0, vr (some m)), (1, vi (nI v)), (2, vi (nI w))]) dX16_nodesFrom_41 (by decide) rfl ?_
      refine wp_aload_n (i := 0) dX16_nodesFrom_43 rfl rfl ?_
      refine wp_get 17 6 (vr (some (A 6))) dX16_nodesFrom_44 hM.1.1 (by decide) (by decide) fl_X16_20 (congrArg (fun z => toV (vr z)) (hM.1.r 6 (by decide) (by decide) (by decide) (by decide))) ?_
      refine wp_bipush (nI 21) dX16_nodesFrom_47 (by decide) ?_
      refine wp_iload_n (i := 1) dX16_nodesFrom_49 rfl rfl ?_
      refine wp_imulN dX16_nodesFrom_50 ?_
      refine wp_iload_n (i := 3) dX16_nodesFrom_51 rfl rfl ?_
      refine wp_iaddN dX16_nodesFrom_52 ?_
      refine wp_iload_n (i := 3) dX16_nodesFrom_53 rfl rfl ?_
      refine wp_aload_n (i := 0) dX16_nodesFrom_54 rfl rfl ?_
      refine wp_get 17 4 (vr (some (A 4))) dX16_nodesFrom_55 hM.1.1 (by decide) (by decide) fl_X16_13 (congrArg (fun z => toV (vr z)) (hM.1.r 4 (by decide) (by decide) (by decide) (by decide))) ?_
      refine wp_iload_n (i := 1) dX16_nodesFrom_58 rfl rfl ?_
      refine wp_ialoadN 60 (nI (sSz S v)) dX16_nodesFrom_59 (hM.1.k 4 (by decide) (by decide) (by decide) (by decide)) (hM.1.n 4 (by decide) (by decide) (by decide)) (by omega) (by decide) (hM.2.2.2.2.1 v) ?_
      refine wp_cS (y' := m_X16_isThere) [vi (nI k), vi (nI (sSz S v))] [vi (nI ((21 * v) + k)), vr (some (A 6))] 0 0 dX16_nodesFrom_60 ml_X16_87 st_X16_isThere ok_X16_isThere rfl (Nat.le_of_ble_eq_true rfl) rfl (Nat.le_of_ble_eq_true rfl) (d' := d - 1) (by omega) (Nat.zero_le _) (Nat.zero_le _) (c_X16_isThere k (sSz S v) (by omega) (by have := sz_bd hS v; omega) (by omega) (cont_ret ?_))
      refine wp_if_neB 70 dX16_nodesFrom_63 (by decide) (fun c_63 => ?_) (fun c_63 => ?_)
      · skip
        refine wp_iload (i := 4) dX16_nodesFrom_70 rfl ?_
        refine wp_if_eq 89 dX16_nodesFrom_72 (by decide) (fun c_72 => ?_) (fun c_72 => ?_)
        · skip
          refine wp_aload_n (i := 0) dX16_nodesFrom_89 rfl rfl ?_
          refine wp_cV (y' := m_X16_newNode) 17 [] [vi (nI ((21 * v) + k)), vr (some (A 6))] 0 0 dX16_nodesFrom_90 ml_X16_94 im_X16_newNode se_X16_newNode (by decide) hM.1.1 ok_X16_newNode rfl (Nat.le_of_ble_eq_true rfl) rfl (Nat.le_of_ble_eq_true rfl) (d' := d - 1) (by omega) (Nat.zero_le _) (Nat.zero_le _) (c_X16_newNode hM hT (cont_ret ?_))
          refine wp_iastoreN 1260 dX16_nodesFrom_93 (hM.1.k 6 (by decide) (by decide) (by decide) (by decide)) (hM.1.n 6 (by decide) (by decide) (by decide)) (by omega) (by decide) ?_
          refine wp_aload_n (i := 0) dX16_nodesFrom_94 rfl rfl ?_
          refine wp_get 17 7 (vr (some (A 7))) dX16_nodesFrom_95 hM.1.1 (by decide) (by decide) fl_X16_23 (congrArg (fun z => toV (vr z)) (hM.1.r 7 (by decide) (by decide) (by decide) (by decide))) ?_
          refine wp_bipush (nI 21) dX16_nodesFrom_98 (by decide) ?_
          refine wp_iload_n (i := 1) dX16_nodesFrom_100 rfl rfl ?_
          refine wp_imulN dX16_nodesFrom_101 ?_
          refine wp_iload_n (i := 3) dX16_nodesFrom_102 rfl rfl ?_
          refine wp_iaddN dX16_nodesFrom_103 ?_
          refine wp_iconst (nI 0) dX16_nodesFrom_104 (by decide) ?_
          refine wp_zastoreN 1260 dX16_nodesFrom_105 (hM.1.k 7 (by decide) (by decide) (by decide) (by decide)) (hM.1.n 7 (by decide) (by decide) (by decide)) (by omega) (by decide) (by decide) ?_
          refine wp_iincN (a := k) (lv' := [(3, vi (nI (k + 1))), (4, vi x4), (0, vr (some m)), (1, vi (nI v)), (2, vi (nI w))]) 1 dX16_nodesFrom_106 rfl (by decide) (by decide) rfl ?_
          refine wp_goto 2 dX16_nodesFrom_109 (by decide) ?_
          refine wp_sub [(3, vi (nI (k + 1))), (0, vr (some m)), (1, vi (nI v)), (2, vi (nI w))] (sb_cons (.head _) (sb_cons (.tail _ (.tail _ (.head _))) (sb_cons (.tail _ (.tail _ (.tail _ (.head _)))) (sb_cons (.tail _ (.tail _ (.tail _ (.tail _ (.head _))))) sb_nil)))) ?_
          have e := (((hM.w2 (x := nfM S v (smO S v w) k + 1)).w6 (k := 21 * v + k) (x := nfM S v (smO S v w) k + 1)).w7 (k := 21 * v + k) (x := false))
          exact ih (k + 1) _ (by omega) ((nfS_n c_63 (bI_0.mp (j_41.symm.trans c_72)) : _ = nfS S v (smO S v w) (shO S w) (k + 1)) ▸ e) (PV.i ((hM.w2 (x := nfM S v (smO S v w) k + 1)).w6 (k := 21 * v + k) (x := nfM S v (smO S v w) k + 1)) (PV.i (hM.w2 (x := nfM S v (smO S v w) k + 1)) (PV.m hP (by decide)) 6 (by decide) (by decide)) 7 (by decide) (by decide))
        · skip
          refine wp_aload_n (i := 0) dX16_nodesFrom_75 rfl rfl ?_
          refine wp_get 17 6 (vr (some (A 6))) dX16_nodesFrom_76 hM.1.1 (by decide) (by decide) fl_X16_20 (congrArg (fun z => toV (vr z)) (hM.1.r 6 (by decide) (by decide) (by decide) (by decide))) ?_
          refine wp_bipush (nI 21) dX16_nodesFrom_79 (by decide) ?_
          refine wp_iload_n (i := 2) dX16_nodesFrom_81 rfl rfl ?_
          refine wp_imulN dX16_nodesFrom_82 ?_
          refine wp_iload_n (i := 3) dX16_nodesFrom_83 rfl rfl ?_
          refine wp_iaddN dX16_nodesFrom_84 ?_
          refine wp_ialoadN 1260 (nI (sNd S (21 * w + k))) dX16_nodesFrom_85 (hM.1.k 6 (by decide) (by decide) (by decide) (by decide)) (hM.1.n 6 (by decide) (by decide) (by decide)) (by omega) (by decide) ((hM.2.2.2.2.2.2.1 (21 * w + k)).trans (congrArg nI (nfN_b w (Nat.le_refl _) (by omega)))) ?_
          refine wp_goto 93 dX16_nodesFrom_86 (by decide) ?_
          refine wp_iastoreN 1260 dX16_nodesFrom_93 (hM.1.k 6 (by decide) (by decide) (by decide) (by decide)) (hM.1.n 6 (by decide) (by decide) (by decide)) (by omega) (by decide) ?_
          refine wp_aload_n (i := 0) dX16_nodesFrom_94 rfl rfl ?_
          refine wp_get 17 7 (vr (some (A 7))) dX16_nodesFrom_95 hM.1.1 (by decide) (by decide) fl_X16_23 (congrArg (fun z => toV (vr z)) (hM.1.r 7 (by decide) (by decide) (by decide) (by decide))) ?_
          refine wp_bipush (nI 21) dX16_nodesFrom_98 (by decide) ?_
          refine wp_iload_n (i := 1) dX16_nodesFrom_100 rfl rfl ?_
          refine wp_imulN dX16_nodesFrom_101 ?_
          refine wp_iload_n (i := 3) dX16_nodesFrom_102 rfl rfl ?_
          refine wp_iaddN dX16_nodesFrom_103 ?_
          refine wp_iconst (nI 0) dX16_nodesFrom_104 (by decide) ?_
          refine wp_zastoreN 1260 dX16_nodesFrom_105 (hM.1.k 7 (by decide) (by decide) (by decide) (by decide)) (hM.1.n 7 (by decide) (by decide) (by decide)) (by omega) (by decide) (by decide) ?_
          refine wp_iincN (a := k) (lv' := [(3, vi (nI (k + 1))), (4, vi x4), (0, vr (some m)), (1, vi (nI v)), (2, vi (nI w))]) 1 dX16_nodesFrom_106 rfl (by decide) (by decide) rfl ?_
          refine wp_goto 2 dX16_nodesFrom_109 (by decide) ?_
          refine wp_sub [(3, vi (nI (k + 1))), (0, vr (some m)), (1, vi (nI v)), (2, vi (nI w))] (sb_cons (.head _) (sb_cons (.tail _ (.tail _ (.head _))) (sb_cons (.tail _ (.tail _ (.tail _ (.head _)))) (sb_cons (.tail _ (.tail _ (.tail _ (.tail _ (.head _))))) sb_nil)))) ?_
          have e := ((hM.w6 (k := 21 * v + k) (x := sNd S (21 * w + k))).w7 (k := 21 * v + k) (x := false))
          exact ih (k + 1) _ (by omega) ((nfS_o c_63 (bI_n.mp (fun z => c_72 (j_41.trans z))) : _ = nfS S v (smO S v w) (shO S w) (k + 1)) ▸ e) (PV.i (hM.w6 (k := 21 * v + k) (x := sNd S (21 * w + k))) (PV.i hM hP 6 (by decide) (by decide)) 7 (by decide) (by decide))
      · skip
        refine wp_iconst (nI 0) dX16_nodesFrom_66 (by decide) ?_
        refine wp_goto 93 dX16_nodesFrom_67 (by decide) ?_
        refine wp_iastoreN 1260 dX16_nodesFrom_93 (hM.1.k 6 (by decide) (by decide) (by decide) (by decide)) (hM.1.n 6 (by decide) (by decide) (by decide)) (by omega) (by decide) ?_
        refine wp_aload_n (i := 0) dX16_nodesFrom_94 rfl rfl ?_
        refine wp_get 17 7 (vr (some (A 7))) dX16_nodesFrom_95 hM.1.1 (by decide) (by decide) fl_X16_23 (congrArg (fun z => toV (vr z)) (hM.1.r 7 (by decide) (by decide) (by decide) (by decide))) ?_
        refine wp_bipush (nI 21) dX16_nodesFrom_98 (by decide) ?_
        refine wp_iload_n (i := 1) dX16_nodesFrom_100 rfl rfl ?_
        refine wp_imulN dX16_nodesFrom_101 ?_
        refine wp_iload_n (i := 3) dX16_nodesFrom_102 rfl rfl ?_
        refine wp_iaddN dX16_nodesFrom_103 ?_
        refine wp_iconst (nI 0) dX16_nodesFrom_104 (by decide) ?_
        refine wp_zastoreN 1260 dX16_nodesFrom_105 (hM.1.k 7 (by decide) (by decide) (by decide) (by decide)) (hM.1.n 7 (by decide) (by decide) (by decide)) (by omega) (by decide) (by decide) ?_
        refine wp_iincN (a := k) (lv' := [(3, vi (nI (k + 1))), (4, vi x4), (0, vr (some m)), (1, vi (nI v)), (2, vi (nI w))]) 1 dX16_nodesFrom_106 rfl (by decide) (by decide) rfl ?_
        refine wp_goto 2 dX16_nodesFrom_109 (by decide) ?_
        refine wp_sub [(3, vi (nI (k + 1))), (0, vr (some m)), (1, vi (nI v)), (2, vi (nI w))] (sb_cons (.head _) (sb_cons (.tail _ (.tail _ (.head _))) (sb_cons (.tail _ (.tail _ (.tail _ (.head _)))) (sb_cons (.tail _ (.tail _ (.tail _ (.tail _ (.head _))))) sb_nil)))) ?_
        have e := ((hM.w6 (k := 21 * v + k) (x := 0)).w7 (k := 21 * v + k) (x := false))
        exact ih (k + 1) _ (by omega) ((nfS_z c_63 : _ = nfS S v (smO S v w) (shO S w) (k + 1)) ▸ e) (PV.i (hM.w6 (k := 21 * v + k) (x := 0)) (PV.i hM hP 6 (by decide) (by decide)) 7 (by decide) (by decide))
    refine wp_iload_n (i := 2) dX16_nodesFrom_8 rfl rfl ?_
    refine wp_iconst (-1) dX16_nodesFrom_9 (by decide) ?_
    refine wp_icmp_eq 40 dX16_nodesFrom_10 (by decide) (fun c_10 => absurd c_10 (nI_m1 (by omega))) (fun c_10 => ?_)
    refine wp_iload_n (i := 3) dX16_nodesFrom_13 rfl rfl ?_
    refine wp_aload_n (i := 0) dX16_nodesFrom_14 rfl rfl ?_
    refine wp_get 17 4 (vr (some (A 4))) dX16_nodesFrom_15 hM.1.1 (by decide) (by decide) fl_X16_13 (congrArg (fun z => toV (vr z)) (hM.1.r 4 (by decide) (by decide) (by decide) (by decide))) ?_
    refine wp_iload_n (i := 2) dX16_nodesFrom_18 rfl rfl ?_
    refine wp_ialoadN 60 (nI (sSz S w)) dX16_nodesFrom_19 (hM.1.k 4 (by decide) (by decide) (by decide) (by decide)) (hM.1.n 4 (by decide) (by decide) (by decide)) (by omega) (by decide) (hM.2.2.2.2.1 w) ?_
    refine wp_cS (y' := m_X16_isThere) [vi (nI k), vi (nI (sSz S w))] [] 0 0 dX16_nodesFrom_20 ml_X16_87 st_X16_isThere ok_X16_isThere rfl (Nat.le_of_ble_eq_true rfl) rfl (Nat.le_of_ble_eq_true rfl) (d' := d - 1) (by omega) (Nat.zero_le _) (Nat.zero_le _) (c_X16_isThere k (sSz S w) (by omega) (by have := sz_bd hS w; omega) (by omega) (cont_ret ?_))
    refine wp_if_eqB 40 dX16_nodesFrom_23 (by decide) (fun c_23 => ?_) (fun c_23 => ?_)
    · skip
      refine wp_iconst (nI 0) dX16_nodesFrom_40 (by decide) ?_
      exact K41 _ (by first | rw [c_23, show smB S k v w = true from c_33] <;> rfl | rw [c_23, show smB S k v w = false from c_33] <;> rfl | rw [c_23] <;> rfl)
    · skip
      refine wp_aload_n (i := 0) dX16_nodesFrom_26 rfl rfl ?_
      refine wp_iload_n (i := 3) dX16_nodesFrom_27 rfl rfl ?_
      refine wp_iload_n (i := 1) dX16_nodesFrom_28 rfl rfl ?_
      refine wp_iload_n (i := 2) dX16_nodesFrom_29 rfl rfl ?_
      refine wp_cV (y' := m_X16_isSameBelow) 17 [vi (nI k), vi (nI v), vi (nI w)] [] 0 0 dX16_nodesFrom_30 ml_X16_91 im_X16_isSameBelow se_X16_isSameBelow (by decide) hM.1.1 ok_X16_isSameBelow rfl (Nat.le_of_ble_eq_true rfl) rfl (Nat.le_of_ble_eq_true rfl) (d' := d - 1) (by omega) (Nat.zero_le _) (Nat.zero_le _) (c_X16_isSameBelow hM hT (by omega) (by omega) (by omega) (by omega) (cont_ret ?_))
      refine wp_if_eqB 40 dX16_nodesFrom_33 (by decide) (fun c_33 => ?_) (fun c_33 => ?_)
      · skip
        refine wp_iconst (nI 0) dX16_nodesFrom_40 (by decide) ?_
        exact K41 _ (by first | rw [c_23, show smB S k v w = true from c_33] <;> rfl | rw [c_23, show smB S k v w = false from c_33] <;> rfl | rw [c_23] <;> rfl)
      · skip
        refine wp_iconst (nI 1) dX16_nodesFrom_36 (by decide) ?_
        refine wp_goto 41 dX16_nodesFrom_37 (by decide) ?_
        exact K41 _ (by first | rw [c_23, show smB S k v w = true from c_33] <;> rfl | rw [c_23, show smB S k v w = false from c_33] <;> rfl | rw [c_23] <;> rfl)
set_option maxRecDepth 100000 in
set_option maxHeartbeats 4000000 in
theorem c_X16_nodesFromN {G : GG} {d bc bs : Nat} {h : Hp} {Q : Pst} {m : Nat} {A : Nat → Nat} {S : SV} (hM : MP h m A S) (hS : SB S) (hmd : sMd S + 21 ≤ 1000000) {v : Nat} (hd : 2 ≤ d) (hv : v < 60) (hq : ∀ h', PV h h' m A → MP h' m A (nfS S v (fun _ => false) (fun _ => 0) 21) → Q oVoid h') : WP G m_X16_nodesFrom d 0 (aargs 0 [vr (some m), vi (nI v), vi (-1)]) [] h bc bs Q := by
  refine wp_sub [(0, vr (some m)), (1, vi (nI v)), (2, vi (-1))] (fun _ hz => hz) ?_
  refine wp_iconst (nI 0) dX16_nodesFrom_0 (by decide) ?_
  refine wp_istore_n (i := 3) (lv' := [(3, vi (nI 0)), (0, vr (some m)), (1, vi (nI v)), (2, vi (-1))]) dX16_nodesFrom_1 rfl (by decide) rfl ?_
  exact l_X16_nodesN hS hmd hd hv hq 21 0 _ rfl hM PV.rf
set_option maxRecDepth 100000 in
set_option maxHeartbeats 4000000 in
theorem c_X16_nodesFromS {G : GG} {d bc bs : Nat} {h : Hp} {Q : Pst} {m : Nat} {A : Nat → Nat} {S : SV} (hM : MP h m A S) (hS : SB S) (hmd : sMd S + 21 ≤ 1000000) {v w : Nat} (hd : 2 ≤ d) (hv : v < 60) (hw : w < 60) (hq : ∀ h', PV h h' m A → MP h' m A (nfS S v (smO S v w) (shO S w) 21) → Q oVoid h') : WP G m_X16_nodesFrom d 0 (aargs 0 [vr (some m), vi (nI v), vi (nI w)]) [] h bc bs Q := by
  refine wp_sub [(0, vr (some m)), (1, vi (nI v)), (2, vi (nI w))] (fun _ hz => hz) ?_
  refine wp_iconst (nI 0) dX16_nodesFrom_0 (by decide) ?_
  refine wp_istore_n (i := 3) (lv' := [(3, vi (nI 0)), (0, vr (some m)), (1, vi (nI v)), (2, vi (nI w))]) dX16_nodesFrom_1 rfl (by decide) rfl ?_
  exact l_X16_nodesS hS hmd hw hd hv hq 21 0 _ rfl hM PV.rf
