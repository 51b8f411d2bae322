/-! The model: maps, one operation after another. -/
/-- the nodes of v down to level l, once a key is changed -/
def cnS (S : SV) (v key : Nat) : Nat → SV
  | 0 => S
  | l + 1 => (fun T => if l = 0 ∨ 1 < alN S v key l then s_10 (s_2 T (sMd T + 1)) (341 * v + sltN key l) (sMd T + 1) else s_10 T (341 * v + sltN key l) 0) (cnS S v key l)
theorem cnS_hs {S : SV} {v key : Nat} : ∀ l, sHs (cnS S v key l) = sHs S ∧ sNv (cnS S v key l) = sNv S := by
  intro l
  induction l with
  | zero => exact ⟨rfl, rfl⟩
  | succ l ih => rw [cnS]; show sHs (if _ then _ else _) = _ ∧ sNv (if _ then _ else _) = _; split <;> exact ih
theorem cnS_md {S : SV} {v key : Nat} : ∀ l, sMd S ≤ sMd (cnS S v key l) ∧ sMd (cnS S v key l) ≤ sMd S + l := by
  intro l
  induction l with
  | zero => exact ⟨Nat.le_refl _, Nat.le_refl _⟩
  | succ l ih =>
    rw [cnS]
    show sMd S ≤ sMd (if _ then _ else _) ∧ sMd (if _ then _ else _) ≤ _
    split
    · show sMd S ≤ sMd (cnS S v key l) + 1 ∧ sMd (cnS S v key l) + 1 ≤ _; omega
    · show sMd S ≤ sMd (cnS S v key l) ∧ sMd (cnS S v key l) ≤ _; omega
theorem cnS_B {S : SV} {v key : Nat} (hS : SB S) (hmd : sMd S + 5 ≤ 1000000) : ∀ l, l ≤ 5 → SB (cnS S v key l) := by
  intro l
  induction l with
  | zero => intro _; exact hS
  | succ l ih =>
    intro h
    have h1 := ih (by omega)
    have h2 := (cnS_md (S := S) (v := v) (key := key) l).2
    rw [cnS]
    show SB (if _ then _ else _)
    split
    · exact (h1.w2 (by omega)).w10 (by omega)
    · exact h1.w10 (Nat.zero_le _)
theorem SB.map {S : SV} (hS : SB S) (hn : sNv S < 60) {b : Nat} : SB (s_mapS S b) := mp_B (hS.new (by decide) hn) (hS.2.2.2.1 _) (fun _ => hS.2.2.2.2.2 _)
theorem alK_c {S T : SV} (h : sHs T = sHs S) {v key l : Nat} : alK T v key l = alK S v key l := by funext j; unfold alK; rw [h]
theorem alN_c {S T : SV} (h : sHs T = sHs S) {v key l : Nat} : alN T v key l = alN S v key l := by unfold alN; rw [alK_c h]
theorem alN_le2 {S : SV} {v key l : Nat} : alN S v key l ≤ 1000 := alN_le 1000
def hasB (S : SV) (k : Nat) (u : Int32) (j : Nat) : Bool := if sTy S k = 109 then ixB u 1000 && sHs S (1000 * k + j) else ixB u (sSz S k)
def getV (S : SV) (k j : Nat) : Int32 := if sTy S k = 109 then sOf S (1000 * k + j) else sEl S (64 * k + j)
def lvF (S : SV) (v key : Nat) : Nat → Nat → Nat
  | 0, l => l
  | m + 1, l => if l < 4 ∧ 1 < alN S v key (l + 1) then lvF S v key m (l + 1) else l
def o_map (S : SV) : Int32 × Int32 × SV := if sNv S = 60 then (nI 1, nI 0, S) else (nI 0, nI (sNv S), s_10 (s_2 (s_mapN S) (sMd S + 1)) (341 * sNv S) (sMd S + 1))
/-- a new map as k, key having the element e -/
def ptS (S : SV) (k key : Nat) (e : Int32) : SV := s_9 (s_8 (s_4 (s_mapS S k) (sNv S) (sSz S k + if sHs S (1000 * k + key) = true then 0 else 1)) (1000 * sNv S + key) true) (1000 * sNv S + key) e
def o_put (S : SV) (v : Int32) (k : Nat) (u : Int32) (key : Nat) (e : Int32) : Int32 × Int32 × SV :=
  if (!ixB v (sNv S)) = true then (nI 1, nI 0, S) else if (ixB u 1000 && elB e) = false then (nI 2, nI 0, S) else if sTy S k ≠ 109 ∨ (sHs S (1000 * k + key) = false ∧ sSz S k = 40) then (nI 3, nI 0, S) else if sNv S = 60 then (nI 4, nI 0, S)
  else (nI 0, nI (sNv S), if sHs S (1000 * k + key) = true ∧ sOf S (1000 * k + key) = e then ptS S k key e else cnS (ptS S k key e) (sNv S) key 5)
def wtS (S : SV) (k key : Nat) : SV := s_4 (s_9 (s_8 (s_mapS S k) (1000 * sNv S + key) false) (1000 * sNv S + key) (nI 0)) (sNv S) (sSz S k - 1)
def o_without (S : SV) (v : Int32) (k : Nat) (u : Int32) (key : Nat) : Int32 × Int32 × SV :=
  if (!ixB v (sNv S)) = true then (nI 1, nI 0, S) else if sTy S k ≠ 109 then (nI 2, nI 0, S) else if (ixB u 1000 && sHs S (1000 * k + key)) = false then (nI 3, nI 0, S) else if sNv S = 60 then (nI 4, nI 0, S)
  else (nI 0, nI (sNv S), cnS (wtS S k key) (sNv S) key 5)
def o_get (S : SV) (v : Int32) (k : Nat) (u : Int32) (j : Nat) : Int32 × Int32 × SV :=
  if (!ixB v (sNv S)) = true then (nI 1, nI 0, S) else if (!hasB S k u j) = true then (nI 2, nI 0, S) else (nI 0, getV S k j, S)
def o_levelOf (S : SV) (v : Int32) (k : Nat) (u : Int32) (j : Nat) : Int32 × Int32 × SV :=
  if (!ixB v (sNv S)) = true then (nI 1, nI 0, S) else if sTy S k ≠ 109 then (nI 2, nI 0, S) else if (!hasB S k u j) = true then (nI 3, nI 0, S) else (nI 0, nI (lvF S k j 4 0), S)
set_option maxRecDepth 100000 in
set_option maxHeartbeats 4000000 in
theorem l_X16_changeNodes {G : GG} {d bc bs : Nat} {Q : Pst} {h0 : Hp} {m : Nat} {A : Nat → Nat} {S : SV} (hT : SB S) (hmd : sMd S + 5 ≤ 1000000) {v key : Nat} (hv : v < 60) (hk : key < 1000) (hd : 4 ≤ d) (hq : ∀ h', PV h0 h' m A → MP h' m A (cnS S v key 5) → Q oVoid h') : ∀ n l h, n + l = 5 → MP h m A (cnS S v key l) → PV h0 h m A → WP G m_X16_changeNodes d 2 [(3, vi (nI l)), (0, vr (some m)), (1, vi (nI v)), (2, vi (nI key))] [] h bc bs Q := by
  intro n
  induction n with
  | zero =>
    intro l h hl hM hP
    have hl : l = 5 := by omega
    subst hl
    refine wp_iload_n (i := 3) dX16_changeNodes_2 rfl rfl ?_
    refine wp_iconst (nI 5) dX16_changeNodes_3 (by decide) ?_
    refine wp_icmp_geN 57 dX16_changeNodes_4 (by decide) (by decide) (by decide) (fun c_4 => ?_) (fun c_4 => absurd c_4 (by decide))
    refine wp_return dX16_changeNodes_57 rfl ?_
    exact hq _ hP hM
  | succ n ih =>
    intro l h hl hM hP
    have hS := cnS_B (v := v) (key := key) hT hmd l (by omega)
    have hsl := sltN_lt (k := key) (l := l) (by omega)
    have hal := alN_le2 (S := S) (v := v) (key := key) (l := l)
    refine wp_iload_n (i := 3) dX16_changeNodes_2 rfl rfl ?_
    refine wp_iconst (nI 5) dX16_changeNodes_3 (by decide) ?_
    refine wp_icmp_geN 57 dX16_changeNodes_4 (by decide) (by omega) (by decide) (fun c_4 => absurd c_4 (by omega)) (fun c_4 => ?_)
    refine wp_sipush (nI 341) dX16_changeNodes_7 (by decide) ?_
    refine wp_iload_n (i := 1) dX16_changeNodes_10 rfl rfl ?_
    refine wp_imulN dX16_changeNodes_11 ?_
    refine wp_aload_n (i := 0) dX16_changeNodes_12 rfl rfl ?_
    refine wp_iload_n (i := 2) dX16_changeNodes_13 rfl rfl ?_
    refine wp_iload_n (i := 3) dX16_changeNodes_14 rfl rfl ?_
    refine wp_cV (y' := m_X16_slotOf) 17 [vi (nI key), vi (nI l)] [vi (nI (341 * v))] 0 0 dX16_changeNodes_15 ml_X16_144 im_X16_slotOf se_X16_slotOf (by decide) hM.1.1 ok_X16_slotOf rfl (Nat.le_of_ble_eq_true rfl) rfl (Nat.le_of_ble_eq_true rfl) (d' := d - 1) (by omega) (Nat.zero_le _) (Nat.zero_le _) (c_X16_slotOf (by omega) (by omega) (by omega) (cont_ret ?_))
    refine wp_iaddN dX16_changeNodes_18 ?_
    refine wp_istore (i := 4) (lv' := [(4, vi (nI ((341 * v) + (sltN key l)))), (3, vi (nI l)), (0, vr (some m)), (1, vi (nI v)), (2, vi (nI key))]) dX16_changeNodes_19 (by decide) rfl ?_
    refine wp_aload_n (i := 0) dX16_changeNodes_21 rfl rfl ?_
    refine wp_get 17 10 (vr (some (A 10))) dX16_changeNodes_22 hM.1.1 (by decide) (by decide) fl_X16_34 (congrArg (fun z => toV (vr z)) (hM.1.r 10 (by decide) (by decide) (by decide) (by decide))) ?_
    refine wp_iload (i := 4) dX16_changeNodes_25 rfl ?_
    refine wp_iload_n (i := 3) dX16_changeNodes_27 rfl rfl ?_
    refine wp_if_eqN 42 dX16_changeNodes_28 (by decide) (by omega) (fun c_28 => ?_) (fun c_28 => ?_)
    · skip
      refine wp_aload_n (i := 0) dX16_changeNodes_42 rfl rfl ?_
      refine wp_cV (y' := m_X16_newNode) 17 [] [vi (nI ((341 * v) + (sltN key l))), vr (some (A 10))] 0 0 dX16_changeNodes_43 ml_X16_94 im_X16_newNode se_X16_newNode (by decide) hM.1.1 ok_X16_newNode rfl (Nat.le_of_ble_eq_true rfl) rfl (Nat.le_of_ble_eq_true rfl) (d' := d - 1) (by omega) (Nat.zero_le _) (Nat.zero_le _) (c_X16_newNode hM hS (cont_ret ?_))
      have hP2 := PV.m (k := 2) (x := nI (sMd (cnS S v key l) + 1)) hP (by decide)
      have hM1 := hM.w2 (x := sMd (cnS S v key l) + 1)
      refine wp_goto 50 dX16_changeNodes_46 (by decide) ?_
      refine wp_iastoreN 20460 dX16_changeNodes_50 (hM1.1.k 10 (by decide) (by decide) (by decide) (by decide)) (hM1.1.n 10 (by decide) (by decide) (by decide)) (by omega) (by decide) ?_
      have hP4 := PV.i (k := (341 * v) + (sltN key l)) (x := nI (sMd (cnS S v key l) + 1)) hM1 hP2 10 (by decide) (by decide)
      have hM3 := hM1.w10 (k := (341 * v) + (sltN key l)) (x := (sMd (cnS S v key l) + 1))
      refine wp_iincN (a := l) (lv' := [(3, vi (nI (l + 1))), (4, vi (nI ((341 * v) + (sltN key l)))), (0, vr (some m)), (1, vi (nI v)), (2, vi (nI key))]) 1 dX16_changeNodes_51 rfl (by decide) (by decide) rfl ?_
      refine wp_goto 2 dX16_changeNodes_54 (by decide) ?_
      refine wp_sub [(3, vi (nI (l + 1))), (0, vr (some m)), (1, vi (nI v)), (2, vi (nI key))] (sb_cons (.head _) (sb_cons (.tail _ (.tail _ (.head _))) (sb_cons (.tail _ (.tail _ (.tail _ (.head _)))) (sb_cons (.tail _ (.tail _ (.tail _ (.tail _ (.head _))))) sb_nil)))) ?_
      have ec : cnS S v key (l + 1) = s_10 (s_2 (cnS S v key l) (sMd (cnS S v key l) + 1)) (341 * v + sltN key l) (sMd (cnS S v key l) + 1) := by rw [cnS]; exact if_pos (Or.inl c_28)
      exact ih (l + 1) _ (by omega) (by rw [ec]; exact hM3) hP4
    · skip
      refine wp_aload_n (i := 0) dX16_changeNodes_31 rfl rfl ?_
      refine wp_iload_n (i := 1) dX16_changeNodes_32 rfl rfl ?_
      refine wp_iload_n (i := 2) dX16_changeNodes_33 rfl rfl ?_
      refine wp_iload_n (i := 3) dX16_changeNodes_34 rfl rfl ?_
      refine wp_cV (y' := m_X16_alike) 17 [vi (nI v), vi (nI key), vi (nI l)] [vi (nI ((341 * v) + (sltN key l))), vr (some (A 10))] 0 0 dX16_changeNodes_35 ml_X16_147 im_X16_alike se_X16_alike (by decide) hM.1.1 ok_X16_alike rfl (Nat.le_of_ble_eq_true rfl) rfl (Nat.le_of_ble_eq_true rfl) (d' := d - 1) (by omega) (Nat.zero_le _) (Nat.zero_le _) (c_X16_alike hM hS (by omega) (by omega) (by omega) (by omega) (cont_ret ?_))
      rw [alN_c (cnS_hs l).1]
      refine wp_iconst (nI 1) dX16_changeNodes_38 (by decide) ?_
      refine wp_icmp_leN 49 dX16_changeNodes_39 (by decide) (by omega) (by decide) (fun c_39 => ?_) (fun c_39 => ?_)
      · skip
        refine wp_iconst (nI 0) dX16_changeNodes_49 (by decide) ?_
        refine wp_iastoreN 20460 dX16_changeNodes_50 (hM.1.k 10 (by decide) (by decide) (by decide) (by decide)) (hM.1.n 10 (by decide) (by decide) (by decide)) (by omega) (by decide) ?_
        have hP6 := PV.i (k := (341 * v) + (sltN key l)) (x := nI 0) hM hP 10 (by decide) (by decide)
        have hM5 := hM.w10 (k := (341 * v) + (sltN key l)) (x := 0)
        refine wp_iincN (a := l) (lv' := [(3, vi (nI (l + 1))), (4, vi (nI ((341 * v) + (sltN key l)))), (0, vr (some m)), (1, vi (nI v)), (2, vi (nI key))]) 1 dX16_changeNodes_51 rfl (by decide) (by decide) rfl ?_
        refine wp_goto 2 dX16_changeNodes_54 (by decide) ?_
        refine wp_sub [(3, vi (nI (l + 1))), (0, vr (some m)), (1, vi (nI v)), (2, vi (nI key))] (sb_cons (.head _) (sb_cons (.tail _ (.tail _ (.head _))) (sb_cons (.tail _ (.tail _ (.tail _ (.head _)))) (sb_cons (.tail _ (.tail _ (.tail _ (.tail _ (.head _))))) sb_nil)))) ?_
        have ec : cnS S v key (l + 1) = s_10 (cnS S v key l) (341 * v + sltN key l) 0 := by rw [cnS]; exact if_neg (fun z => by omega)
        exact ih (l + 1) _ (by omega) (by rw [ec]; exact hM5) hP6
      · skip
        refine wp_aload_n (i := 0) dX16_changeNodes_42 rfl rfl ?_
        refine wp_cV (y' := m_X16_newNode) 17 [] [vi (nI ((341 * v) + (sltN key l))), vr (some (A 10))] 0 0 dX16_changeNodes_43 ml_X16_94 im_X16_newNode se_X16_newNode (by decide) hM.1.1 ok_X16_newNode rfl (Nat.le_of_ble_eq_true rfl) rfl (Nat.le_of_ble_eq_true rfl) (d' := d - 1) (by omega) (Nat.zero_le _) (Nat.zero_le _) (c_X16_newNode hM hS (cont_ret ?_))
        have hP8 := PV.m (k := 2) (x := nI (sMd (cnS S v key l) + 1)) hP (by decide)
        have hM7 := hM.w2 (x := sMd (cnS S v key l) + 1)
        refine wp_goto 50 dX16_changeNodes_46 (by decide) ?_
        refine wp_iastoreN 20460 dX16_changeNodes_50 (hM7.1.k 10 (by decide) (by decide) (by decide) (by decide)) (hM7.1.n 10 (by decide) (by decide) (by decide)) (by omega) (by decide) ?_
        have hP10 := PV.i (k := (341 * v) + (sltN key l)) (x := nI (sMd (cnS S v key l) + 1)) hM7 hP8 10 (by decide) (by decide)
        have hM9 := hM7.w10 (k := (341 * v) + (sltN key l)) (x := (sMd (cnS S v key l) + 1))
        refine wp_iincN (a := l) (lv' := [(3, vi (nI (l + 1))), (4, vi (nI ((341 * v) + (sltN key l)))), (0, vr (some m)), (1, vi (nI v)), (2, vi (nI key))]) 1 dX16_changeNodes_51 rfl (by decide) (by decide) rfl ?_
        refine wp_goto 2 dX16_changeNodes_54 (by decide) ?_
        refine wp_sub [(3, vi (nI (l + 1))), (0, vr (some m)), (1, vi (nI v)), (2, vi (nI key))] (sb_cons (.head _) (sb_cons (.tail _ (.tail _ (.head _))) (sb_cons (.tail _ (.tail _ (.tail _ (.head _)))) (sb_cons (.tail _ (.tail _ (.tail _ (.tail _ (.head _))))) sb_nil)))) ?_
        have ec : cnS S v key (l + 1) = s_10 (s_2 (cnS S v key l) (sMd (cnS S v key l) + 1)) (341 * v + sltN key l) (sMd (cnS S v key l) + 1) := by rw [cnS]; exact if_pos (Or.inr c_39)
        exact ih (l + 1) _ (by omega) (by rw [ec]; exact hM9) hP10
set_option maxRecDepth 100000 in
set_option maxHeartbeats 4000000 in
theorem c_X16_changeNodes {G : GG} {d bc bs : Nat} {h : Hp} {Q : Pst} {m : Nat} {A : Nat → Nat} {S : SV} (hM : MP h m A S) (hS : SB S) (hmd : sMd S + 5 ≤ 1000000) {v key : Nat} (hv : v < 60) (hk : key < 1000) (hd : 4 ≤ d) (hq : ∀ h', PV h h' m A → MP h' m A (cnS S v key 5) → Q oVoid h') : WP G m_X16_changeNodes d 0 (aargs 0 [vr (some m), vi (nI v), vi (nI key)]) [] h bc bs Q := by
  refine wp_sub [(0, vr (some m)), (1, vi (nI v)), (2, vi (nI key))] (fun _ hz => hz) ?_
  refine wp_iconst (nI 0) dX16_changeNodes_0 (by decide) ?_
  refine wp_istore_n (i := 3) (lv' := [(3, vi (nI 0)), (0, vr (some m)), (1, vi (nI v)), (2, vi (nI key))]) dX16_changeNodes_1 rfl (by decide) rfl ?_
  exact l_X16_changeNodes (h0 := h) hS hmd hv hk hd hq 5 0 _ rfl hM PV.rf
set_option maxRecDepth 100000 in
set_option maxHeartbeats 4000000 in
theorem c_X16_map {G : GG} {d bc bs : Nat} {h : Hp} {Q : Pst} {m : Nat} {A : Nat → Nat} {S : SV} (hM : MP h m A S) (hS : SB S) (hmd : sMd S + 5 ≤ 1000000) (hd : 6 ≤ d) (hq : PO Q h m A (o_map S)) : WP G m_X16_map d 0 (aargs 0 [vr (some m)]) [] h bc bs Q := by
  refine wp_sub [(0, vr (some m))] (fun _ hz => hz) ?_
  have hnv := hS.1
  refine wp_aload_n (i := 0) dX16_map_0 rfl rfl ?_
  refine wp_iconst (nI 0) dX16_map_1 (by decide) ?_
  refine wp_putI 17 0 dX16_map_2 hM.1.1 (by decide) (by decide) (by decide) fl_X16_63 rfl (fun _ _ => rfl) rfl rfl ?_
  have hM11 := hM.w0 (x := (nI 0))
  refine wp_aload_n (i := 0) dX16_map_5 rfl rfl ?_
  refine wp_aload_n (i := 0) dX16_map_6 rfl rfl ?_
  refine wp_cV (y' := m_X16_isFull) 17 [] [vr (some m)] 0 0 dX16_map_7 ml_X16_98 im_X16_isFull se_X16_isFull (by decide) hM11.1.1 ok_X16_isFull rfl (Nat.le_of_ble_eq_true rfl) rfl (Nat.le_of_ble_eq_true rfl) (d' := d - 1) (by omega) (Nat.zero_le _) (Nat.zero_le _) (c_X16_isFull hM11 hS (cont_ret ?_))
  refine wp_iconst (nI 1) dX16_map_10 (by decide) ?_
  refine wp_cV (y' := m_X16_fails) 17 [vi (bI (decide (sNv S = 60))), vi (nI 1)] [] 0 0 dX16_map_11 ml_X16_102 im_X16_fails se_X16_fails (by decide) hM11.1.1 ok_X16_fails rfl (Nat.le_of_ble_eq_true rfl) rfl (Nat.le_of_ble_eq_true rfl) (d' := d - 1) (by omega) (Nat.zero_le _) (Nat.zero_le _) (c_X16_failsB hM11 hS wI_ss (decide (sNv S = 60)) (nI 1) (by decide) (fun g_1 => cont_ret ?_) (fun g_1 => cont_ret ?_))
  · have hM12 := hM11.w0 (x := nI 1)
    refine wp_if_eqN 19 dX16_map_14 (by decide) (by decide) (fun c_14 => absurd c_14 (by decide)) (fun c_14 => ?_)
    refine wp_iconst (nI 0) dX16_map_17 (by decide) ?_
    refine wp_ireturn dX16_map_18 rfl ?_
    rw [show o_map S = (nI 1, nI 0, S) from by unfold o_map; rw [if_pos (of_decide_eq_true g_1)]] at hq
    exact hq _ ((IB.w mW_m).tr (IB.w mW_m)) wI_ss hM12
  · have hn60 : sNv S ≠ 60 := of_decide_eq_false g_1
    refine wp_if_eqN 19 dX16_map_14 (by decide) (by decide) (fun c_14 => ?_) (fun c_14 => absurd c_14 (by decide))
    refine wp_aload_n (i := 0) dX16_map_19 rfl rfl ?_
    refine wp_iconst (-1) dX16_map_20 (by decide) ?_
    refine wp_cV (y' := m_X16_newMap) 17 [vi (-1)] [] 0 0 dX16_map_21 ml_X16_141 im_X16_newMap se_X16_newMap (by decide) hM11.1.1 ok_X16_newMap rfl (Nat.le_of_ble_eq_true rfl) rfl (Nat.le_of_ble_eq_true rfl) (d' := d - 1) (by omega) (Nat.zero_le _) (Nat.zero_le _) (c_X16_newMapN hM11 hS (by omega) (by omega) (fun h15 hP14 hM13 => cont_ret ?_))
    refine wp_istore_n (i := 1) (lv' := [(1, vi (nI (sNv S))), (0, vr (some m))]) dX16_map_24 rfl (by decide) rfl ?_
    refine wp_aload_n (i := 0) dX16_map_25 rfl rfl ?_
    refine wp_get 17 10 (vr (some (A 10))) dX16_map_26 hM13.1.1 (by decide) (by decide) fl_X16_34 (congrArg (fun z => toV (vr z)) (hM13.1.r 10 (by decide) (by decide) (by decide) (by decide))) ?_
    refine wp_sipush (nI 341) dX16_map_29 (by decide) ?_
    refine wp_iload_n (i := 1) dX16_map_32 rfl rfl ?_
    refine wp_imulN dX16_map_33 ?_
    refine wp_aload_n (i := 0) dX16_map_34 rfl rfl ?_
    refine wp_cV (y' := m_X16_newNode) 17 [] [vi (nI (341 * (sNv S))), vr (some (A 10))] 0 0 dX16_map_35 ml_X16_94 im_X16_newNode se_X16_newNode (by decide) hM13.1.1 ok_X16_newNode rfl (Nat.le_of_ble_eq_true rfl) rfl (Nat.le_of_ble_eq_true rfl) (d' := d - 1) (by omega) (Nat.zero_le _) (Nat.zero_le _) (c_X16_newNode hM13 (mp_B (hS.new (by decide) (by omega)) (Nat.zero_le _) (fun _ => Nat.zero_le _)) (cont_ret ?_))
    have hP17 := PV.m (k := 2) (x := nI (sMd (s_mapN S) + 1)) hP14 (by decide)
    have hM16 := hM13.w2 (x := sMd (s_mapN S) + 1)
    refine wp_iastoreN 20460 dX16_map_38 (hM16.1.k 10 (by decide) (by decide) (by decide) (by decide)) (hM16.1.n 10 (by decide) (by decide) (by decide)) (by omega) (by decide) ?_
    have hP19 := PV.i (k := 341 * (sNv S)) (x := nI (sMd (s_mapN S) + 1)) hM16 hP17 10 (by decide) (by decide)
    have hM18 := hM16.w10 (k := 341 * (sNv S)) (x := (sMd (s_mapN S) + 1))
    refine wp_iload_n (i := 1) dX16_map_39 rfl rfl ?_
    refine wp_ireturn dX16_map_40 rfl ?_
    rw [show o_map S = (nI 0, nI (sNv S), s_10 (s_2 (s_mapN S) (sMd S + 1)) (341 * sNv S) (sMd S + 1)) from by unfold o_map; rw [if_neg (of_decide_eq_false g_1)]] at hq
    exact hq _ ((IB.w mW_m).tr (hP19).1) ((hP19).2.trans wI_ss) hM18
set_option maxRecDepth 100000 in
set_option maxHeartbeats 4000000 in
theorem c_X16_put {G : GG} {d bc bs : Nat} {h : Hp} {Q : Pst} {m : Nat} {A : Nat → Nat} {S : SV} (hM : MP h m A S) (hS : SB S) {v : Int32} {k : Nat} (hv : ixB v (sNv S) = true → v = nI k ∧ k < sNv S) {u : Int32} {key : Nat} (hu : ixB u 1000 = true → u = nI key ∧ key < 1000) {e : Int32} (hsz40 : ∀ j, sSz S j ≤ 64) (hfull : ixB v (sNv S) = true → (sSz S k ≤ 63 ∨ sHs S (1000 * k + key) = true ∨ sTy S k ≠ 109)) (hmd : sMd S + 5 ≤ 1000000) (hd : 6 ≤ d) (hq : PO Q h m A (o_put S v k u key e)) : WP G m_X16_put d 0 (aargs 0 [vr (some m), vi v, vi u, vi e]) [] h bc bs Q := by
  refine wp_sub [(0, vr (some m)), (1, vi v), (2, vi u), (3, vi e)] (fun _ hz => hz) ?_
  have hnv := hS.1
  refine wp_aload_n (i := 0) dX16_put_0 rfl rfl ?_
  refine wp_iconst (nI 0) dX16_put_1 (by decide) ?_
  refine wp_putI 17 0 dX16_put_2 hM.1.1 (by decide) (by decide) (by decide) fl_X16_63 rfl (fun _ _ => rfl) rfl rfl ?_
  have hM20 := hM.w0 (x := (nI 0))
  refine wp_aload_n (i := 0) dX16_put_5 rfl rfl ?_
  refine wp_aload_n (i := 0) dX16_put_6 rfl rfl ?_
  refine wp_iload_n (i := 1) dX16_put_7 rfl rfl ?_
  refine wp_cV (y' := m_X16_noValue) 17 [vi v] [vr (some m)] 0 0 dX16_put_8 ml_X16_114 im_X16_noValue se_X16_noValue (by decide) hM20.1.1 ok_X16_noValue rfl (Nat.le_of_ble_eq_true rfl) rfl (Nat.le_of_ble_eq_true rfl) (d' := d - 1) (by omega) (Nat.zero_le _) (Nat.zero_le _) (c_X16_noValue hM20 hS v (by omega) (cont_ret ?_))
  refine wp_iconst (nI 1) dX16_put_11 (by decide) ?_
  refine wp_cV (y' := m_X16_fails) 17 [vi (bI (!ixB v (sNv S))), vi (nI 1)] [] 0 0 dX16_put_12 ml_X16_102 im_X16_fails se_X16_fails (by decide) hM20.1.1 ok_X16_fails rfl (Nat.le_of_ble_eq_true rfl) rfl (Nat.le_of_ble_eq_true rfl) (d' := d - 1) (by omega) (Nat.zero_le _) (Nat.zero_le _) (c_X16_failsB hM20 hS wI_ss (!ixB v (sNv S)) (nI 1) (by decide) (fun g_1 => cont_ret ?_) (fun g_1 => cont_ret ?_))
  · have hM21 := hM20.w0 (x := nI 1)
    refine wp_if_neN 111 dX16_put_15 (by decide) (by decide) (fun c_15 => ?_) (fun c_15 => absurd c_15 (by decide))
    refine wp_iconst (nI 0) dX16_put_111 (by decide) ?_
    refine wp_ireturn dX16_put_112 rfl ?_
    rw [show o_put S v k u key e = (nI 1, nI 0, S) from by unfold o_put; rw [if_pos g_1]] at hq
    exact hq _ ((IB.w mW_m).tr (IB.w mW_m)) wI_ss hM21
  · obtain ⟨ev, hk⟩ := hv (nt_f g_1)
    have hfull9 := hfull (nt_f g_1)
    subst ev
    refine wp_if_neN 111 dX16_put_15 (by decide) (by decide) (fun c_15 => absurd c_15 (by decide)) (fun c_15 => ?_)
    refine wp_aload_n (i := 0) dX16_put_18 rfl rfl ?_
    refine wp_iload_n (i := 2) dX16_put_19 rfl rfl ?_
    refine wp_iconst (nI 0) dX16_put_20 (by decide) ?_
    refine wp_sipush (nI 999) dX16_put_21 (by decide) ?_
    refine wp_cS (y' := m_X16_in) [vi u, vi (nI 0), vi (nI 999)] [vr (some m)] 0 0 dX16_put_24 ml_X16_70 st_X16_in ok_X16_in rfl (Nat.le_of_ble_eq_true rfl) rfl (Nat.le_of_ble_eq_true rfl) (d' := d - 1) (by omega) (Nat.zero_le _) (Nat.zero_le _) (c_X16_in u (nI 0) (nI 999)  (cont_ret ?_))
    refine wp_if_eqB 37 dX16_put_27 (by decide) (fun c_27 => ?_) (fun c_27 => ?_)
    · skip
      refine wp_iconst (nI 1) dX16_put_37 (by decide) ?_
      refine wp_goto 42 dX16_put_38 (by decide) ?_
      refine wp_iconst (nI 2) dX16_put_42 (by decide) ?_
      refine wp_cV (y' := m_X16_fails) 17 [vi (nI 1), vi (nI 2)] [] 0 0 dX16_put_43 ml_X16_102 im_X16_fails se_X16_fails (by decide) hM20.1.1 ok_X16_fails rfl (Nat.le_of_ble_eq_true rfl) rfl (Nat.le_of_ble_eq_true rfl) (d' := d - 1) (by omega) (Nat.zero_le _) (Nat.zero_le _) (c_X16_failsT hM20 hS wI_ss (nI 2) (by decide) (cont_ret ?_))
      have hM22 := hM20.w0 (x := nI 2)
      refine wp_if_neN 111 dX16_put_46 (by decide) (by decide) (fun c_46 => ?_) (fun c_46 => absurd c_46 (by decide))
      refine wp_iconst (nI 0) dX16_put_111 (by decide) ?_
      refine wp_ireturn dX16_put_112 rfl ?_
      rw [show o_put S (nI k) k u key e = (nI 2, nI 0, S) from by unfold o_put; rw [if_neg (fun z => Bool.false_ne_true (g_1.symm.trans z)), if_pos (show (ixB u 1000 && elB e) = false from by first | (rw [show ixB u 1000 = false from c_27]; rfl) | (rw [show elB e = false from by simpa using c_34, Bool.and_false]))]] at hq
      exact hq _ ((IB.w mW_m).tr (IB.w mW_m)) wI_ss hM22
    · skip
      refine wp_iload_n (i := 3) dX16_put_30 rfl rfl ?_
      refine wp_cS (y' := m_X16_noElement) [vi e] [vr (some m)] 0 0 dX16_put_31 ml_X16_118 st_X16_noElement ok_X16_noElement rfl (Nat.le_of_ble_eq_true rfl) rfl (Nat.le_of_ble_eq_true rfl) (d' := d - 1) (by omega) (Nat.zero_le _) (Nat.zero_le _) (c_X16_noElement e (by omega) (cont_ret ?_))
      refine wp_if_eqB 41 dX16_put_34 (by decide) (fun c_34 => ?_) (fun c_34 => ?_)
      · skip
        refine wp_iconst (nI 0) dX16_put_41 (by decide) ?_
        refine wp_iconst (nI 2) dX16_put_42 (by decide) ?_
        refine wp_cV (y' := m_X16_fails) 17 [vi (nI 0), vi (nI 2)] [] 0 0 dX16_put_43 ml_X16_102 im_X16_fails se_X16_fails (by decide) hM20.1.1 ok_X16_fails rfl (Nat.le_of_ble_eq_true rfl) rfl (Nat.le_of_ble_eq_true rfl) (d' := d - 1) (by omega) (Nat.zero_le _) (Nat.zero_le _) (c_X16_failsF hM20 hS wI_ss (nI 2) (by decide) (cont_ret ?_))
        obtain ⟨eu, hkey⟩ := hu c_27
        subst eu
        refine wp_if_neN 111 dX16_put_46 (by decide) (by decide) (fun c_46 => absurd c_46 (by decide)) (fun c_46 => ?_)
        refine wp_aload_n (i := 0) dX16_put_49 rfl rfl ?_
        refine wp_aload_n (i := 0) dX16_put_50 rfl rfl ?_
        refine wp_get 17 3 (vr (some (A 3))) dX16_put_51 hM20.1.1 (by decide) (by decide) fl_X16_7 (congrArg (fun z => toV (vr z)) (hM20.1.r 3 (by decide) (by decide) (by decide) (by decide))) ?_
        refine wp_iload_n (i := 1) dX16_put_54 rfl rfl ?_
        refine wp_caloadN 60 (nI (sTy S k)) dX16_put_55 (hM20.1.k 3 (by decide) (by decide) (by decide) (by decide)) (hM20.1.n 3 (by decide) (by decide) (by decide)) (by omega) (by decide) (hM20.2.2.2.1 k) ?_
        refine wp_bipush (nI 109) dX16_put_56 (by decide) ?_
        refine wp_icmp_neN 87 dX16_put_58 (by decide) (ty_bd hS k) (by decide) (fun c_58 => ?_) (fun c_58 => ?_)
        · skip
          refine wp_iconst (nI 1) dX16_put_87 (by decide) ?_
          refine wp_goto 92 dX16_put_88 (by decide) ?_
          refine wp_iconst (nI 3) dX16_put_92 (by decide) ?_
          refine wp_cV (y' := m_X16_fails) 17 [vi (nI 1), vi (nI 3)] [] 0 0 dX16_put_93 ml_X16_102 im_X16_fails se_X16_fails (by decide) hM20.1.1 ok_X16_fails rfl (Nat.le_of_ble_eq_true rfl) rfl (Nat.le_of_ble_eq_true rfl) (d' := d - 1) (by omega) (Nat.zero_le _) (Nat.zero_le _) (c_X16_failsT hM20 hS wI_ss (nI 3) (by decide) (cont_ret ?_))
          have hM24 := hM20.w0 (x := nI 3)
          refine wp_if_neN 111 dX16_put_96 (by decide) (by decide) (fun c_96 => ?_) (fun c_96 => absurd c_96 (by decide))
          refine wp_iconst (nI 0) dX16_put_111 (by decide) ?_
          refine wp_ireturn dX16_put_112 rfl ?_
          rw [show o_put S (nI k) k (nI key) key e = (nI 3, nI 0, S) from by unfold o_put; rw [if_neg (fun z => Bool.false_ne_true (g_1.symm.trans z)), if_neg (show ¬ (ixB (nI key) 1000 && elB e) = false from fun z => Bool.false_ne_true (z.symm.trans (by rw [show ixB (nI key) 1000 = true from c_27, show elB e = true from by simpa using c_34]; rfl))), if_pos (by first | exact Or.inl c_58 | exact Or.inr ⟨c_73, c_84⟩)]] at hq
          exact hq _ ((IB.w mW_m).tr (IB.w mW_m)) wI_ss hM24
        · skip
          refine wp_aload_n (i := 0) dX16_put_61 rfl rfl ?_
          refine wp_get 17 8 (vr (some (A 8))) dX16_put_62 hM20.1.1 (by decide) (by decide) fl_X16_28 (congrArg (fun z => toV (vr z)) (hM20.1.r 8 (by decide) (by decide) (by decide) (by decide))) ?_
          refine wp_sipush (nI 1000) dX16_put_65 (by decide) ?_
          refine wp_iload_n (i := 1) dX16_put_68 rfl rfl ?_
          refine wp_imulN dX16_put_69 ?_
          refine wp_iload_n (i := 2) dX16_put_70 rfl rfl ?_
          refine wp_iaddN dX16_put_71 ?_
          refine wp_zaloadN 60000 (bI (sHs S ((1000 * k) + key))) dX16_put_72 (hM20.1.k 8 (by decide) (by decide) (by decide) (by decide)) (hM20.1.n 8 (by decide) (by decide) (by decide)) (by omega) (by decide) (hM20.2.2.2.2.2.2.2.2.1 ((1000 * k) + key)) ?_
          refine wp_if_neB 91 dX16_put_73 (by decide) (fun c_73 => ?_) (fun c_73 => ?_)
          · skip
            refine wp_iconst (nI 0) dX16_put_91 (by decide) ?_
            refine wp_iconst (nI 3) dX16_put_92 (by decide) ?_
            refine wp_cV (y' := m_X16_fails) 17 [vi (nI 0), vi (nI 3)] [] 0 0 dX16_put_93 ml_X16_102 im_X16_fails se_X16_fails (by decide) hM20.1.1 ok_X16_fails rfl (Nat.le_of_ble_eq_true rfl) rfl (Nat.le_of_ble_eq_true rfl) (d' := d - 1) (by omega) (Nat.zero_le _) (Nat.zero_le _) (c_X16_failsF hM20 hS wI_ss (nI 3) (by decide) (cont_ret ?_))
            skip
            refine wp_if_neN 111 dX16_put_96 (by decide) (by decide) (fun c_96 => absurd c_96 (by decide)) (fun c_96 => ?_)
            refine wp_aload_n (i := 0) dX16_put_99 rfl rfl ?_
            refine wp_aload_n (i := 0) dX16_put_100 rfl rfl ?_
            refine wp_cV (y' := m_X16_isFull) 17 [] [vr (some m)] 0 0 dX16_put_101 ml_X16_98 im_X16_isFull se_X16_isFull (by decide) hM20.1.1 ok_X16_isFull rfl (Nat.le_of_ble_eq_true rfl) rfl (Nat.le_of_ble_eq_true rfl) (d' := d - 1) (by omega) (Nat.zero_le _) (Nat.zero_le _) (c_X16_isFull hM20 hS (cont_ret ?_))
            refine wp_iconst (nI 4) dX16_put_104 (by decide) ?_
            refine wp_cV (y' := m_X16_fails) 17 [vi (bI (decide (sNv S = 60))), vi (nI 4)] [] 0 0 dX16_put_105 ml_X16_102 im_X16_fails se_X16_fails (by decide) hM20.1.1 ok_X16_fails rfl (Nat.le_of_ble_eq_true rfl) rfl (Nat.le_of_ble_eq_true rfl) (d' := d - 1) (by omega) (Nat.zero_le _) (Nat.zero_le _) (c_X16_failsB hM20 hS wI_ss (decide (sNv S = 60)) (nI 4) (by decide) (fun g_4 => cont_ret ?_) (fun g_4 => cont_ret ?_))
            · have hM26 := hM20.w0 (x := nI 4)
              refine wp_if_eqN 113 dX16_put_108 (by decide) (by decide) (fun c_108 => absurd c_108 (by decide)) (fun c_108 => ?_)
              refine wp_iconst (nI 0) dX16_put_111 (by decide) ?_
              refine wp_ireturn dX16_put_112 rfl ?_
              rw [show o_put S (nI k) k (nI key) key e = (nI 4, nI 0, S) from by unfold o_put; rw [if_neg (fun z => Bool.false_ne_true (g_1.symm.trans z)), if_neg (show ¬ (ixB (nI key) 1000 && elB e) = false from fun z => Bool.false_ne_true (z.symm.trans (by rw [show ixB (nI key) 1000 = true from c_27, show elB e = true from by simpa using c_34]; rfl))), if_neg (fun z => z.elim (fun y => y c_58) (fun y => Bool.false_ne_true (y.1.symm.trans c_73))), if_pos (of_decide_eq_true g_4)]] at hq
              exact hq _ ((IB.w mW_m).tr (IB.w mW_m)) wI_ss hM26
            · have hn60 : sNv S ≠ 60 := of_decide_eq_false g_4
              have r1 : blk (sHs S) (fun i => sHs S (1000 * k + i)) 1000 (sNv S) 1000 (1000 * sNv S + key) = sHs S (1000 * k + key) := blk_i hkey
              have r2 : blk (sOf S) (fun i => sOf S (1000 * k + i)) 1000 (sNv S) 1000 (1000 * sNv S + key) = sOf S (1000 * k + key) := blk_i hkey
              have r3 : va_up (va_up (sSz S) (sNv S) 0) (sNv S) (sSz S k) (sNv S) = sSz S k := va_up_self _ _ _
              refine wp_if_eqN 113 dX16_put_108 (by decide) (by decide) (fun c_108 => ?_) (fun c_108 => absurd c_108 (by decide))
              have hz64 := hsz40 k
              refine wp_aload_n (i := 0) dX16_put_113 rfl rfl ?_
              refine wp_iload_n (i := 1) dX16_put_114 rfl rfl ?_
              refine wp_cV (y' := m_X16_newMap) 17 [vi (nI k)] [] 0 0 dX16_put_115 ml_X16_141 im_X16_newMap se_X16_newMap (by decide) hM20.1.1 ok_X16_newMap rfl (Nat.le_of_ble_eq_true rfl) rfl (Nat.le_of_ble_eq_true rfl) (d' := d - 1) (by omega) (Nat.zero_le _) (Nat.zero_le _) (c_X16_newMapS hM20 hS hk (by omega) (by omega) (fun h29 hP28 hM27 => cont_ret ?_))
              refine wp_istore (i := 4) (lv' := [(4, vi (nI (sNv S))), (0, vr (some m)), (1, vi (nI k)), (2, vi (nI key)), (3, vi e)]) dX16_put_118 (by decide) rfl ?_
              refine wp_sipush (nI 1000) dX16_put_120 (by decide) ?_
              refine wp_iload (i := 4) dX16_put_123 rfl ?_
              refine wp_imulN dX16_put_125 ?_
              refine wp_iload_n (i := 2) dX16_put_126 rfl rfl ?_
              refine wp_iaddN dX16_put_127 ?_
              refine wp_istore (i := 5) (lv' := [(5, vi (nI ((1000 * (sNv S)) + key))), (4, vi (nI (sNv S))), (0, vr (some m)), (1, vi (nI k)), (2, vi (nI key)), (3, vi e)]) dX16_put_128 (by decide) rfl ?_
              refine wp_aload_n (i := 0) dX16_put_130 rfl rfl ?_
              refine wp_get 17 8 (vr (some (A 8))) dX16_put_131 hM27.1.1 (by decide) (by decide) fl_X16_28 (congrArg (fun z => toV (vr z)) (hM27.1.r 8 (by decide) (by decide) (by decide) (by decide))) ?_
              refine wp_iload (i := 5) dX16_put_134 rfl ?_
              refine wp_zaloadN 60000 (bI (sHs S (1000 * k + key))) dX16_put_136 (hM27.1.k 8 (by decide) (by decide) (by decide) (by decide)) (hM27.1.n 8 (by decide) (by decide) (by decide)) (by omega) (by decide) ((hM27.2.2.2.2.2.2.2.2.1 (1000 * sNv S + key)).trans (congrArg bI r1)) ?_
              refine wp_if_eqB 155 dX16_put_137 (by decide) (fun c_137 => ?_) (fun c_137 => ?_)
              · exact absurd (c_137.symm.trans c_73) (by decide)
              · skip
                refine wp_aload_n (i := 0) dX16_put_140 rfl rfl ?_
                refine wp_get 17 9 (vr (some (A 9))) dX16_put_141 hM27.1.1 (by decide) (by decide) fl_X16_31 (congrArg (fun z => toV (vr z)) (hM27.1.r 9 (by decide) (by decide) (by decide) (by decide))) ?_
                refine wp_iload (i := 5) dX16_put_144 rfl ?_
                refine wp_ialoadN 60000 (sOf S (1000 * k + key)) dX16_put_146 (hM27.1.k 9 (by decide) (by decide) (by decide) (by decide)) (hM27.1.n 9 (by decide) (by decide) (by decide)) (by omega) (by decide) ((hM27.2.2.2.2.2.2.2.2.2.1 (1000 * sNv S + key)).trans r2) ?_
                refine wp_iload_n (i := 3) dX16_put_147 rfl rfl ?_
                refine wp_icmp_ne 155 dX16_put_148 (by decide) (fun c_148 => ?_) (fun c_148 => ?_)
                · skip
                  refine wp_iconst (nI 0) dX16_put_155 (by decide) ?_
                  refine wp_istore (i := 6) (lv' := [(6, vi (nI 0)), (5, vi (nI ((1000 * (sNv S)) + key))), (4, vi (nI (sNv S))), (0, vr (some m)), (1, vi (nI k)), (2, vi (nI key)), (3, vi e)]) dX16_put_156 (by decide) rfl ?_
                  refine wp_aload_n (i := 0) dX16_put_158 rfl rfl ?_
                  refine wp_get 17 4 (vr (some (A 4))) dX16_put_159 hM27.1.1 (by decide) (by decide) fl_X16_13 (congrArg (fun z => toV (vr z)) (hM27.1.r 4 (by decide) (by decide) (by decide) (by decide))) ?_
                  refine wp_iload (i := 4) dX16_put_162 rfl ?_
                  refine wp_dup2 dX16_put_164 ?_
                  refine wp_ialoadN 60 (nI (sSz S k)) dX16_put_165 (hM27.1.k 4 (by decide) (by decide) (by decide) (by decide)) (hM27.1.n 4 (by decide) (by decide) (by decide)) (by omega) (by decide) ((hM27.2.2.2.2.1 (sNv S)).trans (congrArg nI r3)) ?_
                  refine wp_aload_n (i := 0) dX16_put_166 rfl rfl ?_
                  refine wp_get 17 8 (vr (some (A 8))) dX16_put_167 hM27.1.1 (by decide) (by decide) fl_X16_28 (congrArg (fun z => toV (vr z)) (hM27.1.r 8 (by decide) (by decide) (by decide) (by decide))) ?_
                  refine wp_iload (i := 5) dX16_put_170 rfl ?_
                  refine wp_zaloadN 60000 (bI (sHs S (1000 * k + key))) dX16_put_172 (hM27.1.k 8 (by decide) (by decide) (by decide) (by decide)) (hM27.1.n 8 (by decide) (by decide) (by decide)) (by omega) (by decide) ((hM27.2.2.2.2.2.2.2.2.1 (1000 * sNv S + key)).trans (congrArg bI r1)) ?_
                  refine wp_if_eqB 180 dX16_put_173 (by decide) (fun c_173 => ?_) (fun c_173 => ?_)
                  · exact absurd (c_173.symm.trans c_137) (by decide)
                  · skip
                    refine wp_iconst (nI 0) dX16_put_176 (by decide) ?_
                    refine wp_goto 181 dX16_put_177 (by decide) ?_
                    refine wp_iaddN dX16_put_181 ?_
                    refine wp_iastoreN 60 dX16_put_182 (hM27.1.k 4 (by decide) (by decide) (by decide) (by decide)) (hM27.1.n 4 (by decide) (by decide) (by decide)) (by omega) (by decide) ?_
                    have hP31 := PV.i (k := sNv S) (x := nI ((sSz S k) + 0)) hM27 hP28 4 (by decide) (by decide)
                    have hM30 := hM27.w4 (k := sNv S) (x := ((sSz S k) + 0))
                    refine wp_aload_n (i := 0) dX16_put_183 rfl rfl ?_
                    refine wp_get 17 8 (vr (some (A 8))) dX16_put_184 hM30.1.1 (by decide) (by decide) fl_X16_28 (congrArg (fun z => toV (vr z)) (hM30.1.r 8 (by decide) (by decide) (by decide) (by decide))) ?_
                    refine wp_iload (i := 5) dX16_put_187 rfl ?_
                    refine wp_iconst (nI 1) dX16_put_189 (by decide) ?_
                    refine wp_zastoreN 60000 dX16_put_190 (hM30.1.k 8 (by decide) (by decide) (by decide) (by decide)) (hM30.1.n 8 (by decide) (by decide) (by decide)) (by omega) (by decide) (by decide) ?_
                    have hP33 := PV.i (k := (1000 * (sNv S)) + key) (x := bI true) hM30 hP31 8 (by decide) (by decide)
                    have hM32 := hM30.w8 (k := (1000 * (sNv S)) + key) (x := true)
                    refine wp_aload_n (i := 0) dX16_put_191 rfl rfl ?_
                    refine wp_get 17 9 (vr (some (A 9))) dX16_put_192 hM32.1.1 (by decide) (by decide) fl_X16_31 (congrArg (fun z => toV (vr z)) (hM32.1.r 9 (by decide) (by decide) (by decide) (by decide))) ?_
                    refine wp_iload (i := 5) dX16_put_195 rfl ?_
                    refine wp_iload_n (i := 3) dX16_put_197 rfl rfl ?_
                    refine wp_iastoreN 60000 dX16_put_198 (hM32.1.k 9 (by decide) (by decide) (by decide) (by decide)) (hM32.1.n 9 (by decide) (by decide) (by decide)) (by omega) (by decide) ?_
                    have hP35 := PV.i (k := (1000 * (sNv S)) + key) (x := e) hM32 hP33 9 (by decide) (by decide)
                    have hM34 := hM32.w9 (k := (1000 * (sNv S)) + key) (x := e)
                    refine wp_iload (i := 6) dX16_put_199 rfl ?_
                    refine wp_if_neN 211 dX16_put_201 (by decide) (by decide) (fun c_201 => absurd c_201 (by decide)) (fun c_201 => ?_)
                    refine wp_aload_n (i := 0) dX16_put_204 rfl rfl ?_
                    refine wp_iload (i := 4) dX16_put_205 rfl ?_
                    refine wp_iload_n (i := 2) dX16_put_207 rfl rfl ?_
                    refine wp_cV (y' := m_X16_changeNodes) 17 [vi (nI (sNv S)), vi (nI key)] [] 0 0 dX16_put_208 ml_X16_150 im_X16_changeNodes se_X16_changeNodes (by decide) hM34.1.1 ok_X16_changeNodes rfl (Nat.le_of_ble_eq_true rfl) rfl (Nat.le_of_ble_eq_true rfl) (d' := d - 1) (by omega) (Nat.zero_le _) (Nat.zero_le _) (c_X16_changeNodes (S := ptS S k key e) (by unfold ptS; rw [if_pos c_137]; exact hM34) (by unfold ptS; exact ((mp_B (hS.new (by decide) (by omega)) (hS.2.2.2.1 _) (fun _ => hS.2.2.2.2.2 _)).w4 (by rw [if_pos c_137]; omega))) hmd (by omega) (by omega) (by omega) (fun h38 hP37 hM36 => cont_void ?_))
                    refine wp_iload (i := 4) dX16_put_211 rfl ?_
                    refine wp_ireturn dX16_put_213 rfl ?_
                    rw [show o_put S (nI k) k (nI key) key e = (nI 0, nI (sNv S), cnS (ptS S k key e) (sNv S) key 5) from by unfold o_put; rw [if_neg (fun z => Bool.false_ne_true (g_1.symm.trans z)), if_neg (show ¬ (ixB (nI key) 1000 && elB e) = false from fun z => Bool.false_ne_true (z.symm.trans (by rw [show ixB (nI key) 1000 = true from c_27, show elB e = true from by simpa using c_34]; rfl))), if_neg (fun z => z.elim (fun y => y c_58) (fun y => Bool.false_ne_true (y.1.symm.trans c_73))), if_neg (of_decide_eq_false g_4), if_neg (fun z => c_148 z.2)]] at hq
                    exact hq _ ((IB.w mW_m).tr ((hP35).tr hP37).1) (((hP35).tr hP37).2.trans wI_ss) hM36
                · skip
                  refine wp_iconst (nI 1) dX16_put_151 (by decide) ?_
                  refine wp_goto 156 dX16_put_152 (by decide) ?_
                  refine wp_istore (i := 6) (lv' := [(6, vi (nI 1)), (5, vi (nI ((1000 * (sNv S)) + key))), (4, vi (nI (sNv S))), (0, vr (some m)), (1, vi (nI k)), (2, vi (nI key)), (3, vi e)]) dX16_put_156 (by decide) rfl ?_
                  refine wp_aload_n (i := 0) dX16_put_158 rfl rfl ?_
                  refine wp_get 17 4 (vr (some (A 4))) dX16_put_159 hM27.1.1 (by decide) (by decide) fl_X16_13 (congrArg (fun z => toV (vr z)) (hM27.1.r 4 (by decide) (by decide) (by decide) (by decide))) ?_
                  refine wp_iload (i := 4) dX16_put_162 rfl ?_
                  refine wp_dup2 dX16_put_164 ?_
                  refine wp_ialoadN 60 (nI (sSz S k)) dX16_put_165 (hM27.1.k 4 (by decide) (by decide) (by decide) (by decide)) (hM27.1.n 4 (by decide) (by decide) (by decide)) (by omega) (by decide) ((hM27.2.2.2.2.1 (sNv S)).trans (congrArg nI r3)) ?_
                  refine wp_aload_n (i := 0) dX16_put_166 rfl rfl ?_
                  refine wp_get 17 8 (vr (some (A 8))) dX16_put_167 hM27.1.1 (by decide) (by decide) fl_X16_28 (congrArg (fun z => toV (vr z)) (hM27.1.r 8 (by decide) (by decide) (by decide) (by decide))) ?_
                  refine wp_iload (i := 5) dX16_put_170 rfl ?_
                  refine wp_zaloadN 60000 (bI (sHs S (1000 * k + key))) dX16_put_172 (hM27.1.k 8 (by decide) (by decide) (by decide) (by decide)) (hM27.1.n 8 (by decide) (by decide) (by decide)) (by omega) (by decide) ((hM27.2.2.2.2.2.2.2.2.1 (1000 * sNv S + key)).trans (congrArg bI r1)) ?_
                  refine wp_if_eqB 180 dX16_put_173 (by decide) (fun c_173 => ?_) (fun c_173 => ?_)
                  · exact absurd (c_173.symm.trans c_137) (by decide)
                  · skip
                    refine wp_iconst (nI 0) dX16_put_176 (by decide) ?_
                    refine wp_goto 181 dX16_put_177 (by decide) ?_
                    refine wp_iaddN dX16_put_181 ?_
                    refine wp_iastoreN 60 dX16_put_182 (hM27.1.k 4 (by decide) (by decide) (by decide) (by decide)) (hM27.1.n 4 (by decide) (by decide) (by decide)) (by omega) (by decide) ?_
                    have hP40 := PV.i (k := sNv S) (x := nI ((sSz S k) + 0)) hM27 hP28 4 (by decide) (by decide)
                    have hM39 := hM27.w4 (k := sNv S) (x := ((sSz S k) + 0))
                    refine wp_aload_n (i := 0) dX16_put_183 rfl rfl ?_
                    refine wp_get 17 8 (vr (some (A 8))) dX16_put_184 hM39.1.1 (by decide) (by decide) fl_X16_28 (congrArg (fun z => toV (vr z)) (hM39.1.r 8 (by decide) (by decide) (by decide) (by decide))) ?_
                    refine wp_iload (i := 5) dX16_put_187 rfl ?_
                    refine wp_iconst (nI 1) dX16_put_189 (by decide) ?_
                    refine wp_zastoreN 60000 dX16_put_190 (hM39.1.k 8 (by decide) (by decide) (by decide) (by decide)) (hM39.1.n 8 (by decide) (by decide) (by decide)) (by omega) (by decide) (by decide) ?_
                    have hP42 := PV.i (k := (1000 * (sNv S)) + key) (x := bI true) hM39 hP40 8 (by decide) (by decide)
                    have hM41 := hM39.w8 (k := (1000 * (sNv S)) + key) (x := true)
                    refine wp_aload_n (i := 0) dX16_put_191 rfl rfl ?_
                    refine wp_get 17 9 (vr (some (A 9))) dX16_put_192 hM41.1.1 (by decide) (by decide) fl_X16_31 (congrArg (fun z => toV (vr z)) (hM41.1.r 9 (by decide) (by decide) (by decide) (by decide))) ?_
                    refine wp_iload (i := 5) dX16_put_195 rfl ?_
                    refine wp_iload_n (i := 3) dX16_put_197 rfl rfl ?_
                    refine wp_iastoreN 60000 dX16_put_198 (hM41.1.k 9 (by decide) (by decide) (by decide) (by decide)) (hM41.1.n 9 (by decide) (by decide) (by decide)) (by omega) (by decide) ?_
                    have hP44 := PV.i (k := (1000 * (sNv S)) + key) (x := e) hM41 hP42 9 (by decide) (by decide)
                    have hM43 := hM41.w9 (k := (1000 * (sNv S)) + key) (x := e)
                    refine wp_iload (i := 6) dX16_put_199 rfl ?_
                    refine wp_if_neN 211 dX16_put_201 (by decide) (by decide) (fun c_201 => ?_) (fun c_201 => absurd c_201 (by decide))
                    refine wp_iload (i := 4) dX16_put_211 rfl ?_
                    refine wp_ireturn dX16_put_213 rfl ?_
                    rw [show o_put S (nI k) k (nI key) key e = (nI 0, nI (sNv S), ptS S k key e) from by unfold o_put; rw [if_neg (fun z => Bool.false_ne_true (g_1.symm.trans z)), if_neg (show ¬ (ixB (nI key) 1000 && elB e) = false from fun z => Bool.false_ne_true (z.symm.trans (by rw [show ixB (nI key) 1000 = true from c_27, show elB e = true from by simpa using c_34]; rfl))), if_neg (fun z => z.elim (fun y => y c_58) (fun y => Bool.false_ne_true (y.1.symm.trans c_73))), if_neg (of_decide_eq_false g_4), if_pos ⟨c_137, c_148⟩]] at hq
                    exact hq _ ((IB.w mW_m).tr (hP44).1) ((hP44).2.trans wI_ss) (by unfold ptS; rw [if_pos c_137]; exact hM43)
          · skip
            refine wp_aload_n (i := 0) dX16_put_76 rfl rfl ?_
            refine wp_get 17 4 (vr (some (A 4))) dX16_put_77 hM20.1.1 (by decide) (by decide) fl_X16_13 (congrArg (fun z => toV (vr z)) (hM20.1.r 4 (by decide) (by decide) (by decide) (by decide))) ?_
            refine wp_iload_n (i := 1) dX16_put_80 rfl rfl ?_
            refine wp_ialoadN 60 (nI (sSz S k)) dX16_put_81 (hM20.1.k 4 (by decide) (by decide) (by decide) (by decide)) (hM20.1.n 4 (by decide) (by decide) (by decide)) (by omega) (by decide) (hM20.2.2.2.2.1 k) ?_
            refine wp_bipush (nI 40) dX16_put_82 (by decide) ?_
            refine wp_icmp_neN 91 dX16_put_84 (by decide) (sz_bd hS k) (by decide) (fun c_84 => ?_) (fun c_84 => ?_)
            · skip
              refine wp_iconst (nI 0) dX16_put_91 (by decide) ?_
              refine wp_iconst (nI 3) dX16_put_92 (by decide) ?_
              refine wp_cV (y' := m_X16_fails) 17 [vi (nI 0), vi (nI 3)] [] 0 0 dX16_put_93 ml_X16_102 im_X16_fails se_X16_fails (by decide) hM20.1.1 ok_X16_fails rfl (Nat.le_of_ble_eq_true rfl) rfl (Nat.le_of_ble_eq_true rfl) (d' := d - 1) (by omega) (Nat.zero_le _) (Nat.zero_le _) (c_X16_failsF hM20 hS wI_ss (nI 3) (by decide) (cont_ret ?_))
              skip
              refine wp_if_neN 111 dX16_put_96 (by decide) (by decide) (fun c_96 => absurd c_96 (by decide)) (fun c_96 => ?_)
              refine wp_aload_n (i := 0) dX16_put_99 rfl rfl ?_
              refine wp_aload_n (i := 0) dX16_put_100 rfl rfl ?_
              refine wp_cV (y' := m_X16_isFull) 17 [] [vr (some m)] 0 0 dX16_put_101 ml_X16_98 im_X16_isFull se_X16_isFull (by decide) hM20.1.1 ok_X16_isFull rfl (Nat.le_of_ble_eq_true rfl) rfl (Nat.le_of_ble_eq_true rfl) (d' := d - 1) (by omega) (Nat.zero_le _) (Nat.zero_le _) (c_X16_isFull hM20 hS (cont_ret ?_))
              refine wp_iconst (nI 4) dX16_put_104 (by decide) ?_
              refine wp_cV (y' := m_X16_fails) 17 [vi (bI (decide (sNv S = 60))), vi (nI 4)] [] 0 0 dX16_put_105 ml_X16_102 im_X16_fails se_X16_fails (by decide) hM20.1.1 ok_X16_fails rfl (Nat.le_of_ble_eq_true rfl) rfl (Nat.le_of_ble_eq_true rfl) (d' := d - 1) (by omega) (Nat.zero_le _) (Nat.zero_le _) (c_X16_failsB hM20 hS wI_ss (decide (sNv S = 60)) (nI 4) (by decide) (fun g_4 => cont_ret ?_) (fun g_4 => cont_ret ?_))
              · have hM46 := hM20.w0 (x := nI 4)
                refine wp_if_eqN 113 dX16_put_108 (by decide) (by decide) (fun c_108 => absurd c_108 (by decide)) (fun c_108 => ?_)
                refine wp_iconst (nI 0) dX16_put_111 (by decide) ?_
                refine wp_ireturn dX16_put_112 rfl ?_
                rw [show o_put S (nI k) k (nI key) key e = (nI 4, nI 0, S) from by unfold o_put; rw [if_neg (fun z => Bool.false_ne_true (g_1.symm.trans z)), if_neg (show ¬ (ixB (nI key) 1000 && elB e) = false from fun z => Bool.false_ne_true (z.symm.trans (by rw [show ixB (nI key) 1000 = true from c_27, show elB e = true from by simpa using c_34]; rfl))), if_neg (fun z => z.elim (fun y => y c_58) (fun y => c_84 y.2)), if_pos (of_decide_eq_true g_4)]] at hq
                exact hq _ ((IB.w mW_m).tr (IB.w mW_m)) wI_ss hM46
              · have hn60 : sNv S ≠ 60 := of_decide_eq_false g_4
                have r1 : blk (sHs S) (fun i => sHs S (1000 * k + i)) 1000 (sNv S) 1000 (1000 * sNv S + key) = sHs S (1000 * k + key) := blk_i hkey
                have r2 : blk (sOf S) (fun i => sOf S (1000 * k + i)) 1000 (sNv S) 1000 (1000 * sNv S + key) = sOf S (1000 * k + key) := blk_i hkey
                have r3 : va_up (va_up (sSz S) (sNv S) 0) (sNv S) (sSz S k) (sNv S) = sSz S k := va_up_self _ _ _
                refine wp_if_eqN 113 dX16_put_108 (by decide) (by decide) (fun c_108 => ?_) (fun c_108 => absurd c_108 (by decide))
                have hz63 : sSz S k ≤ 63 := by
                  rcases hfull9 with z | z | z
                  · exact z
                  · exact absurd (c_73.symm.trans z) (by decide)
                  · exact absurd c_58 z
                refine wp_aload_n (i := 0) dX16_put_113 rfl rfl ?_
                refine wp_iload_n (i := 1) dX16_put_114 rfl rfl ?_
                refine wp_cV (y' := m_X16_newMap) 17 [vi (nI k)] [] 0 0 dX16_put_115 ml_X16_141 im_X16_newMap se_X16_newMap (by decide) hM20.1.1 ok_X16_newMap rfl (Nat.le_of_ble_eq_true rfl) rfl (Nat.le_of_ble_eq_true rfl) (d' := d - 1) (by omega) (Nat.zero_le _) (Nat.zero_le _) (c_X16_newMapS hM20 hS hk (by omega) (by omega) (fun h49 hP48 hM47 => cont_ret ?_))
                refine wp_istore (i := 4) (lv' := [(4, vi (nI (sNv S))), (0, vr (some m)), (1, vi (nI k)), (2, vi (nI key)), (3, vi e)]) dX16_put_118 (by decide) rfl ?_
                refine wp_sipush (nI 1000) dX16_put_120 (by decide) ?_
                refine wp_iload (i := 4) dX16_put_123 rfl ?_
                refine wp_imulN dX16_put_125 ?_
                refine wp_iload_n (i := 2) dX16_put_126 rfl rfl ?_
                refine wp_iaddN dX16_put_127 ?_
                refine wp_istore (i := 5) (lv' := [(5, vi (nI ((1000 * (sNv S)) + key))), (4, vi (nI (sNv S))), (0, vr (some m)), (1, vi (nI k)), (2, vi (nI key)), (3, vi e)]) dX16_put_128 (by decide) rfl ?_
                refine wp_aload_n (i := 0) dX16_put_130 rfl rfl ?_
                refine wp_get 17 8 (vr (some (A 8))) dX16_put_131 hM47.1.1 (by decide) (by decide) fl_X16_28 (congrArg (fun z => toV (vr z)) (hM47.1.r 8 (by decide) (by decide) (by decide) (by decide))) ?_
                refine wp_iload (i := 5) dX16_put_134 rfl ?_
                refine wp_zaloadN 60000 (bI (sHs S (1000 * k + key))) dX16_put_136 (hM47.1.k 8 (by decide) (by decide) (by decide) (by decide)) (hM47.1.n 8 (by decide) (by decide) (by decide)) (by omega) (by decide) ((hM47.2.2.2.2.2.2.2.2.1 (1000 * sNv S + key)).trans (congrArg bI r1)) ?_
                refine wp_if_eqB 155 dX16_put_137 (by decide) (fun c_137 => ?_) (fun c_137 => ?_)
                · skip
                  refine wp_iconst (nI 0) dX16_put_155 (by decide) ?_
                  refine wp_istore (i := 6) (lv' := [(6, vi (nI 0)), (5, vi (nI ((1000 * (sNv S)) + key))), (4, vi (nI (sNv S))), (0, vr (some m)), (1, vi (nI k)), (2, vi (nI key)), (3, vi e)]) dX16_put_156 (by decide) rfl ?_
                  refine wp_aload_n (i := 0) dX16_put_158 rfl rfl ?_
                  refine wp_get 17 4 (vr (some (A 4))) dX16_put_159 hM47.1.1 (by decide) (by decide) fl_X16_13 (congrArg (fun z => toV (vr z)) (hM47.1.r 4 (by decide) (by decide) (by decide) (by decide))) ?_
                  refine wp_iload (i := 4) dX16_put_162 rfl ?_
                  refine wp_dup2 dX16_put_164 ?_
                  refine wp_ialoadN 60 (nI (sSz S k)) dX16_put_165 (hM47.1.k 4 (by decide) (by decide) (by decide) (by decide)) (hM47.1.n 4 (by decide) (by decide) (by decide)) (by omega) (by decide) ((hM47.2.2.2.2.1 (sNv S)).trans (congrArg nI r3)) ?_
                  refine wp_aload_n (i := 0) dX16_put_166 rfl rfl ?_
                  refine wp_get 17 8 (vr (some (A 8))) dX16_put_167 hM47.1.1 (by decide) (by decide) fl_X16_28 (congrArg (fun z => toV (vr z)) (hM47.1.r 8 (by decide) (by decide) (by decide) (by decide))) ?_
                  refine wp_iload (i := 5) dX16_put_170 rfl ?_
                  refine wp_zaloadN 60000 (bI (sHs S (1000 * k + key))) dX16_put_172 (hM47.1.k 8 (by decide) (by decide) (by decide) (by decide)) (hM47.1.n 8 (by decide) (by decide) (by decide)) (by omega) (by decide) ((hM47.2.2.2.2.2.2.2.2.1 (1000 * sNv S + key)).trans (congrArg bI r1)) ?_
                  refine wp_if_eqB 180 dX16_put_173 (by decide) (fun c_173 => ?_) (fun c_173 => ?_)
                  · skip
                    refine wp_iconst (nI 1) dX16_put_180 (by decide) ?_
                    refine wp_iaddN dX16_put_181 ?_
                    refine wp_iastoreN 60 dX16_put_182 (hM47.1.k 4 (by decide) (by decide) (by decide) (by decide)) (hM47.1.n 4 (by decide) (by decide) (by decide)) (by omega) (by decide) ?_
                    have hP51 := PV.i (k := sNv S) (x := nI ((sSz S k) + 1)) hM47 hP48 4 (by decide) (by decide)
                    have hM50 := hM47.w4 (k := sNv S) (x := ((sSz S k) + 1))
                    refine wp_aload_n (i := 0) dX16_put_183 rfl rfl ?_
                    refine wp_get 17 8 (vr (some (A 8))) dX16_put_184 hM50.1.1 (by decide) (by decide) fl_X16_28 (congrArg (fun z => toV (vr z)) (hM50.1.r 8 (by decide) (by decide) (by decide) (by decide))) ?_
                    refine wp_iload (i := 5) dX16_put_187 rfl ?_
                    refine wp_iconst (nI 1) dX16_put_189 (by decide) ?_
                    refine wp_zastoreN 60000 dX16_put_190 (hM50.1.k 8 (by decide) (by decide) (by decide) (by decide)) (hM50.1.n 8 (by decide) (by decide) (by decide)) (by omega) (by decide) (by decide) ?_
                    have hP53 := PV.i (k := (1000 * (sNv S)) + key) (x := bI true) hM50 hP51 8 (by decide) (by decide)
                    have hM52 := hM50.w8 (k := (1000 * (sNv S)) + key) (x := true)
                    refine wp_aload_n (i := 0) dX16_put_191 rfl rfl ?_
                    refine wp_get 17 9 (vr (some (A 9))) dX16_put_192 hM52.1.1 (by decide) (by decide) fl_X16_31 (congrArg (fun z => toV (vr z)) (hM52.1.r 9 (by decide) (by decide) (by decide) (by decide))) ?_
                    refine wp_iload (i := 5) dX16_put_195 rfl ?_
                    refine wp_iload_n (i := 3) dX16_put_197 rfl rfl ?_
                    refine wp_iastoreN 60000 dX16_put_198 (hM52.1.k 9 (by decide) (by decide) (by decide) (by decide)) (hM52.1.n 9 (by decide) (by decide) (by decide)) (by omega) (by decide) ?_
                    have hP55 := PV.i (k := (1000 * (sNv S)) + key) (x := e) hM52 hP53 9 (by decide) (by decide)
                    have hM54 := hM52.w9 (k := (1000 * (sNv S)) + key) (x := e)
                    refine wp_iload (i := 6) dX16_put_199 rfl ?_
                    refine wp_if_neN 211 dX16_put_201 (by decide) (by decide) (fun c_201 => absurd c_201 (by decide)) (fun c_201 => ?_)
                    refine wp_aload_n (i := 0) dX16_put_204 rfl rfl ?_
                    refine wp_iload (i := 4) dX16_put_205 rfl ?_
                    refine wp_iload_n (i := 2) dX16_put_207 rfl rfl ?_
                    refine wp_cV (y' := m_X16_changeNodes) 17 [vi (nI (sNv S)), vi (nI key)] [] 0 0 dX16_put_208 ml_X16_150 im_X16_changeNodes se_X16_changeNodes (by decide) hM54.1.1 ok_X16_changeNodes rfl (Nat.le_of_ble_eq_true rfl) rfl (Nat.le_of_ble_eq_true rfl) (d' := d - 1) (by omega) (Nat.zero_le _) (Nat.zero_le _) (c_X16_changeNodes (S := ptS S k key e) (by unfold ptS; rw [if_neg (by rw [c_137]; decide)]; exact hM54) (by unfold ptS; exact ((mp_B (hS.new (by decide) (by omega)) (hS.2.2.2.1 _) (fun _ => hS.2.2.2.2.2 _)).w4 (by rw [if_neg (by rw [c_137]; decide)]; omega))) hmd (by omega) (by omega) (by omega) (fun h58 hP57 hM56 => cont_void ?_))
                    refine wp_iload (i := 4) dX16_put_211 rfl ?_
                    refine wp_ireturn dX16_put_213 rfl ?_
                    rw [show o_put S (nI k) k (nI key) key e = (nI 0, nI (sNv S), cnS (ptS S k key e) (sNv S) key 5) from by unfold o_put; rw [if_neg (fun z => Bool.false_ne_true (g_1.symm.trans z)), if_neg (show ¬ (ixB (nI key) 1000 && elB e) = false from fun z => Bool.false_ne_true (z.symm.trans (by rw [show ixB (nI key) 1000 = true from c_27, show elB e = true from by simpa using c_34]; rfl))), if_neg (fun z => z.elim (fun y => y c_58) (fun y => c_84 y.2)), if_neg (of_decide_eq_false g_4), if_neg (fun z => Bool.false_ne_true (c_137.symm.trans z.1))]] at hq
                    exact hq _ ((IB.w mW_m).tr ((hP55).tr hP57).1) (((hP55).tr hP57).2.trans wI_ss) hM56
                  · exact absurd (c_137.symm.trans c_173) (by decide)
                · exact absurd (c_73.symm.trans c_137) (by decide)
            · skip
              refine wp_iconst (nI 1) dX16_put_87 (by decide) ?_
              refine wp_goto 92 dX16_put_88 (by decide) ?_
              refine wp_iconst (nI 3) dX16_put_92 (by decide) ?_
              refine wp_cV (y' := m_X16_fails) 17 [vi (nI 1), vi (nI 3)] [] 0 0 dX16_put_93 ml_X16_102 im_X16_fails se_X16_fails (by decide) hM20.1.1 ok_X16_fails rfl (Nat.le_of_ble_eq_true rfl) rfl (Nat.le_of_ble_eq_true rfl) (d' := d - 1) (by omega) (Nat.zero_le _) (Nat.zero_le _) (c_X16_failsT hM20 hS wI_ss (nI 3) (by decide) (cont_ret ?_))
              have hM59 := hM20.w0 (x := nI 3)
              refine wp_if_neN 111 dX16_put_96 (by decide) (by decide) (fun c_96 => ?_) (fun c_96 => absurd c_96 (by decide))
              refine wp_iconst (nI 0) dX16_put_111 (by decide) ?_
              refine wp_ireturn dX16_put_112 rfl ?_
              rw [show o_put S (nI k) k (nI key) key e = (nI 3, nI 0, S) from by unfold o_put; rw [if_neg (fun z => Bool.false_ne_true (g_1.symm.trans z)), if_neg (show ¬ (ixB (nI key) 1000 && elB e) = false from fun z => Bool.false_ne_true (z.symm.trans (by rw [show ixB (nI key) 1000 = true from c_27, show elB e = true from by simpa using c_34]; rfl))), if_pos (by first | exact Or.inl c_58 | exact Or.inr ⟨c_73, c_84⟩)]] at hq
              exact hq _ ((IB.w mW_m).tr (IB.w mW_m)) wI_ss hM59
      · skip
        refine wp_iconst (nI 1) dX16_put_37 (by decide) ?_
        refine wp_goto 42 dX16_put_38 (by decide) ?_
        refine wp_iconst (nI 2) dX16_put_42 (by decide) ?_
        refine wp_cV (y' := m_X16_fails) 17 [vi (nI 1), vi (nI 2)] [] 0 0 dX16_put_43 ml_X16_102 im_X16_fails se_X16_fails (by decide) hM20.1.1 ok_X16_fails rfl (Nat.le_of_ble_eq_true rfl) rfl (Nat.le_of_ble_eq_true rfl) (d' := d - 1) (by omega) (Nat.zero_le _) (Nat.zero_le _) (c_X16_failsT hM20 hS wI_ss (nI 2) (by decide) (cont_ret ?_))
        have hM60 := hM20.w0 (x := nI 2)
        refine wp_if_neN 111 dX16_put_46 (by decide) (by decide) (fun c_46 => ?_) (fun c_46 => absurd c_46 (by decide))
        refine wp_iconst (nI 0) dX16_put_111 (by decide) ?_
        refine wp_ireturn dX16_put_112 rfl ?_
        rw [show o_put S (nI k) k u key e = (nI 2, nI 0, S) from by unfold o_put; rw [if_neg (fun z => Bool.false_ne_true (g_1.symm.trans z)), if_pos (show (ixB u 1000 && elB e) = false from by first | (rw [show ixB u 1000 = false from c_27]; rfl) | (rw [show elB e = false from by simpa using c_34, Bool.and_false]))]] at hq
        exact hq _ ((IB.w mW_m).tr (IB.w mW_m)) wI_ss hM60
set_option maxRecDepth 100000 in
set_option maxHeartbeats 4000000 in
theorem c_X16_without {G : GG} {d bc bs : Nat} {h : Hp} {Q : Pst} {m : Nat} {A : Nat → Nat} {S : SV} (hM : MP h m A S) (hS : SB S) {v : Int32} {k : Nat} (hv : ixB v (sNv S) = true → v = nI k ∧ k < sNv S) {u : Int32} {key : Nat} (hu : ixB u 1000 = true → u = nI key ∧ key < 1000) (hpos : ixB v (sNv S) = true → sTy S k = 109 → key < 1000 → sHs S (1000 * k + key) = true → 1 ≤ sSz S k) (hmd : sMd S + 5 ≤ 1000000) (hd : 6 ≤ d) (hq : PO Q h m A (o_without S v k u key)) : WP G m_X16_without d 0 (aargs 0 [vr (some m), vi v, vi u]) [] h bc bs Q := by
  refine wp_sub [(0, vr (some m)), (1, vi v), (2, vi u)] (fun _ hz => hz) ?_
  have hnv := hS.1
  refine wp_aload_n (i := 0) dX16_without_0 rfl rfl ?_
  refine wp_iconst (nI 0) dX16_without_1 (by decide) ?_
  refine wp_putI 17 0 dX16_without_2 hM.1.1 (by decide) (by decide) (by decide) fl_X16_63 rfl (fun _ _ => rfl) rfl rfl ?_
  have hM20 := hM.w0 (x := (nI 0))
  refine wp_aload_n (i := 0) dX16_without_5 rfl rfl ?_
  refine wp_aload_n (i := 0) dX16_without_6 rfl rfl ?_
  refine wp_iload_n (i := 1) dX16_without_7 rfl rfl ?_
  refine wp_cV (y' := m_X16_noValue) 17 [vi v] [vr (some m)] 0 0 dX16_without_8 ml_X16_114 im_X16_noValue se_X16_noValue (by decide) hM20.1.1 ok_X16_noValue rfl (Nat.le_of_ble_eq_true rfl) rfl (Nat.le_of_ble_eq_true rfl) (d' := d - 1) (by omega) (Nat.zero_le _) (Nat.zero_le _) (c_X16_noValue hM20 hS v (by omega) (cont_ret ?_))
  refine wp_iconst (nI 1) dX16_without_11 (by decide) ?_
  refine wp_cV (y' := m_X16_fails) 17 [vi (bI (!ixB v (sNv S))), vi (nI 1)] [] 0 0 dX16_without_12 ml_X16_102 im_X16_fails se_X16_fails (by decide) hM20.1.1 ok_X16_fails rfl (Nat.le_of_ble_eq_true rfl) rfl (Nat.le_of_ble_eq_true rfl) (d' := d - 1) (by omega) (Nat.zero_le _) (Nat.zero_le _) (c_X16_failsB hM20 hS wI_ss (!ixB v (sNv S)) (nI 1) (by decide) (fun g_1 => cont_ret ?_) (fun g_1 => cont_ret ?_))
  · have hM21 := hM20.w0 (x := nI 1)
    refine wp_if_neN 93 dX16_without_15 (by decide) (by decide) (fun c_15 => ?_) (fun c_15 => absurd c_15 (by decide))
    refine wp_iconst (nI 0) dX16_without_93 (by decide) ?_
    refine wp_ireturn dX16_without_94 rfl ?_
    rw [show o_without S v k u key = (nI 1, nI 0, S) from by unfold o_without; rw [if_pos g_1]] at hq
    exact hq _ ((IB.w mW_m).tr (IB.w mW_m)) wI_ss hM21
  · obtain ⟨ev, hk⟩ := hv (nt_f g_1)
    have hpos9 := hpos (nt_f g_1)
    subst ev
    refine wp_if_neN 93 dX16_without_15 (by decide) (by decide) (fun c_15 => absurd c_15 (by decide)) (fun c_15 => ?_)
    refine wp_aload_n (i := 0) dX16_without_18 rfl rfl ?_
    refine wp_aload_n (i := 0) dX16_without_19 rfl rfl ?_
    refine wp_get 17 3 (vr (some (A 3))) dX16_without_20 hM20.1.1 (by decide) (by decide) fl_X16_7 (congrArg (fun z => toV (vr z)) (hM20.1.r 3 (by decide) (by decide) (by decide) (by decide))) ?_
    refine wp_iload_n (i := 1) dX16_without_23 rfl rfl ?_
    refine wp_caloadN 60 (nI (sTy S k)) dX16_without_24 (hM20.1.k 3 (by decide) (by decide) (by decide) (by decide)) (hM20.1.n 3 (by decide) (by decide) (by decide)) (by omega) (by decide) (hM20.2.2.2.1 k) ?_
    refine wp_bipush (nI 109) dX16_without_25 (by decide) ?_
    refine wp_icmp_eqN 34 dX16_without_27 (by decide) (ty_bd hS k) (by decide) (fun c_27 => ?_) (fun c_27 => ?_)
    · skip
      refine wp_iconst (nI 0) dX16_without_34 (by decide) ?_
      refine wp_iconst (nI 2) dX16_without_35 (by decide) ?_
      refine wp_cV (y' := m_X16_fails) 17 [vi (nI 0), vi (nI 2)] [] 0 0 dX16_without_36 ml_X16_102 im_X16_fails se_X16_fails (by decide) hM20.1.1 ok_X16_fails rfl (Nat.le_of_ble_eq_true rfl) rfl (Nat.le_of_ble_eq_true rfl) (d' := d - 1) (by omega) (Nat.zero_le _) (Nat.zero_le _) (c_X16_failsF hM20 hS wI_ss (nI 2) (by decide) (cont_ret ?_))
      skip
      refine wp_if_neN 93 dX16_without_39 (by decide) (by decide) (fun c_39 => absurd c_39 (by decide)) (fun c_39 => ?_)
      refine wp_aload_n (i := 0) dX16_without_42 rfl rfl ?_
      refine wp_iload_n (i := 2) dX16_without_43 rfl rfl ?_
      refine wp_iconst (nI 0) dX16_without_44 (by decide) ?_
      refine wp_sipush (nI 999) dX16_without_45 (by decide) ?_
      refine wp_cS (y' := m_X16_in) [vi u, vi (nI 0), vi (nI 999)] [vr (some m)] 0 0 dX16_without_48 ml_X16_70 st_X16_in ok_X16_in rfl (Nat.le_of_ble_eq_true rfl) rfl (Nat.le_of_ble_eq_true rfl) (d' := d - 1) (by omega) (Nat.zero_le _) (Nat.zero_le _) (c_X16_in u (nI 0) (nI 999)  (cont_ret ?_))
      refine wp_if_eqB 69 dX16_without_51 (by decide) (fun c_51 => ?_) (fun c_51 => ?_)
      · skip
        refine wp_iconst (nI 1) dX16_without_69 (by decide) ?_
        refine wp_goto 74 dX16_without_70 (by decide) ?_
        refine wp_iconst (nI 3) dX16_without_74 (by decide) ?_
        refine wp_cV (y' := m_X16_fails) 17 [vi (nI 1), vi (nI 3)] [] 0 0 dX16_without_75 ml_X16_102 im_X16_fails se_X16_fails (by decide) hM20.1.1 ok_X16_fails rfl (Nat.le_of_ble_eq_true rfl) rfl (Nat.le_of_ble_eq_true rfl) (d' := d - 1) (by omega) (Nat.zero_le _) (Nat.zero_le _) (c_X16_failsT hM20 hS wI_ss (nI 3) (by decide) (cont_ret ?_))
        have hM23 := hM20.w0 (x := nI 3)
        refine wp_if_neN 93 dX16_without_78 (by decide) (by decide) (fun c_78 => ?_) (fun c_78 => absurd c_78 (by decide))
        refine wp_iconst (nI 0) dX16_without_93 (by decide) ?_
        refine wp_ireturn dX16_without_94 rfl ?_
        rw [show o_without S (nI k) k u key = (nI 3, nI 0, S) from by unfold o_without; rw [if_neg (fun z => Bool.false_ne_true (g_1.symm.trans z)), if_neg (fun z => z c_27), if_pos (show (ixB _ 1000 && sHs S (1000 * k + key)) = false from by first | (rw [show ixB u 1000 = false from c_51]; rfl) | (rw [c_66, Bool.and_false]))]] at hq
        exact hq _ ((IB.w mW_m).tr (IB.w mW_m)) wI_ss hM23
      · obtain ⟨eu, hkey⟩ := hu c_51
        subst eu
        refine wp_aload_n (i := 0) dX16_without_54 rfl rfl ?_
        refine wp_get 17 8 (vr (some (A 8))) dX16_without_55 hM20.1.1 (by decide) (by decide) fl_X16_28 (congrArg (fun z => toV (vr z)) (hM20.1.r 8 (by decide) (by decide) (by decide) (by decide))) ?_
        refine wp_sipush (nI 1000) dX16_without_58 (by decide) ?_
        refine wp_iload_n (i := 1) dX16_without_61 rfl rfl ?_
        refine wp_imulN dX16_without_62 ?_
        refine wp_iload_n (i := 2) dX16_without_63 rfl rfl ?_
        refine wp_iaddN dX16_without_64 ?_
        refine wp_zaloadN 60000 (bI (sHs S ((1000 * k) + key))) dX16_without_65 (hM20.1.k 8 (by decide) (by decide) (by decide) (by decide)) (hM20.1.n 8 (by decide) (by decide) (by decide)) (by omega) (by decide) (hM20.2.2.2.2.2.2.2.2.1 ((1000 * k) + key)) ?_
        refine wp_if_neB 73 dX16_without_66 (by decide) (fun c_66 => ?_) (fun c_66 => ?_)
        · skip
          refine wp_iconst (nI 0) dX16_without_73 (by decide) ?_
          refine wp_iconst (nI 3) dX16_without_74 (by decide) ?_
          refine wp_cV (y' := m_X16_fails) 17 [vi (nI 0), vi (nI 3)] [] 0 0 dX16_without_75 ml_X16_102 im_X16_fails se_X16_fails (by decide) hM20.1.1 ok_X16_fails rfl (Nat.le_of_ble_eq_true rfl) rfl (Nat.le_of_ble_eq_true rfl) (d' := d - 1) (by omega) (Nat.zero_le _) (Nat.zero_le _) (c_X16_failsF hM20 hS wI_ss (nI 3) (by decide) (cont_ret ?_))
          skip
          refine wp_if_neN 93 dX16_without_78 (by decide) (by decide) (fun c_78 => absurd c_78 (by decide)) (fun c_78 => ?_)
          refine wp_aload_n (i := 0) dX16_without_81 rfl rfl ?_
          refine wp_aload_n (i := 0) dX16_without_82 rfl rfl ?_
          refine wp_cV (y' := m_X16_isFull) 17 [] [vr (some m)] 0 0 dX16_without_83 ml_X16_98 im_X16_isFull se_X16_isFull (by decide) hM20.1.1 ok_X16_isFull rfl (Nat.le_of_ble_eq_true rfl) rfl (Nat.le_of_ble_eq_true rfl) (d' := d - 1) (by omega) (Nat.zero_le _) (Nat.zero_le _) (c_X16_isFull hM20 hS (cont_ret ?_))
          refine wp_iconst (nI 4) dX16_without_86 (by decide) ?_
          refine wp_cV (y' := m_X16_fails) 17 [vi (bI (decide (sNv S = 60))), vi (nI 4)] [] 0 0 dX16_without_87 ml_X16_102 im_X16_fails se_X16_fails (by decide) hM20.1.1 ok_X16_fails rfl (Nat.le_of_ble_eq_true rfl) rfl (Nat.le_of_ble_eq_true rfl) (d' := d - 1) (by omega) (Nat.zero_le _) (Nat.zero_le _) (c_X16_failsB hM20 hS wI_ss (decide (sNv S = 60)) (nI 4) (by decide) (fun g_4 => cont_ret ?_) (fun g_4 => cont_ret ?_))
          · have hM25 := hM20.w0 (x := nI 4)
            refine wp_if_eqN 95 dX16_without_90 (by decide) (by decide) (fun c_90 => absurd c_90 (by decide)) (fun c_90 => ?_)
            refine wp_iconst (nI 0) dX16_without_93 (by decide) ?_
            refine wp_ireturn dX16_without_94 rfl ?_
            rw [show o_without S (nI k) k (nI key) key = (nI 4, nI 0, S) from by unfold o_without; rw [if_neg (fun z => Bool.false_ne_true (g_1.symm.trans z)), if_neg (fun z => z c_27), if_neg (fun z => Bool.false_ne_true (z.symm.trans (show (ixB (nI key) 1000 && sHs S (1000 * k + key)) = true by rw [show ixB (nI key) 1000 = true from c_51, c_66]; rfl))), if_pos (of_decide_eq_true g_4)]] at hq
            exact hq _ ((IB.w mW_m).tr (IB.w mW_m)) wI_ss hM25
          · have hn60 : sNv S ≠ 60 := of_decide_eq_false g_4
            have hpo := hpos9 c_27 hkey c_66
            have r3 : va_up (va_up (sSz S) (sNv S) 0) (sNv S) (sSz S k) (sNv S) = sSz S k := va_up_self _ _ _
            refine wp_if_eqN 95 dX16_without_90 (by decide) (by decide) (fun c_90 => ?_) (fun c_90 => absurd c_90 (by decide))
            refine wp_aload_n (i := 0) dX16_without_95 rfl rfl ?_
            refine wp_iload_n (i := 1) dX16_without_96 rfl rfl ?_
            refine wp_cV (y' := m_X16_newMap) 17 [vi (nI k)] [] 0 0 dX16_without_97 ml_X16_141 im_X16_newMap se_X16_newMap (by decide) hM20.1.1 ok_X16_newMap rfl (Nat.le_of_ble_eq_true rfl) rfl (Nat.le_of_ble_eq_true rfl) (d' := d - 1) (by omega) (Nat.zero_le _) (Nat.zero_le _) (c_X16_newMapS hM20 hS hk (by omega) (by omega) (fun h28 hP27 hM26 => cont_ret ?_))
            refine wp_istore_n (i := 3) (lv' := [(3, vi (nI (sNv S))), (0, vr (some m)), (1, vi (nI k)), (2, vi (nI key))]) dX16_without_100 rfl (by decide) rfl ?_
            refine wp_aload_n (i := 0) dX16_without_101 rfl rfl ?_
            refine wp_get 17 8 (vr (some (A 8))) dX16_without_102 hM26.1.1 (by decide) (by decide) fl_X16_28 (congrArg (fun z => toV (vr z)) (hM26.1.r 8 (by decide) (by decide) (by decide) (by decide))) ?_
            refine wp_sipush (nI 1000) dX16_without_105 (by decide) ?_
            refine wp_iload_n (i := 3) dX16_without_108 rfl rfl ?_
            refine wp_imulN dX16_without_109 ?_
            refine wp_iload_n (i := 2) dX16_without_110 rfl rfl ?_
            refine wp_iaddN dX16_without_111 ?_
            refine wp_iconst (nI 0) dX16_without_112 (by decide) ?_
            refine wp_zastoreN 60000 dX16_without_113 (hM26.1.k 8 (by decide) (by decide) (by decide) (by decide)) (hM26.1.n 8 (by decide) (by decide) (by decide)) (by omega) (by decide) (by decide) ?_
            have hP30 := PV.i (k := (1000 * (sNv S)) + key) (x := bI false) hM26 hP27 8 (by decide) (by decide)
            have hM29 := hM26.w8 (k := (1000 * (sNv S)) + key) (x := false)
            refine wp_aload_n (i := 0) dX16_without_114 rfl rfl ?_
            refine wp_get 17 9 (vr (some (A 9))) dX16_without_115 hM29.1.1 (by decide) (by decide) fl_X16_31 (congrArg (fun z => toV (vr z)) (hM29.1.r 9 (by decide) (by decide) (by decide) (by decide))) ?_
            refine wp_sipush (nI 1000) dX16_without_118 (by decide) ?_
            refine wp_iload_n (i := 3) dX16_without_121 rfl rfl ?_
            refine wp_imulN dX16_without_122 ?_
            refine wp_iload_n (i := 2) dX16_without_123 rfl rfl ?_
            refine wp_iaddN dX16_without_124 ?_
            refine wp_iconst (nI 0) dX16_without_125 (by decide) ?_
            refine wp_iastoreN 60000 dX16_without_126 (hM29.1.k 9 (by decide) (by decide) (by decide) (by decide)) (hM29.1.n 9 (by decide) (by decide) (by decide)) (by omega) (by decide) ?_
            have hP32 := PV.i (k := (1000 * (sNv S)) + key) (x := (nI 0)) hM29 hP30 9 (by decide) (by decide)
            have hM31 := hM29.w9 (k := (1000 * (sNv S)) + key) (x := nI 0)
            refine wp_aload_n (i := 0) dX16_without_127 rfl rfl ?_
            refine wp_get 17 4 (vr (some (A 4))) dX16_without_128 hM31.1.1 (by decide) (by decide) fl_X16_13 (congrArg (fun z => toV (vr z)) (hM31.1.r 4 (by decide) (by decide) (by decide) (by decide))) ?_
            refine wp_iload_n (i := 3) dX16_without_131 rfl rfl ?_
            refine wp_dup2 dX16_without_132 ?_
            refine wp_ialoadN 60 (nI (sSz S k)) dX16_without_133 (hM31.1.k 4 (by decide) (by decide) (by decide) (by decide)) (hM31.1.n 4 (by decide) (by decide) (by decide)) (by omega) (by decide) ((hM31.2.2.2.2.1 (sNv S)).trans (congrArg nI r3)) ?_
            refine wp_iconst (nI 1) dX16_without_134 (by decide) ?_
            refine wp_isubN dX16_without_135 (by omega) ?_
            refine wp_iastoreN 60 dX16_without_136 (hM31.1.k 4 (by decide) (by decide) (by decide) (by decide)) (hM31.1.n 4 (by decide) (by decide) (by decide)) (by omega) (by decide) ?_
            have hP34 := PV.i (k := sNv S) (x := nI ((sSz S k) - 1)) hM31 hP32 4 (by decide) (by decide)
            have hM33 := hM31.w4 (k := sNv S) (x := ((sSz S k) - 1))
            refine wp_aload_n (i := 0) dX16_without_137 rfl rfl ?_
            refine wp_iload_n (i := 3) dX16_without_138 rfl rfl ?_
            refine wp_iload_n (i := 2) dX16_without_139 rfl rfl ?_
            refine wp_cV (y' := m_X16_changeNodes) 17 [vi (nI (sNv S)), vi (nI key)] [] 0 0 dX16_without_140 ml_X16_150 im_X16_changeNodes se_X16_changeNodes (by decide) hM33.1.1 ok_X16_changeNodes rfl (Nat.le_of_ble_eq_true rfl) rfl (Nat.le_of_ble_eq_true rfl) (d' := d - 1) (by omega) (Nat.zero_le _) (Nat.zero_le _) (c_X16_changeNodes (S := wtS S k key) (by exact hM33) (show SB (wtS S k key) from SB.w4 (S := s_9 (s_8 (s_mapS S k) (1000 * sNv S + key) false) (1000 * sNv S + key) (nI 0)) (hS.map (by omega)) (by have := hS.2.2.2.1 k; omega)) hmd (by omega) (by omega) (by omega) (fun h37 hP36 hM35 => cont_void ?_))
            refine wp_iload_n (i := 3) dX16_without_143 rfl rfl ?_
            refine wp_ireturn dX16_without_144 rfl ?_
            rw [show o_without S (nI k) k (nI key) key = (nI 0, nI (sNv S), cnS (wtS S k key) (sNv S) key 5) from by unfold o_without; rw [if_neg (fun z => Bool.false_ne_true (g_1.symm.trans z)), if_neg (fun z => z c_27), if_neg (fun z => Bool.false_ne_true (z.symm.trans (show (ixB (nI key) 1000 && sHs S (1000 * k + key)) = true by rw [show ixB (nI key) 1000 = true from c_51, c_66]; rfl))), if_neg (of_decide_eq_false g_4)]] at hq
            exact hq _ ((IB.w mW_m).tr ((hP34).tr hP36).1) (((hP34).tr hP36).2.trans wI_ss) hM35
        · skip
          refine wp_iconst (nI 1) dX16_without_69 (by decide) ?_
          refine wp_goto 74 dX16_without_70 (by decide) ?_
          refine wp_iconst (nI 3) dX16_without_74 (by decide) ?_
          refine wp_cV (y' := m_X16_fails) 17 [vi (nI 1), vi (nI 3)] [] 0 0 dX16_without_75 ml_X16_102 im_X16_fails se_X16_fails (by decide) hM20.1.1 ok_X16_fails rfl (Nat.le_of_ble_eq_true rfl) rfl (Nat.le_of_ble_eq_true rfl) (d' := d - 1) (by omega) (Nat.zero_le _) (Nat.zero_le _) (c_X16_failsT hM20 hS wI_ss (nI 3) (by decide) (cont_ret ?_))
          have hM38 := hM20.w0 (x := nI 3)
          refine wp_if_neN 93 dX16_without_78 (by decide) (by decide) (fun c_78 => ?_) (fun c_78 => absurd c_78 (by decide))
          refine wp_iconst (nI 0) dX16_without_93 (by decide) ?_
          refine wp_ireturn dX16_without_94 rfl ?_
          rw [show o_without S (nI k) k (nI key) key = (nI 3, nI 0, S) from by unfold o_without; rw [if_neg (fun z => Bool.false_ne_true (g_1.symm.trans z)), if_neg (fun z => z c_27), if_pos (show (ixB _ 1000 && sHs S (1000 * k + key)) = false from by first | (rw [show ixB u 1000 = false from c_51]; rfl) | (rw [c_66, Bool.and_false]))]] at hq
          exact hq _ ((IB.w mW_m).tr (IB.w mW_m)) wI_ss hM38
    · skip
      refine wp_iconst (nI 1) dX16_without_30 (by decide) ?_
      refine wp_goto 35 dX16_without_31 (by decide) ?_
      refine wp_iconst (nI 2) dX16_without_35 (by decide) ?_
      refine wp_cV (y' := m_X16_fails) 17 [vi (nI 1), vi (nI 2)] [] 0 0 dX16_without_36 ml_X16_102 im_X16_fails se_X16_fails (by decide) hM20.1.1 ok_X16_fails rfl (Nat.le_of_ble_eq_true rfl) rfl (Nat.le_of_ble_eq_true rfl) (d' := d - 1) (by omega) (Nat.zero_le _) (Nat.zero_le _) (c_X16_failsT hM20 hS wI_ss (nI 2) (by decide) (cont_ret ?_))
      have hM39 := hM20.w0 (x := nI 2)
      refine wp_if_neN 93 dX16_without_39 (by decide) (by decide) (fun c_39 => ?_) (fun c_39 => absurd c_39 (by decide))
      refine wp_iconst (nI 0) dX16_without_93 (by decide) ?_
      refine wp_ireturn dX16_without_94 rfl ?_
      rw [show o_without S (nI k) k u key = (nI 2, nI 0, S) from by unfold o_without; rw [if_neg (fun z => Bool.false_ne_true (g_1.symm.trans z)), if_pos c_27]] at hq
      exact hq _ ((IB.w mW_m).tr (IB.w mW_m)) wI_ss hM39
set_option maxRecDepth 100000 in
set_option maxHeartbeats 4000000 in
theorem c_X16_hasAt {G : GG} {d bc bs : Nat} {h : Hp} {Q : Pst} {m : Nat} {A : Nat → Nat} {S : SV} (hM : MP h m A S) (hS : SB S) {k : Nat} (hk : k < 60) {u : Int32} {j : Nat} (hu : ixB u 1000 = true → u = nI j ∧ j < 1000) (hd : 1 ≤ d) (hq : Q (oRet (vi (bI (hasB S k u j)))) h) : WP G m_X16_hasAt d 0 (aargs 0 [vr (some m), vi (nI k), vi u]) [] h bc bs Q := by
  refine wp_sub [(0, vr (some m)), (1, vi (nI k)), (2, vi u)] (fun _ hz => hz) ?_
  refine wp_aload_n (i := 0) dX16_hasAt_0 rfl rfl ?_
  refine wp_get 17 3 (vr (some (A 3))) dX16_hasAt_1 hM.1.1 (by decide) (by decide) fl_X16_7 (congrArg (fun z => toV (vr z)) (hM.1.r 3 (by decide) (by decide) (by decide) (by decide))) ?_
  refine wp_iload_n (i := 1) dX16_hasAt_4 rfl rfl ?_
  refine wp_caloadN 60 (nI (sTy S k)) dX16_hasAt_5 (hM.1.k 3 (by decide) (by decide) (by decide) (by decide)) (hM.1.n 3 (by decide) (by decide) (by decide)) (by omega) (by decide) (hM.2.2.2.1 k) ?_
  refine wp_bipush (nI 109) dX16_hasAt_6 (by decide) ?_
  refine wp_icmp_neN 45 dX16_hasAt_8 (by decide) (ty_bd hS k) (by decide) (fun c_8 => ?_) (fun c_8 => ?_)
  · skip
    refine wp_iload_n (i := 2) dX16_hasAt_45 rfl rfl ?_
    refine wp_iconst (nI 0) dX16_hasAt_46 (by decide) ?_
    refine wp_aload_n (i := 0) dX16_hasAt_47 rfl rfl ?_
    refine wp_get 17 4 (vr (some (A 4))) dX16_hasAt_48 hM.1.1 (by decide) (by decide) fl_X16_13 (congrArg (fun z => toV (vr z)) (hM.1.r 4 (by decide) (by decide) (by decide) (by decide))) ?_
    refine wp_iload_n (i := 1) dX16_hasAt_51 rfl rfl ?_
    refine wp_ialoadN 60 (nI (sSz S k)) dX16_hasAt_52 (hM.1.k 4 (by decide) (by decide) (by decide) (by decide)) (hM.1.n 4 (by decide) (by decide) (by decide)) (by omega) (by decide) (hM.2.2.2.2.1 k) ?_
    refine wp_iconst (nI 1) dX16_hasAt_53 (by decide) ?_
    refine wp_isub dX16_hasAt_54 ?_
    refine wp_cS (y' := m_X16_in) [vi u, vi (nI 0), vi ((nI (sSz S k)) - (nI 1))] [] 0 0 dX16_hasAt_55 ml_X16_70 st_X16_in ok_X16_in rfl (Nat.le_of_ble_eq_true rfl) rfl (Nat.le_of_ble_eq_true rfl) (d' := d - 1) (by omega) (Nat.zero_le _) (Nat.zero_le _) (c_X16_in u (nI 0) ((nI (sSz S k)) - (nI 1))  (cont_ret ?_))
    refine wp_zreturn dX16_hasAt_58 rfl (by first | rfl | decide | exact nar_z (bI_z _)) ?_
    rw [show hasB S k u j = ixB u (sSz S k) from if_neg c_8] at hq
    exact hq
  · skip
    refine wp_iload_n (i := 2) dX16_hasAt_11 rfl rfl ?_
    refine wp_iconst (nI 0) dX16_hasAt_12 (by decide) ?_
    refine wp_sipush (nI 999) dX16_hasAt_13 (by decide) ?_
    refine wp_cS (y' := m_X16_in) [vi u, vi (nI 0), vi (nI 999)] [] 0 0 dX16_hasAt_16 ml_X16_70 st_X16_in ok_X16_in rfl (Nat.le_of_ble_eq_true rfl) rfl (Nat.le_of_ble_eq_true rfl) (d' := d - 1) (by omega) (Nat.zero_le _) (Nat.zero_le _) (c_X16_in u (nI 0) (nI 999)  (cont_ret ?_))
    refine wp_if_eqB 41 dX16_hasAt_19 (by decide) (fun c_19 => ?_) (fun c_19 => ?_)
    · skip
      refine wp_iconst (nI 0) dX16_hasAt_41 (by decide) ?_
      refine wp_goto 58 dX16_hasAt_42 (by decide) ?_
      refine wp_zreturn dX16_hasAt_58 rfl (by first | rfl | decide | exact nar_z (bI_z _)) ?_
      rw [show hasB S k u j = false from (if_pos c_8).trans (by rw [show ixB u 1000 = false from c_19]; rfl)] at hq
      exact hq
    · obtain ⟨eu, hj⟩ := hu c_19
      subst eu
      refine wp_aload_n (i := 0) dX16_hasAt_22 rfl rfl ?_
      refine wp_get 17 8 (vr (some (A 8))) dX16_hasAt_23 hM.1.1 (by decide) (by decide) fl_X16_28 (congrArg (fun z => toV (vr z)) (hM.1.r 8 (by decide) (by decide) (by decide) (by decide))) ?_
      refine wp_sipush (nI 1000) dX16_hasAt_26 (by decide) ?_
      refine wp_iload_n (i := 1) dX16_hasAt_29 rfl rfl ?_
      refine wp_imulN dX16_hasAt_30 ?_
      refine wp_iload_n (i := 2) dX16_hasAt_31 rfl rfl ?_
      refine wp_iaddN dX16_hasAt_32 ?_
      refine wp_zaloadN 60000 (bI (sHs S ((1000 * k) + j))) dX16_hasAt_33 (hM.1.k 8 (by decide) (by decide) (by decide) (by decide)) (hM.1.n 8 (by decide) (by decide) (by decide)) (by omega) (by decide) (hM.2.2.2.2.2.2.2.2.1 ((1000 * k) + j)) ?_
      refine wp_if_eqB 41 dX16_hasAt_34 (by decide) (fun c_34 => ?_) (fun c_34 => ?_)
      · skip
        refine wp_iconst (nI 0) dX16_hasAt_41 (by decide) ?_
        refine wp_goto 58 dX16_hasAt_42 (by decide) ?_
        refine wp_zreturn dX16_hasAt_58 rfl (by first | rfl | decide | exact nar_z (bI_z _)) ?_
        rw [show hasB S k (nI j) j = false from (if_pos c_8).trans (by rw [show ixB (nI j) 1000 = true from c_19, c_34]; rfl)] at hq
        exact hq
      · skip
        refine wp_iconst (nI 1) dX16_hasAt_37 (by decide) ?_
        refine wp_goto 58 dX16_hasAt_38 (by decide) ?_
        refine wp_zreturn dX16_hasAt_58 rfl (by first | rfl | decide | exact nar_z (bI_z _)) ?_
        rw [show hasB S k (nI j) j = true from (if_pos c_8).trans (by rw [show ixB (nI j) 1000 = true from c_19, c_34]; rfl)] at hq
        exact hq
