/-! The model: open vectors are changed; elements, sizes. -/
theorem c_X16_thrown {G : GG} {d bc bs : Nat} {h : Hp} {Q : Pst} {m : Nat} (hk : h_k h m = 18) {c : Int32} (ht : h_I h m 0 = c) (hq : Q (oRet (vi c)) h) : WP G m_X16_thrown d 0 (aargs 0 [vr (some m)]) [] h bc bs Q := by
  refine wp_sub [(0, vr (some m))] (fun _ hz => hz) ?_
  refine wp_aload_n (i := 0) dX16_thrown_0 rfl rfl ?_
  refine wp_get 17 0 (vi c) dX16_thrown_1 hk (by decide) (by decide) fl_X16_63 (congrArg (fun z => toV (vi z)) ht) ?_
  refine wp_ireturn dX16_thrown_4 rfl ?_
  exact hq
/-- whether the node s of v is changed when a place is, which had n0 elements -/
def chB (S : SV) (v n0 pl s : Nat) : Bool := ith s (sSz S v) && (!ith s n0 || inB (nI pl) (nI (frm s)) (nI (frm s + wid s - 1)))
/-- the nodes of v up to the s-th, once a place is changed -/
def chS (S : SV) (v n0 pl : Nat) : Nat → SV
  | 0 => S
  | s + 1 => (fun T => if (chB S v n0 pl s && !(ith s n0 && sOw T (21 * v + s))) = true then s_7 (s_6 (s_2 T (sMd T + 1)) (21 * v + s) (sMd T + 1)) (21 * v + s) true else T) (chS S v n0 pl s)
theorem chS_sz {S : SV} {v n0 pl : Nat} : ∀ s, sSz (chS S v n0 pl s) = sSz S := by
  intro s
  induction s with
  | zero => rfl
  | succ s ih => rw [chS]; show sSz (if _ then _ else _) = _; split <;> exact ih
theorem chS_md {S : SV} {v n0 pl : Nat} : ∀ s, sMd S ≤ sMd (chS S v n0 pl s) ∧ sMd (chS S v n0 pl s) ≤ sMd S + s := by
  intro s
  induction s with
  | zero => exact ⟨Nat.le_refl _, Nat.le_refl _⟩
  | succ s ih =>
    rw [chS]
    show sMd S ≤ sMd (if _ then _ else _) ∧ sMd (if _ then _ else _) ≤ _
    split
    · show sMd S ≤ sMd (chS S v n0 pl s) + 1 ∧ sMd (chS S v n0 pl s) + 1 ≤ _; omega
    · omega
theorem SB.w2 {S : SV} (hS : SB S) {x : Nat} (hx : x ≤ 1000000) : SB (s_2 S x) := ⟨hS.1, hx, hS.2.2⟩
theorem SB.w6 {S : SV} (hS : SB S) {k x : Nat} (hx : x ≤ 1000000) : SB (s_6 S k x) := by
  refine ⟨hS.1, hS.2.1, hS.2.2.1, hS.2.2.2.1, fun j => ?_, hS.2.2.2.2.2⟩
  show va_up (sNd S) k x j ≤ 1000000
  by_cases hj : j = k
  · subst hj; rw [va_up_self]; exact hx
  · rw [va_up_ne _ _ hj]; exact hS.2.2.2.2.1 j
theorem SB.w7 {S : SV} (hS : SB S) {k : Nat} {x : Bool} : SB (s_7 S k x) := hS
theorem SB.w10 {S : SV} (hS : SB S) {k x : Nat} (hx : x ≤ 1000000) : SB (s_10 S k x) := by
  refine ⟨hS.1, hS.2.1, hS.2.2.1, hS.2.2.2.1, hS.2.2.2.2.1, fun j => ?_⟩
  show va_up (sMn S) k x j ≤ 1000000
  by_cases hj : j = k
  · subst hj; rw [va_up_self]; exact hx
  · rw [va_up_ne _ _ hj]; exact hS.2.2.2.2.2 j
theorem chS_B {S : SV} {v n0 pl : Nat} (hS : SB S) (hmd : sMd S + 21 ≤ 1000000) : ∀ s, s ≤ 21 → SB (chS S v n0 pl s) := by
  intro s
  induction s with
  | zero => intro _; exact hS
  | succ s ih =>
    intro h
    have h1 := ih (by omega)
    have h2 := (chS_md (S := S) (v := v) (n0 := n0) (pl := pl) s).2
    rw [chS]
    show SB (if _ then _ else _)
    split
    · exact ((h1.w2 (by omega)).w6 (by omega)).w7
    · exact h1
/-- the state, the place pl of v being e -/
def chE (S : SV) (v pl : Nat) (e : Int32) : SV := s_4 (s_5 S (64 * v + pl) e) v (if pl < sSz S v then sSz S v else pl + 1)
def chX (S : SV) (v pl : Nat) (e : Int32) : SV := if pl < sSz S v ∧ sEl S (64 * v + pl) = e then chE S v pl e else chS (chE S v pl e) v (sSz S v) pl 21
def o_appendTo (S : SV) (v : Int32) (k : Nat) (e : Int32) : Int32 × Int32 × SV :=
  if (!ixB v (sNv S)) = true then (nI 1, nI 0, S) else if (!elB e) = true then (nI 2, nI 0, S) else if sTy S k ≠ 111 ∨ sSz S k = 64 then (nI 3, nI 0, S)
  else (nI 0, nI (sMd (chX S k (sSz S k) e) - sMd S), chX S k (sSz S k) e)
def o_setIn (S : SV) (v : Int32) (k : Nat) (i : Int32) (j : Nat) (e : Int32) : Int32 × Int32 × SV :=
  if (!ixB v (sNv S)) = true then (nI 1, nI 0, S) else if (!elB e) = true then (nI 2, nI 0, S) else if sTy S k ≠ 111 then (nI 3, nI 0, S) else if ixB i (sSz S k) = false then (nI 4, nI 0, S)
  else (nI 0, nI (sMd (chX S k j e) - sMd S), chX S k j e)
def o_size (S : SV) (v : Int32) (k : Nat) : Int32 × Int32 × SV := if (!ixB v (sNv S)) = true then (nI 1, nI 0, S) else (nI 0, nI (sSz S k), S)
set_option maxRecDepth 100000 in
set_option maxHeartbeats 4000000 in
theorem l_X16_change {G : GG} {d bc bs : Nat} {Q : Pst} {h0 : Hp} {m : Nat} {A : Nat → Nat} {T : SV} {v n0 pl md : Nat} {e : Int32} (hT : SB T) (hmd : sMd T + 21 ≤ 1000000) (hv : v < 60) (hn0 : n0 ≤ 64) (hpl : pl < 64) (hd : 3 ≤ d) (hq : ∀ h', PV h0 h' m A → MP h' m A (chS T v n0 pl 21) → WP G m_X16_change d 215 [(4, vi (nI md)), (0, vr (some m))] [] h' bc bs Q) : ∀ n s h, n + s = 21 → MP h m A (chS T v n0 pl s) → PV h0 h m A → WP G m_X16_change d 89 [(7, vi (nI s)), (6, vi (nI 0)), (5, vi (nI n0)), (4, vi (nI md)), (0, vr (some m)), (1, vi (nI v)), (2, vi (nI pl)), (3, vi e)] [] h bc bs Q := by
  intro n
  induction n with
  | zero =>
    intro s h hs hM hP
    have hs : s = 21 := by omega
    subst hs
    refine wp_iload (i := 7) dX16_change_89 rfl ?_
    refine wp_bipush (nI 21) dX16_change_91 (by decide) ?_
    refine wp_icmp_geN 215 dX16_change_93 (by decide) (by decide) (by decide) (fun c_93 => ?_) (fun c_93 => absurd c_93 (by omega))
    refine wp_sub [(4, vi (nI md)), (0, vr (some m))] (sb_cons (.tail _ (.tail _ (.tail _ (.head _)))) (sb_cons (.tail _ (.tail _ (.tail _ (.tail _ (.head _))))) sb_nil)) ?_
    exact hq _ hP hM
  | succ n ih =>
    intro s h hs hM hP
    have hS := chS_B (v := v) (n0 := n0) (pl := pl) hT hmd s (by omega)
    have hsz := congrFun (chS_sz (S := T) (v := v) (n0 := n0) (pl := pl) s) v
    have hz64 := hT.2.2.2.1 v
    have hfw := fw_le s
    have hfl := frm_le s
    have hw1 : 1 ≤ wid s := by unfold wid; (repeat' split) <;> omega
    refine wp_iload (i := 7) dX16_change_89 rfl ?_
    refine wp_bipush (nI 21) dX16_change_91 (by decide) ?_
    refine wp_icmp_geN 215 dX16_change_93 (by decide) (by omega) (by decide) (fun c_93 => absurd c_93 (by omega)) (fun c_93 => ?_)
    refine wp_iload (i := 6) dX16_change_96 rfl ?_
    refine wp_if_neN 215 dX16_change_98 (by decide) (by decide) (fun c_98 => absurd c_98 (by decide)) (fun c_98 => ?_)
    refine wp_bipush (nI 21) dX16_change_101 (by decide) ?_
    refine wp_iload_n (i := 1) dX16_change_103 rfl rfl ?_
    refine wp_imulN dX16_change_104 ?_
    refine wp_iload (i := 7) dX16_change_105 rfl ?_
    refine wp_iaddN dX16_change_107 ?_
    refine wp_istore (i := 8) (lv' := [(8, vi (nI ((21 * v) + s))), (7, vi (nI s)), (6, vi (nI 0)), (5, vi (nI n0)), (4, vi (nI md)), (0, vr (some m)), (1, vi (nI v)), (2, vi (nI pl)), (3, vi e)]) dX16_change_108 (by decide) rfl ?_
    refine wp_iload (i := 7) dX16_change_110 rfl ?_
    refine wp_iload (i := 5) dX16_change_112 rfl ?_
    refine wp_cS (y' := m_X16_isThere) [vi (nI s), vi (nI n0)] [] 0 0 dX16_change_114 ml_X16_87 st_X16_isThere ok_X16_isThere rfl (Nat.le_of_ble_eq_true rfl) rfl (Nat.le_of_ble_eq_true rfl) (d' := d - 1) (by omega) (Nat.zero_le _) (Nat.zero_le _) (c_X16_isThere s n0 (by omega) (by omega) (by omega) (cont_ret ?_))
    refine wp_istore (i := 9) (lv' := [(9, vi (bI (ith s n0))), (8, vi (nI ((21 * v) + s))), (7, vi (nI s)), (6, vi (nI 0)), (5, vi (nI n0)), (4, vi (nI md)), (0, vr (some m)), (1, vi (nI v)), (2, vi (nI pl)), (3, vi e)]) dX16_change_117 (by decide) rfl ?_
    refine wp_iload (i := 7) dX16_change_119 rfl ?_
    refine wp_aload_n (i := 0) dX16_change_121 rfl rfl ?_
    refine wp_get 17 4 (vr (some (A 4))) dX16_change_122 hM.1.1 (by decide) (by decide) fl_X16_13 (congrArg (fun z => toV (vr z)) (hM.1.r 4 (by decide) (by decide) (by decide) (by decide))) ?_
    refine wp_iload_n (i := 1) dX16_change_125 rfl rfl ?_
    refine wp_ialoadN 60 (nI (sSz T v)) dX16_change_126 (hM.1.k 4 (by decide) (by decide) (by decide) (by decide)) (hM.1.n 4 (by decide) (by decide) (by decide)) (by omega) (by decide) ((hM.2.2.2.2.1 v).trans (congrArg nI hsz)) ?_
    refine wp_cS (y' := m_X16_isThere) [vi (nI s), vi (nI (sSz T v))] [] 0 0 dX16_change_127 ml_X16_87 st_X16_isThere ok_X16_isThere rfl (Nat.le_of_ble_eq_true rfl) rfl (Nat.le_of_ble_eq_true rfl) (d' := d - 1) (by omega) (Nat.zero_le _) (Nat.zero_le _) (c_X16_isThere s (sSz T v) (by omega) (by omega) (by omega) (cont_ret ?_))
    refine wp_if_eqB 167 dX16_change_130 (by decide) (fun c_130 => ?_) (fun c_130 => ?_)
    · skip
      refine wp_iconst (nI 0) dX16_change_167 (by decide) ?_
      refine wp_istore (i := 10) (lv' := [(10, vi (nI 0)), (9, vi (bI (ith s n0))), (8, vi (nI ((21 * v) + s))), (7, vi (nI s)), (6, vi (nI 0)), (5, vi (nI n0)), (4, vi (nI md)), (0, vr (some m)), (1, vi (nI v)), (2, vi (nI pl)), (3, vi e)]) dX16_change_168 (by decide) rfl ?_
      refine wp_iload (i := 10) dX16_change_170 rfl ?_
      refine wp_if_eqN 209 dX16_change_172 (by decide) (by decide) (fun c_172 => ?_) (fun c_172 => absurd c_172 (by decide))
      refine wp_iincN (a := s) (lv' := [(7, vi (nI (s + 1))), (10, vi (nI 0)), (9, vi (bI (ith s n0))), (8, vi (nI ((21 * v) + s))), (6, vi (nI 0)), (5, vi (nI n0)), (4, vi (nI md)), (0, vr (some m)), (1, vi (nI v)), (2, vi (nI pl)), (3, vi e)]) 1 dX16_change_209 rfl (by decide) (by decide) rfl ?_
      refine wp_goto 89 dX16_change_212 (by decide) ?_
      refine wp_sub [(7, vi (nI (s + 1))), (6, vi (nI 0)), (5, vi (nI n0)), (4, vi (nI md)), (0, vr (some m)), (1, vi (nI v)), (2, vi (nI pl)), (3, vi e)] (sb_cons (.head _) (sb_cons (.tail _ (.tail _ (.tail _ (.tail _ (.head _))))) (sb_cons (.tail _ (.tail _ (.tail _ (.tail _ (.tail _ (.head _)))))) (sb_cons (.tail _ (.tail _ (.tail _ (.tail _ (.tail _ (.tail _ (.head _))))))) (sb_cons (.tail _ (.tail _ (.tail _ (.tail _ (.tail _ (.tail _ (.tail _ (.head _)))))))) (sb_cons (.tail _ (.tail _ (.tail _ (.tail _ (.tail _ (.tail _ (.tail _ (.tail _ (.head _))))))))) (sb_cons (.tail _ (.tail _ (.tail _ (.tail _ (.tail _ (.tail _ (.tail _ (.tail _ (.tail _ (.head _)))))))))) (sb_cons (.tail _ (.tail _ (.tail _ (.tail _ (.tail _ (.tail _ (.tail _ (.tail _ (.tail _ (.tail _ (.head _))))))))))) sb_nil)))))))) ?_
      have ec : chS T v n0 pl (s + 1) = chS T v n0 pl s := by rw [chS]; exact if_neg (by unfold chB; simp [c_130])
      exact ih (s + 1) _ (by omega) (by rw [ec]; exact hM) hP
    · skip
      refine wp_iload (i := 9) dX16_change_133 rfl ?_
      refine wp_if_eqB 163 dX16_change_135 (by decide) (fun c_135 => ?_) (fun c_135 => ?_)
      · skip
        refine wp_iconst (nI 1) dX16_change_163 (by decide) ?_
        refine wp_goto 168 dX16_change_164 (by decide) ?_
        refine wp_istore (i := 10) (lv' := [(10, vi (nI 1)), (9, vi (bI (ith s n0))), (8, vi (nI ((21 * v) + s))), (7, vi (nI s)), (6, vi (nI 0)), (5, vi (nI n0)), (4, vi (nI md)), (0, vr (some m)), (1, vi (nI v)), (2, vi (nI pl)), (3, vi e)]) dX16_change_168 (by decide) rfl ?_
        refine wp_iload (i := 10) dX16_change_170 rfl ?_
        refine wp_if_eqN 209 dX16_change_172 (by decide) (by decide) (fun c_172 => absurd c_172 (by decide)) (fun c_172 => ?_)
        refine wp_iload (i := 9) dX16_change_175 rfl ?_
        refine wp_if_eqB 190 dX16_change_177 (by decide) (fun c_177 => ?_) (fun c_177 => ?_)
        · skip
          refine wp_aload_n (i := 0) dX16_change_190 rfl rfl ?_
          refine wp_get 17 6 (vr (some (A 6))) dX16_change_191 hM.1.1 (by decide) (by decide) fl_X16_20 (congrArg (fun z => toV (vr z)) (hM.1.r 6 (by decide) (by decide) (by decide) (by decide))) ?_
          refine wp_iload (i := 8) dX16_change_194 rfl ?_
          refine wp_aload_n (i := 0) dX16_change_196 rfl rfl ?_
          refine wp_cV (y' := m_X16_newNode) 17 [] [vi (nI ((21 * v) + s)), vr (some (A 6))] 0 0 dX16_change_197 ml_X16_94 im_X16_newNode se_X16_newNode (by decide) hM.1.1 ok_X16_newNode rfl (Nat.le_of_ble_eq_true rfl) rfl (Nat.le_of_ble_eq_true rfl) (d' := d - 1) (by omega) (Nat.zero_le _) (Nat.zero_le _) (c_X16_newNode hM hS (cont_ret ?_))
          have hP2 := PV.m (k := 2) (x := nI (sMd (chS T v n0 pl s) + 1)) hP (by decide)
          have hM1 := hM.w2 (x := sMd (chS T v n0 pl s) + 1)
          refine wp_iastoreN 1260 dX16_change_200 (hM1.1.k 6 (by decide) (by decide) (by decide) (by decide)) (hM1.1.n 6 (by decide) (by decide) (by decide)) (by omega) (by decide) ?_
          have hP4 := PV.i (k := (21 * v) + s) (x := nI (sMd (chS T v n0 pl s) + 1)) hM1 hP2 6 (by decide) (by decide)
          have hM3 := hM1.w6 (k := (21 * v) + s) (x := (sMd (chS T v n0 pl s) + 1))
          refine wp_aload_n (i := 0) dX16_change_201 rfl rfl ?_
          refine wp_get 17 7 (vr (some (A 7))) dX16_change_202 hM3.1.1 (by decide) (by decide) fl_X16_23 (congrArg (fun z => toV (vr z)) (hM3.1.r 7 (by decide) (by decide) (by decide) (by decide))) ?_
          refine wp_iload (i := 8) dX16_change_205 rfl ?_
          refine wp_iconst (nI 1) dX16_change_207 (by decide) ?_
          refine wp_zastoreN 1260 dX16_change_208 (hM3.1.k 7 (by decide) (by decide) (by decide) (by decide)) (hM3.1.n 7 (by decide) (by decide) (by decide)) (by omega) (by decide) (by decide) ?_
          have hP6 := PV.i (k := (21 * v) + s) (x := bI true) hM3 hP4 7 (by decide) (by decide)
          have hM5 := hM3.w7 (k := (21 * v) + s) (x := true)
          refine wp_iincN (a := s) (lv' := [(7, vi (nI (s + 1))), (10, vi (nI 1)), (9, vi (bI (ith s n0))), (8, vi (nI ((21 * v) + s))), (6, vi (nI 0)), (5, vi (nI n0)), (4, vi (nI md)), (0, vr (some m)), (1, vi (nI v)), (2, vi (nI pl)), (3, vi e)]) 1 dX16_change_209 rfl (by decide) (by decide) rfl ?_
          refine wp_goto 89 dX16_change_212 (by decide) ?_
          refine wp_sub [(7, vi (nI (s + 1))), (6, vi (nI 0)), (5, vi (nI n0)), (4, vi (nI md)), (0, vr (some m)), (1, vi (nI v)), (2, vi (nI pl)), (3, vi e)] (sb_cons (.head _) (sb_cons (.tail _ (.tail _ (.tail _ (.tail _ (.head _))))) (sb_cons (.tail _ (.tail _ (.tail _ (.tail _ (.tail _ (.head _)))))) (sb_cons (.tail _ (.tail _ (.tail _ (.tail _ (.tail _ (.tail _ (.head _))))))) (sb_cons (.tail _ (.tail _ (.tail _ (.tail _ (.tail _ (.tail _ (.tail _ (.head _)))))))) (sb_cons (.tail _ (.tail _ (.tail _ (.tail _ (.tail _ (.tail _ (.tail _ (.tail _ (.head _))))))))) (sb_cons (.tail _ (.tail _ (.tail _ (.tail _ (.tail _ (.tail _ (.tail _ (.tail _ (.tail _ (.head _)))))))))) (sb_cons (.tail _ (.tail _ (.tail _ (.tail _ (.tail _ (.tail _ (.tail _ (.tail _ (.tail _ (.tail _ (.head _))))))))))) sb_nil)))))))) ?_
          have ec : chS T v n0 pl (s + 1) = s_7 (s_6 (s_2 (chS T v n0 pl s) (sMd (chS T v n0 pl s) + 1)) (21 * v + s) (sMd (chS T v n0 pl s) + 1)) (21 * v + s) true := by rw [chS]; exact if_pos (by unfold chB; simp [c_130, c_135])
          exact ih (s + 1) _ (by omega) (by rw [ec]; exact hM5) hP6
        · exact absurd (c_135.symm.trans c_177) (by decide)
      · skip
        refine wp_iload_n (i := 2) dX16_change_138 rfl rfl ?_
        refine wp_iload (i := 7) dX16_change_139 rfl ?_
        refine wp_cS (y' := m_X16_from) [vi (nI s)] [vi (nI pl)] 0 0 dX16_change_141 ml_X16_78 st_X16_from ok_X16_from rfl (Nat.le_of_ble_eq_true rfl) rfl (Nat.le_of_ble_eq_true rfl) (d' := d - 1) (by omega) (Nat.zero_le _) (Nat.zero_le _) (c_X16_from s (by omega) (cont_ret ?_))
        refine wp_iload (i := 7) dX16_change_144 rfl ?_
        refine wp_cS (y' := m_X16_from) [vi (nI s)] [vi (nI (frm s)), vi (nI pl)] 0 0 dX16_change_146 ml_X16_78 st_X16_from ok_X16_from rfl (Nat.le_of_ble_eq_true rfl) rfl (Nat.le_of_ble_eq_true rfl) (d' := d - 1) (by omega) (Nat.zero_le _) (Nat.zero_le _) (c_X16_from s (by omega) (cont_ret ?_))
        refine wp_iload (i := 7) dX16_change_149 rfl ?_
        refine wp_cS (y' := m_X16_width) [vi (nI s)] [vi (nI (frm s)), vi (nI (frm s)), vi (nI pl)] 0 0 dX16_change_151 ml_X16_81 st_X16_width ok_X16_width rfl (Nat.le_of_ble_eq_true rfl) rfl (Nat.le_of_ble_eq_true rfl) (d' := d - 1) (by omega) (Nat.zero_le _) (Nat.zero_le _) (c_X16_width s (by omega) (cont_ret ?_))
        refine wp_iaddN dX16_change_154 ?_
        refine wp_iconst (nI 1) dX16_change_155 (by decide) ?_
        refine wp_isubN dX16_change_156 (by omega) ?_
        refine wp_cS (y' := m_X16_in) [vi (nI pl), vi (nI (frm s)), vi (nI (((frm s) + (wid s)) - 1))] [] 0 0 dX16_change_157 ml_X16_70 st_X16_in ok_X16_in rfl (Nat.le_of_ble_eq_true rfl) rfl (Nat.le_of_ble_eq_true rfl) (d' := d - 1) (by omega) (Nat.zero_le _) (Nat.zero_le _) (c_X16_in (nI pl) (nI (frm s)) (nI (((frm s) + (wid s)) - 1))  (cont_ret ?_))
        refine wp_if_eqB 167 dX16_change_160 (by decide) (fun c_160 => ?_) (fun c_160 => ?_)
        · skip
          refine wp_iconst (nI 0) dX16_change_167 (by decide) ?_
          refine wp_istore (i := 10) (lv' := [(10, vi (nI 0)), (9, vi (bI (ith s n0))), (8, vi (nI ((21 * v) + s))), (7, vi (nI s)), (6, vi (nI 0)), (5, vi (nI n0)), (4, vi (nI md)), (0, vr (some m)), (1, vi (nI v)), (2, vi (nI pl)), (3, vi e)]) dX16_change_168 (by decide) rfl ?_
          refine wp_iload (i := 10) dX16_change_170 rfl ?_
          refine wp_if_eqN 209 dX16_change_172 (by decide) (by decide) (fun c_172 => ?_) (fun c_172 => absurd c_172 (by decide))
          refine wp_iincN (a := s) (lv' := [(7, vi (nI (s + 1))), (10, vi (nI 0)), (9, vi (bI (ith s n0))), (8, vi (nI ((21 * v) + s))), (6, vi (nI 0)), (5, vi (nI n0)), (4, vi (nI md)), (0, vr (some m)), (1, vi (nI v)), (2, vi (nI pl)), (3, vi e)]) 1 dX16_change_209 rfl (by decide) (by decide) rfl ?_
          refine wp_goto 89 dX16_change_212 (by decide) ?_
          refine wp_sub [(7, vi (nI (s + 1))), (6, vi (nI 0)), (5, vi (nI n0)), (4, vi (nI md)), (0, vr (some m)), (1, vi (nI v)), (2, vi (nI pl)), (3, vi e)] (sb_cons (.head _) (sb_cons (.tail _ (.tail _ (.tail _ (.tail _ (.head _))))) (sb_cons (.tail _ (.tail _ (.tail _ (.tail _ (.tail _ (.head _)))))) (sb_cons (.tail _ (.tail _ (.tail _ (.tail _ (.tail _ (.tail _ (.head _))))))) (sb_cons (.tail _ (.tail _ (.tail _ (.tail _ (.tail _ (.tail _ (.tail _ (.head _)))))))) (sb_cons (.tail _ (.tail _ (.tail _ (.tail _ (.tail _ (.tail _ (.tail _ (.tail _ (.head _))))))))) (sb_cons (.tail _ (.tail _ (.tail _ (.tail _ (.tail _ (.tail _ (.tail _ (.tail _ (.tail _ (.head _)))))))))) (sb_cons (.tail _ (.tail _ (.tail _ (.tail _ (.tail _ (.tail _ (.tail _ (.tail _ (.tail _ (.tail _ (.head _))))))))))) sb_nil)))))))) ?_
          have ec : chS T v n0 pl (s + 1) = chS T v n0 pl s := by rw [chS]; exact if_neg (by unfold chB; simp [c_130, c_135, c_160])
          exact ih (s + 1) _ (by omega) (by rw [ec]; exact hM) hP
        · skip
          refine wp_iconst (nI 1) dX16_change_163 (by decide) ?_
          refine wp_goto 168 dX16_change_164 (by decide) ?_
          refine wp_istore (i := 10) (lv' := [(10, vi (nI 1)), (9, vi (bI (ith s n0))), (8, vi (nI ((21 * v) + s))), (7, vi (nI s)), (6, vi (nI 0)), (5, vi (nI n0)), (4, vi (nI md)), (0, vr (some m)), (1, vi (nI v)), (2, vi (nI pl)), (3, vi e)]) dX16_change_168 (by decide) rfl ?_
          refine wp_iload (i := 10) dX16_change_170 rfl ?_
          refine wp_if_eqN 209 dX16_change_172 (by decide) (by decide) (fun c_172 => absurd c_172 (by decide)) (fun c_172 => ?_)
          refine wp_iload (i := 9) dX16_change_175 rfl ?_
          refine wp_if_eqB 190 dX16_change_177 (by decide) (fun c_177 => ?_) (fun c_177 => ?_)
          · exact absurd (c_177.symm.trans c_135) (by decide)
          · skip
            refine wp_aload_n (i := 0) dX16_change_180 rfl rfl ?_
            refine wp_get 17 7 (vr (some (A 7))) dX16_change_181 hM.1.1 (by decide) (by decide) fl_X16_23 (congrArg (fun z => toV (vr z)) (hM.1.r 7 (by decide) (by decide) (by decide) (by decide))) ?_
            refine wp_iload (i := 8) dX16_change_184 rfl ?_
            refine wp_zaloadN 1260 (bI (sOw (chS T v n0 pl s) ((21 * v) + s))) dX16_change_186 (hM.1.k 7 (by decide) (by decide) (by decide) (by decide)) (hM.1.n 7 (by decide) (by decide) (by decide)) (by omega) (by decide) (hM.2.2.2.2.2.2.2.1 ((21 * v) + s)) ?_
            refine wp_if_neB 209 dX16_change_187 (by decide) (fun c_187 => ?_) (fun c_187 => ?_)
            · skip
              refine wp_iincN (a := s) (lv' := [(7, vi (nI (s + 1))), (10, vi (nI 1)), (9, vi (bI (ith s n0))), (8, vi (nI ((21 * v) + s))), (6, vi (nI 0)), (5, vi (nI n0)), (4, vi (nI md)), (0, vr (some m)), (1, vi (nI v)), (2, vi (nI pl)), (3, vi e)]) 1 dX16_change_209 rfl (by decide) (by decide) rfl ?_
              refine wp_goto 89 dX16_change_212 (by decide) ?_
              refine wp_sub [(7, vi (nI (s + 1))), (6, vi (nI 0)), (5, vi (nI n0)), (4, vi (nI md)), (0, vr (some m)), (1, vi (nI v)), (2, vi (nI pl)), (3, vi e)] (sb_cons (.head _) (sb_cons (.tail _ (.tail _ (.tail _ (.tail _ (.head _))))) (sb_cons (.tail _ (.tail _ (.tail _ (.tail _ (.tail _ (.head _)))))) (sb_cons (.tail _ (.tail _ (.tail _ (.tail _ (.tail _ (.tail _ (.head _))))))) (sb_cons (.tail _ (.tail _ (.tail _ (.tail _ (.tail _ (.tail _ (.tail _ (.head _)))))))) (sb_cons (.tail _ (.tail _ (.tail _ (.tail _ (.tail _ (.tail _ (.tail _ (.tail _ (.head _))))))))) (sb_cons (.tail _ (.tail _ (.tail _ (.tail _ (.tail _ (.tail _ (.tail _ (.tail _ (.tail _ (.head _)))))))))) (sb_cons (.tail _ (.tail _ (.tail _ (.tail _ (.tail _ (.tail _ (.tail _ (.tail _ (.tail _ (.tail _ (.head _))))))))))) sb_nil)))))))) ?_
              have ec : chS T v n0 pl (s + 1) = chS T v n0 pl s := by rw [chS]; exact if_neg (by unfold chB; simp [c_130, c_135, c_160, c_187])
              exact ih (s + 1) _ (by omega) (by rw [ec]; exact hM) hP
            · skip
              refine wp_aload_n (i := 0) dX16_change_190 rfl rfl ?_
              refine wp_get 17 6 (vr (some (A 6))) dX16_change_191 hM.1.1 (by decide) (by decide) fl_X16_20 (congrArg (fun z => toV (vr z)) (hM.1.r 6 (by decide) (by decide) (by decide) (by decide))) ?_
              refine wp_iload (i := 8) dX16_change_194 rfl ?_
              refine wp_aload_n (i := 0) dX16_change_196 rfl rfl ?_
              refine wp_cV (y' := m_X16_newNode) 17 [] [vi (nI ((21 * v) + s)), vr (some (A 6))] 0 0 dX16_change_197 ml_X16_94 im_X16_newNode se_X16_newNode (by decide) hM.1.1 ok_X16_newNode rfl (Nat.le_of_ble_eq_true rfl) rfl (Nat.le_of_ble_eq_true rfl) (d' := d - 1) (by omega) (Nat.zero_le _) (Nat.zero_le _) (c_X16_newNode hM hS (cont_ret ?_))
              have hP8 := PV.m (k := 2) (x := nI (sMd (chS T v n0 pl s) + 1)) hP (by decide)
              have hM7 := hM.w2 (x := sMd (chS T v n0 pl s) + 1)
              refine wp_iastoreN 1260 dX16_change_200 (hM7.1.k 6 (by decide) (by decide) (by decide) (by decide)) (hM7.1.n 6 (by decide) (by decide) (by decide)) (by omega) (by decide) ?_
              have hP10 := PV.i (k := (21 * v) + s) (x := nI (sMd (chS T v n0 pl s) + 1)) hM7 hP8 6 (by decide) (by decide)
              have hM9 := hM7.w6 (k := (21 * v) + s) (x := (sMd (chS T v n0 pl s) + 1))
              refine wp_aload_n (i := 0) dX16_change_201 rfl rfl ?_
              refine wp_get 17 7 (vr (some (A 7))) dX16_change_202 hM9.1.1 (by decide) (by decide) fl_X16_23 (congrArg (fun z => toV (vr z)) (hM9.1.r 7 (by decide) (by decide) (by decide) (by decide))) ?_
              refine wp_iload (i := 8) dX16_change_205 rfl ?_
              refine wp_iconst (nI 1) dX16_change_207 (by decide) ?_
              refine wp_zastoreN 1260 dX16_change_208 (hM9.1.k 7 (by decide) (by decide) (by decide) (by decide)) (hM9.1.n 7 (by decide) (by decide) (by decide)) (by omega) (by decide) (by decide) ?_
              have hP12 := PV.i (k := (21 * v) + s) (x := bI true) hM9 hP10 7 (by decide) (by decide)
              have hM11 := hM9.w7 (k := (21 * v) + s) (x := true)
              refine wp_iincN (a := s) (lv' := [(7, vi (nI (s + 1))), (10, vi (nI 1)), (9, vi (bI (ith s n0))), (8, vi (nI ((21 * v) + s))), (6, vi (nI 0)), (5, vi (nI n0)), (4, vi (nI md)), (0, vr (some m)), (1, vi (nI v)), (2, vi (nI pl)), (3, vi e)]) 1 dX16_change_209 rfl (by decide) (by decide) rfl ?_
              refine wp_goto 89 dX16_change_212 (by decide) ?_
              refine wp_sub [(7, vi (nI (s + 1))), (6, vi (nI 0)), (5, vi (nI n0)), (4, vi (nI md)), (0, vr (some m)), (1, vi (nI v)), (2, vi (nI pl)), (3, vi e)] (sb_cons (.head _) (sb_cons (.tail _ (.tail _ (.tail _ (.tail _ (.head _))))) (sb_cons (.tail _ (.tail _ (.tail _ (.tail _ (.tail _ (.head _)))))) (sb_cons (.tail _ (.tail _ (.tail _ (.tail _ (.tail _ (.tail _ (.head _))))))) (sb_cons (.tail _ (.tail _ (.tail _ (.tail _ (.tail _ (.tail _ (.tail _ (.head _)))))))) (sb_cons (.tail _ (.tail _ (.tail _ (.tail _ (.tail _ (.tail _ (.tail _ (.tail _ (.head _))))))))) (sb_cons (.tail _ (.tail _ (.tail _ (.tail _ (.tail _ (.tail _ (.tail _ (.tail _ (.tail _ (.head _)))))))))) (sb_cons (.tail _ (.tail _ (.tail _ (.tail _ (.tail _ (.tail _ (.tail _ (.tail _ (.tail _ (.tail _ (.head _))))))))))) sb_nil)))))))) ?_
              have ec : chS T v n0 pl (s + 1) = s_7 (s_6 (s_2 (chS T v n0 pl s) (sMd (chS T v n0 pl s) + 1)) (21 * v + s) (sMd (chS T v n0 pl s) + 1)) (21 * v + s) true := by rw [chS]; exact if_pos (by unfold chB; simp [c_130, c_135, c_160, c_187])
              exact ih (s + 1) _ (by omega) (by rw [ec]; exact hM11) hP12
set_option maxRecDepth 100000 in
set_option maxHeartbeats 4000000 in
theorem c_X16_change {G : GG} {d bc bs : Nat} {h : Hp} {Q : Pst} {m : Nat} {A : Nat → Nat} {S : SV} (hM : MP h m A S) (hS : SB S) {v pl : Nat} {e : Int32} (hmd : sMd S + 21 ≤ 1000000) (hv : v < 60) (hpl : pl < 64) (hple : pl ≤ sSz S v) (hd : 3 ≤ d) (hq : ∀ h', PV h h' m A → MP h' m A (chX S v pl e) → Q (oRet (vi (nI (sMd (chX S v pl e) - sMd S)))) h') : WP G m_X16_change d 0 (aargs 0 [vr (some m), vi (nI v), vi (nI pl), vi e]) [] h bc bs Q := by
  refine wp_sub [(0, vr (some m)), (1, vi (nI v)), (2, vi (nI pl)), (3, vi e)] (fun _ hz => hz) ?_
  have hz64 := hS.2.2.2.1 v
  refine wp_aload_n (i := 0) dX16_change_0 rfl rfl ?_
  refine wp_get 17 2 (vi (nI (sMd S))) dX16_change_1 hM.1.1 (by decide) (by decide) fl_X16_84 (congrArg (fun z => toV (vi z)) (hM.2.2.1)) ?_
  refine wp_istore (i := 4) (lv' := [(4, vi (nI (sMd S))), (0, vr (some m)), (1, vi (nI v)), (2, vi (nI pl)), (3, vi e)]) dX16_change_4 (by decide) rfl ?_
  refine wp_aload_n (i := 0) dX16_change_6 rfl rfl ?_
  refine wp_get 17 4 (vr (some (A 4))) dX16_change_7 hM.1.1 (by decide) (by decide) fl_X16_13 (congrArg (fun z => toV (vr z)) (hM.1.r 4 (by decide) (by decide) (by decide) (by decide))) ?_
  refine wp_iload_n (i := 1) dX16_change_10 rfl rfl ?_
  refine wp_ialoadN 60 (nI (sSz S v)) dX16_change_11 (hM.1.k 4 (by decide) (by decide) (by decide) (by decide)) (hM.1.n 4 (by decide) (by decide) (by decide)) (by omega) (by decide) (hM.2.2.2.2.1 v) ?_
  refine wp_istore (i := 5) (lv' := [(5, vi (nI (sSz S v))), (4, vi (nI (sMd S))), (0, vr (some m)), (1, vi (nI v)), (2, vi (nI pl)), (3, vi e)]) dX16_change_12 (by decide) rfl ?_
  refine wp_iload_n (i := 2) dX16_change_14 rfl rfl ?_
  refine wp_aload_n (i := 0) dX16_change_15 rfl rfl ?_
  refine wp_get 17 4 (vr (some (A 4))) dX16_change_16 hM.1.1 (by decide) (by decide) fl_X16_13 (congrArg (fun z => toV (vr z)) (hM.1.r 4 (by decide) (by decide) (by decide) (by decide))) ?_
  refine wp_iload_n (i := 1) dX16_change_19 rfl rfl ?_
  refine wp_ialoadN 60 (nI (sSz S v)) dX16_change_20 (hM.1.k 4 (by decide) (by decide) (by decide) (by decide)) (hM.1.n 4 (by decide) (by decide) (by decide)) (by omega) (by decide) (hM.2.2.2.2.1 v) ?_
  refine wp_icmp_geN 43 dX16_change_21 (by decide) (by omega) (sz_bd hS v) (fun c_21 => ?_) (fun c_21 => ?_)
  · skip
    refine wp_iconst (nI 0) dX16_change_43 (by decide) ?_
    refine wp_istore (i := 6) (lv' := [(6, vi (nI 0)), (5, vi (nI (sSz S v))), (4, vi (nI (sMd S))), (0, vr (some m)), (1, vi (nI v)), (2, vi (nI pl)), (3, vi e)]) dX16_change_44 (by decide) rfl ?_
    refine wp_aload_n (i := 0) dX16_change_46 rfl rfl ?_
    refine wp_get 17 5 (vr (some (A 5))) dX16_change_47 hM.1.1 (by decide) (by decide) fl_X16_17 (congrArg (fun z => toV (vr z)) (hM.1.r 5 (by decide) (by decide) (by decide) (by decide))) ?_
    refine wp_bipush (nI 64) dX16_change_50 (by decide) ?_
    refine wp_iload_n (i := 1) dX16_change_52 rfl rfl ?_
    refine wp_imulN dX16_change_53 ?_
    refine wp_iload_n (i := 2) dX16_change_54 rfl rfl ?_
    refine wp_iaddN dX16_change_55 ?_
    refine wp_iload_n (i := 3) dX16_change_56 rfl rfl ?_
    refine wp_iastoreN 3840 dX16_change_57 (hM.1.k 5 (by decide) (by decide) (by decide) (by decide)) (hM.1.n 5 (by decide) (by decide) (by decide)) (by omega) (by decide) ?_
    have hP14 := PV.i (k := (64 * v) + pl) (x := e) hM PV.rf 5 (by decide) (by decide)
    have hM13 := hM.w5 (k := (64 * v) + pl) (x := e)
    refine wp_aload_n (i := 0) dX16_change_58 rfl rfl ?_
    refine wp_get 17 4 (vr (some (A 4))) dX16_change_59 hM13.1.1 (by decide) (by decide) fl_X16_13 (congrArg (fun z => toV (vr z)) (hM13.1.r 4 (by decide) (by decide) (by decide) (by decide))) ?_
    refine wp_iload_n (i := 1) dX16_change_62 rfl rfl ?_
    refine wp_iload_n (i := 2) dX16_change_63 rfl rfl ?_
    refine wp_aload_n (i := 0) dX16_change_64 rfl rfl ?_
    refine wp_get 17 4 (vr (some (A 4))) dX16_change_65 hM13.1.1 (by decide) (by decide) fl_X16_13 (congrArg (fun z => toV (vr z)) (hM13.1.r 4 (by decide) (by decide) (by decide) (by decide))) ?_
    refine wp_iload_n (i := 1) dX16_change_68 rfl rfl ?_
    refine wp_ialoadN 60 (nI (sSz S v)) dX16_change_69 (hM13.1.k 4 (by decide) (by decide) (by decide) (by decide)) (hM13.1.n 4 (by decide) (by decide) (by decide)) (by omega) (by decide) (hM13.2.2.2.2.1 v) ?_
    refine wp_icmp_geN 82 dX16_change_70 (by decide) (by omega) (sz_bd hS v) (fun c_70 => ?_) (fun c_70 => absurd c_70 (by omega))
    refine wp_iload_n (i := 2) dX16_change_82 rfl rfl ?_
    refine wp_iconst (nI 1) dX16_change_83 (by decide) ?_
    refine wp_iaddN dX16_change_84 ?_
    refine wp_iastoreN 60 dX16_change_85 (hM13.1.k 4 (by decide) (by decide) (by decide) (by decide)) (hM13.1.n 4 (by decide) (by decide) (by decide)) (by omega) (by decide) ?_
    have hP16 := PV.i (k := v) (x := nI (pl + 1)) hM13 hP14 4 (by decide) (by decide)
    have hM15 := hM13.w4 (k := v) (x := (pl + 1))
    refine wp_iconst (nI 0) dX16_change_86 (by decide) ?_
    refine wp_istore (i := 7) (lv' := [(7, vi (nI 0)), (6, vi (nI 0)), (5, vi (nI (sSz S v))), (4, vi (nI (sMd S))), (0, vr (some m)), (1, vi (nI v)), (2, vi (nI pl)), (3, vi e)]) dX16_change_87 (by decide) rfl ?_
    refine wp_sub [(7, vi (nI 0)), (6, vi (nI 0)), (5, vi (nI (sSz S v))), (4, vi (nI (sMd S))), (0, vr (some m)), (1, vi (nI v)), (2, vi (nI pl)), (3, vi e)] (sb_cons (.head _) (sb_cons (.tail _ (.head _)) (sb_cons (.tail _ (.tail _ (.head _))) (sb_cons (.tail _ (.tail _ (.tail _ (.head _)))) (sb_cons (.tail _ (.tail _ (.tail _ (.tail _ (.head _))))) (sb_cons (.tail _ (.tail _ (.tail _ (.tail _ (.tail _ (.head _)))))) (sb_cons (.tail _ (.tail _ (.tail _ (.tail _ (.tail _ (.tail _ (.head _))))))) (sb_cons (.tail _ (.tail _ (.tail _ (.tail _ (.tail _ (.tail _ (.tail _ (.head _)))))))) sb_nil)))))))) ?_
    have eT : s_4 (s_5 S ((64 * v) + pl) e) v (pl + 1) = chE S v pl e := by unfold chE; rw [if_neg (by omega)]
    have hTB : SB (chE S v pl e) := (hS.w5).w4 (by split <;> omega)
    have hTm : sMd (chE S v pl e) = sMd S := rfl
    refine l_X16_change (T := chE S v pl e) (h0 := h) hTB (by rw [hTm]; exact hmd) hv (by omega) hpl hd (fun h9 P9 M9 => ?_) 21 0 _ (by omega) (by rw [← eT]; exact hM15) hP16
    rw [show chX S v pl e = chS (chE S v pl e) v (sSz S v) pl 21 from if_neg (fun z => by omega)] at hq
    have hge := (chS_md (S := chE S v pl e) (v := v) (n0 := sSz S v) (pl := pl) 21).1
    refine wp_aload_n (i := 0) dX16_change_215 rfl rfl ?_
    refine wp_get 17 2 (vi (nI (sMd (chS (chE S v pl e) v (sSz S v) pl 21)))) dX16_change_216 M9.1.1 (by decide) (by decide) fl_X16_84 (congrArg (fun z => toV (vi z)) (M9.2.2.1)) ?_
    refine wp_iload (i := 4) dX16_change_219 rfl ?_
    refine wp_isubN dX16_change_221 (by omega) ?_
    refine wp_ireturn dX16_change_222 rfl ?_
    exact hq _ P9 M9
  · skip
    refine wp_aload_n (i := 0) dX16_change_24 rfl rfl ?_
    refine wp_get 17 5 (vr (some (A 5))) dX16_change_25 hM.1.1 (by decide) (by decide) fl_X16_17 (congrArg (fun z => toV (vr z)) (hM.1.r 5 (by decide) (by decide) (by decide) (by decide))) ?_
    refine wp_bipush (nI 64) dX16_change_28 (by decide) ?_
    refine wp_iload_n (i := 1) dX16_change_30 rfl rfl ?_
    refine wp_imulN dX16_change_31 ?_
    refine wp_iload_n (i := 2) dX16_change_32 rfl rfl ?_
    refine wp_iaddN dX16_change_33 ?_
    refine wp_ialoadN 3840 (sEl S ((64 * v) + pl)) dX16_change_34 (hM.1.k 5 (by decide) (by decide) (by decide) (by decide)) (hM.1.n 5 (by decide) (by decide) (by decide)) (by omega) (by decide) (hM.2.2.2.2.2.1 ((64 * v) + pl)) ?_
    refine wp_iload_n (i := 3) dX16_change_35 rfl rfl ?_
    refine wp_icmp_ne 43 dX16_change_36 (by decide) (fun c_36 => ?_) (fun c_36 => ?_)
    · skip
      refine wp_iconst (nI 0) dX16_change_43 (by decide) ?_
      refine wp_istore (i := 6) (lv' := [(6, vi (nI 0)), (5, vi (nI (sSz S v))), (4, vi (nI (sMd S))), (0, vr (some m)), (1, vi (nI v)), (2, vi (nI pl)), (3, vi e)]) dX16_change_44 (by decide) rfl ?_
      refine wp_aload_n (i := 0) dX16_change_46 rfl rfl ?_
      refine wp_get 17 5 (vr (some (A 5))) dX16_change_47 hM.1.1 (by decide) (by decide) fl_X16_17 (congrArg (fun z => toV (vr z)) (hM.1.r 5 (by decide) (by decide) (by decide) (by decide))) ?_
      refine wp_bipush (nI 64) dX16_change_50 (by decide) ?_
      refine wp_iload_n (i := 1) dX16_change_52 rfl rfl ?_
      refine wp_imulN dX16_change_53 ?_
      refine wp_iload_n (i := 2) dX16_change_54 rfl rfl ?_
      refine wp_iaddN dX16_change_55 ?_
      refine wp_iload_n (i := 3) dX16_change_56 rfl rfl ?_
      refine wp_iastoreN 3840 dX16_change_57 (hM.1.k 5 (by decide) (by decide) (by decide) (by decide)) (hM.1.n 5 (by decide) (by decide) (by decide)) (by omega) (by decide) ?_
      have hP18 := PV.i (k := (64 * v) + pl) (x := e) hM PV.rf 5 (by decide) (by decide)
      have hM17 := hM.w5 (k := (64 * v) + pl) (x := e)
      refine wp_aload_n (i := 0) dX16_change_58 rfl rfl ?_
      refine wp_get 17 4 (vr (some (A 4))) dX16_change_59 hM17.1.1 (by decide) (by decide) fl_X16_13 (congrArg (fun z => toV (vr z)) (hM17.1.r 4 (by decide) (by decide) (by decide) (by decide))) ?_
      refine wp_iload_n (i := 1) dX16_change_62 rfl rfl ?_
      refine wp_iload_n (i := 2) dX16_change_63 rfl rfl ?_
      refine wp_aload_n (i := 0) dX16_change_64 rfl rfl ?_
      refine wp_get 17 4 (vr (some (A 4))) dX16_change_65 hM17.1.1 (by decide) (by decide) fl_X16_13 (congrArg (fun z => toV (vr z)) (hM17.1.r 4 (by decide) (by decide) (by decide) (by decide))) ?_
      refine wp_iload_n (i := 1) dX16_change_68 rfl rfl ?_
      refine wp_ialoadN 60 (nI (sSz S v)) dX16_change_69 (hM17.1.k 4 (by decide) (by decide) (by decide) (by decide)) (hM17.1.n 4 (by decide) (by decide) (by decide)) (by omega) (by decide) (hM17.2.2.2.2.1 v) ?_
      refine wp_icmp_geN 82 dX16_change_70 (by decide) (by omega) (sz_bd hS v) (fun c_70 => absurd c_70 (by omega)) (fun c_70 => ?_)
      refine wp_aload_n (i := 0) dX16_change_73 rfl rfl ?_
      refine wp_get 17 4 (vr (some (A 4))) dX16_change_74 hM17.1.1 (by decide) (by decide) fl_X16_13 (congrArg (fun z => toV (vr z)) (hM17.1.r 4 (by decide) (by decide) (by decide) (by decide))) ?_
      refine wp_iload_n (i := 1) dX16_change_77 rfl rfl ?_
      refine wp_ialoadN 60 (nI (sSz S v)) dX16_change_78 (hM17.1.k 4 (by decide) (by decide) (by decide) (by decide)) (hM17.1.n 4 (by decide) (by decide) (by decide)) (by omega) (by decide) (hM17.2.2.2.2.1 v) ?_
      refine wp_goto 85 dX16_change_79 (by decide) ?_
      refine wp_iastoreN 60 dX16_change_85 (hM17.1.k 4 (by decide) (by decide) (by decide) (by decide)) (hM17.1.n 4 (by decide) (by decide) (by decide)) (by omega) (by decide) ?_
      have hP20 := PV.i (k := v) (x := nI (sSz S v)) hM17 hP18 4 (by decide) (by decide)
      have hM19 := hM17.w4 (k := v) (x := (sSz S v))
      refine wp_iconst (nI 0) dX16_change_86 (by decide) ?_
      refine wp_istore (i := 7) (lv' := [(7, vi (nI 0)), (6, vi (nI 0)), (5, vi (nI (sSz S v))), (4, vi (nI (sMd S))), (0, vr (some m)), (1, vi (nI v)), (2, vi (nI pl)), (3, vi e)]) dX16_change_87 (by decide) rfl ?_
      refine wp_sub [(7, vi (nI 0)), (6, vi (nI 0)), (5, vi (nI (sSz S v))), (4, vi (nI (sMd S))), (0, vr (some m)), (1, vi (nI v)), (2, vi (nI pl)), (3, vi e)] (sb_cons (.head _) (sb_cons (.tail _ (.head _)) (sb_cons (.tail _ (.tail _ (.head _))) (sb_cons (.tail _ (.tail _ (.tail _ (.head _)))) (sb_cons (.tail _ (.tail _ (.tail _ (.tail _ (.head _))))) (sb_cons (.tail _ (.tail _ (.tail _ (.tail _ (.tail _ (.head _)))))) (sb_cons (.tail _ (.tail _ (.tail _ (.tail _ (.tail _ (.tail _ (.head _))))))) (sb_cons (.tail _ (.tail _ (.tail _ (.tail _ (.tail _ (.tail _ (.tail _ (.head _)))))))) sb_nil)))))))) ?_
      have eT : s_4 (s_5 S ((64 * v) + pl) e) v (sSz S v) = chE S v pl e := by unfold chE; rw [if_pos c_70]
      have hTB : SB (chE S v pl e) := (hS.w5).w4 (by split <;> omega)
      have hTm : sMd (chE S v pl e) = sMd S := rfl
      refine l_X16_change (T := chE S v pl e) (h0 := h) hTB (by rw [hTm]; exact hmd) hv (by omega) hpl hd (fun h9 P9 M9 => ?_) 21 0 _ (by omega) (by rw [← eT]; exact hM19) hP20
      rw [show chX S v pl e = chS (chE S v pl e) v (sSz S v) pl 21 from if_neg (fun z => c_36 z.2)] at hq
      have hge := (chS_md (S := chE S v pl e) (v := v) (n0 := sSz S v) (pl := pl) 21).1
      refine wp_aload_n (i := 0) dX16_change_215 rfl rfl ?_
      refine wp_get 17 2 (vi (nI (sMd (chS (chE S v pl e) v (sSz S v) pl 21)))) dX16_change_216 M9.1.1 (by decide) (by decide) fl_X16_84 (congrArg (fun z => toV (vi z)) (M9.2.2.1)) ?_
      refine wp_iload (i := 4) dX16_change_219 rfl ?_
      refine wp_isubN dX16_change_221 (by omega) ?_
      refine wp_ireturn dX16_change_222 rfl ?_
      exact hq _ P9 M9
    · skip
      refine wp_iconst (nI 1) dX16_change_39 (by decide) ?_
      refine wp_goto 44 dX16_change_40 (by decide) ?_
      refine wp_istore (i := 6) (lv' := [(6, vi (nI 1)), (5, vi (nI (sSz S v))), (4, vi (nI (sMd S))), (0, vr (some m)), (1, vi (nI v)), (2, vi (nI pl)), (3, vi e)]) dX16_change_44 (by decide) rfl ?_
      refine wp_aload_n (i := 0) dX16_change_46 rfl rfl ?_
      refine wp_get 17 5 (vr (some (A 5))) dX16_change_47 hM.1.1 (by decide) (by decide) fl_X16_17 (congrArg (fun z => toV (vr z)) (hM.1.r 5 (by decide) (by decide) (by decide) (by decide))) ?_
      refine wp_bipush (nI 64) dX16_change_50 (by decide) ?_
      refine wp_iload_n (i := 1) dX16_change_52 rfl rfl ?_
      refine wp_imulN dX16_change_53 ?_
      refine wp_iload_n (i := 2) dX16_change_54 rfl rfl ?_
      refine wp_iaddN dX16_change_55 ?_
      refine wp_iload_n (i := 3) dX16_change_56 rfl rfl ?_
      refine wp_iastoreN 3840 dX16_change_57 (hM.1.k 5 (by decide) (by decide) (by decide) (by decide)) (hM.1.n 5 (by decide) (by decide) (by decide)) (by omega) (by decide) ?_
      have hP22 := PV.i (k := (64 * v) + pl) (x := e) hM PV.rf 5 (by decide) (by decide)
      have hM21 := hM.w5 (k := (64 * v) + pl) (x := e)
      refine wp_aload_n (i := 0) dX16_change_58 rfl rfl ?_
      refine wp_get 17 4 (vr (some (A 4))) dX16_change_59 hM21.1.1 (by decide) (by decide) fl_X16_13 (congrArg (fun z => toV (vr z)) (hM21.1.r 4 (by decide) (by decide) (by decide) (by decide))) ?_
      refine wp_iload_n (i := 1) dX16_change_62 rfl rfl ?_
      refine wp_iload_n (i := 2) dX16_change_63 rfl rfl ?_
      refine wp_aload_n (i := 0) dX16_change_64 rfl rfl ?_
      refine wp_get 17 4 (vr (some (A 4))) dX16_change_65 hM21.1.1 (by decide) (by decide) fl_X16_13 (congrArg (fun z => toV (vr z)) (hM21.1.r 4 (by decide) (by decide) (by decide) (by decide))) ?_
      refine wp_iload_n (i := 1) dX16_change_68 rfl rfl ?_
      refine wp_ialoadN 60 (nI (sSz S v)) dX16_change_69 (hM21.1.k 4 (by decide) (by decide) (by decide) (by decide)) (hM21.1.n 4 (by decide) (by decide) (by decide)) (by omega) (by decide) (hM21.2.2.2.2.1 v) ?_
      refine wp_icmp_geN 82 dX16_change_70 (by decide) (by omega) (sz_bd hS v) (fun c_70 => absurd c_70 (by omega)) (fun c_70 => ?_)
      refine wp_aload_n (i := 0) dX16_change_73 rfl rfl ?_
      refine wp_get 17 4 (vr (some (A 4))) dX16_change_74 hM21.1.1 (by decide) (by decide) fl_X16_13 (congrArg (fun z => toV (vr z)) (hM21.1.r 4 (by decide) (by decide) (by decide) (by decide))) ?_
      refine wp_iload_n (i := 1) dX16_change_77 rfl rfl ?_
      refine wp_ialoadN 60 (nI (sSz S v)) dX16_change_78 (hM21.1.k 4 (by decide) (by decide) (by decide) (by decide)) (hM21.1.n 4 (by decide) (by decide) (by decide)) (by omega) (by decide) (hM21.2.2.2.2.1 v) ?_
      refine wp_goto 85 dX16_change_79 (by decide) ?_
      refine wp_iastoreN 60 dX16_change_85 (hM21.1.k 4 (by decide) (by decide) (by decide) (by decide)) (hM21.1.n 4 (by decide) (by decide) (by decide)) (by omega) (by decide) ?_
      have hP24 := PV.i (k := v) (x := nI (sSz S v)) hM21 hP22 4 (by decide) (by decide)
      have hM23 := hM21.w4 (k := v) (x := (sSz S v))
      refine wp_iconst (nI 0) dX16_change_86 (by decide) ?_
      refine wp_istore (i := 7) (lv' := [(7, vi (nI 0)), (6, vi (nI 1)), (5, vi (nI (sSz S v))), (4, vi (nI (sMd S))), (0, vr (some m)), (1, vi (nI v)), (2, vi (nI pl)), (3, vi e)]) dX16_change_87 (by decide) rfl ?_
      refine wp_sub [(7, vi (nI 0)), (6, vi (nI 1)), (5, vi (nI (sSz S v))), (4, vi (nI (sMd S))), (0, vr (some m)), (1, vi (nI v)), (2, vi (nI pl)), (3, vi e)] (sb_cons (.head _) (sb_cons (.tail _ (.head _)) (sb_cons (.tail _ (.tail _ (.head _))) (sb_cons (.tail _ (.tail _ (.tail _ (.head _)))) (sb_cons (.tail _ (.tail _ (.tail _ (.tail _ (.head _))))) (sb_cons (.tail _ (.tail _ (.tail _ (.tail _ (.tail _ (.head _)))))) (sb_cons (.tail _ (.tail _ (.tail _ (.tail _ (.tail _ (.tail _ (.head _))))))) (sb_cons (.tail _ (.tail _ (.tail _ (.tail _ (.tail _ (.tail _ (.tail _ (.head _)))))))) sb_nil)))))))) ?_
      have eT : s_4 (s_5 S ((64 * v) + pl) e) v (sSz S v) = chE S v pl e := by unfold chE; rw [if_pos c_70]
      rw [show chX S v pl e = chE S v pl e from if_pos ⟨c_21, c_36⟩] at hq
      refine wp_iload (i := 7) dX16_change_89 rfl ?_
      refine wp_bipush (nI 21) dX16_change_91 (by decide) ?_
      refine wp_icmp_geN 215 dX16_change_93 (by decide) (by decide) (by decide) (fun c_93 => absurd c_93 (by decide)) (fun c_93 => ?_)
      refine wp_iload (i := 6) dX16_change_96 rfl ?_
      refine wp_if_neN 215 dX16_change_98 (by decide) (by decide) (fun c_98 => ?_) (fun c_98 => absurd c_98 (by decide))
      refine wp_sub [(4, vi (nI (sMd S))), (0, vr (some m))] (sb_cons (.tail _ (.tail _ (.tail _ (.head _)))) (sb_cons (.tail _ (.tail _ (.tail _ (.tail _ (.head _))))) sb_nil)) ?_
      have hge : sMd S ≤ sMd (chE S v pl e) := Nat.le_refl _
      refine wp_aload_n (i := 0) dX16_change_215 rfl rfl ?_
      refine wp_get 17 2 (vi (nI (sMd (chE S v pl e)))) dX16_change_216 hM23.1.1 (by decide) (by decide) fl_X16_84 (congrArg (fun z => toV (vi z)) (hM23.2.2.1)) ?_
      refine wp_iload (i := 4) dX16_change_219 rfl ?_
      refine wp_isubN dX16_change_221 (by omega) ?_
      refine wp_ireturn dX16_change_222 rfl ?_
      exact hq _ hP24 (by rw [← eT]; exact hM23)
set_option maxRecDepth 100000 in
set_option maxHeartbeats 4000000 in
theorem c_X16_appendTo {G : GG} {d bc bs : Nat} {h : Hp} {Q : Pst} {m : Nat} {A : Nat → Nat} {S : SV} (hM : MP h m A S) (hS : SB S) {v : Int32} {k : Nat} (hv : ixB v (sNv S) = true → v = nI k ∧ k < sNv S) {e : Int32} (hmd : sMd S + 21 ≤ 1000000) (hd : 6 ≤ d) (hq : PO Q h m A (o_appendTo S v k e)) : WP G m_X16_appendTo d 0 (aargs 0 [vr (some m), vi v, vi e]) [] h bc bs Q := by
  refine wp_sub [(0, vr (some m)), (1, vi v), (2, vi e)] (fun _ hz => hz) ?_
  have hnv := hS.1
  have hsz := hS.2.2.2.1
  refine wp_aload_n (i := 0) dX16_appendTo_0 rfl rfl ?_
  refine wp_iconst (nI 0) dX16_appendTo_1 (by decide) ?_
  refine wp_putI 17 0 dX16_appendTo_2 hM.1.1 (by decide) (by decide) (by decide) fl_X16_63 rfl (fun _ _ => rfl) rfl rfl ?_
  have hM25 := hM.w0 (x := (nI 0))
  refine wp_aload_n (i := 0) dX16_appendTo_5 rfl rfl ?_
  refine wp_aload_n (i := 0) dX16_appendTo_6 rfl rfl ?_
  refine wp_iload_n (i := 1) dX16_appendTo_7 rfl rfl ?_
  refine wp_cV (y' := m_X16_noValue) 17 [vi v] [vr (some m)] 0 0 dX16_appendTo_8 ml_X16_114 im_X16_noValue se_X16_noValue (by decide) hM25.1.1 ok_X16_noValue rfl (Nat.le_of_ble_eq_true rfl) rfl (Nat.le_of_ble_eq_true rfl) (d' := d - 1) (by omega) (Nat.zero_le _) (Nat.zero_le _) (c_X16_noValue hM25 hS v (by omega) (cont_ret ?_))
  refine wp_iconst (nI 1) dX16_appendTo_11 (by decide) ?_
  refine wp_cV (y' := m_X16_fails) 17 [vi (bI (!ixB v (sNv S))), vi (nI 1)] [] 0 0 dX16_appendTo_12 ml_X16_102 im_X16_fails se_X16_fails (by decide) hM25.1.1 ok_X16_fails rfl (Nat.le_of_ble_eq_true rfl) rfl (Nat.le_of_ble_eq_true rfl) (d' := d - 1) (by omega) (Nat.zero_le _) (Nat.zero_le _) (c_X16_failsB hM25 hS wI_ss (!ixB v (sNv S)) (nI 1) (by decide) (fun g_1 => cont_ret ?_) (fun g_1 => cont_ret ?_))
  · have hM26 := hM25.w0 (x := nI 1)
    refine wp_if_neN 65 dX16_appendTo_15 (by decide) (by decide) (fun c_15 => ?_) (fun c_15 => absurd c_15 (by decide))
    refine wp_iconst (nI 0) dX16_appendTo_65 (by decide) ?_
    refine wp_ireturn dX16_appendTo_66 rfl ?_
    rw [show o_appendTo S v k e = (nI 1, nI 0, S) from by unfold o_appendTo; rw [if_pos g_1]] at hq
    exact hq _ ((IB.w mW_m).tr (IB.w mW_m)) wI_ss hM26
  · obtain ⟨ev, hk⟩ := hv (nt_f g_1)
    subst ev
    refine wp_if_neN 65 dX16_appendTo_15 (by decide) (by decide) (fun c_15 => absurd c_15 (by decide)) (fun c_15 => ?_)
    refine wp_aload_n (i := 0) dX16_appendTo_18 rfl rfl ?_
    refine wp_iload_n (i := 2) dX16_appendTo_19 rfl rfl ?_
    refine wp_cS (y' := m_X16_noElement) [vi e] [vr (some m)] 0 0 dX16_appendTo_20 ml_X16_118 st_X16_noElement ok_X16_noElement rfl (Nat.le_of_ble_eq_true rfl) rfl (Nat.le_of_ble_eq_true rfl) (d' := d - 1) (by omega) (Nat.zero_le _) (Nat.zero_le _) (c_X16_noElement e (by omega) (cont_ret ?_))
    refine wp_iconst (nI 2) dX16_appendTo_23 (by decide) ?_
    refine wp_cV (y' := m_X16_fails) 17 [vi (bI (!elB e)), vi (nI 2)] [] 0 0 dX16_appendTo_24 ml_X16_102 im_X16_fails se_X16_fails (by decide) hM25.1.1 ok_X16_fails rfl (Nat.le_of_ble_eq_true rfl) rfl (Nat.le_of_ble_eq_true rfl) (d' := d - 1) (by omega) (Nat.zero_le _) (Nat.zero_le _) (c_X16_failsB hM25 hS wI_ss (!elB e) (nI 2) (by decide) (fun g_2 => cont_ret ?_) (fun g_2 => cont_ret ?_))
    · have hM27 := hM25.w0 (x := nI 2)
      refine wp_if_neN 65 dX16_appendTo_27 (by decide) (by decide) (fun c_27 => ?_) (fun c_27 => absurd c_27 (by decide))
      refine wp_iconst (nI 0) dX16_appendTo_65 (by decide) ?_
      refine wp_ireturn dX16_appendTo_66 rfl ?_
      rw [show o_appendTo S (nI k) k e = (nI 2, nI 0, S) from by unfold o_appendTo; rw [if_neg (fun z => Bool.false_ne_true (g_1.symm.trans z)), if_pos g_2]] at hq
      exact hq _ ((IB.w mW_m).tr (IB.w mW_m)) wI_ss hM27
    · skip
      refine wp_if_neN 65 dX16_appendTo_27 (by decide) (by decide) (fun c_27 => absurd c_27 (by decide)) (fun c_27 => ?_)
      refine wp_aload_n (i := 0) dX16_appendTo_30 rfl rfl ?_
      refine wp_aload_n (i := 0) dX16_appendTo_31 rfl rfl ?_
      refine wp_get 17 3 (vr (some (A 3))) dX16_appendTo_32 hM25.1.1 (by decide) (by decide) fl_X16_7 (congrArg (fun z => toV (vr z)) (hM25.1.r 3 (by decide) (by decide) (by decide) (by decide))) ?_
      refine wp_iload_n (i := 1) dX16_appendTo_35 rfl rfl ?_
      refine wp_caloadN 60 (nI (sTy S k)) dX16_appendTo_36 (hM25.1.k 3 (by decide) (by decide) (by decide) (by decide)) (hM25.1.n 3 (by decide) (by decide) (by decide)) (by omega) (by decide) (hM25.2.2.2.1 k) ?_
      refine wp_bipush (nI 111) dX16_appendTo_37 (by decide) ?_
      refine wp_icmp_neN 53 dX16_appendTo_39 (by decide) (ty_bd hS k) (by decide) (fun c_39 => ?_) (fun c_39 => ?_)
      · skip
        refine wp_iconst (nI 1) dX16_appendTo_53 (by decide) ?_
        refine wp_goto 58 dX16_appendTo_54 (by decide) ?_
        refine wp_iconst (nI 3) dX16_appendTo_58 (by decide) ?_
        refine wp_cV (y' := m_X16_fails) 17 [vi (nI 1), vi (nI 3)] [] 0 0 dX16_appendTo_59 ml_X16_102 im_X16_fails se_X16_fails (by decide) hM25.1.1 ok_X16_fails rfl (Nat.le_of_ble_eq_true rfl) rfl (Nat.le_of_ble_eq_true rfl) (d' := d - 1) (by omega) (Nat.zero_le _) (Nat.zero_le _) (c_X16_failsT hM25 hS wI_ss (nI 3) (by decide) (cont_ret ?_))
        have hM28 := hM25.w0 (x := nI 3)
        refine wp_if_eqN 67 dX16_appendTo_62 (by decide) (by decide) (fun c_62 => absurd c_62 (by decide)) (fun c_62 => ?_)
        refine wp_iconst (nI 0) dX16_appendTo_65 (by decide) ?_
        refine wp_ireturn dX16_appendTo_66 rfl ?_
        rw [show o_appendTo S (nI k) k e = (nI 3, nI 0, S) from by unfold o_appendTo; rw [if_neg (fun z => Bool.false_ne_true (g_1.symm.trans z)), if_neg (fun z => Bool.false_ne_true (g_2.symm.trans z)), if_pos (by first | exact Or.inl c_39 | exact Or.inr c_50)]] at hq
        exact hq _ ((IB.w mW_m).tr (IB.w mW_m)) wI_ss hM28
      · skip
        refine wp_aload_n (i := 0) dX16_appendTo_42 rfl rfl ?_
        refine wp_get 17 4 (vr (some (A 4))) dX16_appendTo_43 hM25.1.1 (by decide) (by decide) fl_X16_13 (congrArg (fun z => toV (vr z)) (hM25.1.r 4 (by decide) (by decide) (by decide) (by decide))) ?_
        refine wp_iload_n (i := 1) dX16_appendTo_46 rfl rfl ?_
        refine wp_ialoadN 60 (nI (sSz S k)) dX16_appendTo_47 (hM25.1.k 4 (by decide) (by decide) (by decide) (by decide)) (hM25.1.n 4 (by decide) (by decide) (by decide)) (by omega) (by decide) (hM25.2.2.2.2.1 k) ?_
        refine wp_bipush (nI 64) dX16_appendTo_48 (by decide) ?_
        refine wp_icmp_neN 57 dX16_appendTo_50 (by decide) (sz_bd hS k) (by decide) (fun c_50 => ?_) (fun c_50 => ?_)
        · skip
          refine wp_iconst (nI 0) dX16_appendTo_57 (by decide) ?_
          refine wp_iconst (nI 3) dX16_appendTo_58 (by decide) ?_
          refine wp_cV (y' := m_X16_fails) 17 [vi (nI 0), vi (nI 3)] [] 0 0 dX16_appendTo_59 ml_X16_102 im_X16_fails se_X16_fails (by decide) hM25.1.1 ok_X16_fails rfl (Nat.le_of_ble_eq_true rfl) rfl (Nat.le_of_ble_eq_true rfl) (d' := d - 1) (by omega) (Nat.zero_le _) (Nat.zero_le _) (c_X16_failsF hM25 hS wI_ss (nI 3) (by decide) (cont_ret ?_))
          skip
          refine wp_if_eqN 67 dX16_appendTo_62 (by decide) (by decide) (fun c_62 => ?_) (fun c_62 => absurd c_62 (by decide))
          have hszk := hsz k
          refine wp_aload_n (i := 0) dX16_appendTo_67 rfl rfl ?_
          refine wp_iload_n (i := 1) dX16_appendTo_68 rfl rfl ?_
          refine wp_aload_n (i := 0) dX16_appendTo_69 rfl rfl ?_
          refine wp_get 17 4 (vr (some (A 4))) dX16_appendTo_70 hM25.1.1 (by decide) (by decide) fl_X16_13 (congrArg (fun z => toV (vr z)) (hM25.1.r 4 (by decide) (by decide) (by decide) (by decide))) ?_
          refine wp_iload_n (i := 1) dX16_appendTo_73 rfl rfl ?_
          refine wp_ialoadN 60 (nI (sSz S k)) dX16_appendTo_74 (hM25.1.k 4 (by decide) (by decide) (by decide) (by decide)) (hM25.1.n 4 (by decide) (by decide) (by decide)) (by omega) (by decide) (hM25.2.2.2.2.1 k) ?_
          refine wp_iload_n (i := 2) dX16_appendTo_75 rfl rfl ?_
          refine wp_cV (y' := m_X16_change) 17 [vi (nI k), vi (nI (sSz S k)), vi e] [] 0 0 dX16_appendTo_76 ml_X16_127 im_X16_change se_X16_change (by decide) hM25.1.1 ok_X16_change rfl (Nat.le_of_ble_eq_true rfl) rfl (Nat.le_of_ble_eq_true rfl) (d' := d - 1) (by omega) (Nat.zero_le _) (Nat.zero_le _) (c_X16_change hM25 hS hmd (by omega) (by omega) (by omega) (by omega) (fun h32 hP31 hM30 => cont_ret ?_))
          refine wp_ireturn dX16_appendTo_79 rfl ?_
          rw [show o_appendTo S (nI k) k e = (nI 0, nI (sMd (chX S k (sSz S k) e) - sMd S), chX S k (sSz S k) e) from by unfold o_appendTo; rw [if_neg (fun z => Bool.false_ne_true (g_1.symm.trans z)), if_neg (fun z => Bool.false_ne_true (g_2.symm.trans z)), if_neg (by first | (intro z; rcases z with z | z <;> omega))]] at hq
          exact hq _ ((IB.w mW_m).tr (hP31).1) ((hP31).2.trans wI_ss) hM30
        · skip
          refine wp_iconst (nI 1) dX16_appendTo_53 (by decide) ?_
          refine wp_goto 58 dX16_appendTo_54 (by decide) ?_
          refine wp_iconst (nI 3) dX16_appendTo_58 (by decide) ?_
          refine wp_cV (y' := m_X16_fails) 17 [vi (nI 1), vi (nI 3)] [] 0 0 dX16_appendTo_59 ml_X16_102 im_X16_fails se_X16_fails (by decide) hM25.1.1 ok_X16_fails rfl (Nat.le_of_ble_eq_true rfl) rfl (Nat.le_of_ble_eq_true rfl) (d' := d - 1) (by omega) (Nat.zero_le _) (Nat.zero_le _) (c_X16_failsT hM25 hS wI_ss (nI 3) (by decide) (cont_ret ?_))
          have hM33 := hM25.w0 (x := nI 3)
          refine wp_if_eqN 67 dX16_appendTo_62 (by decide) (by decide) (fun c_62 => absurd c_62 (by decide)) (fun c_62 => ?_)
          refine wp_iconst (nI 0) dX16_appendTo_65 (by decide) ?_
          refine wp_ireturn dX16_appendTo_66 rfl ?_
          rw [show o_appendTo S (nI k) k e = (nI 3, nI 0, S) from by unfold o_appendTo; rw [if_neg (fun z => Bool.false_ne_true (g_1.symm.trans z)), if_neg (fun z => Bool.false_ne_true (g_2.symm.trans z)), if_pos (by first | exact Or.inl c_39 | exact Or.inr c_50)]] at hq
          exact hq _ ((IB.w mW_m).tr (IB.w mW_m)) wI_ss hM33
set_option maxRecDepth 100000 in
set_option maxHeartbeats 4000000 in
theorem c_X16_setIn {G : GG} {d bc bs : Nat} {h : Hp} {Q : Pst} {m : Nat} {A : Nat → Nat} {S : SV} (hM : MP h m A S) (hS : SB S) {v : Int32} {k : Nat} (hv : ixB v (sNv S) = true → v = nI k ∧ k < sNv S) {i : Int32} {j : Nat} (hi : ixB i (sSz S k) = true → i = nI j ∧ j < sSz S k) {e : Int32} (hmd : sMd S + 21 ≤ 1000000) (hd : 6 ≤ d) (hq : PO Q h m A (o_setIn S v k i j e)) : WP G m_X16_setIn d 0 (aargs 0 [vr (some m), vi v, vi i, vi e]) [] h bc bs Q := by
  refine wp_sub [(0, vr (some m)), (1, vi v), (2, vi i), (3, vi e)] (fun _ hz => hz) ?_
  have hnv := hS.1
  have hsz := hS.2.2.2.1
  refine wp_aload_n (i := 0) dX16_setIn_0 rfl rfl ?_
  refine wp_iconst (nI 0) dX16_setIn_1 (by decide) ?_
  refine wp_putI 17 0 dX16_setIn_2 hM.1.1 (by decide) (by decide) (by decide) fl_X16_63 rfl (fun _ _ => rfl) rfl rfl ?_
  have hM34 := hM.w0 (x := (nI 0))
  refine wp_aload_n (i := 0) dX16_setIn_5 rfl rfl ?_
  refine wp_aload_n (i := 0) dX16_setIn_6 rfl rfl ?_
  refine wp_iload_n (i := 1) dX16_setIn_7 rfl rfl ?_
  refine wp_cV (y' := m_X16_noValue) 17 [vi v] [vr (some m)] 0 0 dX16_setIn_8 ml_X16_114 im_X16_noValue se_X16_noValue (by decide) hM34.1.1 ok_X16_noValue rfl (Nat.le_of_ble_eq_true rfl) rfl (Nat.le_of_ble_eq_true rfl) (d' := d - 1) (by omega) (Nat.zero_le _) (Nat.zero_le _) (c_X16_noValue hM34 hS v (by omega) (cont_ret ?_))
  refine wp_iconst (nI 1) dX16_setIn_11 (by decide) ?_
  refine wp_cV (y' := m_X16_fails) 17 [vi (bI (!ixB v (sNv S))), vi (nI 1)] [] 0 0 dX16_setIn_12 ml_X16_102 im_X16_fails se_X16_fails (by decide) hM34.1.1 ok_X16_fails rfl (Nat.le_of_ble_eq_true rfl) rfl (Nat.le_of_ble_eq_true rfl) (d' := d - 1) (by omega) (Nat.zero_le _) (Nat.zero_le _) (c_X16_failsB hM34 hS wI_ss (!ixB v (sNv S)) (nI 1) (by decide) (fun g_1 => cont_ret ?_) (fun g_1 => cont_ret ?_))
  · have hM35 := hM34.w0 (x := nI 1)
    refine wp_if_neN 83 dX16_setIn_15 (by decide) (by decide) (fun c_15 => ?_) (fun c_15 => absurd c_15 (by decide))
    refine wp_iconst (nI 0) dX16_setIn_83 (by decide) ?_
    refine wp_ireturn dX16_setIn_84 rfl ?_
    rw [show o_setIn S v k i j e = (nI 1, nI 0, S) from by unfold o_setIn; rw [if_pos g_1]] at hq
    exact hq _ ((IB.w mW_m).tr (IB.w mW_m)) wI_ss hM35
  · obtain ⟨ev, hk⟩ := hv (nt_f g_1)
    subst ev
    refine wp_if_neN 83 dX16_setIn_15 (by decide) (by decide) (fun c_15 => absurd c_15 (by decide)) (fun c_15 => ?_)
    refine wp_aload_n (i := 0) dX16_setIn_18 rfl rfl ?_
    refine wp_iload_n (i := 3) dX16_setIn_19 rfl rfl ?_
    refine wp_cS (y' := m_X16_noElement) [vi e] [vr (some m)] 0 0 dX16_setIn_20 ml_X16_118 st_X16_noElement ok_X16_noElement rfl (Nat.le_of_ble_eq_true rfl) rfl (Nat.le_of_ble_eq_true rfl) (d' := d - 1) (by omega) (Nat.zero_le _) (Nat.zero_le _) (c_X16_noElement e (by omega) (cont_ret ?_))
    refine wp_iconst (nI 2) dX16_setIn_23 (by decide) ?_
    refine wp_cV (y' := m_X16_fails) 17 [vi (bI (!elB e)), vi (nI 2)] [] 0 0 dX16_setIn_24 ml_X16_102 im_X16_fails se_X16_fails (by decide) hM34.1.1 ok_X16_fails rfl (Nat.le_of_ble_eq_true rfl) rfl (Nat.le_of_ble_eq_true rfl) (d' := d - 1) (by omega) (Nat.zero_le _) (Nat.zero_le _) (c_X16_failsB hM34 hS wI_ss (!elB e) (nI 2) (by decide) (fun g_2 => cont_ret ?_) (fun g_2 => cont_ret ?_))
    · have hM36 := hM34.w0 (x := nI 2)
      refine wp_if_neN 83 dX16_setIn_27 (by decide) (by decide) (fun c_27 => ?_) (fun c_27 => absurd c_27 (by decide))
      refine wp_iconst (nI 0) dX16_setIn_83 (by decide) ?_
      refine wp_ireturn dX16_setIn_84 rfl ?_
      rw [show o_setIn S (nI k) k i j e = (nI 2, nI 0, S) from by unfold o_setIn; rw [if_neg (fun z => Bool.false_ne_true (g_1.symm.trans z)), if_pos g_2]] at hq
      exact hq _ ((IB.w mW_m).tr (IB.w mW_m)) wI_ss hM36
    · skip
      refine wp_if_neN 83 dX16_setIn_27 (by decide) (by decide) (fun c_27 => absurd c_27 (by decide)) (fun c_27 => ?_)
      refine wp_aload_n (i := 0) dX16_setIn_30 rfl rfl ?_
      refine wp_aload_n (i := 0) dX16_setIn_31 rfl rfl ?_
      refine wp_get 17 3 (vr (some (A 3))) dX16_setIn_32 hM34.1.1 (by decide) (by decide) fl_X16_7 (congrArg (fun z => toV (vr z)) (hM34.1.r 3 (by decide) (by decide) (by decide) (by decide))) ?_
      refine wp_iload_n (i := 1) dX16_setIn_35 rfl rfl ?_
      refine wp_caloadN 60 (nI (sTy S k)) dX16_setIn_36 (hM34.1.k 3 (by decide) (by decide) (by decide) (by decide)) (hM34.1.n 3 (by decide) (by decide) (by decide)) (by omega) (by decide) (hM34.2.2.2.1 k) ?_
      refine wp_bipush (nI 111) dX16_setIn_37 (by decide) ?_
      refine wp_icmp_eqN 46 dX16_setIn_39 (by decide) (ty_bd hS k) (by decide) (fun c_39 => ?_) (fun c_39 => ?_)
      · skip
        refine wp_iconst (nI 0) dX16_setIn_46 (by decide) ?_
        refine wp_iconst (nI 3) dX16_setIn_47 (by decide) ?_
        refine wp_cV (y' := m_X16_fails) 17 [vi (nI 0), vi (nI 3)] [] 0 0 dX16_setIn_48 ml_X16_102 im_X16_fails se_X16_fails (by decide) hM34.1.1 ok_X16_fails rfl (Nat.le_of_ble_eq_true rfl) rfl (Nat.le_of_ble_eq_true rfl) (d' := d - 1) (by omega) (Nat.zero_le _) (Nat.zero_le _) (c_X16_failsF hM34 hS wI_ss (nI 3) (by decide) (cont_ret ?_))
        skip
        refine wp_if_neN 83 dX16_setIn_51 (by decide) (by decide) (fun c_51 => absurd c_51 (by decide)) (fun c_51 => ?_)
        refine wp_aload_n (i := 0) dX16_setIn_54 rfl rfl ?_
        refine wp_iload_n (i := 2) dX16_setIn_55 rfl rfl ?_
        refine wp_iconst (nI 0) dX16_setIn_56 (by decide) ?_
        refine wp_aload_n (i := 0) dX16_setIn_57 rfl rfl ?_
        refine wp_get 17 4 (vr (some (A 4))) dX16_setIn_58 hM34.1.1 (by decide) (by decide) fl_X16_13 (congrArg (fun z => toV (vr z)) (hM34.1.r 4 (by decide) (by decide) (by decide) (by decide))) ?_
        refine wp_iload_n (i := 1) dX16_setIn_61 rfl rfl ?_
        refine wp_ialoadN 60 (nI (sSz S k)) dX16_setIn_62 (hM34.1.k 4 (by decide) (by decide) (by decide) (by decide)) (hM34.1.n 4 (by decide) (by decide) (by decide)) (by omega) (by decide) (hM34.2.2.2.2.1 k) ?_
        refine wp_iconst (nI 1) dX16_setIn_63 (by decide) ?_
        refine wp_isub dX16_setIn_64 ?_
        refine wp_cS (y' := m_X16_in) [vi i, vi (nI 0), vi ((nI (sSz S k)) - (nI 1))] [vr (some m)] 0 0 dX16_setIn_65 ml_X16_70 st_X16_in ok_X16_in rfl (Nat.le_of_ble_eq_true rfl) rfl (Nat.le_of_ble_eq_true rfl) (d' := d - 1) (by omega) (Nat.zero_le _) (Nat.zero_le _) (c_X16_in i (nI 0) ((nI (sSz S k)) - (nI 1))  (cont_ret ?_))
        refine wp_if_neB 75 dX16_setIn_68 (by decide) (fun c_68 => ?_) (fun c_68 => ?_)
        · skip
          refine wp_iconst (nI 0) dX16_setIn_75 (by decide) ?_
          refine wp_iconst (nI 4) dX16_setIn_76 (by decide) ?_
          refine wp_cV (y' := m_X16_fails) 17 [vi (nI 0), vi (nI 4)] [] 0 0 dX16_setIn_77 ml_X16_102 im_X16_fails se_X16_fails (by decide) hM34.1.1 ok_X16_fails rfl (Nat.le_of_ble_eq_true rfl) rfl (Nat.le_of_ble_eq_true rfl) (d' := d - 1) (by omega) (Nat.zero_le _) (Nat.zero_le _) (c_X16_failsF hM34 hS wI_ss (nI 4) (by decide) (cont_ret ?_))
          obtain ⟨ei, hj⟩ := hi c_68
          subst ei
          refine wp_if_eqN 85 dX16_setIn_80 (by decide) (by decide) (fun c_80 => ?_) (fun c_80 => absurd c_80 (by decide))
          have hszk := hsz k
          refine wp_aload_n (i := 0) dX16_setIn_85 rfl rfl ?_
          refine wp_iload_n (i := 1) dX16_setIn_86 rfl rfl ?_
          refine wp_iload_n (i := 2) dX16_setIn_87 rfl rfl ?_
          refine wp_iload_n (i := 3) dX16_setIn_88 rfl rfl ?_
          refine wp_cV (y' := m_X16_change) 17 [vi (nI k), vi (nI j), vi e] [] 0 0 dX16_setIn_89 ml_X16_127 im_X16_change se_X16_change (by decide) hM34.1.1 ok_X16_change rfl (Nat.le_of_ble_eq_true rfl) rfl (Nat.le_of_ble_eq_true rfl) (d' := d - 1) (by omega) (Nat.zero_le _) (Nat.zero_le _) (c_X16_change hM34 hS hmd (by omega) (by omega) (by omega) (by omega) (fun h41 hP40 hM39 => cont_ret ?_))
          refine wp_ireturn dX16_setIn_92 rfl ?_
          rw [show o_setIn S (nI k) k (nI j) j e = (nI 0, nI (sMd (chX S k j e) - sMd S), chX S k j e) from by unfold o_setIn; rw [if_neg (fun z => Bool.false_ne_true (g_1.symm.trans z)), if_neg (fun z => Bool.false_ne_true (g_2.symm.trans z)), if_neg (fun z => z c_39), if_neg (fun z => Bool.false_ne_true (z.symm.trans (show ixB (nI j) (sSz S k) = true from c_68)))]] at hq
          exact hq _ ((IB.w mW_m).tr (hP40).1) ((hP40).2.trans wI_ss) hM39
        · skip
          refine wp_iconst (nI 1) dX16_setIn_71 (by decide) ?_
          refine wp_goto 76 dX16_setIn_72 (by decide) ?_
          refine wp_iconst (nI 4) dX16_setIn_76 (by decide) ?_
          refine wp_cV (y' := m_X16_fails) 17 [vi (nI 1), vi (nI 4)] [] 0 0 dX16_setIn_77 ml_X16_102 im_X16_fails se_X16_fails (by decide) hM34.1.1 ok_X16_fails rfl (Nat.le_of_ble_eq_true rfl) rfl (Nat.le_of_ble_eq_true rfl) (d' := d - 1) (by omega) (Nat.zero_le _) (Nat.zero_le _) (c_X16_failsT hM34 hS wI_ss (nI 4) (by decide) (cont_ret ?_))
          have hM42 := hM34.w0 (x := nI 4)
          refine wp_if_eqN 85 dX16_setIn_80 (by decide) (by decide) (fun c_80 => absurd c_80 (by decide)) (fun c_80 => ?_)
          refine wp_iconst (nI 0) dX16_setIn_83 (by decide) ?_
          refine wp_ireturn dX16_setIn_84 rfl ?_
          rw [show o_setIn S (nI k) k i j e = (nI 4, nI 0, S) from by unfold o_setIn; rw [if_neg (fun z => Bool.false_ne_true (g_1.symm.trans z)), if_neg (fun z => Bool.false_ne_true (g_2.symm.trans z)), if_neg (fun z => z c_39), if_pos (show ixB i (sSz S k) = false from c_68)]] at hq
          exact hq _ ((IB.w mW_m).tr (IB.w mW_m)) wI_ss hM42
      · skip
        refine wp_iconst (nI 1) dX16_setIn_42 (by decide) ?_
        refine wp_goto 47 dX16_setIn_43 (by decide) ?_
        refine wp_iconst (nI 3) dX16_setIn_47 (by decide) ?_
        refine wp_cV (y' := m_X16_fails) 17 [vi (nI 1), vi (nI 3)] [] 0 0 dX16_setIn_48 ml_X16_102 im_X16_fails se_X16_fails (by decide) hM34.1.1 ok_X16_fails rfl (Nat.le_of_ble_eq_true rfl) rfl (Nat.le_of_ble_eq_true rfl) (d' := d - 1) (by omega) (Nat.zero_le _) (Nat.zero_le _) (c_X16_failsT hM34 hS wI_ss (nI 3) (by decide) (cont_ret ?_))
        have hM43 := hM34.w0 (x := nI 3)
        refine wp_if_neN 83 dX16_setIn_51 (by decide) (by decide) (fun c_51 => ?_) (fun c_51 => absurd c_51 (by decide))
        refine wp_iconst (nI 0) dX16_setIn_83 (by decide) ?_
        refine wp_ireturn dX16_setIn_84 rfl ?_
        rw [show o_setIn S (nI k) k i j e = (nI 3, nI 0, S) from by unfold o_setIn; rw [if_neg (fun z => Bool.false_ne_true (g_1.symm.trans z)), if_neg (fun z => Bool.false_ne_true (g_2.symm.trans z)), if_pos c_39]] at hq
        exact hq _ ((IB.w mW_m).tr (IB.w mW_m)) wI_ss hM43
set_option maxRecDepth 100000 in
set_option maxHeartbeats 4000000 in
theorem c_X16_size {G : GG} {d bc bs : Nat} {h : Hp} {Q : Pst} {m : Nat} {A : Nat → Nat} {S : SV} (hM : MP h m A S) (hS : SB S) {v : Int32} {k : Nat} (hv : ixB v (sNv S) = true → v = nI k ∧ k < sNv S) (hd : 6 ≤ d) (hq : PO Q h m A (o_size S v k)) : WP G m_X16_size d 0 (aargs 0 [vr (some m), vi v]) [] h bc bs Q := by
  refine wp_sub [(0, vr (some m)), (1, vi v)] (fun _ hz => hz) ?_
  have hnv := hS.1
  refine wp_aload_n (i := 0) dX16_size_0 rfl rfl ?_
  refine wp_iconst (nI 0) dX16_size_1 (by decide) ?_
  refine wp_putI 17 0 dX16_size_2 hM.1.1 (by decide) (by decide) (by decide) fl_X16_63 rfl (fun _ _ => rfl) rfl rfl ?_
  have hM44 := hM.w0 (x := (nI 0))
  refine wp_aload_n (i := 0) dX16_size_5 rfl rfl ?_
  refine wp_aload_n (i := 0) dX16_size_6 rfl rfl ?_
  refine wp_iload_n (i := 1) dX16_size_7 rfl rfl ?_
  refine wp_cV (y' := m_X16_noValue) 17 [vi v] [vr (some m)] 0 0 dX16_size_8 ml_X16_114 im_X16_noValue se_X16_noValue (by decide) hM44.1.1 ok_X16_noValue rfl (Nat.le_of_ble_eq_true rfl) rfl (Nat.le_of_ble_eq_true rfl) (d' := d - 1) (by omega) (Nat.zero_le _) (Nat.zero_le _) (c_X16_noValue hM44 hS v (by omega) (cont_ret ?_))
  refine wp_iconst (nI 1) dX16_size_11 (by decide) ?_
  refine wp_cV (y' := m_X16_fails) 17 [vi (bI (!ixB v (sNv S))), vi (nI 1)] [] 0 0 dX16_size_12 ml_X16_102 im_X16_fails se_X16_fails (by decide) hM44.1.1 ok_X16_fails rfl (Nat.le_of_ble_eq_true rfl) rfl (Nat.le_of_ble_eq_true rfl) (d' := d - 1) (by omega) (Nat.zero_le _) (Nat.zero_le _) (c_X16_failsB hM44 hS wI_ss (!ixB v (sNv S)) (nI 1) (by decide) (fun g_1 => cont_ret ?_) (fun g_1 => cont_ret ?_))
  · have hM45 := hM44.w0 (x := nI 1)
    refine wp_if_eqN 22 dX16_size_15 (by decide) (by decide) (fun c_15 => absurd c_15 (by decide)) (fun c_15 => ?_)
    refine wp_iconst (nI 0) dX16_size_18 (by decide) ?_
    refine wp_goto 28 dX16_size_19 (by decide) ?_
    refine wp_ireturn dX16_size_28 rfl ?_
    rw [show o_size S v k = (nI 1, nI 0, S) from by unfold o_size; rw [if_pos g_1]] at hq
    exact hq _ ((IB.w mW_m).tr (IB.w mW_m)) wI_ss hM45
  · obtain ⟨ev, hk⟩ := hv (nt_f g_1)
    subst ev
    refine wp_if_eqN 22 dX16_size_15 (by decide) (by decide) (fun c_15 => ?_) (fun c_15 => absurd c_15 (by decide))
    refine wp_aload_n (i := 0) dX16_size_22 rfl rfl ?_
    refine wp_get 17 4 (vr (some (A 4))) dX16_size_23 hM44.1.1 (by decide) (by decide) fl_X16_13 (congrArg (fun z => toV (vr z)) (hM44.1.r 4 (by decide) (by decide) (by decide) (by decide))) ?_
    refine wp_iload_n (i := 1) dX16_size_26 rfl rfl ?_
    refine wp_ialoadN 60 (nI (sSz S k)) dX16_size_27 (hM44.1.k 4 (by decide) (by decide) (by decide) (by decide)) (hM44.1.n 4 (by decide) (by decide) (by decide)) (by omega) (by decide) (hM44.2.2.2.2.1 k) ?_
    refine wp_ireturn dX16_size_28 rfl ?_
    rw [show o_size S (nI k) k = (nI 0, nI (sSz S k), S) from by unfold o_size; rw [if_neg (fun z => Bool.false_ne_true (g_1.symm.trans z))]] at hq
    exact hq _ (IB.w mW_m) wI_ss hM44
