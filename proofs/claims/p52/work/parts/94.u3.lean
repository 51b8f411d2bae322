/-! The class: vectors on their nodes. -/
/-- the node of a path at a height; its place there; what is below a node -/
def psl (pl h : Nat) : Nat := if h ≤ 1 then pl / 4 else if h = 2 then 16 + pl / 16 else 20
def pla (h pl : Nat) : Nat := (pl / 2 ^ (2 * (h - 1))) &&& 3
def chs (s p : Nat) : Nat := if s < 20 then 4 * (s - 16) + p else 16 + p
theorem pla_lt {h pl : Nat} : pla h pl < 4 := by
  have : pla h pl ≤ 3 := Nat.and_le_right
  omega
theorem and3 (x : Nat) : x &&& 3 = x % 4 := Nat.and_two_pow_sub_one_eq_mod x 2
theorem pla_1 {pl : Nat} : pla 1 pl = pl % 4 := by unfold pla; rw [and3]; simp
theorem pla_2 {pl : Nat} : pla 2 pl = pl / 4 % 4 := by unfold pla; rw [and3]
theorem pla_3 {pl : Nat} : pla 3 pl = pl / 16 % 4 := by unfold pla; rw [and3]
theorem psl_1 {pl : Nat} : psl pl 1 = pl / 4 := rfl
theorem psl_2 {pl : Nat} : psl pl 2 = 16 + pl / 16 := rfl
theorem psl_3 {pl : Nat} : psl pl 3 = 20 := rfl
theorem psl_c {pl h : Nat} (hp : pl < 64) (h2 : 1 ≤ h) (h3 : h ≤ 2) : chs (psl pl (h + 1)) (pla (h + 1) pl) = psl pl h := by
  have : h = 1 ∨ h = 2 := by omega
  rcases this with e | e <;> subst e
  · rw [psl_2, pla_2, psl_1]; unfold chs; rw [if_pos (by omega)]; omega
  · rw [psl_3, pla_3, psl_2]; unfold chs; rw [if_neg (by omega)]; omega
theorem psl_lt {pl h : Nat} (hp : pl < 64) : psl pl h < 21 := by unfold psl; (repeat' split) <;> omega
theorem psl_h {pl h : Nat} (hp : pl < 64) (h1 : 1 ≤ h) (h3 : h ≤ 3) : hOf (psl pl h) = h := by
  unfold psl hOf; (repeat' split) <;> omega
theorem psl_16 {pl h : Nat} (h1 : 2 ≤ h) : ¬ psl pl h < 16 := by unfold psl; (repeat' split) <;> omega
theorem psl_l {pl : Nat} (hp : pl < 64) : psl pl 1 < 16 := by rw [psl_1]; omega
theorem ith_iff {s n : Nat} : ith s n = true ↔ (hOf s ≤ dOf n ∧ (frm s < n ∨ s = 0)) := by unfold ith; simp
theorem psl_i {pl h n : Nat} (hp : pl < n) (hn : n ≤ 64) (h1 : 1 ≤ h) (h3 : h ≤ dOf n) : ith (psl pl h) n = true := by
  have h4 : dOf n ≤ 3 := by unfold dOf; (repeat' split) <;> omega
  rw [ith_iff, psl_h (by omega) h1 (by omega)]
  refine ⟨h3, ?_⟩
  unfold frm psl; (repeat' split) <;> omega
/-- off the path nothing comes or goes -/
theorem ith_off {t n n' pl : Nat} (ht : t < 21) (hn : (n' = n ∧ pl < n) ∨ (n' = n + 1 ∧ pl = n)) (hn4 : n' ≤ 64) (hp : ∀ h, 1 ≤ h → h ≤ dOf n' → t ≠ psl pl h) : ith t n' = ith t n := by
  rcases hn with ⟨rfl, _⟩ | ⟨rfl, rfl⟩
  · rfl
  · have p1 := hp 1 (by omega)
    have p2 := hp 2 (by omega)
    have p3 := hp 3 (by omega)
    rw [psl_1] at p1; rw [psl_2] at p2; rw [psl_3] at p3
    apply Bool.eq_iff_iff.mpr
    rw [ith_iff, ith_iff]
    unfold dOf at *
    unfold hOf frm
    by_cases a : t < 16
    · rw [if_pos a, if_pos a]
      (repeat' split at *) <;> omega
    · rw [if_neg a, if_neg a]
      by_cases b : t < 20
      · rw [if_pos b, if_pos b]
        (repeat' split at *) <;> omega
      · rw [if_neg b, if_neg b]
        (repeat' split at *) <;> omega
/-- a child of a node on the path that is another than the path's -/
theorem chs_off {pl h p : Nat} (hp : pl < 64) (h2 : 1 ≤ h) (h3 : h ≤ 2) (hp4 : p < 4) (hne : p ≠ pla (h + 1) pl) : ∀ i, 1 ≤ i → i ≤ 3 → chs (psl pl (h + 1)) p ≠ psl pl i := by
  intro i i1 i3
  have : h = 1 ∨ h = 2 := by omega
  have hi : i = 1 ∨ i = 2 ∨ i = 3 := by omega
  rcases this with e | e <;> subst e
  · rw [pla_2] at hne; rw [psl_2]; unfold chs; rw [if_pos (by omega)]
    rcases hi with e | e | e <;> subst e
    · rw [psl_1]; omega
    · rw [psl_2]; omega
    · rw [psl_3]; omega
  · rw [pla_3] at hne; rw [psl_3]; unfold chs; rw [if_neg (by omega)]
    rcases hi with e | e | e <;> subst e
    · rw [psl_1]; omega
    · rw [psl_2]; omega
    · rw [psl_3]; omega
theorem chs_lt {s p : Nat} (h1 : ¬ s < 16) (h2 : s < 21) (hp : p < 4) : chs s p < 21 ∧ hOf (chs s p) < hOf s := by
  unfold chs hOf; (repeat' split) <;> omega
/-- what stands below a node, and in a leaf -/
def chV (n : Nat) (nd : Nat → Nat) (s p : Nat) : Option Nat := if ith (chs s p) n = true then some (nm 45 (nd (chs s p))) else none
def elV (n : Nat) (el : Nat → Int32) (s p : Nat) : Int32 := if 4 * s + p < n then el (4 * s + p) else nI 0
/-- the node of the name k is the s-th of a vector; marks up to M -/
def VNk (M k n : Nat) (nd : Nat → Nat) (el : Nat → Int32) (s : Nat) (o : Int32) (x : KNS) : Prop := (∃ m, m ≤ M ∧ KN_mk x = nI m) ∧ if s < 16 then LFx k o (elV n el s) x else INx k o (chV n nd s) x
/-- a vector's nodes: n elements, nd the numbers of the nodes, ow whether it is the owner o's -/
def VT (h : Hp) (M n : Nat) (nd : Nat → Nat) (el : Nat → Int32) (ow : Nat → Bool) (o : Int32) : Prop := ∀ s, s < 21 → ith s n = true → ∃ x, KN h (nd s) x ∧ VNk M (nd s) n nd el s (KN_own x) x ∧ (o = -1 ∨ (KN_own x = o ↔ ow s = true))
theorem VNk.wf {M k n s : Nat} {nd : Nat → Nat} {el : Nat → Int32} {o : Int32} {x : KNS} (H : VNk M k n nd el s o x) : WFN k x := by
  have := H.2
  split at this
  · exact this.w
  · exact this.w
theorem VNk.cp {M k k' n s : Nat} {nd : Nat → Nat} {el : Nat → Int32} {o o' : Int32} {x x' : KNS} (H : VNk M k n nd el s o x) (C : CPx k' o' x x') : VNk M k' n nd el s o' x' := by
  have h := H.2
  refine ⟨⟨0, Nat.zero_le _, C.2.2.2.1⟩, ?_⟩
  split
  · next e => rw [if_pos e] at h; exact h.cp C
  · next e => rw [if_neg e] at h; exact h.cp C
/-- the children that the class reads -/
theorem VNk.ch {M k n s : Nat} {nd : Nat → Nat} {el : Nat → Int32} {o : Int32} {x : KNS} (H : VNk M k n nd el s o x) {p v : Nat} (e : chAq x p = some v) : ¬ s < 16 ∧ p < 4 ∧ ith (chs s p) n = true ∧ v = nm 45 (nd (chs s p)) := by
  have h := H.2
  unfold chAq at e
  by_cases es : s < 16
  · rw [if_pos es] at h
    rw [if_pos h.2.2.2.2.1] at e; cases e
  · rw [if_neg es] at h
    by_cases ep : p < 4
    · rw [if_neg (by rw [h.2.2.2.2.1]; exact fun z => nomatch z), if_pos ep, h.2.2.2.2.2.2.2.1 p ep] at e
      unfold chV at e
      split at e
      · next z => exact ⟨es, ep, z, (Option.some.inj e).symm⟩
      · cases e
    · rw [if_neg (by rw [h.2.2.2.2.1]; exact fun z => nomatch z), if_neg ep] at e; cases e
theorem VNk.rch {M k n s : Nat} {nd : Nat → Nat} {el : Nat → Int32} {o : Int32} {x : KNS} (H : VNk M k n nd el s o x) (hs : ¬ s < 16) {p : Nat} (hp : p < 4) : chAq x p = chV n nd s p := by
  have h := H.2
  rw [if_neg hs] at h
  unfold chAq
  rw [if_neg (by rw [h.2.2.2.2.1]; exact fun z => nomatch z), if_pos hp, h.2.2.2.2.2.2.2.1 p hp]
theorem VNk.rel {M k n s : Nat} {nd : Nat → Nat} {el : Nat → Int32} {o : Int32} {x : KNS} (H : VNk M k n nd el s o x) (hs : s < 16) {p : Nat} (hp : p < 4) : elA x p = elV n el s p := by
  have h := H.2
  rw [if_pos hs] at h
  unfold elA
  rw [if_neg (by rw [h.2.2.2.1]; exact fun z => nomatch z), if_pos (by rw [h.2.2.2.2.2.2.1]; exact hp), h.2.2.2.2.2.2.2.1 p hp]
theorem VNk.k {M n s : Nat} {nd : Nat → Nat} {el : Nat → Int32} {ow : Nat → Bool} {o : Int32} {h : Hp} (H : VT h M n nd el ow o) (hs : s < 21) (hi : ith s n = true) : h_k h (nm 45 (nd s)) = 6 := (H s hs hi).elim fun _ z => z.1.k0
theorem dOf_b (n : Nat) : 1 ≤ dOf n ∧ dOf n ≤ 3 := by unfold dOf; (repeat' split) <;> omega
set_option maxRecDepth 100000 in
set_option maxHeartbeats 4000000 in
theorem c_X9_depthFor {G : GG} {d bc bs : Nat} {h : Hp} {Q : Pst} {n : Nat} (hn : n ≤ 100) (hq : Q (oRet (vi (nI (dOf n)))) h) : WP G m_X9_depthFor d 0 (aargs 0 [vi (nI n)]) [] h bc bs Q := by
  refine wp_sub [(0, vi (nI n))] (fun _ hz => hz) ?_
  refine wp_iload_n (i := 0) dX9_depthFor_0 rfl rfl ?_
  refine wp_iconst (nI 4) dX9_depthFor_1 (by decide) ?_
  refine wp_icmp_gtN 9 dX9_depthFor_2 (by decide) (by omega) (by decide) (fun c_2 => ?_) (fun c_2 => ?_)
  · skip
    refine wp_iload_n (i := 0) dX9_depthFor_9 rfl rfl ?_
    refine wp_bipush (nI 16) dX9_depthFor_10 (by decide) ?_
    refine wp_icmp_gtN 19 dX9_depthFor_12 (by decide) (by omega) (by decide) (fun c_12 => ?_) (fun c_12 => ?_)
    · skip
      refine wp_iconst (nI 3) dX9_depthFor_19 (by decide) ?_
      refine wp_ireturn dX9_depthFor_20 rfl ?_
      rw [show dOf n = 3 from by unfold dOf; (repeat' split) <;> omega] at hq
      exact hq
    · skip
      refine wp_iconst (nI 2) dX9_depthFor_15 (by decide) ?_
      refine wp_goto 20 dX9_depthFor_16 (by decide) ?_
      refine wp_ireturn dX9_depthFor_20 rfl ?_
      rw [show dOf n = 2 from by unfold dOf; (repeat' split) <;> omega] at hq
      exact hq
  · skip
    refine wp_iconst (nI 1) dX9_depthFor_5 (by decide) ?_
    refine wp_goto 20 dX9_depthFor_6 (by decide) ?_
    refine wp_ireturn dX9_depthFor_20 rfl ?_
    rw [show dOf n = 1 from by unfold dOf; (repeat' split) <;> omega] at hq
    exact hq
set_option maxRecDepth 100000 in
set_option maxHeartbeats 4000000 in
theorem c_X9_placeAt {G : GG} {d bc bs : Nat} {h : Hp} {Q : Pst} {H pl : Nat} (h1 : 1 ≤ H) (h3 : H ≤ 3) (hp : pl < 100) (hq : Q (oRet (vi (nI (pla H pl)))) h) : WP G m_X9_placeAt d 0 (aargs 0 [vi (nI H), vi (nI pl)]) [] h bc bs Q := by
  refine wp_sub [(0, vi (nI H)), (1, vi (nI pl))] (fun _ hz => hz) ?_
  refine wp_iload_n (i := 1) dX9_placeAt_0 rfl rfl ?_
  refine wp_iconst (nI 2) dX9_placeAt_1 (by decide) ?_
  refine wp_iload_n (i := 0) dX9_placeAt_2 rfl rfl ?_
  refine wp_iconst (nI 1) dX9_placeAt_3 (by decide) ?_
  refine wp_isubN dX9_placeAt_4 (by omega) ?_
  refine wp_imulN dX9_placeAt_5 ?_
  refine wp_ishr dX9_placeAt_6 ?_
  rw [nI_shr (by omega) (by omega)]
  refine wp_iconst (nI 3) dX9_placeAt_7 (by decide) ?_
  refine wp_iand dX9_placeAt_8 ?_
  rw [nx_and]
  refine wp_ireturn dX9_placeAt_9 rfl ?_
  exact hq
set_option maxRecDepth 100000 in
set_option maxHeartbeats 4000000 in
theorem l_X9_elementIn {G : GG} {d bc bs : Nat} {h : Hp} {Q : Pst} {M n pl : Nat} {nd : Nat → Nat} {el : Nat → Int32} {ow : Nat → Bool} {o : Int32} (hV : VT h M n nd el ow o) (hpl : pl < n) (hn : n ≤ 64) (hd : 2 ≤ d) (hq : Q (oRet (vi (el pl))) h) : ∀ H, 1 ≤ H → H ≤ dOf n → WP G m_X9_elementIn d 8 [(4, vi (nI H)), (3, vr (some (nm 45 (nd (psl pl H))))), (2, vi (nI pl))] [] h bc bs Q := by
  have hd3 := dOf_b n
  intro H
  induction H with
  | zero => intro h1; exact absurd h1 (by decide)
  | succ H ih =>
    intro h1 h3
    have hi : ith (psl pl (H + 1)) n = true := psl_i hpl hn (by omega) h3
    obtain ⟨x, hO, hx, -⟩ := hV _ (psl_lt (by omega)) hi
    have p4 := pla_lt (h := H + 1) (pl := pl)
    by_cases e1 : H = 0
    · subst e1
      refine wp_iload (i := 4) dX9_elementIn_8 rfl ?_
      refine wp_iconst (nI 1) dX9_elementIn_10 (by decide) ?_
      refine wp_icmp_leN 35 dX9_elementIn_11 (by decide) (by omega) (by decide) (fun c_11 => ?_) (fun c_11 => absurd c_11 (by omega))
      refine wp_aload_n (i := 3) dX9_elementIn_35 rfl rfl ?_
      refine wp_ifnonnull 43 dX9_elementIn_36 (by decide) (fun a_36 c_36 => ?_) (fun c_36 => absurd c_36 (fun z => nomatch z))
      refine wp_aload_n (i := 3) dX9_elementIn_43 rfl rfl ?_
      refine wp_iconst (nI 1) dX9_elementIn_44 (by decide) ?_
      refine wp_iload_n (i := 2) dX9_elementIn_45 rfl rfl ?_
      refine wp_cS (y' := m_X9_placeAt) [vi (nI 1), vi (nI pl)] [vr (some (nm 45 (nd (psl pl (0 + 1)))))] 0 0 dX9_elementIn_46 ml_X9_15 st_X9_placeAt ok_X9_placeAt rfl (Nat.le_of_ble_eq_true rfl) rfl (Nat.le_of_ble_eq_true rfl) (d' := d - 1) (by omega) (Nat.zero_le _) (Nat.zero_le _) (c_X9_placeAt (by omega) (by omega) (by omega) (cont_ret ?_))
      refine wp_cV (y' := m_X3_elementAt) 5 [vi (nI (pla 1 pl))] [] 0 0 dX9_elementIn_49 ml_X9_25 im_X3_elementAt se_X3_elementAt (by decide) hO.k0 ok_X3_elementAt rfl (Nat.le_of_ble_eq_true rfl) rfl (Nat.le_of_ble_eq_true rfl) (d' := d - 1) (by omega) (Nat.zero_le _) (Nat.zero_le _) (c_X3_elementAt hO hx.wf.2.1 (p := pla 1 pl) (by have := pla_lt (h := 1) (pl := pl); omega) (cont_ret ?_))
      rw [hx.rel (psl_l (by omega)) pla_lt, show elV n el (psl pl (0 + 1)) (pla 1 pl) = el pl from by unfold elV; rw [show 4 * psl pl (0 + 1) + pla 1 pl = pl by rw [show psl pl (0 + 1) = pl / 4 from rfl, pla_1]; omega, if_pos hpl]]
      refine wp_ireturn dX9_elementIn_52 rfl ?_
      exact hq
    · have ec := psl_c (pl := pl) (h := H) (by omega) (by omega) (by omega)
      have hi2 : ith (psl pl H) n = true := psl_i hpl hn (by omega) (by omega)
      refine wp_iload (i := 4) dX9_elementIn_8 rfl ?_
      refine wp_iconst (nI 1) dX9_elementIn_10 (by decide) ?_
      refine wp_icmp_leN 35 dX9_elementIn_11 (by decide) (by omega) (by decide) (fun c_11 => absurd c_11 (by omega)) (fun c_11 => ?_)
      refine wp_aload_n (i := 3) dX9_elementIn_14 rfl rfl ?_
      refine wp_ifnull 35 dX9_elementIn_15 (by decide) (fun c_15 => absurd c_15 (fun z => nomatch z)) (fun a_15 c_15 => ?_)
      refine wp_aload_n (i := 3) dX9_elementIn_18 rfl rfl ?_
      refine wp_iload (i := 4) dX9_elementIn_19 rfl ?_
      refine wp_iload_n (i := 2) dX9_elementIn_21 rfl rfl ?_
      refine wp_cS (y' := m_X9_placeAt) [vi (nI (H + 1)), vi (nI pl)] [vr (some (nm 45 (nd (psl pl (H + 1)))))] 0 0 dX9_elementIn_22 ml_X9_15 st_X9_placeAt ok_X9_placeAt rfl (Nat.le_of_ble_eq_true rfl) rfl (Nat.le_of_ble_eq_true rfl) (d' := d - 1) (by omega) (Nat.zero_le _) (Nat.zero_le _) (c_X9_placeAt (by omega) (by omega) (by omega) (cont_ret ?_))
      refine wp_cV (y' := m_X3_childAt) 5 [vi (nI (pla (H + 1) pl))] [] 0 0 dX9_elementIn_25 ml_X9_19 im_X3_childAt se_X3_childAt (by decide) hO.k0 ok_X3_childAt rfl (Nat.le_of_ble_eq_true rfl) rfl (Nat.le_of_ble_eq_true rfl) (d' := d - 1) (by omega) (Nat.zero_le _) (Nat.zero_le _) (c_X3_childAt hO hx.wf.2.2.1 (p := pla (H + 1) pl) (by omega) (cont_ret ?_))
      rw [hx.rch (psl_16 (by omega)) p4, show chV n nd (psl pl (H + 1)) (pla (H + 1) pl) = some (nm 45 (nd (psl pl H))) from by unfold chV; rw [ec, if_pos hi2]]
      refine wp_astore_n (i := 3) (lv' := [(3, vr (some (nm 45 (nd (psl pl H))))), (4, vi (nI (H + 1))), (2, vi (nI pl))]) dX9_elementIn_28 rfl (by decide) rfl ?_
      obtain ⟨x_29, e_29⟩ : ∃ z : Int32, z = (nI (H + 1)) + Int32.ofInt (-1) := ⟨_, rfl⟩
      refine wp_iinc (lv' := [(4, vi x_29), (3, vr (some (nm 45 (nd (psl pl H))))), (2, vi (nI pl))]) x_29 dX9_elementIn_29 rfl e_29.symm (by decide) rfl ?_
      refine wp_goto 8 dX9_elementIn_32 (by decide) ?_
      rw [nI_dec (by omega), bfK_s] at e_29
      subst e_29
      refine wp_sub [(4, vi (nI H)), (3, vr (some (nm 45 (nd (psl pl H))))), (2, vi (nI pl))] (sb_cons (.head _) (sb_cons (.tail _ (.head _)) (sb_cons (.tail _ (.tail _ (.head _))) sb_nil))) ?_
      exact ih (by omega) (by omega)
set_option maxRecDepth 100000 in
set_option maxHeartbeats 4000000 in
theorem c_X9_elementIn {G : GG} {d bc bs : Nat} {h : Hp} {Q : Pst} {M n pl : Nat} {nd : Nat → Nat} {el : Nat → Int32} {ow : Nat → Bool} {o : Int32} (hV : VT h M n nd el ow o) (hpl : pl < n) (hn : n ≤ 64) (hd : 3 ≤ d) (hq : Q (oRet (vi (el pl))) h) : WP G m_X9_elementIn d 0 (aargs 0 [vr (some (nm 45 (nd (psl pl (dOf n))))), vi (nI n), vi (nI pl)]) [] h bc bs Q := by
  have hd3 := dOf_b n
  refine wp_sub [(0, vr (some (nm 45 (nd (psl pl (dOf n)))))), (1, vi (nI n)), (2, vi (nI pl))] (fun _ hz => hz) ?_
  refine wp_aload_n (i := 0) dX9_elementIn_0 rfl rfl ?_
  refine wp_astore_n (i := 3) (lv' := [(3, vr (some (nm 45 (nd (psl pl (dOf n)))))), (0, vr (some (nm 45 (nd (psl pl (dOf n)))))), (1, vi (nI n)), (2, vi (nI pl))]) dX9_elementIn_1 rfl (by decide) rfl ?_
  refine wp_iload_n (i := 1) dX9_elementIn_2 rfl rfl ?_
  refine wp_cS (y' := m_X9_depthFor) [vi (nI n)] [] 0 0 dX9_elementIn_3 ml_X9_9 st_X9_depthFor ok_X9_depthFor rfl (Nat.le_of_ble_eq_true rfl) rfl (Nat.le_of_ble_eq_true rfl) (d' := d - 1) (by omega) (Nat.zero_le _) (Nat.zero_le _) (c_X9_depthFor (by omega) (cont_ret ?_))
  refine wp_istore (i := 4) (lv' := [(4, vi (nI (dOf n))), (3, vr (some (nm 45 (nd (psl pl (dOf n)))))), (0, vr (some (nm 45 (nd (psl pl (dOf n)))))), (1, vi (nI n)), (2, vi (nI pl))]) dX9_elementIn_6 (by decide) rfl ?_
  refine wp_sub [(4, vi (nI (dOf n))), (3, vr (some (nm 45 (nd (psl pl (dOf n)))))), (2, vi (nI pl))] (sb_cons (.head _) (sb_cons (.tail _ (.head _)) (sb_cons (.tail _ (.tail _ (.tail _ (.tail _ (.head _))))) sb_nil))) ?_
  exact l_X9_elementIn hV hpl hn (by omega) hq _ hd3.1 (Nat.le_refl _)
