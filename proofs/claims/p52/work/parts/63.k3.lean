/-! The class: rows of numbers, forgetting, taking a number. -/
/-- a row's own names -/
def WRo (o p : Nat) : Nat → Prop := fun a => a = o ∨ a = p
theorem luC_le {c : Nat} (h : c ≤ 12) : luC c ≤ 12 := by unfold luC; split <;> omega
theorem laZ_le {c : Nat} {f g : Nat → Int32} (h : c ≤ 12) : ∀ k, (laZ c f g k).1 ≤ 12 := by
  intro k
  induction k with
  | zero => exact h
  | succ k ih => exact luC_le ih
set_option maxRecDepth 100000 in
set_option maxHeartbeats 4000000 in
theorem c_X10_lineUp {G : GG} {d bc bs : Nat} {h : Hp} {Q : Pst} {o p c : Nat} {f : Nat → Int32} (hW : WRw h o p c f) (hc : c ≤ 12) {z : Int32} (hq : ∀ h', WRw h' o p (luC c) (luF c f z) → Fr h h' (WRo o p) → Q oVoid h') : WP G m_X10_lineUp d 0 (aargs 0 [vr (some o), vi z]) [] h bc bs Q := by
  have hF : Fr h h (WRo o p) := Fr.rf
  refine wp_sub [(0, vr (some o)), (1, vi z)] (fun _ hz => hz) ?_
  refine wp_aload_n (i := 0) dX10_lineUp_0 rfl rfl ?_
  refine wp_get 11 1 (vi (nI c)) dX10_lineUp_1 hW.1 (by decide) (by decide) fl_X10_15 (congrArg (fun z => toV (vi z)) (hW.2.2.1)) ?_
  refine wp_aload_n (i := 0) dX10_lineUp_4 rfl rfl ?_
  refine wp_get 11 0 (vr (some p)) dX10_lineUp_5 hW.1 (by decide) (by decide) fl_X10_9 (congrArg (fun z => toV (vr z)) (hW.2.1)) ?_
  refine wp_alen dX10_lineUp_8 (arTy_101 hW.2.2.2.1.1) ?_
  rw [hW.2.2.2.1.2]
  refine wp_icmp_geN 32 dX10_lineUp_9 (by decide) (by omega) (by decide) (fun c_9 => ?_) (fun c_9 => ?_)
  · skip
    refine wp_return dX10_lineUp_32 rfl ?_
    rw [show luC c = c from if_neg (by omega), show luF c f z = f from if_neg (by omega)] at hq
    exact hq _ hW hF
  · skip
    refine wp_aload_n (i := 0) dX10_lineUp_12 rfl rfl ?_
    refine wp_get 11 0 (vr (some p)) dX10_lineUp_13 hW.1 (by decide) (by decide) fl_X10_9 (congrArg (fun z => toV (vr z)) (hW.2.1)) ?_
    refine wp_aload_n (i := 0) dX10_lineUp_16 rfl rfl ?_
    refine wp_get 11 1 (vi (nI c)) dX10_lineUp_17 hW.1 (by decide) (by decide) fl_X10_15 (congrArg (fun z => toV (vi z)) (hW.2.2.1)) ?_
    refine wp_iload_n (i := 1) dX10_lineUp_20 rfl rfl ?_
    refine wp_iastoreN 12 dX10_lineUp_21 hW.2.2.2.1.1 hW.2.2.2.1.2 (by omega) (by decide) ?_
    have hW1 := hW.wn (k := c) (z := z)
    have hF2 := hF.wI (b := p) (k := c) (x := z) (Or.inr rfl)
    refine wp_aload_n (i := 0) dX10_lineUp_22 rfl rfl ?_
    refine wp_dup dX10_lineUp_23 ?_
    refine wp_get 11 1 (vi (nI c)) dX10_lineUp_24 hW1.1 (by decide) (by decide) fl_X10_15 (congrArg (fun z => toV (vi z)) (hW1.2.2.1)) ?_
    refine wp_iconst (nI 1) dX10_lineUp_27 (by decide) ?_
    refine wp_iaddN dX10_lineUp_28 ?_
    refine wp_putI 11 1 dX10_lineUp_29 hW1.1 (by decide) (by decide) (by decide) fl_X10_15 rfl (fun _ _ => rfl) rfl rfl ?_
    have hW3 := hW1.wc (z := c + 1)
    have hF4 := hF2.wI (b := o) (k := 1) (x := nI (c + 1)) (Or.inl rfl)
    refine wp_return dX10_lineUp_32 rfl ?_
    rw [show luC c = c + 1 from if_pos (by omega), show luF c f z = va_up f c z from if_pos (by omega)] at hq
    exact hq _ hW3 hF4
set_option maxRecDepth 100000 in
set_option maxHeartbeats 4000000 in
theorem l_X10_lineUpAll {G : GG} {d bc bs : Nat} {Q : Pst} {h0 : Hp} {o p c o2 p2 c2 : Nat} {f g : Nat → Int32} (hc : c ≤ 12) (hc2 : c2 ≤ 12) (hd : 2 ≤ d) (n1 : ¬ WRo o p o2) (n2 : ¬ WRo o p p2) (hV0 : WRw h0 o2 p2 c2 g) (hq : ∀ h', WRw h' o p (laZ c f g c2).1 (laZ c f g c2).2 → Fr h0 h' (WRo o p) → Q oVoid h') : ∀ m k H, m + k = c2 → WRw H o p (laZ c f g k).1 (laZ c f g k).2 → Fr h0 H (WRo o p) → WP G m_X10_lineUpAll d 2 [(2, vi (nI k)), (0, vr (some o)), (1, vr (some o2))] [] H bc bs Q := by
  intro m
  induction m with
  | zero =>
    intro k H hk hW hF
    have hk : k = c2 := by omega
    subst hk
    have hV := hV0.frm (hF _ n1) (hF _ n2)
    have hle := laZ_le (f := f) (g := g) hc
    refine wp_iload_n (i := 2) dX10_lineUpAll_2 rfl rfl ?_
    refine wp_aload_n (i := 1) dX10_lineUpAll_3 rfl rfl ?_
    refine wp_get 11 1 (vi (nI k)) dX10_lineUpAll_4 hV.1 (by decide) (by decide) fl_X10_15 (congrArg (fun z => toV (vi z)) (hV.2.2.1)) ?_
    refine wp_icmp_geN 35 dX10_lineUpAll_7 (by decide) (by omega) (by omega) (fun c_7 => ?_) (fun c_7 => absurd c_7 (by omega))
    refine wp_return dX10_lineUpAll_35 rfl ?_
    exact hq _ hW hF
  | succ m ih =>
    intro k H hk hW hF
    have hV := hV0.frm (hF _ n1) (hF _ n2)
    have hle := laZ_le (f := f) (g := g) hc k
    refine wp_iload_n (i := 2) dX10_lineUpAll_2 rfl rfl ?_
    refine wp_aload_n (i := 1) dX10_lineUpAll_3 rfl rfl ?_
    refine wp_get 11 1 (vi (nI c2)) dX10_lineUpAll_4 hV.1 (by decide) (by decide) fl_X10_15 (congrArg (fun z => toV (vi z)) (hV.2.2.1)) ?_
    refine wp_icmp_geN 35 dX10_lineUpAll_7 (by decide) (by omega) (by omega) (fun c_7 => absurd c_7 (by omega)) (fun c_7 => ?_)
    refine wp_iload_n (i := 2) dX10_lineUpAll_10 rfl rfl ?_
    refine wp_aload_n (i := 1) dX10_lineUpAll_11 rfl rfl ?_
    refine wp_get 11 0 (vr (some p2)) dX10_lineUpAll_12 hV.1 (by decide) (by decide) fl_X10_9 (congrArg (fun z => toV (vr z)) (hV.2.1)) ?_
    refine wp_alen dX10_lineUpAll_15 (arTy_101 hV.2.2.2.1.1) ?_
    rw [hV.2.2.2.1.2]
    refine wp_icmp_geN 35 dX10_lineUpAll_16 (by decide) (by omega) (by decide) (fun c_16 => absurd c_16 (by omega)) (fun c_16 => ?_)
    refine wp_aload_n (i := 0) dX10_lineUpAll_19 rfl rfl ?_
    refine wp_aload_n (i := 1) dX10_lineUpAll_20 rfl rfl ?_
    refine wp_get 11 0 (vr (some p2)) dX10_lineUpAll_21 hV.1 (by decide) (by decide) fl_X10_9 (congrArg (fun z => toV (vr z)) (hV.2.1)) ?_
    refine wp_iload_n (i := 2) dX10_lineUpAll_24 rfl rfl ?_
    refine wp_ialoadN 12 (g k) dX10_lineUpAll_25 hV.2.2.2.1.1 hV.2.2.2.1.2 (by omega) (by decide) (hV.2.2.2.2 k) ?_
    refine wp_cV (y' := m_X10_lineUp) 11 [vi (g k)] [] 0 0 dX10_lineUpAll_26 ml_X10_19 im_X10_lineUp se_X10_lineUp (by decide) hW.1 ok_X10_lineUp rfl (Nat.le_of_ble_eq_true rfl) rfl (Nat.le_of_ble_eq_true rfl) (d' := d - 1) (by omega) (Nat.zero_le _) (Nat.zero_le _) (c_X10_lineUp hW (by omega) (fun h1 W1 F1 => cont_void ?_))
    refine wp_iincN (a := k) (lv' := [(2, vi (nI (k + 1))), (0, vr (some o)), (1, vr (some o2))]) 1 dX10_lineUpAll_29 rfl (by decide) (by decide) rfl ?_
    refine wp_goto 2 dX10_lineUpAll_32 (by decide) ?_
    refine wp_sub [(2, vi (nI (k + 1))), (0, vr (some o)), (1, vr (some o2))] (sb_cons (.head _) (sb_cons (.tail _ (.head _)) (sb_cons (.tail _ (.tail _ (.head _))) sb_nil))) ?_
    exact ih (k + 1) _ (by omega) W1 (hF.tr F1)
set_option maxRecDepth 100000 in
set_option maxHeartbeats 4000000 in
theorem c_X10_lineUpAll {G : GG} {d bc bs : Nat} {h : Hp} {Q : Pst} {o p c : Nat} {f : Nat → Int32} (hW : WRw h o p c f) {o2 p2 c2 : Nat} {g : Nat → Int32} (hV : WRw h o2 p2 c2 g) (n1 : ¬ WRo o p o2) (n2 : ¬ WRo o p p2) (hc : c ≤ 12) (hc2 : c2 ≤ 12) (hd : 2 ≤ d) (hq : ∀ h', WRw h' o p (laZ c f g c2).1 (laZ c f g c2).2 → Fr h h' (WRo o p) → Q oVoid h') : WP G m_X10_lineUpAll d 0 (aargs 0 [vr (some o), vr (some o2)]) [] h bc bs Q := by
  have hF : Fr h h (WRo o p) := Fr.rf
  refine wp_sub [(0, vr (some o)), (1, vr (some o2))] (fun _ hz => hz) ?_
  refine wp_iconst (nI 0) dX10_lineUpAll_0 (by decide) ?_
  refine wp_istore_n (i := 2) (lv' := [(2, vi (nI 0)), (0, vr (some o)), (1, vr (some o2))]) dX10_lineUpAll_1 rfl (by decide) rfl ?_
  refine wp_sub [(2, vi (nI 0)), (0, vr (some o)), (1, vr (some o2))] (sb_cons (.head _) (sb_cons (.tail _ (.head _)) (sb_cons (.tail _ (.tail _ (.head _))) sb_nil))) ?_
  exact l_X10_lineUpAll hc hc2 hd n1 n2 hV hq c2 0 _ (by omega) hW hF
set_option maxRecDepth 100000 in
set_option maxHeartbeats 4000000 in
theorem l_X10_takeFirst {G : GG} {d bc bs : Nat} {Q : Pst} {h0 : Hp} {o p c : Nat} {f : Nat → Int32} (h1 : 1 ≤ c) (hc : c ≤ 12) (hd : 1 ≤ d) (hq : ∀ h', WRw h' o p (c - 1) (shF f c) → Fr h0 h' (WRo o p) → Q (oRet (vi (f 0))) h') : ∀ m k H, m + k = c → 1 ≤ k → WRw H o p c (shF f k) → Fr h0 H (WRo o p) → WP G m_X10_takeFirst d 9 [(2, vi (nI k)), (1, vi (f 0)), (0, vr (some o))] [] H bc bs Q := by
  intro m
  induction m with
  | zero =>
    intro k H hk h1k hW hF
    have hk : k = c := by omega
    subst hk
    refine wp_iload_n (i := 2) dX10_takeFirst_9 rfl rfl ?_
    refine wp_aload_n (i := 0) dX10_takeFirst_10 rfl rfl ?_
    refine wp_get 11 1 (vi (nI k)) dX10_takeFirst_11 hW.1 (by decide) (by decide) fl_X10_15 (congrArg (fun z => toV (vi z)) (hW.2.2.1)) ?_
    refine wp_icmp_geN 46 dX10_takeFirst_14 (by decide) (by omega) (by omega) (fun c_14 => ?_) (fun c_14 => absurd c_14 (by omega))
    refine wp_aload_n (i := 0) dX10_takeFirst_46 rfl rfl ?_
    refine wp_aload_n (i := 0) dX10_takeFirst_47 rfl rfl ?_
    refine wp_get 11 1 (vi (nI k)) dX10_takeFirst_48 hW.1 (by decide) (by decide) fl_X10_15 (congrArg (fun z => toV (vi z)) (hW.2.2.1)) ?_
    refine wp_iconst (nI 1) dX10_takeFirst_51 (by decide) ?_
    refine wp_isubN dX10_takeFirst_52 (by omega) ?_
    refine wp_iconst (nI 0) dX10_takeFirst_53 (by decide) ?_
    refine wp_maxN dX10_takeFirst_54 ml_X10_23 st_J9_max_7cf53 co_J9_max (by omega) (Nat.le_of_ble_eq_true rfl) (by omega) (by omega) ?_
    refine wp_putI 11 1 dX10_takeFirst_57 hW.1 (by decide) (by decide) (by decide) fl_X10_15 rfl (fun _ _ => rfl) rfl rfl ?_
    have hW1 := hW.wc (z := max (k - 1) 0)
    have hF2 := hF.wI (b := o) (k := 1) (x := nI (max (k - 1) 0)) (Or.inl rfl)
    refine wp_iload_n (i := 1) dX10_takeFirst_60 rfl rfl ?_
    refine wp_ireturn dX10_takeFirst_61 rfl ?_
    have e : max (k - 1) 0 = k - 1 := by omega
    have hW9 : WRw _ o p (max (k - 1) 0) (shF f k) := hW1
    rw [e] at hW9
    refine hq _ ?_ hF2
    rw [e]
    exact hW9
  | succ m ih =>
    intro k H hk h1k hW hF
    refine wp_iload_n (i := 2) dX10_takeFirst_9 rfl rfl ?_
    refine wp_aload_n (i := 0) dX10_takeFirst_10 rfl rfl ?_
    refine wp_get 11 1 (vi (nI c)) dX10_takeFirst_11 hW.1 (by decide) (by decide) fl_X10_15 (congrArg (fun z => toV (vi z)) (hW.2.2.1)) ?_
    refine wp_icmp_geN 46 dX10_takeFirst_14 (by decide) (by omega) (by omega) (fun c_14 => absurd c_14 (by omega)) (fun c_14 => ?_)
    refine wp_iload_n (i := 2) dX10_takeFirst_17 rfl rfl ?_
    refine wp_aload_n (i := 0) dX10_takeFirst_18 rfl rfl ?_
    refine wp_get 11 0 (vr (some p)) dX10_takeFirst_19 hW.1 (by decide) (by decide) fl_X10_9 (congrArg (fun z => toV (vr z)) (hW.2.1)) ?_
    refine wp_alen dX10_takeFirst_22 (arTy_101 hW.2.2.2.1.1) ?_
    rw [hW.2.2.2.1.2]
    refine wp_icmp_geN 46 dX10_takeFirst_23 (by decide) (by omega) (by decide) (fun c_23 => absurd c_23 (by omega)) (fun c_23 => ?_)
    refine wp_aload_n (i := 0) dX10_takeFirst_26 rfl rfl ?_
    refine wp_get 11 0 (vr (some p)) dX10_takeFirst_27 hW.1 (by decide) (by decide) fl_X10_9 (congrArg (fun z => toV (vr z)) (hW.2.1)) ?_
    refine wp_iload_n (i := 2) dX10_takeFirst_30 rfl rfl ?_
    refine wp_iconst (nI 1) dX10_takeFirst_31 (by decide) ?_
    refine wp_isubN dX10_takeFirst_32 (by omega) ?_
    refine wp_aload_n (i := 0) dX10_takeFirst_33 rfl rfl ?_
    refine wp_get 11 0 (vr (some p)) dX10_takeFirst_34 hW.1 (by decide) (by decide) fl_X10_9 (congrArg (fun z => toV (vr z)) (hW.2.1)) ?_
    refine wp_iload_n (i := 2) dX10_takeFirst_37 rfl rfl ?_
    refine wp_ialoadN 12 ((shF f k) k) dX10_takeFirst_38 hW.2.2.2.1.1 hW.2.2.2.1.2 (by omega) (by decide) (hW.2.2.2.2 k) ?_
    refine wp_iastoreN 12 dX10_takeFirst_39 hW.2.2.2.1.1 hW.2.2.2.1.2 (by omega) (by decide) ?_
    have hW1 := hW.wn (k := k - 1) (z := ((shF f k) k))
    have hF2 := hF.wI (b := p) (k := k - 1) (x := ((shF f k) k)) (Or.inr rfl)
    refine wp_iincN (a := k) (lv' := [(2, vi (nI (k + 1))), (1, vi (f 0)), (0, vr (some o))]) 1 dX10_takeFirst_40 rfl (by decide) (by decide) rfl ?_
    refine wp_goto 9 dX10_takeFirst_43 (by decide) ?_
    refine wp_sub [(2, vi (nI (k + 1))), (1, vi (f 0)), (0, vr (some o))] (sb_cons (.head _) (sb_cons (.tail _ (.head _)) (sb_cons (.tail _ (.tail _ (.head _))) sb_nil))) ?_
    have e : va_up (shF f k) (k - 1) (shF f k k) = shF f (k + 1) := by rw [shF_i]; exact shF_s h1k
    have hW9 : WRw _ o p c (va_up (shF f k) (k - 1) (shF f k k)) := hW1
    rw [e] at hW9
    exact ih (k + 1) _ (by omega) (by omega) hW9 hF2
set_option maxRecDepth 100000 in
set_option maxHeartbeats 4000000 in
theorem c_X10_takeFirst {G : GG} {d bc bs : Nat} {h : Hp} {Q : Pst} {o p c : Nat} {f : Nat → Int32} (hW : WRw h o p c f) (h1 : 1 ≤ c) (hc : c ≤ 12) (hd : 1 ≤ d) (hq : ∀ h', WRw h' o p (c - 1) (shF f c) → Fr h h' (WRo o p) → Q (oRet (vi (f 0))) h') : WP G m_X10_takeFirst d 0 (aargs 0 [vr (some o)]) [] h bc bs Q := by
  have hF : Fr h h (WRo o p) := Fr.rf
  refine wp_sub [(0, vr (some o))] (fun _ hz => hz) ?_
  refine wp_aload_n (i := 0) dX10_takeFirst_0 rfl rfl ?_
  refine wp_get 11 0 (vr (some p)) dX10_takeFirst_1 hW.1 (by decide) (by decide) fl_X10_9 (congrArg (fun z => toV (vr z)) (hW.2.1)) ?_
  refine wp_iconst (nI 0) dX10_takeFirst_4 (by decide) ?_
  refine wp_ialoadN 12 (f 0) dX10_takeFirst_5 hW.2.2.2.1.1 hW.2.2.2.1.2 (by decide) (by decide) (hW.2.2.2.2 0) ?_
  refine wp_topi (fun x_6 e_6 => ?_)
  refine wp_istore_n (i := 1) (lv' := [(1, vi x_6), (0, vr (some o))]) dX10_takeFirst_6 rfl (by decide) rfl ?_
  refine wp_iconst (nI 1) dX10_takeFirst_7 (by decide) ?_
  refine wp_istore_n (i := 2) (lv' := [(2, vi (nI 1)), (1, vi x_6), (0, vr (some o))]) dX10_takeFirst_8 rfl (by decide) rfl ?_
  subst e_6
  have hW0 : WRw h o p c (shF f 1) := by rw [shF_1]; exact hW
  refine wp_sub [(2, vi (nI 1)), (1, vi (f 0)), (0, vr (some o))] (sb_cons (.head _) (sb_cons (.tail _ (.head _)) (sb_cons (.tail _ (.tail _ (.head _))) sb_nil))) ?_
  exact l_X10_takeFirst h1 hc hd hq (c - 1) 1 _ (by omega) (Nat.le_refl _) hW0 hF
set_option maxRecDepth 100000 in
set_option maxHeartbeats 4000000 in
theorem c_X11_isWithin {G : GG} {d bc bs : Nat} {h : Hp} {Q : Pst} (v lo hi : Int32) (hq : Q (oRet (vi (bI (inB v lo hi)))) h) : WP G m_X11_isWithin d 0 (aargs 0 [vi v, vi lo, vi hi]) [] h bc bs Q := by
  refine wp_sub [(0, vi v), (1, vi lo), (2, vi hi)] (fun _ hz => hz) ?_
  refine wp_iload_n (i := 0) dX11_isWithin_0 rfl rfl ?_
  refine wp_iload_n (i := 1) dX11_isWithin_1 rfl rfl ?_
  refine wp_icmp_lt 14 dX11_isWithin_2 (by decide) (fun c_2 => ?_) (fun c_2 => ?_)
  · skip
    refine wp_iconst (nI 0) dX11_isWithin_14 (by decide) ?_
    refine wp_zreturn dX11_isWithin_15 rfl (by first | rfl | assumption) ?_
    rw [show inB v lo hi = false from by first | exact inB_f1 c_2 | exact inB_f2 c_7] at hq
    exact hq
  · skip
    refine wp_iload_n (i := 0) dX11_isWithin_5 rfl rfl ?_
    refine wp_iload_n (i := 2) dX11_isWithin_6 rfl rfl ?_
    refine wp_icmp_gt 14 dX11_isWithin_7 (by decide) (fun c_7 => ?_) (fun c_7 => ?_)
    · skip
      refine wp_iconst (nI 0) dX11_isWithin_14 (by decide) ?_
      refine wp_zreturn dX11_isWithin_15 rfl (by first | rfl | assumption) ?_
      rw [show inB v lo hi = false from by first | exact inB_f1 c_2 | exact inB_f2 c_7] at hq
      exact hq
    · skip
      refine wp_iconst (nI 1) dX11_isWithin_10 (by decide) ?_
      refine wp_goto 15 dX11_isWithin_11 (by decide) ?_
      refine wp_zreturn dX11_isWithin_15 rfl (by first | rfl | assumption) ?_
      rw [show inB v lo hi = true from inB_t c_2 c_7] at hq
      exact hq
/-- nothing is before the i-th -/
def clrF {α : Type} (f : Nat → α) (z : α) (i : Nat) : Nat → α := fun j => if j < i then z else f j
theorem clrF_0 {α : Type} {f : Nat → α} {z : α} : clrF f z 0 = f := funext fun j => if_neg (by omega)
theorem clrF_s {α : Type} {f : Nat → α} {z : α} {i : Nat} : va_up (clrF f z i) i z = clrF f z (i + 1) := funext fun j => by
  rw [va_up_app]; unfold clrF
  by_cases e : j = i
  · rw [if_pos e, if_pos (by omega)]
  · rw [if_neg e]
    by_cases e2 : j < i
    · rw [if_pos e2, if_pos (by omega)]
    · rw [if_neg e2, if_neg (by omega)]
/-- a transaction with nothing written, ensured, added, up to the i-th reference -/
def kclT (x : KTS) (i : Nat) : KTS := (KT_run x, KT_bir x, KT_pt x, KT_bk x, clrF (KT_wr x) false i, KT_own x, clrF (KT_en x) false i, clrF (KT_ad x) false i, clrF (KT_sm x) 0 i)
/-- the rows of the t-th transaction emptied, up to its i-th -/
def clW (ww : Nat → KWS) (t i : Nat) : Nat → KWS := fun j => if 4 * t ≤ j ∧ j < 4 * t + i then (0, KW_num (ww j)) else ww j
theorem clW_0 {ww : Nat → KWS} {t : Nat} : clW ww t 0 = ww := funext fun j => if_neg (by omega)
theorem clW_s {ww : Nat → KWS} {t i : Nat} : va_up (clW ww t i) (4 * t + i) (KW_ucnt (clW ww t i (4 * t + i)) 0) = clW ww t (i + 1) := funext fun j => by
  rw [va_up_app]
  by_cases e : j = 4 * t + i
  · rw [if_pos e]
    show _ = if 4 * t ≤ j ∧ j < 4 * t + (i + 1) then (0, KW_num (ww j)) else ww j
    rw [if_pos (by omega), e]
    unfold clW
    rw [if_neg (by omega)]
  · rw [if_neg e]; unfold clW
    by_cases e2 : 4 * t ≤ j ∧ j < 4 * t + i
    · rw [if_pos e2, if_pos (by omega)]
    · rw [if_neg e2, if_neg (by omega)]
def kfgt (X : CS) (t : Nat) : CS := CS_uww (CS_utt1 X t (kclT (CS_tt X t) 6)) (clW (CS_ww X) t 4)
theorem CS_utt1_id {X : CS} {t : Nat} {x : KTS} (e : x = CS_tt X t) : CS_utt1 X t x = X := by
  have : va_up (CS_tt X) t x = CS_tt X := funext fun j => by
    rw [va_up_app]
    by_cases z : j = t
    · rw [if_pos z, z, e]
    · rw [if_neg z]
  show (_, _, _, _, va_up (CS_tt X) t x, _, _, _, _) = _
  rw [this]
theorem CS_utt1_2 {X : CS} {t : Nat} {x y : KTS} : CS_utt1 (CS_utt1 X t x) t y = CS_utt1 X t y := by
  have : va_up (va_up (CS_tt X) t x) t y = va_up (CS_tt X) t y := funext fun j => by rw [va_up_app, va_up_app, va_up_app]; split <;> rfl
  show (_, _, _, _, va_up (va_up (CS_tt X) t x) t y, _, _, _, _) = _
  rw [this]
set_option maxRecDepth 100000 in
set_option maxHeartbeats 4000000 in
theorem l_X7_forget1 {G : GG} {d bc bs : Nat} {Q : Pst} {h0 : Hp} {t : Nat} {x : KTS} (hq : ∀ h', KT h' t (kclT x 6) → Fr h0 h' (CT t) → WP G m_X7_forget d 42 [(0, vr (some (nm 56 t)))] [] h' bc bs Q) : ∀ m k H, m + k = 6 → KT H t (kclT x k) → Fr h0 H (CT t) → WP G m_X7_forget d 2 [(1, vi (nI k)), (0, vr (some (nm 56 t)))] [] H bc bs Q := by
  intro m
  induction m with
  | zero =>
    intro k H hk hO hF
    have hk : k = 6 := by omega
    subst hk
    refine wp_iload_n (i := 1) dX7_forget_2 rfl rfl ?_
    refine wp_bipush (nI 6) dX7_forget_3 (by decide) ?_
    refine wp_icmp_geN 42 dX7_forget_5 (by decide) (by decide) (by decide) (fun c_5 => ?_) (fun c_5 => absurd c_5 (by decide))
    refine wp_sub [(0, vr (some (nm 56 t)))] (sb_cons (.tail _ (.head _)) sb_nil) ?_
    exact hq _ hO hF
  | succ m ih =>
    intro k H hk hO hF
    refine wp_iload_n (i := 1) dX7_forget_2 rfl rfl ?_
    refine wp_bipush (nI 6) dX7_forget_3 (by decide) ?_
    refine wp_icmp_geN 42 dX7_forget_5 (by decide) (by omega) (by decide) (fun c_5 => absurd c_5 (by omega)) (fun c_5 => ?_)
    refine wp_aload_n (i := 0) dX7_forget_8 rfl rfl ?_
    refine wp_get 9 4 (vr (some (nm 57 t))) dX7_forget_9 hO.k0 (by decide) (by decide) fl_X7_25 (congrArg (fun z => toV (vr z)) (hO.r5_4)) ?_
    refine wp_iload_n (i := 1) dX7_forget_12 rfl rfl ?_
    refine wp_iconst (nI 0) dX7_forget_13 (by decide) ?_
    refine wp_zastoreN 6 dX7_forget_14 hO.k11 hO.n11 (by omega) (by decide) (by decide) ?_
    have hO1 := hO.wwr (j := k) (v := false)
    have hF2 := hF.wI (b := nm 57 t) (k := k) (x := bI (false)) (by unfold CT nm; omega)
    refine wp_aload_n (i := 0) dX7_forget_15 rfl rfl ?_
    refine wp_get 9 6 (vr (some (nm 59 t))) dX7_forget_16 hO1.k0 (by decide) (by decide) fl_X7_33 (congrArg (fun z => toV (vr z)) (hO1.r7_6)) ?_
    refine wp_iload_n (i := 1) dX7_forget_19 rfl rfl ?_
    refine wp_iconst (nI 0) dX7_forget_20 (by decide) ?_
    refine wp_zastoreN 6 dX7_forget_21 hO1.k15 hO1.n15 (by omega) (by decide) (by decide) ?_
    have hO3 := hO1.wen (j := k) (v := false)
    have hF4 := hF2.wI (b := nm 59 t) (k := k) (x := bI (false)) (by unfold CT nm; omega)
    refine wp_aload_n (i := 0) dX7_forget_22 rfl rfl ?_
    refine wp_get 9 7 (vr (some (nm 60 t))) dX7_forget_23 hO3.k0 (by decide) (by decide) fl_X7_36 (congrArg (fun z => toV (vr z)) (hO3.r8_7)) ?_
    refine wp_iload_n (i := 1) dX7_forget_26 rfl rfl ?_
    refine wp_iconst (nI 0) dX7_forget_27 (by decide) ?_
    refine wp_zastoreN 6 dX7_forget_28 hO3.k17 hO3.n17 (by omega) (by decide) (by decide) ?_
    have hO5 := hO3.wad (j := k) (v := false)
    have hF6 := hF4.wI (b := nm 60 t) (k := k) (x := bI (false)) (by unfold CT nm; omega)
    refine wp_aload_n (i := 0) dX7_forget_29 rfl rfl ?_
    refine wp_get 9 8 (vr (some (nm 61 t))) dX7_forget_30 hO5.k0 (by decide) (by decide) fl_X7_39 (congrArg (fun z => toV (vr z)) (hO5.r9_8)) ?_
    refine wp_iload_n (i := 1) dX7_forget_33 rfl rfl ?_
    refine wp_iconst (nI 0) dX7_forget_34 (by decide) ?_
    refine wp_iastoreN 6 dX7_forget_35 hO5.k19 hO5.n19 (by omega) (by decide) ?_
    have hO7 := hO5.wsm (j := k) (v := nI 0)
    have hF8 := hF6.wI (b := nm 61 t) (k := k) (x := nI 0) (by unfold CT nm; omega)
    refine wp_iincN (a := k) (lv' := [(1, vi (nI (k + 1))), (0, vr (some (nm 56 t)))]) 1 dX7_forget_36 rfl (by decide) (by decide) rfl ?_
    refine wp_goto 2 dX7_forget_39 (by decide) ?_
    refine wp_sub [(1, vi (nI (k + 1))), (0, vr (some (nm 56 t)))] (sb_cons (.head _) (sb_cons (.tail _ (.head _)) sb_nil)) ?_
    have hO9 : KT _ t (KT_run x, KT_bir x, KT_pt x, KT_bk x, va_up (clrF (KT_wr x) false k) k false, KT_own x, va_up (clrF (KT_en x) false k) k false, va_up (clrF (KT_ad x) false k) k false, va_up (clrF (KT_sm x) 0 k) k 0) := hO7
    rw [clrF_s, clrF_s, clrF_s, clrF_s] at hO9
    exact ih (k + 1) _ (by omega) hO9 hF8
set_option maxRecDepth 100000 in
set_option maxHeartbeats 4000000 in
theorem l_X7_forget2 {G : GG} {d bc bs : Nat} {Q : Pst} {h0 : Hp} {t : Nat} {X : CS} (ht : t < 3) (hq : ∀ h', CR h' (CS_uww X (clW (CS_ww X) t 4)) → FRK h0 h' → Q oVoid h') : ∀ m k H, m + k = 4 → CR H (CS_uww X (clW (CS_ww X) t k)) → FRK h0 H → WP G m_X7_forget d 52 [(3, vi (nI k)), (2, vi (nI 4)), (1, vr (some (nm 62 t))), (0, vr (some (nm 56 t)))] [] H bc bs Q := by
  intro m
  induction m with
  | zero =>
    intro k H hk hR hG
    have hk : k = 4 := by omega
    subst hk
    refine wp_iload_n (i := 3) dX7_forget_52 rfl rfl ?_
    refine wp_iload_n (i := 2) dX7_forget_53 rfl rfl ?_
    refine wp_icmp_geN 74 dX7_forget_54 (by decide) (by decide) (by decide) (fun c_54 => ?_) (fun c_54 => absurd c_54 (by decide))
    refine wp_return dX7_forget_74 rfl ?_
    exact hq _ hR hG
  | succ m ih =>
    intro k H hk hR hG
    refine wp_iload_n (i := 3) dX7_forget_52 rfl rfl ?_
    refine wp_iload_n (i := 2) dX7_forget_53 rfl rfl ?_
    refine wp_icmp_geN 74 dX7_forget_54 (by decide) (by omega) (by decide) (fun c_54 => absurd c_54 (by omega)) (fun c_54 => ?_)
    refine wp_aload_n (i := 1) dX7_forget_57 rfl rfl ?_
    refine wp_iload_n (i := 3) dX7_forget_58 rfl rfl ?_
    refine wp_aaloadN 4 (some (nm 63 (4 * t + k))) dX7_forget_59 (arTy_115 (hR.t ht).k21) (hR.t (r := t) (by omega)).n21 (by omega) (by decide) ((hR.t (r := t) (by omega)).q22 k (by omega)) ?_
    refine wp_astore (i := 4) (lv' := [(4, vr (some (nm 63 (4 * t + k)))), (3, vi (nI k)), (2, vi (nI 4)), (1, vr (some (nm 62 t))), (0, vr (some (nm 56 t)))]) dX7_forget_60 (by decide) rfl ?_
    refine wp_aload (i := 4) dX7_forget_62 rfl ?_
    refine wp_iconst (nI 0) dX7_forget_64 (by decide) ?_
    refine wp_putI 11 1 dX7_forget_65 (hR.w (r := (4 * t + k)) (by omega)).k0 (by decide) (by decide) (by decide) fl_X7_52 rfl (fun _ _ => rfl) rfl rfl ?_
    have hO1 := (hR.w (r := (4 * t + k)) (by omega))
    have hF2 := hO1.rfW
    have hO3 := hO1.wcnt (v := 0)
    have hF4 := hF2.wI (b := nm 63 ((4 * t + k))) (k := 1) (x := nI (0)) (by unfold CWr nm; omega)
    refine wp_iincN (a := k) (lv' := [(3, vi (nI (k + 1))), (4, vr (some (nm 63 (4 * t + k)))), (2, vi (nI 4)), (1, vr (some (nm 62 t))), (0, vr (some (nm 56 t)))]) 1 dX7_forget_68 rfl (by decide) (by decide) rfl ?_
    refine wp_goto 52 dX7_forget_71 (by decide) ?_
    have hR5 := hR.upW (by omega) hF4 hO3
    have hG6 := hG.tr (FRK.oW hF4)
    refine wp_sub [(3, vi (nI (k + 1))), (2, vi (nI 4)), (1, vr (some (nm 62 t))), (0, vr (some (nm 56 t)))] (sb_cons (.head _) (sb_cons (.tail _ (.tail _ (.head _))) (sb_cons (.tail _ (.tail _ (.tail _ (.head _)))) (sb_cons (.tail _ (.tail _ (.tail _ (.tail _ (.head _))))) sb_nil)))) ?_
    have hR9 : CR _ (CS_uww X (va_up (clW (CS_ww X) t k) (4 * t + k) (KW_ucnt (clW (CS_ww X) t k (4 * t + k)) 0))) := hR5
    rw [clW_s] at hR9
    exact ih (k + 1) _ (by omega) hR9 hG6
set_option maxRecDepth 100000 in
set_option maxHeartbeats 4000000 in
theorem c_X7_forget {G : GG} {d bc bs : Nat} {h : Hp} {Q : Pst} {X : CS} (hR : CR h X) {t : Nat} (ht : t < 3) (hq : ∀ h', CR h' (kfgt X t) → FRK h h' → Q oVoid h') : WP G m_X7_forget d 0 (aargs 0 [vr (some (nm 56 t))]) [] h bc bs Q := by
  have hG := FRK.rf (h := h)
  refine wp_sub [(0, vr (some (nm 56 t)))] (fun _ hz => hz) ?_
  refine wp_iconst (nI 0) dX7_forget_0 (by decide) ?_
  refine wp_istore_n (i := 1) (lv' := [(1, vi (nI 0)), (0, vr (some (nm 56 t)))]) dX7_forget_1 rfl (by decide) rfl ?_
  refine wp_sub [(1, vi (nI 0)), (0, vr (some (nm 56 t)))] (sb_cons (.head _) (sb_cons (.tail _ (.head _)) sb_nil)) ?_
  have hO0 : KT h t (kclT (CS_tt X t) 0) := by unfold kclT; rw [clrF_0, clrF_0, clrF_0, clrF_0]; exact hR.t ht
  refine l_X7_forget1 (fun h1 hO1 hF1 => ?_) 6 0 _ (by omega) hO0 (Fr.rf (h := h))
  have hR1 := hR.upT ht hF1 hO1
  have hG1 : FRK h h1 := FRK.oT hF1
  refine wp_aload_n (i := 0) dX7_forget_42 rfl rfl ?_
  refine wp_get 9 9 (vr (some (nm 62 t))) dX7_forget_43 (hR1.t (r := t) (by omega)).k0 (by decide) (by decide) fl_X7_44 (congrArg (fun z => toV (vr z)) ((hR1.t (r := t) (by omega)).r10_9)) ?_
  refine wp_astore_n (i := 1) (lv' := [(1, vr (some (nm 62 t))), (0, vr (some (nm 56 t)))]) dX7_forget_46 rfl (by decide) rfl ?_
  refine wp_aload_n (i := 1) dX7_forget_47 rfl rfl ?_
  refine wp_alen dX7_forget_48 (arTy_115 (hR1.t ht).k21) ?_
  rw [(hR1.t ht).n21]
  refine wp_istore_n (i := 2) (lv' := [(2, vi (nI 4)), (1, vr (some (nm 62 t))), (0, vr (some (nm 56 t)))]) dX7_forget_49 rfl (by decide) rfl ?_
  refine wp_iconst (nI 0) dX7_forget_50 (by decide) ?_
  refine wp_istore_n (i := 3) (lv' := [(3, vi (nI 0)), (2, vi (nI 4)), (1, vr (some (nm 62 t))), (0, vr (some (nm 56 t)))]) dX7_forget_51 rfl (by decide) rfl ?_
  refine wp_sub [(3, vi (nI 0)), (2, vi (nI 4)), (1, vr (some (nm 62 t))), (0, vr (some (nm 56 t)))] (sb_cons (.head _) (sb_cons (.tail _ (.head _)) (sb_cons (.tail _ (.tail _ (.head _))) (sb_cons (.tail _ (.tail _ (.tail _ (.head _)))) sb_nil)))) ?_
  exact l_X7_forget2 (X := CS_utt1 X t (kclT (CS_tt X t) 6)) ht (fun h9 r9 g9 => hq _ r9 g9) 4 0 _ (by omega) (by rw [clW_0]; exact hR1) hG1
