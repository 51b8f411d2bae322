/-! The class: what its objects do by themselves. -/
/-- from the last on: the first that is not behind -/
def enB (f : Nat → Nat) (p : Nat) : Nat → Option Nat
  | 0 => none
  | k + 1 => if f k ≤ p then some k else enB f p k
theorem enB_lt {f : Nat → Nat} {p : Nat} : ∀ {k i}, enB f p k = some i → i < k ∧ f i ≤ p := by
  intro k
  induction k with
  | zero => intro i h; cases h
  | succ k ih =>
    intro i h
    rw [enB] at h
    split at h
    · next e => cases h; exact ⟨by omega, e⟩
    · exact ⟨by have := (ih h).1; omega, (ih h).2⟩
/-- the place before the k-th -/
def bfK (k : Nat) : Int32 := if k = 0 then -1 else nI (k - 1)
theorem bfK_0 : bfK 0 = -1 := rfl
theorem bfK_s {k : Nat} : bfK (k + 1) = nI k := if_neg (by omega)
theorem nI_dec {k : Nat} (hk : k < 1000000) : nI k + Int32.ofInt (-1) = bfK k := by
  rcases k with _ | k
  · rfl
  · rw [bfK_s]
    show nI (k + 1) + (-1) = nI k
    rw [show nI (k + 1) = nI k + nI 1 from (nI_add k 1).symm, Int32.add_assoc, show nI 1 + (-1 : Int32) = 0 from rfl, Int32.add_zero]
/-- the entries moved down by one place, those before the k-th -/
def shF {α : Type} (f : Nat → α) (k : Nat) : Nat → α := fun j => if j + 1 < k then f (j + 1) else f j
theorem shF_1 {α : Type} {f : Nat → α} : shF f 1 = f := funext fun j => if_neg (by omega)
theorem shF_i {α : Type} {f : Nat → α} {k : Nat} : shF f k k = f k := if_neg (by omega)
theorem shF_s {α : Type} {f : Nat → α} {k : Nat} (hk : 1 ≤ k) : va_up (shF f k) (k - 1) (f k) = shF f (k + 1) := funext fun j => by
  rw [va_up_app]
  unfold shF
  by_cases e : j = k - 1
  · rw [if_pos e, if_pos (by omega), e, show k - 1 + 1 = k by omega]
  · rw [if_neg e]
    by_cases e2 : j + 1 < k
    · rw [if_pos e2, if_pos (by omega)]
    · rw [if_neg e2, if_neg (by omega)]
/-- a reference after a change has come in -/
def kcome (x : KRS) (v : Int32) (m : Nat) : KRS :=
  if KR_lim x ≤ KR_kpt x then (KR_fst x, KR_lo x, KR_hi x, KR_kpt x, KR_lim x, va_up (shF (KR_pv x) (KR_kpt x)) (KR_kpt x - 1) v, va_up (shF (KR_pm x) (KR_kpt x)) (KR_kpt x - 1) (nI m))
  else (KR_fst x, KR_lo x, KR_hi x, KR_kpt x + 1, KR_lim x, va_up (KR_pv x) (KR_kpt x) v, va_up (KR_pm x) (KR_kpt x) (nI m))
/-- a row of numbers: o, and the array p -/
def WRw (h : Hp) (o p c : Nat) (f : Nat → Int32) : Prop := h_k h o = 12 ∧ h_R h o 0 = some p ∧ h_I h o 1 = nI c ∧ (h_k h p = 101 ∧ h_n h p = 12) ∧ ∀ j, h_I h p j = f j
theorem WRw.frm {h h' : Hp} {o p c : Nat} {f : Nat → Int32} (H : WRw h o p c f) (e1 : ce h' o = ce h o) (e2 : ce h' p = ce h p) : WRw h' o p c f := by
  obtain ⟨a1, a2, a3, a4, a5⟩ := H
  unfold WRw; rw [ce_k e1, ce_R e1, ce_I e1, ce_k e2, ce_n e2, ce_I e2]; exact ⟨a1, a2, a3, a4, a5⟩
theorem WRw.ne {h : Hp} {o p c : Nat} {f : Nat → Int32} (H : WRw h o p c f) : o ≠ p := fun e => by have := H.1; rw [e, H.2.2.2.1.1] at this; cases this
theorem WRw.wc {h : Hp} {o p c : Nat} {f : Nat → Int32} (H : WRw h o p c f) {z : Nat} : WRw (wI h o 1 (nI z)) o p z f :=
  ⟨H.1, H.2.1, by rw [gI_wI, if_pos ⟨rfl, rfl⟩], H.2.2.2.1, fun j => by rw [gI_wI, if_neg (fun z => H.ne z.1.symm)]; exact H.2.2.2.2 j⟩
theorem WRw.wn {h : Hp} {o p c : Nat} {f : Nat → Int32} (H : WRw h o p c f) {k : Nat} {z : Int32} : WRw (wI h p k z) o p c (va_up f k z) :=
  ⟨H.1, H.2.1, by rw [gI_wI, if_neg (fun z => H.ne z.1)]; exact H.2.2.1, H.2.2.2.1, fun j => by
    rw [gI_wI, va_up_app]
    by_cases e : j = k
    · rw [if_pos ⟨rfl, e⟩, if_pos e]
    · rw [if_neg (fun z => e z.2), if_neg e]; exact H.2.2.2.2 j⟩
/-- one more number, if there is room -/
def luC (c : Nat) : Nat := if c < 12 then c + 1 else c
def luF (c : Nat) (f : Nat → Int32) (z : Int32) : Nat → Int32 := if c < 12 then va_up f c z else f
/-- all numbers of another row, up to its k-th -/
def laZ (c : Nat) (f g : Nat → Int32) : Nat → Nat × (Nat → Int32)
  | 0 => (c, f)
  | k + 1 => (luC (laZ c f g k).1, luF (laZ c f g k).1 (laZ c f g k).2 (g k))
theorem KT.rfT {h : Hp} {t : Nat} {x : KTS} (_ : KT h t x) : Fr h h (CT t) := Fr.rf
theorem KR.rfR {h : Hp} {t : Nat} {x : KRS} (_ : KR h t x) : Fr h h (CRf t) := Fr.rf
theorem KA.rfA {h : Hp} {t : Nat} {x : KAS} (_ : KA h t x) : Fr h h (CA t) := Fr.rf
theorem KW.rfW {h : Hp} {t : Nat} {x : KWS} (_ : KW h t x) : Fr h h (CWr t) := Fr.rf
theorem KW.wr {h : Hp} {i : Nat} {x : KWS} (H : KW h i x) : WRw h (nm 63 i) (nm 64 i) (KW_cnt x) (KW_num x) := ⟨H.1, H.2.1, H.2.2.1, H.2.2.2.1, H.2.2.2.2⟩
theorem WRw.kw {h : Hp} {i c : Nat} {f : Nat → Int32} (H : WRw h (nm 63 i) (nm 64 i) c f) : KW h i (c, f) := ⟨H.1, H.2.1, H.2.2.1, H.2.2.2.1, H.2.2.2.2⟩
set_option maxRecDepth 100000 in
set_option maxHeartbeats 4000000 in
theorem c_X5_valueAt {G : GG} {d bc bs : Nat} {h : Hp} {Q : Pst} {r : Nat} {x : KRS} (hO : KR h r x) {i : Nat} (hi : i < 8) (hq : Q (oRet (vi (KR_pv x i))) h) : WP G m_X5_valueAt d 0 (aargs 0 [vr (some (nm 53 r)), vi (nI i)]) [] h bc bs Q := by
  have hF : Fr h h (CRf r) := Fr.rf
  refine wp_sub [(0, vr (some (nm 53 r))), (1, vi (nI i))] (fun _ hz => hz) ?_
  refine wp_iload_n (i := 1) dX5_valueAt_0 rfl rfl ?_
  refine wp_if_ltN 13 dX5_valueAt_1 (by decide) (by omega) (fun c_1 => absurd c_1 (id)) (fun c_1 => ?_)
  refine wp_iload_n (i := 1) dX5_valueAt_4 rfl rfl ?_
  refine wp_aload_n (i := 0) dX5_valueAt_5 rfl rfl ?_
  refine wp_get 7 3 (vr (some (nm 54 r))) dX5_valueAt_6 hO.k0 (by decide) (by decide) fl_X5_9 (congrArg (fun z => toV (vr z)) (hO.r4_3)) ?_
  refine wp_alen dX5_valueAt_9 (arTy_101 hO.k8) ?_
  rw [hO.n8]
  refine wp_icmp_ltN 20 dX5_valueAt_10 (by decide) (by omega) (by decide) (fun c_10 => ?_) (fun c_10 => absurd c_10 (by omega))
  refine wp_aload_n (i := 0) dX5_valueAt_20 rfl rfl ?_
  refine wp_get 7 3 (vr (some (nm 54 r))) dX5_valueAt_21 hO.k0 (by decide) (by decide) fl_X5_9 (congrArg (fun z => toV (vr z)) (hO.r4_3)) ?_
  refine wp_iload_n (i := 1) dX5_valueAt_24 rfl rfl ?_
  refine wp_ialoadN 8 (KR_pv x i) dX5_valueAt_25 hO.k8 hO.n8 (by omega) (by decide) (hO.a_pv i) ?_
  refine wp_ireturn dX5_valueAt_26 rfl ?_
  exact hq
set_option maxRecDepth 100000 in
set_option maxHeartbeats 4000000 in
theorem c_X5_momentAt {G : GG} {d bc bs : Nat} {h : Hp} {Q : Pst} {r : Nat} {x : KRS} (hO : KR h r x) {i : Nat} (hi : i < 8) (hq : Q (oRet (vi (KR_pm x i))) h) : WP G m_X5_momentAt d 0 (aargs 0 [vr (some (nm 53 r)), vi (nI i)]) [] h bc bs Q := by
  have hF : Fr h h (CRf r) := Fr.rf
  refine wp_sub [(0, vr (some (nm 53 r))), (1, vi (nI i))] (fun _ hz => hz) ?_
  refine wp_iload_n (i := 1) dX5_momentAt_0 rfl rfl ?_
  refine wp_if_ltN 13 dX5_momentAt_1 (by decide) (by omega) (fun c_1 => absurd c_1 (id)) (fun c_1 => ?_)
  refine wp_iload_n (i := 1) dX5_momentAt_4 rfl rfl ?_
  refine wp_aload_n (i := 0) dX5_momentAt_5 rfl rfl ?_
  refine wp_get 7 4 (vr (some (nm 55 r))) dX5_momentAt_6 hO.k0 (by decide) (by decide) fl_X5_15 (congrArg (fun z => toV (vr z)) (hO.r5_4)) ?_
  refine wp_alen dX5_momentAt_9 (arTy_101 hO.k10) ?_
  rw [hO.n10]
  refine wp_icmp_ltN 17 dX5_momentAt_10 (by decide) (by omega) (by decide) (fun c_10 => ?_) (fun c_10 => absurd c_10 (by omega))
  refine wp_aload_n (i := 0) dX5_momentAt_17 rfl rfl ?_
  refine wp_get 7 4 (vr (some (nm 55 r))) dX5_momentAt_18 hO.k0 (by decide) (by decide) fl_X5_15 (congrArg (fun z => toV (vr z)) (hO.r5_4)) ?_
  refine wp_iload_n (i := 1) dX5_momentAt_21 rfl rfl ?_
  refine wp_ialoadN 8 (KR_pm x i) dX5_momentAt_22 hO.k10 hO.n10 (by omega) (by decide) (hO.a_pm i) ?_
  refine wp_ireturn dX5_momentAt_23 rfl ?_
  exact hq
set_option maxRecDepth 100000 in
set_option maxHeartbeats 4000000 in
theorem c_X5_latestValue {G : GG} {d bc bs : Nat} {h : Hp} {Q : Pst} {r : Nat} {x : KRS} (hO : KR h r x) (h1 : 1 ≤ KR_kpt x) (h8 : KR_kpt x ≤ 8) (hd : 1 ≤ d) (hq : Q (oRet (vi (KR_pv x (KR_kpt x - 1)))) h) : WP G m_X5_latestValue d 0 (aargs 0 [vr (some (nm 53 r))]) [] h bc bs Q := by
  have hF : Fr h h (CRf r) := Fr.rf
  refine wp_sub [(0, vr (some (nm 53 r)))] (fun _ hz => hz) ?_
  refine wp_aload_n (i := 0) dX5_latestValue_0 rfl rfl ?_
  refine wp_aload_n (i := 0) dX5_latestValue_1 rfl rfl ?_
  refine wp_get 7 5 (vi (nI (KR_kpt x))) dX5_latestValue_2 hO.k0 (by decide) (by decide) fl_X5_18 (congrArg (fun z => toV (vi z)) (hO.f_kpt)) ?_
  refine wp_iconst (nI 1) dX5_latestValue_5 (by decide) ?_
  refine wp_isubN dX5_latestValue_6 (by omega) ?_
  refine wp_cV (y' := m_X5_valueAt) 7 [vi (nI ((KR_kpt x) - 1))] [] 0 0 dX5_latestValue_7 ml_X5_34 im_X5_valueAt se_X5_valueAt (by decide) hO.k0 ok_X5_valueAt rfl (Nat.le_of_ble_eq_true rfl) rfl (Nat.le_of_ble_eq_true rfl) (d' := d - 1) (by omega) (Nat.zero_le _) (Nat.zero_le _) (c_X5_valueAt hO (i := KR_kpt x - 1) (by omega) (cont_ret ?_))
  refine wp_ireturn dX5_latestValue_10 rfl ?_
  exact hq
set_option maxRecDepth 100000 in
set_option maxHeartbeats 4000000 in
theorem c_X5_latestMoment {G : GG} {d bc bs : Nat} {h : Hp} {Q : Pst} {r : Nat} {x : KRS} (hO : KR h r x) (h1 : 1 ≤ KR_kpt x) (h8 : KR_kpt x ≤ 8) (hd : 1 ≤ d) (hq : Q (oRet (vi (KR_pm x (KR_kpt x - 1)))) h) : WP G m_X5_latestMoment d 0 (aargs 0 [vr (some (nm 53 r))]) [] h bc bs Q := by
  have hF : Fr h h (CRf r) := Fr.rf
  refine wp_sub [(0, vr (some (nm 53 r)))] (fun _ hz => hz) ?_
  refine wp_aload_n (i := 0) dX5_latestMoment_0 rfl rfl ?_
  refine wp_aload_n (i := 0) dX5_latestMoment_1 rfl rfl ?_
  refine wp_get 7 5 (vi (nI (KR_kpt x))) dX5_latestMoment_2 hO.k0 (by decide) (by decide) fl_X5_18 (congrArg (fun z => toV (vi z)) (hO.f_kpt)) ?_
  refine wp_iconst (nI 1) dX5_latestMoment_5 (by decide) ?_
  refine wp_isubN dX5_latestMoment_6 (by omega) ?_
  refine wp_cV (y' := m_X5_momentAt) 7 [vi (nI ((KR_kpt x) - 1))] [] 0 0 dX5_latestMoment_7 ml_X5_38 im_X5_momentAt se_X5_momentAt (by decide) hO.k0 ok_X5_momentAt rfl (Nat.le_of_ble_eq_true rfl) rfl (Nat.le_of_ble_eq_true rfl) (d' := d - 1) (by omega) (Nat.zero_le _) (Nat.zero_le _) (c_X5_momentAt hO (i := KR_kpt x - 1) (by omega) (cont_ret ?_))
  refine wp_ireturn dX5_latestMoment_10 rfl ?_
  exact hq
set_option maxRecDepth 100000 in
set_option maxHeartbeats 4000000 in
theorem c_X5_raiseLimit {G : GG} {d bc bs : Nat} {h : Hp} {Q : Pst} {r : Nat} {x : KRS} (hO : KR h r x) (h8 : KR_lim x ≤ 8) (hd : 1 ≤ d) (hq : ∀ h', KR h' r (KR_ulim x (min (KR_lim x + 1) 8)) → Fr h h' (CRf r) → Q oVoid h') : WP G m_X5_raiseLimit d 0 (aargs 0 [vr (some (nm 53 r))]) [] h bc bs Q := by
  have hF : Fr h h (CRf r) := Fr.rf
  refine wp_sub [(0, vr (some (nm 53 r)))] (fun _ hz => hz) ?_
  refine wp_aload_n (i := 0) dX5_raiseLimit_0 rfl rfl ?_
  refine wp_aload_n (i := 0) dX5_raiseLimit_1 rfl rfl ?_
  refine wp_get 7 6 (vi (nI (KR_lim x))) dX5_raiseLimit_2 hO.k0 (by decide) (by decide) fl_X5_22 (congrArg (fun z => toV (vi z)) (hO.f_lim)) ?_
  refine wp_iconst (nI 1) dX5_raiseLimit_5 (by decide) ?_
  refine wp_iaddN dX5_raiseLimit_6 ?_
  refine wp_bipush (nI 8) dX5_raiseLimit_7 (by decide) ?_
  refine wp_minN dX5_raiseLimit_9 ml_X5_41 st_J9_min_7cf53 co_J9_min (by omega) (Nat.le_of_ble_eq_true rfl) (by omega) (by omega) ?_
  refine wp_putI 7 6 dX5_raiseLimit_12 hO.k0 (by decide) (by decide) (by decide) fl_X5_22 rfl (fun _ _ => rfl) rfl rfl ?_
  have hO1 := hO.wlim (v := (min ((KR_lim x) + 1) 8))
  have hF2 := hF.wI (b := nm 53 r) (k := 6) (x := nI ((min ((KR_lim x) + 1) 8))) (by unfold CRf nm; omega)
  refine wp_return dX5_raiseLimit_15 rfl ?_
  exact hq _ hO1 hF2
set_option maxRecDepth 100000 in
set_option maxHeartbeats 4000000 in
theorem l_X5_entryNotBehind {G : GG} {d bc bs : Nat} {h : Hp} {Q : Pst} {r : Nat} {x : KRS} (hO : KR h r x) {mm : Nat → Nat} (hm : ∀ j, j < KR_kpt x → KR_pm x j = nI (mm j) ∧ mm j ≤ 1000000) (h8 : KR_kpt x ≤ 8) {pt : Nat} (hp : pt ≤ 1000000) (hd : 1 ≤ d) (hqn : enB mm pt (KR_kpt x) = none → Q (oRet (vi (-1))) h) (hqs : ∀ i, enB mm pt (KR_kpt x) = some i → Q (oRet (vi (nI i))) h) : ∀ k, k ≤ KR_kpt x → enB mm pt k = enB mm pt (KR_kpt x) → WP G m_X5_entryNotBehind d 7 [(2, vi (bfK k)), (0, vr (some (nm 53 r))), (1, vi (nI pt))] [] h bc bs Q := by
  have hF : Fr h h (CRf r) := Fr.rf
  intro k
  induction k with
  | zero =>
    intro hk he
    rw [bfK_0]
    refine wp_iload_n (i := 2) dX5_entryNotBehind_7 rfl rfl ?_
    refine wp_if_lt 28 dX5_entryNotBehind_8 (by decide) (fun c_8 => ?_) (fun c_8 => absurd c_8 (by decide))
    refine wp_iconst (-1) dX5_entryNotBehind_28 (by decide) ?_
    refine wp_ireturn dX5_entryNotBehind_29 rfl ?_
    exact hqn he.symm
  | succ k ih =>
    intro hk he
    obtain ⟨hm1, hm2⟩ := hm k (by omega)
    rw [bfK_s]
    refine wp_iload_n (i := 2) dX5_entryNotBehind_7 rfl rfl ?_
    refine wp_if_ltN 28 dX5_entryNotBehind_8 (by decide) (by omega) (fun c_8 => absurd c_8 (id)) (fun c_8 => ?_)
    refine wp_aload_n (i := 0) dX5_entryNotBehind_11 rfl rfl ?_
    refine wp_iload_n (i := 2) dX5_entryNotBehind_12 rfl rfl ?_
    refine wp_cV (y' := m_X5_momentAt) 7 [vi (nI k)] [] 0 0 dX5_entryNotBehind_13 ml_X5_38 im_X5_momentAt se_X5_momentAt (by decide) hO.k0 ok_X5_momentAt rfl (Nat.le_of_ble_eq_true rfl) rfl (Nat.le_of_ble_eq_true rfl) (d' := d - 1) (by omega) (Nat.zero_le _) (Nat.zero_le _) (c_X5_momentAt hO (i := k) (by omega) (cont_ret ?_))
    rw [hm1]
    refine wp_iload_n (i := 1) dX5_entryNotBehind_16 rfl rfl ?_
    refine wp_icmp_gtN 22 dX5_entryNotBehind_17 (by decide) (by omega) (by omega) (fun c_17 => ?_) (fun c_17 => ?_)
    · skip
      obtain ⟨x_22, e_22⟩ : ∃ z : Int32, z = (nI k) + Int32.ofInt (-1) := ⟨_, rfl⟩
      refine wp_iinc (lv' := [(2, vi x_22), (0, vr (some (nm 53 r))), (1, vi (nI pt))]) x_22 dX5_entryNotBehind_22 rfl e_22.symm (by decide) rfl ?_
      refine wp_goto 7 dX5_entryNotBehind_25 (by decide) ?_
      rw [nI_dec (by omega)] at e_22
      subst e_22
      exact ih (by omega) (by rw [← he, enB, if_neg (by omega)])
    · skip
      refine wp_iload_n (i := 2) dX5_entryNotBehind_20 rfl rfl ?_
      refine wp_ireturn dX5_entryNotBehind_21 rfl ?_
      exact hqs k (he.symm.trans (by rw [enB, if_pos (by omega)]))
set_option maxRecDepth 100000 in
set_option maxHeartbeats 4000000 in
theorem c_X5_entryNotBehind {G : GG} {d bc bs : Nat} {h : Hp} {Q : Pst} {r : Nat} {x : KRS} (hO : KR h r x) {mm : Nat → Nat} (hm : ∀ j, j < KR_kpt x → KR_pm x j = nI (mm j) ∧ mm j ≤ 1000000) (h8 : KR_kpt x ≤ 8) {pt : Nat} (hp : pt ≤ 1000000) (hd : 1 ≤ d) (h1 : 1 ≤ KR_kpt x) (hqn : enB mm pt (KR_kpt x) = none → Q (oRet (vi (-1))) h) (hqs : ∀ i, enB mm pt (KR_kpt x) = some i → Q (oRet (vi (nI i))) h) : WP G m_X5_entryNotBehind d 0 (aargs 0 [vr (some (nm 53 r)), vi (nI pt)]) [] h bc bs Q := by
  have hF : Fr h h (CRf r) := Fr.rf
  refine wp_sub [(0, vr (some (nm 53 r))), (1, vi (nI pt))] (fun _ hz => hz) ?_
  refine wp_aload_n (i := 0) dX5_entryNotBehind_0 rfl rfl ?_
  refine wp_get 7 5 (vi (nI (KR_kpt x))) dX5_entryNotBehind_1 hO.k0 (by decide) (by decide) fl_X5_18 (congrArg (fun z => toV (vi z)) (hO.f_kpt)) ?_
  refine wp_iconst (nI 1) dX5_entryNotBehind_4 (by decide) ?_
  refine wp_isubN dX5_entryNotBehind_5 (by omega) ?_
  refine wp_istore_n (i := 2) (lv' := [(2, vi (nI ((KR_kpt x) - 1))), (0, vr (some (nm 53 r))), (1, vi (nI pt))]) dX5_entryNotBehind_6 rfl (by decide) rfl ?_
  have e : nI (KR_kpt x - 1) = bfK (KR_kpt x) := (if_neg (by omega)).symm
  rw [e]
  refine wp_sub [(2, vi (bfK (KR_kpt x))), (0, vr (some (nm 53 r))), (1, vi (nI pt))] (sb_cons (.head _) (sb_cons (.tail _ (.head _)) (sb_cons (.tail _ (.tail _ (.head _))) sb_nil))) ?_
  exact l_X5_entryNotBehind hO hm h8 hp hd hqn hqs _ (Nat.le_refl _) rfl
set_option maxRecDepth 100000 in
set_option maxHeartbeats 4000000 in
theorem l_X5_dropOldest {G : GG} {d bc bs : Nat} {Q : Pst} {h0 : Hp} {r : Nat} {x : KRS} (h1x : 1 ≤ KR_kpt x) (h8 : KR_kpt x ≤ 8) (hq : ∀ h', KR h' r (KR_fst x, KR_lo x, KR_hi x, KR_kpt x - 1, KR_lim x, shF (KR_pv x) (KR_kpt x), shF (KR_pm x) (KR_kpt x)) → Fr h0 h' (CRf r) → Q oVoid h') : ∀ n k H, n + k = KR_kpt x → 1 ≤ k → KR H r (KR_fst x, KR_lo x, KR_hi x, KR_kpt x, KR_lim x, shF (KR_pv x) k, shF (KR_pm x) k) → Fr h0 H (CRf r) → WP G m_X5_dropOldest d 2 [(1, vi (nI k)), (0, vr (some (nm 53 r)))] [] H bc bs Q := by
  intro n
  induction n with
  | zero =>
    intro k H hk h1 hO hF
    have hk : k = KR_kpt x := by omega
    subst hk
    refine wp_iload_n (i := 1) dX5_dropOldest_2 rfl rfl ?_
    refine wp_aload_n (i := 0) dX5_dropOldest_3 rfl rfl ?_
    refine wp_get 7 5 (vi (nI (KR_kpt x))) dX5_dropOldest_4 hO.k0 (by decide) (by decide) fl_X5_18 (congrArg (fun z => toV (vi z)) (hO.f_kpt)) ?_
    refine wp_icmp_geN 50 dX5_dropOldest_7 (by decide) (by omega) (by omega) (fun c_7 => ?_) (fun c_7 => absurd c_7 (by omega))
    refine wp_aload_n (i := 0) dX5_dropOldest_50 rfl rfl ?_
    refine wp_dup dX5_dropOldest_51 ?_
    refine wp_get 7 5 (vi (nI (KR_kpt x))) dX5_dropOldest_52 hO.k0 (by decide) (by decide) fl_X5_18 (congrArg (fun z => toV (vi z)) (hO.f_kpt)) ?_
    refine wp_iconst (nI 1) dX5_dropOldest_55 (by decide) ?_
    refine wp_isubN dX5_dropOldest_56 (by omega) ?_
    refine wp_putI 7 5 dX5_dropOldest_57 hO.k0 (by decide) (by decide) (by decide) fl_X5_18 rfl (fun _ _ => rfl) rfl rfl ?_
    have hO1 := hO.wkpt (v := ((KR_kpt x) - 1))
    have hF2 := hF.wI (b := nm 53 r) (k := 5) (x := nI (((KR_kpt x) - 1))) (by unfold CRf nm; omega)
    refine wp_return dX5_dropOldest_60 rfl ?_
    exact hq _ hO1 hF2
  | succ n ih =>
    intro k H hk h1 hO hF
    refine wp_iload_n (i := 1) dX5_dropOldest_2 rfl rfl ?_
    refine wp_aload_n (i := 0) dX5_dropOldest_3 rfl rfl ?_
    refine wp_get 7 5 (vi (nI (KR_kpt x))) dX5_dropOldest_4 hO.k0 (by decide) (by decide) fl_X5_18 (congrArg (fun z => toV (vi z)) (hO.f_kpt)) ?_
    refine wp_icmp_geN 50 dX5_dropOldest_7 (by decide) (by omega) (by omega) (fun c_7 => absurd c_7 (by omega)) (fun c_7 => ?_)
    refine wp_iload_n (i := 1) dX5_dropOldest_10 rfl rfl ?_
    refine wp_bipush (nI 8) dX5_dropOldest_11 (by decide) ?_
    refine wp_icmp_geN 50 dX5_dropOldest_13 (by decide) (by omega) (by decide) (fun c_13 => absurd c_13 (by omega)) (fun c_13 => ?_)
    refine wp_aload_n (i := 0) dX5_dropOldest_16 rfl rfl ?_
    refine wp_get 7 3 (vr (some (nm 54 r))) dX5_dropOldest_17 hO.k0 (by decide) (by decide) fl_X5_9 (congrArg (fun z => toV (vr z)) (hO.r4_3)) ?_
    refine wp_iload_n (i := 1) dX5_dropOldest_20 rfl rfl ?_
    refine wp_iconst (nI 1) dX5_dropOldest_21 (by decide) ?_
    refine wp_isubN dX5_dropOldest_22 (by omega) ?_
    refine wp_aload_n (i := 0) dX5_dropOldest_23 rfl rfl ?_
    refine wp_get 7 3 (vr (some (nm 54 r))) dX5_dropOldest_24 hO.k0 (by decide) (by decide) fl_X5_9 (congrArg (fun z => toV (vr z)) (hO.r4_3)) ?_
    refine wp_iload_n (i := 1) dX5_dropOldest_27 rfl rfl ?_
    refine wp_ialoadN 8 (shF (KR_pv x) k k) dX5_dropOldest_28 hO.k8 hO.n8 (by omega) (by decide) (hO.a_pv k) ?_
    refine wp_iastoreN 8 dX5_dropOldest_29 hO.k8 hO.n8 (by omega) (by decide) ?_
    have hO1 := hO.wpv (j := k - 1) (v := shF (KR_pv x) k k)
    have hF2 := hF.wI (b := nm 54 r) (k := k - 1) (x := shF (KR_pv x) k k) (by unfold CRf nm; omega)
    refine wp_aload_n (i := 0) dX5_dropOldest_30 rfl rfl ?_
    refine wp_get 7 4 (vr (some (nm 55 r))) dX5_dropOldest_31 hO1.k0 (by decide) (by decide) fl_X5_15 (congrArg (fun z => toV (vr z)) (hO1.r5_4)) ?_
    refine wp_iload_n (i := 1) dX5_dropOldest_34 rfl rfl ?_
    refine wp_iconst (nI 1) dX5_dropOldest_35 (by decide) ?_
    refine wp_isubN dX5_dropOldest_36 (by omega) ?_
    refine wp_aload_n (i := 0) dX5_dropOldest_37 rfl rfl ?_
    refine wp_get 7 4 (vr (some (nm 55 r))) dX5_dropOldest_38 hO1.k0 (by decide) (by decide) fl_X5_15 (congrArg (fun z => toV (vr z)) (hO1.r5_4)) ?_
    refine wp_iload_n (i := 1) dX5_dropOldest_41 rfl rfl ?_
    refine wp_ialoadN 8 (shF (KR_pm x) k k) dX5_dropOldest_42 hO1.k10 hO1.n10 (by omega) (by decide) (hO1.a_pm k) ?_
    refine wp_iastoreN 8 dX5_dropOldest_43 hO1.k10 hO1.n10 (by omega) (by decide) ?_
    have hO3 := hO1.wpm (j := k - 1) (v := shF (KR_pm x) k k)
    have hF4 := hF2.wI (b := nm 55 r) (k := k - 1) (x := shF (KR_pm x) k k) (by unfold CRf nm; omega)
    refine wp_iincN (a := k) (lv' := [(1, vi (nI (k + 1))), (0, vr (some (nm 53 r)))]) 1 dX5_dropOldest_44 rfl (by decide) (by decide) rfl ?_
    refine wp_goto 2 dX5_dropOldest_47 (by decide) ?_
    refine wp_sub [(1, vi (nI (k + 1))), (0, vr (some (nm 53 r)))] (sb_cons (.head _) (sb_cons (.tail _ (.head _)) sb_nil)) ?_
    have e1 : va_up (shF (KR_pv x) k) (k - 1) (shF (KR_pv x) k k) = shF (KR_pv x) (k + 1) := by rw [shF_i]; exact shF_s h1
    have e2 : va_up (shF (KR_pm x) k) (k - 1) (shF (KR_pm x) k k) = shF (KR_pm x) (k + 1) := by rw [shF_i]; exact shF_s h1
    have hO9 : KR _ r (KR_fst x, KR_lo x, KR_hi x, KR_kpt x, KR_lim x, va_up (shF (KR_pv x) k) (k - 1) (shF (KR_pv x) k k), va_up (shF (KR_pm x) k) (k - 1) (shF (KR_pm x) k k)) := hO3
    rw [e1, e2] at hO9
    exact ih (k + 1) _ (by omega) (by omega) hO9 hF4
set_option maxRecDepth 100000 in
set_option maxHeartbeats 4000000 in
theorem c_X5_dropOldest {G : GG} {d bc bs : Nat} {h : Hp} {Q : Pst} {r : Nat} {x : KRS} (hO : KR h r x) (h1 : 1 ≤ KR_kpt x) (h8 : KR_kpt x ≤ 8) (hq : ∀ h', KR h' r (KR_fst x, KR_lo x, KR_hi x, KR_kpt x - 1, KR_lim x, shF (KR_pv x) (KR_kpt x), shF (KR_pm x) (KR_kpt x)) → Fr h h' (CRf r) → Q oVoid h') : WP G m_X5_dropOldest d 0 (aargs 0 [vr (some (nm 53 r))]) [] h bc bs Q := by
  have hF : Fr h h (CRf r) := Fr.rf
  refine wp_sub [(0, vr (some (nm 53 r)))] (fun _ hz => hz) ?_
  refine wp_iconst (nI 1) dX5_dropOldest_0 (by decide) ?_
  refine wp_istore_n (i := 1) (lv' := [(1, vi (nI 1)), (0, vr (some (nm 53 r)))]) dX5_dropOldest_1 rfl (by decide) rfl ?_
  have hO0 : KR h r (KR_fst x, KR_lo x, KR_hi x, KR_kpt x, KR_lim x, shF (KR_pv x) 1, shF (KR_pm x) 1) := by rw [shF_1, shF_1]; exact hO
  refine wp_sub [(1, vi (nI 1)), (0, vr (some (nm 53 r)))] (sb_cons (.head _) (sb_cons (.tail _ (.head _)) sb_nil)) ?_
  exact l_X5_dropOldest h1 h8 hq (KR_kpt x - 1) 1 _ (by omega) (Nat.le_refl _) hO0 hF
set_option maxRecDepth 100000 in
set_option maxHeartbeats 4000000 in
theorem c_X5_come {G : GG} {d bc bs : Nat} {h : Hp} {Q : Pst} {r : Nat} {x : KRS} (hO : KR h r x) (h1 : 1 ≤ KR_kpt x) (hkl : KR_kpt x ≤ KR_lim x) (hl8 : KR_lim x ≤ 8) (hd : 1 ≤ d) {v : Int32} {m : Nat} (hq : ∀ h', KR h' r (kcome x v m) → Fr h h' (CRf r) → Q oVoid h') : WP G m_X5_come d 0 (aargs 0 [vr (some (nm 53 r)), vi v, vi (nI m)]) [] h bc bs Q := by
  have hF : Fr h h (CRf r) := Fr.rf
  have h8 : KR_kpt x ≤ 8 := by omega
  refine wp_sub [(0, vr (some (nm 53 r))), (1, vi v), (2, vi (nI m))] (fun _ hz => hz) ?_
  refine wp_aload_n (i := 0) dX5_come_0 rfl rfl ?_
  refine wp_get 7 5 (vi (nI (KR_kpt x))) dX5_come_1 hO.k0 (by decide) (by decide) fl_X5_18 (congrArg (fun z => toV (vi z)) (hO.f_kpt)) ?_
  refine wp_aload_n (i := 0) dX5_come_4 rfl rfl ?_
  refine wp_get 7 6 (vi (nI (KR_lim x))) dX5_come_5 hO.k0 (by decide) (by decide) fl_X5_22 (congrArg (fun z => toV (vi z)) (hO.f_lim)) ?_
  refine wp_icmp_ltN 15 dX5_come_8 (by decide) (by omega) (by omega) (fun c_8 => ?_) (fun c_8 => ?_)
  · skip
    refine wp_aload_n (i := 0) dX5_come_15 rfl rfl ?_
    refine wp_get 7 5 (vi (nI (KR_kpt x))) dX5_come_16 hO.k0 (by decide) (by decide) fl_X5_18 (congrArg (fun z => toV (vi z)) (hO.f_kpt)) ?_
    refine wp_bipush (nI 8) dX5_come_19 (by decide) ?_
    refine wp_icmp_geN 54 dX5_come_21 (by decide) (by omega) (by decide) (fun c_21 => absurd c_21 (by omega)) (fun c_21 => ?_)
    refine wp_aload_n (i := 0) dX5_come_24 rfl rfl ?_
    refine wp_get 7 3 (vr (some (nm 54 r))) dX5_come_25 hO.k0 (by decide) (by decide) fl_X5_9 (congrArg (fun z => toV (vr z)) (hO.r4_3)) ?_
    refine wp_aload_n (i := 0) dX5_come_28 rfl rfl ?_
    refine wp_get 7 5 (vi (nI (KR_kpt x))) dX5_come_29 hO.k0 (by decide) (by decide) fl_X5_18 (congrArg (fun z => toV (vi z)) (hO.f_kpt)) ?_
    refine wp_iload_n (i := 1) dX5_come_32 rfl rfl ?_
    refine wp_iastoreN 8 dX5_come_33 hO.k8 hO.n8 (by omega) (by decide) ?_
    have hO1 := hO.wpv (j := KR_kpt x) (v := v)
    have hF2 := hF.wI (b := nm 54 r) (k := KR_kpt x) (x := v) (by unfold CRf nm; omega)
    refine wp_aload_n (i := 0) dX5_come_34 rfl rfl ?_
    refine wp_get 7 4 (vr (some (nm 55 r))) dX5_come_35 hO1.k0 (by decide) (by decide) fl_X5_15 (congrArg (fun z => toV (vr z)) (hO1.r5_4)) ?_
    refine wp_aload_n (i := 0) dX5_come_38 rfl rfl ?_
    refine wp_get 7 5 (vi (nI (KR_kpt x))) dX5_come_39 hO1.k0 (by decide) (by decide) fl_X5_18 (congrArg (fun z => toV (vi z)) (hO1.f_kpt)) ?_
    refine wp_iload_n (i := 2) dX5_come_42 rfl rfl ?_
    refine wp_iastoreN 8 dX5_come_43 hO1.k10 hO1.n10 (by omega) (by decide) ?_
    have hO3 := hO1.wpm (j := KR_kpt x) (v := nI m)
    have hF4 := hF2.wI (b := nm 55 r) (k := KR_kpt x) (x := nI m) (by unfold CRf nm; omega)
    refine wp_aload_n (i := 0) dX5_come_44 rfl rfl ?_
    refine wp_dup dX5_come_45 ?_
    refine wp_get 7 5 (vi (nI (KR_kpt x))) dX5_come_46 hO3.k0 (by decide) (by decide) fl_X5_18 (congrArg (fun z => toV (vi z)) (hO3.f_kpt)) ?_
    refine wp_iconst (nI 1) dX5_come_49 (by decide) ?_
    refine wp_iaddN dX5_come_50 ?_
    refine wp_putI 7 5 dX5_come_51 hO3.k0 (by decide) (by decide) (by decide) fl_X5_18 rfl (fun _ _ => rfl) rfl rfl ?_
    have hO5 := hO3.wkpt (v := ((KR_kpt x) + 1))
    have hF6 := hF4.wI (b := nm 53 r) (k := 5) (x := nI (((KR_kpt x) + 1))) (by unfold CRf nm; omega)
    refine wp_return dX5_come_54 rfl ?_
    rw [show kcome x v m = (KR_fst x, KR_lo x, KR_hi x, KR_kpt x + 1, KR_lim x, va_up (KR_pv x) (KR_kpt x) v, va_up (KR_pm x) (KR_kpt x) (nI m)) from if_neg (by omega)] at hq
    exact hq _ hO5 hF6
  · skip
    refine wp_aload_n (i := 0) dX5_come_11 rfl rfl ?_
    refine wp_cV (y' := m_X5_dropOldest) 7 [] [] 0 0 dX5_come_12 ml_X5_47 im_X5_dropOldest se_X5_dropOldest (by decide) hO.k0 ok_X5_dropOldest rfl (Nat.le_of_ble_eq_true rfl) rfl (Nat.le_of_ble_eq_true rfl) (d' := d - 1) (by omega) (Nat.zero_le _) (Nat.zero_le _) (c_X5_dropOldest hO h1 h8 (fun h9 hO9 hF9 => cont_void ?_))
    refine wp_aload_n (i := 0) dX5_come_15 rfl rfl ?_
    refine wp_get 7 5 (vi (nI (KR_kpt x - 1))) dX5_come_16 hO9.k0 (by decide) (by decide) fl_X5_18 (congrArg (fun z => toV (vi z)) (hO9.f_kpt)) ?_
    refine wp_bipush (nI 8) dX5_come_19 (by decide) ?_
    refine wp_icmp_geN 54 dX5_come_21 (by decide) (by omega) (by decide) (fun c_21 => absurd c_21 (by omega)) (fun c_21 => ?_)
    refine wp_aload_n (i := 0) dX5_come_24 rfl rfl ?_
    refine wp_get 7 3 (vr (some (nm 54 r))) dX5_come_25 hO9.k0 (by decide) (by decide) fl_X5_9 (congrArg (fun z => toV (vr z)) (hO9.r4_3)) ?_
    refine wp_aload_n (i := 0) dX5_come_28 rfl rfl ?_
    refine wp_get 7 5 (vi (nI (KR_kpt x - 1))) dX5_come_29 hO9.k0 (by decide) (by decide) fl_X5_18 (congrArg (fun z => toV (vi z)) (hO9.f_kpt)) ?_
    refine wp_iload_n (i := 1) dX5_come_32 rfl rfl ?_
    refine wp_iastoreN 8 dX5_come_33 hO9.k8 hO9.n8 (by omega) (by decide) ?_
    have hO7 := hO9.wpv (j := KR_kpt x - 1) (v := v)
    have hF8 := hF9.wI (b := nm 54 r) (k := KR_kpt x - 1) (x := v) (by unfold CRf nm; omega)
    refine wp_aload_n (i := 0) dX5_come_34 rfl rfl ?_
    refine wp_get 7 4 (vr (some (nm 55 r))) dX5_come_35 hO7.k0 (by decide) (by decide) fl_X5_15 (congrArg (fun z => toV (vr z)) (hO7.r5_4)) ?_
    refine wp_aload_n (i := 0) dX5_come_38 rfl rfl ?_
    refine wp_get 7 5 (vi (nI (KR_kpt x - 1))) dX5_come_39 hO7.k0 (by decide) (by decide) fl_X5_18 (congrArg (fun z => toV (vi z)) (hO7.f_kpt)) ?_
    refine wp_iload_n (i := 2) dX5_come_42 rfl rfl ?_
    refine wp_iastoreN 8 dX5_come_43 hO7.k10 hO7.n10 (by omega) (by decide) ?_
    have hO9 := hO7.wpm (j := KR_kpt x - 1) (v := nI m)
    have hF10 := hF8.wI (b := nm 55 r) (k := KR_kpt x - 1) (x := nI m) (by unfold CRf nm; omega)
    refine wp_aload_n (i := 0) dX5_come_44 rfl rfl ?_
    refine wp_dup dX5_come_45 ?_
    refine wp_get 7 5 (vi (nI (KR_kpt x - 1))) dX5_come_46 hO9.k0 (by decide) (by decide) fl_X5_18 (congrArg (fun z => toV (vi z)) (hO9.f_kpt)) ?_
    refine wp_iconst (nI 1) dX5_come_49 (by decide) ?_
    refine wp_iaddN dX5_come_50 ?_
    refine wp_putI 7 5 dX5_come_51 hO9.k0 (by decide) (by decide) (by decide) fl_X5_18 rfl (fun _ _ => rfl) rfl rfl ?_
    have hO11 := hO9.wkpt (v := ((KR_kpt x - 1) + 1))
    have hF12 := hF10.wI (b := nm 53 r) (k := 5) (x := nI (((KR_kpt x - 1) + 1))) (by unfold CRf nm; omega)
    refine wp_return dX5_come_54 rfl ?_
    have e : KR_kpt x - 1 + 1 = KR_kpt x := by omega
    have hO8 : KR _ r (KR_fst x, KR_lo x, KR_hi x, KR_kpt x - 1 + 1, KR_lim x, va_up (shF (KR_pv x) (KR_kpt x)) (KR_kpt x - 1) v, va_up (shF (KR_pm x) (KR_kpt x)) (KR_kpt x - 1) (nI m)) := hO11
    rw [e] at hO8
    rw [show kcome x v m = (KR_fst x, KR_lo x, KR_hi x, KR_kpt x, KR_lim x, va_up (shF (KR_pv x) (KR_kpt x)) (KR_kpt x - 1) v, va_up (shF (KR_pm x) (KR_kpt x)) (KR_kpt x - 1) (nI m)) from if_pos (by omega)] at hq
    refine hq _ ?_ hF12
    rw [e]
    exact hO8
set_option maxRecDepth 100000 in
set_option maxHeartbeats 4000000 in
theorem c_X7_start {G : GG} {d bc bs : Nat} {h : Hp} {Q : Pst} {t : Nat} {x : KTS} (hO : KT h t x) {b m : Nat} (hq : ∀ h', KT h' t (KT_ubk (KT_upt (KT_ubir (KT_urun x true) b) m) 0) → Fr h h' (CT t) → Q oVoid h') : WP G m_X7_start d 0 (aargs 0 [vr (some (nm 56 t)), vi (nI b), vi (nI m)]) [] h bc bs Q := by
  have hF : Fr h h (CT t) := Fr.rf
  refine wp_sub [(0, vr (some (nm 56 t))), (1, vi (nI b)), (2, vi (nI m))] (fun _ hz => hz) ?_
  refine wp_aload_n (i := 0) dX7_start_0 rfl rfl ?_
  refine wp_iconst (nI 1) dX7_start_1 (by decide) ?_
  refine wp_putI 9 0 dX7_start_2 hO.k0 (by decide) (by decide) (by decide) fl_X7_9 rfl (fun _ _ => rfl) rfl rfl ?_
  have hO1 := hO.wrun (v := true)
  have hF2 := hF.wI (b := nm 56 t) (k := 0) (x := bI (true)) (by unfold CT nm; omega)
  refine wp_aload_n (i := 0) dX7_start_5 rfl rfl ?_
  refine wp_iload_n (i := 1) dX7_start_6 rfl rfl ?_
  refine wp_putI 9 1 dX7_start_7 hO1.k0 (by decide) (by decide) (by decide) fl_X7_15 rfl (fun _ _ => rfl) rfl rfl ?_
  have hO3 := hO1.wbir (v := b)
  have hF4 := hF2.wI (b := nm 56 t) (k := 1) (x := nI (b)) (by unfold CT nm; omega)
  refine wp_aload_n (i := 0) dX7_start_10 rfl rfl ?_
  refine wp_iload_n (i := 2) dX7_start_11 rfl rfl ?_
  refine wp_putI 9 2 dX7_start_12 hO3.k0 (by decide) (by decide) (by decide) fl_X7_19 rfl (fun _ _ => rfl) rfl rfl ?_
  have hO5 := hO3.wpt (v := m)
  have hF6 := hF4.wI (b := nm 56 t) (k := 2) (x := nI (m)) (by unfold CT nm; omega)
  refine wp_aload_n (i := 0) dX7_start_15 rfl rfl ?_
  refine wp_iconst (nI 0) dX7_start_16 (by decide) ?_
  refine wp_putI 9 3 dX7_start_17 hO5.k0 (by decide) (by decide) (by decide) fl_X7_22 rfl (fun _ _ => rfl) rfl rfl ?_
  have hO7 := hO5.wbk (v := 0)
  have hF8 := hF6.wI (b := nm 56 t) (k := 3) (x := nI (0)) (by unfold CT nm; omega)
  refine wp_return dX7_start_20 rfl ?_
  exact hq _ hO7 hF8
def khl (x : KTS) (r : Nat) (en : Bool) : Bool := KT_wr x r || (en && KT_en x r)
def kch (x : KTS) (r : Nat) : Bool := KT_wr x r || KT_ad x r
set_option maxRecDepth 100000 in
set_option maxHeartbeats 4000000 in
theorem c_X7_holds {G : GG} {d bc bs : Nat} {h : Hp} {Q : Pst} {t : Nat} {x : KTS} (hO : KT h t x) {r : Nat} (hr : r < 6) {en : Bool} (hq : Q (oRet (vi (bI (khl x r en)))) h) : WP G m_X7_holds d 0 (aargs 0 [vr (some (nm 56 t)), vi (nI r), vi (bI en)]) [] h bc bs Q := by
  have hF : Fr h h (CT t) := Fr.rf
  refine wp_sub [(0, vr (some (nm 56 t))), (1, vi (nI r)), (2, vi (bI en))] (fun _ hz => hz) ?_
  refine wp_aload_n (i := 0) dX7_holds_0 rfl rfl ?_
  refine wp_get 9 4 (vr (some (nm 57 t))) dX7_holds_1 hO.k0 (by decide) (by decide) fl_X7_25 (congrArg (fun z => toV (vr z)) (hO.r5_4)) ?_
  refine wp_iload_n (i := 1) dX7_holds_4 rfl rfl ?_
  refine wp_zaloadN 6 (bI (KT_wr x r)) dX7_holds_5 hO.k11 hO.n11 (by omega) (by decide) (hO.a_wr r) ?_
  refine wp_if_neB 22 dX7_holds_6 (by decide) (fun c_6 => ?_) (fun c_6 => ?_)
  · skip
    refine wp_iconst (nI 1) dX7_holds_22 (by decide) ?_
    refine wp_goto 27 dX7_holds_23 (by decide) ?_
    refine wp_zreturn dX7_holds_27 rfl (by first | rfl | assumption) ?_
    rw [show khl x r en = true from by unfold khl; simp [*]] at hq
    exact hq
  · skip
    refine wp_iload_n (i := 2) dX7_holds_9 rfl rfl ?_
    refine wp_if_eqB 26 dX7_holds_10 (by decide) (fun c_10 => ?_) (fun c_10 => ?_)
    · skip
      refine wp_iconst (nI 0) dX7_holds_26 (by decide) ?_
      refine wp_zreturn dX7_holds_27 rfl (by first | rfl | assumption) ?_
      rw [show khl x r en = false from by unfold khl; simp [*]] at hq
      exact hq
    · skip
      refine wp_aload_n (i := 0) dX7_holds_13 rfl rfl ?_
      refine wp_get 9 6 (vr (some (nm 59 t))) dX7_holds_14 hO.k0 (by decide) (by decide) fl_X7_33 (congrArg (fun z => toV (vr z)) (hO.r7_6)) ?_
      refine wp_iload_n (i := 1) dX7_holds_17 rfl rfl ?_
      refine wp_zaloadN 6 (bI (KT_en x r)) dX7_holds_18 hO.k15 hO.n15 (by omega) (by decide) (hO.a_en r) ?_
      refine wp_if_eqB 26 dX7_holds_19 (by decide) (fun c_19 => ?_) (fun c_19 => ?_)
      · skip
        refine wp_iconst (nI 0) dX7_holds_26 (by decide) ?_
        refine wp_zreturn dX7_holds_27 rfl (by first | rfl | assumption) ?_
        rw [show khl x r en = false from by unfold khl; simp [*]] at hq
        exact hq
      · skip
        refine wp_iconst (nI 1) dX7_holds_22 (by decide) ?_
        refine wp_goto 27 dX7_holds_23 (by decide) ?_
        refine wp_zreturn dX7_holds_27 rfl (by first | rfl | assumption) ?_
        rw [show khl x r en = true from by unfold khl; simp [*]] at hq
        exact hq
set_option maxRecDepth 100000 in
set_option maxHeartbeats 4000000 in
theorem c_X7_changes {G : GG} {d bc bs : Nat} {h : Hp} {Q : Pst} {t : Nat} {x : KTS} (hO : KT h t x) {r : Nat} (hr : r < 6) (hq : Q (oRet (vi (bI (kch x r)))) h) : WP G m_X7_changes d 0 (aargs 0 [vr (some (nm 56 t)), vi (nI r)]) [] h bc bs Q := by
  have hF : Fr h h (CT t) := Fr.rf
  refine wp_sub [(0, vr (some (nm 56 t))), (1, vi (nI r))] (fun _ hz => hz) ?_
  refine wp_aload_n (i := 0) dX7_changes_0 rfl rfl ?_
  refine wp_get 9 4 (vr (some (nm 57 t))) dX7_changes_1 hO.k0 (by decide) (by decide) fl_X7_25 (congrArg (fun z => toV (vr z)) (hO.r5_4)) ?_
  refine wp_iload_n (i := 1) dX7_changes_4 rfl rfl ?_
  refine wp_zaloadN 6 (bI (KT_wr x r)) dX7_changes_5 hO.k11 hO.n11 (by omega) (by decide) (hO.a_wr r) ?_
  refine wp_if_neB 18 dX7_changes_6 (by decide) (fun c_6 => ?_) (fun c_6 => ?_)
  · skip
    refine wp_iconst (nI 1) dX7_changes_18 (by decide) ?_
    refine wp_goto 23 dX7_changes_19 (by decide) ?_
    refine wp_zreturn dX7_changes_23 rfl (by first | rfl | assumption) ?_
    rw [show kch x r = true from by unfold kch; simp [*]] at hq
    exact hq
  · skip
    refine wp_aload_n (i := 0) dX7_changes_9 rfl rfl ?_
    refine wp_get 9 7 (vr (some (nm 60 t))) dX7_changes_10 hO.k0 (by decide) (by decide) fl_X7_36 (congrArg (fun z => toV (vr z)) (hO.r8_7)) ?_
    refine wp_iload_n (i := 1) dX7_changes_13 rfl rfl ?_
    refine wp_zaloadN 6 (bI (KT_ad x r)) dX7_changes_14 hO.k17 hO.n17 (by omega) (by decide) (hO.a_ad r) ?_
    refine wp_if_eqB 22 dX7_changes_15 (by decide) (fun c_15 => ?_) (fun c_15 => ?_)
    · skip
      refine wp_iconst (nI 0) dX7_changes_22 (by decide) ?_
      refine wp_zreturn dX7_changes_23 rfl (by first | rfl | assumption) ?_
      rw [show kch x r = false from by unfold kch; simp [*]] at hq
      exact hq
    · skip
      refine wp_iconst (nI 1) dX7_changes_18 (by decide) ?_
      refine wp_goto 23 dX7_changes_19 (by decide) ?_
      refine wp_zreturn dX7_changes_23 rfl (by first | rfl | assumption) ?_
      rw [show kch x r = true from by unfold kch; simp [*]] at hq
      exact hq
