/-! The model: transactions, their helpers. -/
def WRR (a : Nat) : Prop := a = nm 1 0 ∨ (4 ≤ a % 128 ∧ a % 128 ≤ 14) ∨ (22 ≤ a % 128 ∧ a % 128 ≤ 30 ∧ a % 128 ≠ 26) ∨ a = nm 1 13 ∨ a = nm 1 14 ∨ a = nm 1 18
/-- what the second half of the model may change -/
def FRR (h h' : Hp) : Prop := (∀ a, ¬ WRR a → ce h' a = ce h a) ∧ (∀ k, h_k h (nm 22 k) ≠ 0 → ce h' (nm 22 k) = ce h (nm 22 k)) ∧ (h_k h' (nm 1 0) = h_k h (nm 1 0) ∧ h_n h' (nm 1 0) = h_n h (nm 1 0) ∧ h_R h' (nm 1 0) = h_R h (nm 1 0) ∧ h_L h' (nm 1 0) = h_L h (nm 1 0) ∧ h_F h' (nm 1 0) = h_F h (nm 1 0)) ∧ ∀ j, j ≠ 0 → j ≠ 15 → j ≠ 16 → h_I h' (nm 1 0) j = h_I h (nm 1 0) j
theorem FRR.rf {h : Hp} : FRR h h := ⟨fun _ _ => rfl, fun _ _ => rfl, ⟨rfl, rfl, rfl, rfl, rfl⟩, fun _ _ _ _ => rfl⟩
theorem FRR.tr {h h1 h2 : Hp} (a : FRR h h1) (b : FRR h1 h2) : FRR h h2 :=
  ⟨fun x hx => (b.1 x hx).trans (a.1 x hx), fun k hk => (b.2.1 k (by rw [ce_k (a.2.1 k hk)]; exact hk)).trans (a.2.1 k hk), ⟨b.2.2.1.1.trans a.2.2.1.1, b.2.2.1.2.1.trans a.2.2.1.2.1, b.2.2.1.2.2.1.trans a.2.2.1.2.2.1, b.2.2.1.2.2.2.1.trans a.2.2.1.2.2.2.1, b.2.2.1.2.2.2.2.trans a.2.2.1.2.2.2.2⟩, fun j h1 h2 h3 => (b.2.2.2 j h1 h2 h3).trans (a.2.2.2 j h1 h2 h3)⟩
theorem FRR.m {h : Hp} {k : Nat} {x : Int32} (hk : k = 0 ∨ k = 15 ∨ k = 16) : FRR h (wI h (nm 1 0) k x) :=
  ⟨fun a ha => ce_wI (fun e => ha (Or.inl e)), fun j _ => ce_wI (nm_ne (by decide) (by decide) (by decide)), ⟨rfl, rfl, rfl, rfl, rfl⟩, fun j h1 h2 h3 => by rw [gI_wI, if_neg (fun z => by omega)]⟩
theorem FRR.w0 {h : Hp} {x : Int32} : FRR h (wI h (nm 1 0) 0 x) := FRR.m (Or.inl rfl)
theorem FRR.w15 {h : Hp} {x : Int32} : FRR h (wI h (nm 1 0) 15 x) := FRR.m (Or.inr (Or.inl rfl))
theorem FRR.w16 {h : Hp} {x : Int32} : FRR h (wI h (nm 1 0) 16 x) := FRR.m (Or.inr (Or.inr rfl))
theorem FRR.fr {h h' : Hp} {W : Nat → Prop} (hF : Fr h h' W) (hW : ∀ a, W a → WRR a) (h1 : ¬ W (nm 1 0)) (h2 : ∀ k, ¬ W (nm 22 k)) : FRR h h' :=
  ⟨fun a ha => hF a (fun z => ha (hW a z)), fun k _ => hF _ (h2 k), ⟨ce_k (hF _ h1), ce_n (hF _ h1), ce_R (hF _ h1), ce_L (hF _ h1), ce_F (hF _ h1)⟩, fun j _ _ _ => by rw [ce_I (hF _ h1)]⟩
theorem FRR.oT {h h' : Hp} {t : Nat} (hF : Fr h h' (WT t)) : FRR h h' := FRR.fr hF (fun a ha => by unfold WT at ha; unfold WRR; omega) (WT_n (by omega) (by decide)) (fun k => WT_n (by omega) (by decide))
theorem FRR.oR {h h' : Hp} {t : Nat} (hF : Fr h h' (WRf t)) : FRR h h' := FRR.fr hF (fun a ha => by unfold WRf at ha; unfold WRR; omega) (WRf_n (by omega) (by decide)) (fun k => WRf_n (by omega) (by decide))
theorem FRR.oA {h h' : Hp} {t : Nat} (hF : Fr h h' (WAg t)) : FRR h h' := FRR.fr hF (fun a ha => by unfold WAg at ha; unfold WRR; omega) (WAg_n (by omega) (by decide)) (fun k => WAg_n (by omega) (by decide))
theorem PO2.fr {h h' : Hp} {W : Nat → Prop} (H : PO2 h) (hF : Fr h h' W) (h1 : ∀ k, ¬ W (nm 22 k)) (h2 : ∀ k, ¬ W (nm 30 k)) : PO2 h' :=
  ⟨H.1.elim fun K z => ⟨K, z.fr (fun _ _ => hF _ (h1 _))⟩, H.2.elim fun K z => ⟨K, z.fr (fun _ _ => hF _ (h2 _))⟩⟩
theorem PO2.m {h : Hp} {a k : Nat} {x : Int32} (H : PO2 h) : PO2 (wI h a k x) := H
theorem PO2.oT {h h' : Hp} {t : Nat} (H : PO2 h) (hF : Fr h h' (WT t)) : PO2 h' := H.fr hF (fun k => WT_n (by omega) (by decide)) (fun k => WT_n (by omega) (by decide))
theorem PO2.oR {h h' : Hp} {t : Nat} (H : PO2 h) (hF : Fr h h' (WRf t)) : PO2 h' := H.fr hF (fun k => WRf_n (by omega) (by decide)) (fun k => WRf_n (by omega) (by decide))
theorem PO2.oA {h h' : Hp} {t : Nat} (H : PO2 h) (hF : Fr h h' (WAg t)) : PO2 h' := H.fr hF (fun k => WAg_n (by omega) (by decide)) (fun k => WAg_n (by omega) (by decide))
theorem OT.rfT {h : Hp} {t : Nat} {x : OTS} (_ : OT h t x) : Fr h h (WT t) := Fr.rf
theorem OR.rfR {h : Hp} {t : Nat} {x : ORS} (_ : OR h t x) : Fr h h (WRf t) := Fr.rf
theorem OA.rfA {h : Hp} {t : Nat} {x : OAS} (_ : OA h t x) : Fr h h (WAg t) := Fr.rf
theorem LNm.k {h : Hp} {l ρ i : Nat} {xs : List Int32} (H : LNm h l ρ i xs) : h_k h l = 3 := H.1.elim fun _ z => z.elim fun _ z => z.k
set_option maxRecDepth 100000 in
set_option maxHeartbeats 4000000 in
theorem c_fl {G : GG} {d bc bs : Nat} {h : Hp} {Q : Pst} (hk : h_k h (nm 1 0) = 18) (ht : h_I h (nm 1 0) 0 = nI 0) (c e : Int32) (he : ¬ e = 0) (k1 : ¬ c = 0 → Q (oRet (vi (nI 1))) (wI h (nm 1 0) 0 e)) (k0 : c = 0 → Q (oRet (vi (nI 0))) h) : WP G m_X16_fails d 0 (aargs 0 [vr (some (nm 1 0)), vi c, vi e]) [] h bc bs Q := by
  refine wp_sub [(0, vr (some (nm 1 0))), (1, vi c), (2, vi e)] (fun _ hz => hz) ?_
  refine wp_iload_n (i := 1) dX16_fails_0 rfl rfl ?_
  refine wp_if_eq 16 dX16_fails_1 (by decide) (fun c_1 => ?_) (fun c_1 => ?_)
  · skip
    refine wp_aload_n (i := 0) dX16_fails_16 rfl rfl ?_
    refine wp_get 17 0 (vi (nI 0)) dX16_fails_17 hk (by decide) (by decide) fl_X16_63 (congrArg (fun z => toV (vi z)) (ht)) ?_
    refine wp_if_eqN 27 dX16_fails_20 (by decide) (by decide) (fun c_20 => ?_) (fun c_20 => absurd c_20 (by decide))
    refine wp_iconst (nI 0) dX16_fails_27 (by decide) ?_
    refine wp_zreturn dX16_fails_28 rfl (by first | rfl | assumption) ?_
    exact k0 c_1
  · skip
    refine wp_aload_n (i := 0) dX16_fails_4 rfl rfl ?_
    refine wp_get 17 0 (vi (nI 0)) dX16_fails_5 hk (by decide) (by decide) fl_X16_63 (congrArg (fun z => toV (vi z)) (ht)) ?_
    refine wp_if_neN 16 dX16_fails_8 (by decide) (by decide) (fun c_8 => absurd c_8 (by decide)) (fun c_8 => ?_)
    refine wp_aload_n (i := 0) dX16_fails_11 rfl rfl ?_
    refine wp_iload_n (i := 2) dX16_fails_12 rfl rfl ?_
    refine wp_putI 17 0 dX16_fails_13 hk (by decide) (by decide) (by decide) fl_X16_63 rfl (fun _ _ => rfl) rfl rfl ?_
    refine wp_aload_n (i := 0) dX16_fails_16 rfl rfl ?_
    refine wp_get 17 0 (vi e) dX16_fails_17 hk (by decide) (by decide) fl_X16_63 (congrArg (fun z => toV (vi z)) (wI_ss)) ?_
    refine wp_if_eq 27 dX16_fails_20 (by decide) (fun c_20 => absurd c_20 (he)) (fun c_20 => ?_)
    refine wp_iconst (nI 1) dX16_fails_23 (by decide) ?_
    refine wp_goto 28 dX16_fails_24 (by decide) ?_
    refine wp_zreturn dX16_fails_28 rfl (by first | rfl | assumption) ?_
    exact k1 c_1
theorem c_flT {G : GG} {d bc bs : Nat} {h : Hp} {Q : Pst} (hk : h_k h (nm 1 0) = 18) (ht : h_I h (nm 1 0) 0 = nI 0) (e : Int32) (he : ¬ e = 0) (k1 : Q (oRet (vi (nI 1))) (wI h (nm 1 0) 0 e)) : WP G m_X16_fails d 0 (aargs 0 [vr (some (nm 1 0)), vi (nI 1), vi e]) [] h bc bs Q :=
  c_fl hk ht (nI 1) e he (fun _ => k1) (fun z => absurd z (by decide))
theorem c_flF {G : GG} {d bc bs : Nat} {h : Hp} {Q : Pst} (hk : h_k h (nm 1 0) = 18) (ht : h_I h (nm 1 0) 0 = nI 0) (e : Int32) (he : ¬ e = 0) (k0 : Q (oRet (vi (nI 0))) h) : WP G m_X16_fails d 0 (aargs 0 [vr (some (nm 1 0)), vi (nI 0), vi e]) [] h bc bs Q :=
  c_fl hk ht (nI 0) e he (fun z => absurd rfl z) (fun _ => k0)
theorem c_flB {G : GG} {d bc bs : Nat} {h : Hp} {Q : Pst} (hk : h_k h (nm 1 0) = 18) (ht : h_I h (nm 1 0) 0 = nI 0) (b : Bool) (e : Int32) (he : ¬ e = 0) (k1 : b = true → Q (oRet (vi (nI 1))) (wI h (nm 1 0) 0 e)) (k0 : b = false → Q (oRet (vi (nI 0))) h) : WP G m_X16_fails d 0 (aargs 0 [vr (some (nm 1 0)), vi (bI b), vi e]) [] h bc bs Q :=
  c_fl hk ht (bI b) e he (fun z => k1 (bI_n.mp z)) (fun z => k0 (bI_0.mp z))
theorem ixB_3 (v : Int32) : inB v (nI 0) (nI 2) = ixB v 3 := rfl
theorem ixB_n (v : Int32) (n : Nat) : inB v (nI 0) (nI n - nI 1) = ixB v n := rfl
set_option maxRecDepth 100000 in
set_option maxHeartbeats 4000000 in
theorem c_X16_noTransaction {G : GG} {d bc bs : Nat} {h : Hp} {Q : Pst} (v : Int32) (hd : 1 ≤ d) (hq : Q (oRet (vi (bI (!ixB v 3)))) h) : WP G m_X16_noTransaction d 0 (aargs 0 [vi v]) [] h bc bs Q := by
  refine wp_sub [(0, vi v)] (fun _ hz => hz) ?_
  refine wp_iload_n (i := 0) dX16_noTransaction_0 rfl rfl ?_
  refine wp_iconst (nI 0) dX16_noTransaction_1 (by decide) ?_
  refine wp_iconst (nI 2) dX16_noTransaction_2 (by decide) ?_
  refine wp_cS (y' := m_X16_in) [vi v, vi (nI 0), vi (nI 2)] [] 0 0 dX16_noTransaction_3 ml_X16_70 st_X16_in ok_X16_in rfl (Nat.le_of_ble_eq_true rfl) rfl (Nat.le_of_ble_eq_true rfl) (d' := d - 1) (by omega) (Nat.zero_le _) (Nat.zero_le _) (c_X16_in v (nI 0) (nI 2) (cont_ret ?_))
  refine wp_if_neB 13 dX16_noTransaction_6 (by decide) (fun c_6 => ?_) (fun c_6 => ?_)
  · rw [show ixB v 3 = true from c_6] at hq
    refine wp_iconst (nI 0) dX16_noTransaction_13 (by decide) ?_
    refine wp_zreturn dX16_noTransaction_14 rfl (by first | rfl | assumption) ?_
    exact hq
  · rw [show ixB v 3 = false from c_6] at hq
    refine wp_iconst (nI 1) dX16_noTransaction_9 (by decide) ?_
    refine wp_goto 14 dX16_noTransaction_10 (by decide) ?_
    refine wp_zreturn dX16_noTransaction_14 rfl (by first | rfl | assumption) ?_
    exact hq
set_option maxRecDepth 100000 in
set_option maxHeartbeats 4000000 in
theorem c_X16_noReference {G : GG} {d bc bs : Nat} {h : Hp} {Q : Pst} {S : RS} (hR : MR h S) (v : Int32) (hd : 2 ≤ d) (hq : Q (oRet (vi (bI (!ixB v (RS_rn S))))) h) : WP G m_X16_noReference d 0 (aargs 0 [vr (some (nm 1 0)), vi v]) [] h bc bs Q := by
  refine wp_sub [(0, vr (some (nm 1 0))), (1, vi v)] (fun _ hz => hz) ?_
  refine wp_iload_n (i := 1) dX16_noReference_0 rfl rfl ?_
  refine wp_iconst (nI 0) dX16_noReference_1 (by decide) ?_
  refine wp_aload_n (i := 0) dX16_noReference_2 rfl rfl ?_
  refine wp_get 17 13 (vr (some (nm 1 13))) dX16_noReference_3 hR.mk (by decide) (by decide) fl_X16_47 (congrArg (fun z => toV (vr z)) (hR.ref 13 (by decide) (by decide) (by decide) (by decide))) ?_
  refine wp_cV (y' := m_Jx4a65c_size_8abf5) 2 [] [vi (nI 0), vi v] 0 0 dX16_noReference_6 ml_X16_168 im_Jx4a65c_size_8abf5 se_Jx4a65c_size_8abf5 (by decide) hR.rl.k ok_Jx4a65c_size_8abf5 rfl (Nat.le_of_ble_eq_true rfl) rfl (Nat.le_of_ble_eq_true rfl) (d' := d - 1) (by omega) (Nat.zero_le _) (Nat.zero_le _) (c_LO_size hR.rl (cont_ret ?_))
  refine wp_iconst (nI 1) dX16_noReference_9 (by decide) ?_
  refine wp_isub dX16_noReference_10 ?_
  refine wp_cS (y' := m_X16_in) [vi v, vi (nI 0), vi ((nI (RS_rn S)) - (nI 1))] [] 0 0 dX16_noReference_11 ml_X16_70 st_X16_in ok_X16_in rfl (Nat.le_of_ble_eq_true rfl) rfl (Nat.le_of_ble_eq_true rfl) (d' := d - 1) (by omega) (Nat.zero_le _) (Nat.zero_le _) (c_X16_in v (nI 0) ((nI (RS_rn S)) - (nI 1)) (cont_ret ?_))
  refine wp_if_neB 21 dX16_noReference_14 (by decide) (fun c_14 => ?_) (fun c_14 => ?_)
  · rw [show ixB v (RS_rn S) = true from c_14] at hq
    refine wp_iconst (nI 0) dX16_noReference_21 (by decide) ?_
    refine wp_zreturn dX16_noReference_22 rfl (by first | rfl | assumption) ?_
    exact hq
  · rw [show ixB v (RS_rn S) = false from c_14] at hq
    refine wp_iconst (nI 1) dX16_noReference_17 (by decide) ?_
    refine wp_goto 22 dX16_noReference_18 (by decide) ?_
    refine wp_zreturn dX16_noReference_22 rfl (by first | rfl | assumption) ?_
    exact hq
set_option maxRecDepth 100000 in
set_option maxHeartbeats 4000000 in
theorem c_X16_isClosed {G : GG} {d bc bs : Nat} {h : Hp} {Q : Pst} {S : RS} (hR : MR h S) {t : Nat} (ht : t < 3) (hq : Q (oRet (vi (bI (!OT_op (RS_tt S t))))) h) : WP G m_X16_isClosed d 0 (aargs 0 [vr (some (nm 1 0)), vi (nI t)]) [] h bc bs Q := by
  refine wp_sub [(0, vr (some (nm 1 0))), (1, vi (nI t))] (fun _ hz => hz) ?_
  refine wp_aload_n (i := 0) dX16_isClosed_0 rfl rfl ?_
  refine wp_get 17 17 (vr (some (nm 1 17))) dX16_isClosed_1 hR.mk (by decide) (by decide) fl_X16_56 (congrArg (fun z => toV (vr z)) (hR.ref 17 (by decide) (by decide) (by decide) (by decide))) ?_
  refine wp_iload_n (i := 1) dX16_isClosed_4 rfl rfl ?_
  refine wp_aaloadN 3 (some (nm 6 t)) dX16_isClosed_5 (arTy_117 hR.k17) hR.tn (by omega) (by decide) (hR.tr (by omega)) ?_
  refine wp_get 16 0 (vi (bI (OT_op (RS_tt S t)))) dX16_isClosed_6 (hR.t (by omega)).k0 (by decide) (by decide) fl_X16_246 (congrArg (fun z => toV (vi z)) ((hR.t (by omega)).f_op)) ?_
  refine wp_if_neB 16 dX16_isClosed_9 (by decide) (fun c_9 => ?_) (fun c_9 => ?_)
  · rw [c_9] at hq
    refine wp_iconst (nI 0) dX16_isClosed_16 (by decide) ?_
    refine wp_zreturn dX16_isClosed_17 rfl (by first | rfl | assumption) ?_
    exact hq
  · rw [c_9] at hq
    refine wp_iconst (nI 1) dX16_isClosed_12 (by decide) ?_
    refine wp_goto 17 dX16_isClosed_13 (by decide) ?_
    refine wp_zreturn dX16_isClosed_17 rfl (by first | rfl | assumption) ?_
    exact hq
def fgB (k : Nat) (f : Nat → Bool) : Nat → Bool := fun j => if j < k then false else f j
def fgI (k : Nat) (f : Nat → Int32) : Nat → Int32 := fun j => if j < k then nI 0 else f j
def fgK (x : OTS) (k : Nat) : OTS := (OT_op x, OT_pt x, OT_ag x, OT_bk x, fgB k (OT_wr x), fgI k (OT_wn x), fgB k (OT_en x), fgB k (OT_ad x), fgI k (OT_sm x), OT_sq x)
/-- a transaction that has forgotten -/
abbrev fgt (x : OTS) : OTS := OT_usq (fgK x 6) []
theorem fgB_s {k : Nat} {f : Nat → Bool} : va_up (fgB k f) k false = fgB (k + 1) f := by
  funext j
  rw [va_up_app]
  unfold fgB
  by_cases e : j = k
  · rw [if_pos e, if_pos (by omega)]
  · rw [if_neg e]
    by_cases e2 : j < k
    · rw [if_pos e2, if_pos (by omega)]
    · rw [if_neg e2, if_neg (by omega)]
theorem fgI_s {k : Nat} {f : Nat → Int32} : va_up (fgI k f) k (nI 0) = fgI (k + 1) f := by
  funext j
  rw [va_up_app]
  unfold fgI
  by_cases e : j = k
  · rw [if_pos e, if_pos (by omega)]
  · rw [if_neg e]
    by_cases e2 : j < k
    · rw [if_pos e2, if_pos (by omega)]
    · rw [if_neg e2, if_neg (by omega)]
theorem fgB_0 {f : Nat → Bool} : fgB 0 f = f := by funext j; unfold fgB; rw [if_neg (by omega)]
theorem fgI_0 {f : Nat → Int32} : fgI 0 f = f := by funext j; unfold fgI; rw [if_neg (by omega)]
set_option maxRecDepth 100000 in
set_option maxHeartbeats 4000000 in
theorem l_X15_forget {G : GG} {d bc bs : Nat} {h : Hp} {Q : Pst} {t : Nat} {x : OTS} (hd : 2 ≤ d) (ht16 : t < 16) (hq : ∀ h', OT h' t (fgt x) → Fr h h' (WT t) → Q oVoid h') : ∀ m k H, k + m = 6 → OT H t (fgK x k) → Fr h H (WT t) → WP G m_X15_forget d 2 [(1, vi (nI k)), (0, vr (some (nm 6 t)))] [] H bc bs Q := by
  intro m
  induction m with
  | zero =>
    intro k H hk hT hF
    have hk : k = 6 := hk
    subst hk
    refine wp_iload_n (i := 1) dX15_forget_2 rfl rfl ?_
    refine wp_bipush (nI 6) dX15_forget_3 (by decide) ?_
    refine wp_icmp_geN 49 dX15_forget_5 (by decide) (by decide) (by decide) (fun c_5 => ?_) (fun c_5 => absurd c_5 (by omega))
    refine wp_aload_n (i := 0) dX15_forget_49 rfl rfl ?_
    refine wp_get 16 9 (vr (some (nm 12 t))) dX15_forget_50 hT.k0 (by decide) (by decide) fl_X15_31 (congrArg (fun z => toV (vr z)) (hT.r10_9)) ?_
    refine wp_cV (y' := m_Jx4a65c_clear_da8c8) 2 [] [] 0 0 dX15_forget_53 ml_X15_35 im_Jx4a65c_clear_da8c8 se_Jx4a65c_clear_da8c8 (by decide) hT.L21.k ok_Jx4a65c_clear_da8c8 rfl (Nat.le_of_ble_eq_true rfl) rfl (Nat.le_of_ble_eq_true rfl) (d' := d - 1) (by omega) (Nat.zero_le _) (Nat.zero_le _) (c_LP_clear hT.L21 (fun h' hL hC => cont_void ?_))
    refine wp_return dX15_forget_56 rfl ?_
    exact hq _ (hT.usq (v := []) hL (hC _ (by unfold nm; omega) (fun z => by unfold nm; omega)) (hC _ (by unfold nm; omega) (fun z => by unfold nm; omega)) (hC _ (by unfold nm; omega) (fun z => by unfold nm; omega)) (hC _ (by unfold nm; omega) (fun z => by unfold nm; omega)) (hC _ (by unfold nm; omega) (fun z => by unfold nm; omega)) (hC _ (by unfold nm; omega) (fun z => by unfold nm; omega))) (hF.tr (Fr.of hC (by unfold WT nm; omega) (fun z => by unfold WT nm; omega)))
  | succ m ih =>
    intro k H hk hT hF
    refine wp_iload_n (i := 1) dX15_forget_2 rfl rfl ?_
    refine wp_bipush (nI 6) dX15_forget_3 (by decide) ?_
    refine wp_icmp_geN 49 dX15_forget_5 (by decide) (by omega) (by decide) (fun c_5 => absurd c_5 (by omega)) (fun c_5 => ?_)
    refine wp_aload_n (i := 0) dX15_forget_8 rfl rfl ?_
    refine wp_get 16 4 (vr (some (nm 7 t))) dX15_forget_9 hT.k0 (by decide) (by decide) fl_X15_9 (congrArg (fun z => toV (vr z)) (hT.r5_4)) ?_
    refine wp_iload_n (i := 1) dX15_forget_12 rfl rfl ?_
    refine wp_iconst (nI 0) dX15_forget_13 (by decide) ?_
    refine wp_zastoreN 6 dX15_forget_14 hT.k11 hT.n11 (by omega) (by decide) (by decide) ?_
    have hO1 := hT.wwr (j := k) (v := false)
    have hF2 := hF.wI (b := nm 7 t) (k := k) (x := bI (false)) (by unfold WT nm; omega)
    refine wp_aload_n (i := 0) dX15_forget_15 rfl rfl ?_
    refine wp_get 16 5 (vr (some (nm 8 t))) dX15_forget_16 hO1.k0 (by decide) (by decide) fl_X15_15 (congrArg (fun z => toV (vr z)) (hO1.r6_5)) ?_
    refine wp_iload_n (i := 1) dX15_forget_19 rfl rfl ?_
    refine wp_iconst (nI 0) dX15_forget_20 (by decide) ?_
    refine wp_iastoreN 6 dX15_forget_21 hO1.k13 hO1.n13 (by omega) (by decide) ?_
    have hO3 := hO1.wwn (j := k) (v := nI 0)
    have hF4 := hF2.wI (b := nm 8 t) (k := k) (x := nI 0) (by unfold WT nm; omega)
    refine wp_aload_n (i := 0) dX15_forget_22 rfl rfl ?_
    refine wp_get 16 6 (vr (some (nm 9 t))) dX15_forget_23 hO3.k0 (by decide) (by decide) fl_X15_19 (congrArg (fun z => toV (vr z)) (hO3.r7_6)) ?_
    refine wp_iload_n (i := 1) dX15_forget_26 rfl rfl ?_
    refine wp_iconst (nI 0) dX15_forget_27 (by decide) ?_
    refine wp_zastoreN 6 dX15_forget_28 hO3.k15 hO3.n15 (by omega) (by decide) (by decide) ?_
    have hO5 := hO3.wen (j := k) (v := false)
    have hF6 := hF4.wI (b := nm 9 t) (k := k) (x := bI (false)) (by unfold WT nm; omega)
    refine wp_aload_n (i := 0) dX15_forget_29 rfl rfl ?_
    refine wp_get 16 7 (vr (some (nm 10 t))) dX15_forget_30 hO5.k0 (by decide) (by decide) fl_X15_22 (congrArg (fun z => toV (vr z)) (hO5.r8_7)) ?_
    refine wp_iload_n (i := 1) dX15_forget_33 rfl rfl ?_
    refine wp_iconst (nI 0) dX15_forget_34 (by decide) ?_
    refine wp_zastoreN 6 dX15_forget_35 hO5.k17 hO5.n17 (by omega) (by decide) (by decide) ?_
    have hO7 := hO5.wad (j := k) (v := false)
    have hF8 := hF6.wI (b := nm 10 t) (k := k) (x := bI (false)) (by unfold WT nm; omega)
    refine wp_aload_n (i := 0) dX15_forget_36 rfl rfl ?_
    refine wp_get 16 8 (vr (some (nm 11 t))) dX15_forget_37 hO7.k0 (by decide) (by decide) fl_X15_25 (congrArg (fun z => toV (vr z)) (hO7.r9_8)) ?_
    refine wp_iload_n (i := 1) dX15_forget_40 rfl rfl ?_
    refine wp_iconst (nI 0) dX15_forget_41 (by decide) ?_
    refine wp_iastoreN 6 dX15_forget_42 hO7.k19 hO7.n19 (by omega) (by decide) ?_
    have hO9 := hO7.wsm (j := k) (v := nI 0)
    have hF10 := hF8.wI (b := nm 11 t) (k := k) (x := nI 0) (by unfold WT nm; omega)
    refine wp_iincN (a := k) (lv' := [(1, vi (nI (k + 1))), (0, vr (some (nm 6 t)))]) 1 dX15_forget_43 rfl (by decide) (by decide) rfl ?_
    refine wp_goto 2 dX15_forget_46 (by decide) ?_
    have e : OT_usm (OT_uad (OT_uen (OT_uwn (OT_uwr (fgK x k) k false) k (nI 0)) k false) k false) k (nI 0) = fgK x (k + 1) := by show (_, _, _, _, va_up (fgB k (OT_wr x)) k false, va_up (fgI k (OT_wn x)) k (nI 0), va_up (fgB k (OT_en x)) k false, va_up (fgB k (OT_ad x)) k false, va_up (fgI k (OT_sm x)) k (nI 0), _) = _; rw [fgB_s, fgI_s, fgB_s, fgB_s, fgI_s]; rfl
    exact ih (k + 1) _ (by omega) (e ▸ hO9) hF10
set_option maxRecDepth 100000 in
set_option maxHeartbeats 4000000 in
theorem c_X15_forget {G : GG} {d bc bs : Nat} {h : Hp} {Q : Pst} {t : Nat} {x : OTS} (hT : OT h t x) (hd : 2 ≤ d) (ht16 : t < 16) (hq : ∀ h', OT h' t (fgt x) → Fr h h' (WT t) → Q oVoid h') : WP G m_X15_forget d 0 (aargs 0 [vr (some (nm 6 t))]) [] h bc bs Q := by
  refine wp_sub [(0, vr (some (nm 6 t)))] (fun _ hz => hz) ?_
  refine wp_iconst (nI 0) dX15_forget_0 (by decide) ?_
  refine wp_istore_n (i := 1) (lv' := [(1, vi (nI 0)), (0, vr (some (nm 6 t)))]) dX15_forget_1 rfl (by decide) rfl ?_
  exact l_X15_forget hd ht16 hq 6 0 _ rfl (by have e : fgK x 0 = x := (by unfold fgK; rw [fgB_0, fgI_0, fgB_0, fgB_0, fgI_0]); rw [e]; exact hT) Fr.rf
/-- a transaction that is sent back -/
abbrev sbk (x : OTS) (mo : Nat) : OTS := OT_ubk (OT_upt (fgt x) mo) (OT_bk x + 1)
set_option maxRecDepth 100000 in
set_option maxHeartbeats 4000000 in
theorem c_X16_sendBack {G : GG} {d bc bs : Nat} {h : Hp} {Q : Pst} {S : RS} (hR : MR h S) {t : Nat} (ht : t < 3) (hd : 3 ≤ d) (hq : ∀ h', OT h' t (sbk (RS_tt S t) (RS_mo S)) → Fr h h' (WT t) → Q oVoid h') : WP G m_X16_sendBack d 0 (aargs 0 [vr (some (nm 1 0)), vi (nI t)]) [] h bc bs Q := by
  refine wp_sub [(0, vr (some (nm 1 0))), (1, vi (nI t))] (fun _ hz => hz) ?_
  have ht16 : t < 16 := by omega
  refine wp_aload_n (i := 0) dX16_sendBack_0 rfl rfl ?_
  refine wp_get 17 17 (vr (some (nm 1 17))) dX16_sendBack_1 hR.mk (by decide) (by decide) fl_X16_56 (congrArg (fun z => toV (vr z)) (hR.ref 17 (by decide) (by decide) (by decide) (by decide))) ?_
  refine wp_iload_n (i := 1) dX16_sendBack_4 rfl rfl ?_
  refine wp_aaloadN 3 (some (nm 6 t)) dX16_sendBack_5 (arTy_117 hR.k17) hR.tn (by omega) (by decide) (hR.tr (by omega)) ?_
  refine wp_cV (y' := m_X15_forget) 16 [] [] 0 0 dX16_sendBack_6 ml_X16_268 im_X15_forget se_X15_forget (by decide) (hR.t (by omega)).k0 ok_X15_forget rfl (Nat.le_of_ble_eq_true rfl) rfl (Nat.le_of_ble_eq_true rfl) (d' := d - 1) (by omega) (Nat.zero_le _) (Nat.zero_le _) (c_X15_forget (hR.t (by omega)) (by omega) (by omega) (fun h3 hO1 hF2 => cont_void ?_))
  refine wp_aload_n (i := 0) dX16_sendBack_9 rfl rfl ?_
  refine wp_get 17 17 (vr (some (nm 1 17))) dX16_sendBack_10 ((ce_k (hF2 (nm 1 0) (WT_n (by omega) (by decide)))).trans hR.mk) (by decide) (by decide) fl_X16_56 (congrArg (fun z => toV (vr z)) ((congrFun (ce_R (hF2 (nm 1 0) (WT_n (by omega) (by decide)))) 17).trans (hR.ref 17 (by decide) (by decide) (by decide) (by decide)))) ?_
  refine wp_iload_n (i := 1) dX16_sendBack_13 rfl rfl ?_
  refine wp_aaloadN 3 (some (nm 6 t)) dX16_sendBack_14 (arTy_117 ((ce_k (hF2 (nm 1 17) (WT_n (by omega) (by decide)))).trans hR.k17)) ((ce_n (hF2 (nm 1 17) (WT_n (by omega) (by decide)))).trans hR.tn) (by omega) (by decide) ((congrFun (ce_R (hF2 (nm 1 17) (WT_n (by omega) (by decide)))) t).trans (hR.tr (by omega))) ?_
  refine wp_aload_n (i := 0) dX16_sendBack_15 rfl rfl ?_
  refine wp_get 17 15 (vi (nI (RS_mo S))) dX16_sendBack_16 ((ce_k (hF2 (nm 1 0) (WT_n (by omega) (by decide)))).trans hR.mk) (by decide) (by decide) fl_X16_253 (congrArg (fun z => toV (vi z)) ((congrFun (ce_I (hF2 (nm 1 0) (WT_n (by omega) (by decide)))) 15).trans (hR.mo))) ?_
  refine wp_putI 16 1 dX16_sendBack_19 hO1.k0 (by decide) (by decide) (by decide) fl_X16_256 rfl (fun _ _ => rfl) rfl rfl ?_
  have hO4 := hO1.wpt (v := (RS_mo S))
  have hF5 := hF2.wI (b := nm 6 t) (k := 1) (x := nI ((RS_mo S))) (by unfold WT nm; omega)
  refine wp_aload_n (i := 0) dX16_sendBack_22 rfl rfl ?_
  refine wp_get 17 17 (vr (some (nm 1 17))) dX16_sendBack_23 ((ce_k (hF5 (nm 1 0) (WT_n (by omega) (by decide)))).trans hR.mk) (by decide) (by decide) fl_X16_56 (congrArg (fun z => toV (vr z)) ((congrFun (ce_R (hF5 (nm 1 0) (WT_n (by omega) (by decide)))) 17).trans (hR.ref 17 (by decide) (by decide) (by decide) (by decide)))) ?_
  refine wp_iload_n (i := 1) dX16_sendBack_26 rfl rfl ?_
  refine wp_aaloadN 3 (some (nm 6 t)) dX16_sendBack_27 (arTy_117 ((ce_k (hF5 (nm 1 17) (WT_n (by omega) (by decide)))).trans hR.k17)) ((ce_n (hF5 (nm 1 17) (WT_n (by omega) (by decide)))).trans hR.tn) (by omega) (by decide) ((congrFun (ce_R (hF5 (nm 1 17) (WT_n (by omega) (by decide)))) t).trans (hR.tr (by omega))) ?_
  refine wp_dup dX16_sendBack_28 ?_
  refine wp_get 16 3 (vi (nI (OT_bk (OT_upt (fgt (RS_tt S t)) (RS_mo S))))) dX16_sendBack_29 hO4.k0 (by decide) (by decide) fl_X16_265 (congrArg (fun z => toV (vi z)) (hO4.f_bk)) ?_
  refine wp_iconst (nI 1) dX16_sendBack_32 (by decide) ?_
  refine wp_iaddN dX16_sendBack_33 ?_
  refine wp_putI 16 3 dX16_sendBack_34 hO4.k0 (by decide) (by decide) (by decide) fl_X16_265 rfl (fun _ _ => rfl) rfl rfl ?_
  have hO6 := hO4.wbk (v := ((OT_bk (OT_upt (fgt (RS_tt S t)) (RS_mo S))) + 1))
  have hF7 := hF5.wI (b := nm 6 t) (k := 3) (x := nI (((OT_bk (OT_upt (fgt (RS_tt S t)) (RS_mo S))) + 1))) (by unfold WT nm; omega)
  refine wp_return dX16_sendBack_37 rfl ?_
  exact hq _ hO6 hF7
