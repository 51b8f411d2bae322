/-! The class: how it stands to the state; numbers of transactions, references, agents. -/
theorem ixB_a {v : Int32} {n : Nat} (h : v < 0) : ixB v n = false := inB_f1 h
theorem ixB_c {v : Int32} {n : Nat} (hn : n < 2 ^ 31) (h1 : ¬ v < 0) (h2 : v < nI n) : ixB v n = true := by
  obtain ⟨k, hk, rfl⟩ := nI_of h1
  refine ixB_of ?_ hn
  rw [i32_lt, nI_toInt hk, nI_toInt hn] at h2
  omega
theorem ixB_b {v : Int32} {n : Nat} (hn : n < 2 ^ 31) (h2 : ¬ v < nI n) : ixB v n = false := by
  cases e : ixB v n
  · rfl
  · exfalso
    obtain ⟨k, hk, rfl⟩ := ixB_t hn e
    apply h2
    rw [i32_lt, nI_toInt (by omega), nI_toInt hn]
    omega
def SR (x : KRS) (y : ORS) : Prop := KR_fst x = OR_fst y ∧ KR_lo x = OR_lo y ∧ KR_hi x = OR_hi y ∧ KR_kpt x = (OR_hs y).length ∧ KR_lim x = OR_lim y ∧ ∀ j, j < (OR_hs y).length → KR_pv x j = ((OR_hs y).getD j (0, 0)).2 ∧ KR_pm x j = nI ((OR_hs y).getD j (0, 0)).1
def SA (x : KAS) (y : OAS) : Prop := KA_val x = OA_val y ∧ KA_lo x = OA_lo y ∧ KA_hi x = OA_hi y ∧ KA_fe x = decide (OA_md y = nI 102) ∧ KA_er x = OA_er y ∧ KA_fl x = OA_fl y ∧ KA_cnt x = (OA_row y).length ∧ ∀ j, j < (OA_row y).length → KA_num x j = (OA_row y).getD j 0
/-- what is sent to one agent -/
def toA (l : List (Nat × Int32)) (a : Nat) : List Int32 := (l.filter (fun q => q.1 == a)).map (fun q => q.2)
def SW (x : KWS) (l : List Int32) : Prop := KW_cnt x = min l.length 12 ∧ ∀ j, j < l.length → j < 12 → KW_num x j = l.getD j 0
def ST (x : KTS) (y : OTS) : Prop := KT_run x = OT_op y ∧ (OT_op y = true → KT_bir x = OT_ag y + 1) ∧ KT_pt x = OT_pt y ∧ KT_bk x = OT_bk y ∧ (∀ r, r < 6 → KT_wr x r = OT_wr y r ∧ (OT_wr y r = true → KT_own x r = OT_wn y r) ∧ KT_en x r = OT_en y r ∧ KT_ad x r = OT_ad y r ∧ KT_sm x r = OT_sm y r) ∧
  (OT_op y = false → OT_sq y = [] ∧ ∀ r, r < 6 → OT_wr y r = false ∧ OT_en y r = false ∧ OT_ad y r = false ∧ OT_sm y r = nI 0)
/-- the class's state stands for S -/
def SIM (X : CS) (S : RS) : Prop := (CS_rn X = RS_rn S ∧ CS_an X = RS_an S ∧ CS_bi X = RS_bg S ∧ CS_pr X = RS_mo S ∧ CS_lg X = RS_lg S) ∧ (∀ r, r < RS_rn S → SR (CS_rr X r) (RS_rr S r)) ∧ (∀ a, a < RS_an S → SA (CS_aa X a) (RS_aa S a)) ∧ (∀ t, t < 3 → ST (CS_tt X t) (RS_tt S t)) ∧ ∀ t a, t < 3 → a < 4 → SW (CS_ww X (4 * t + a)) (toA (OT_sq (RS_tt S t)) a)
/-- what a call of the class is held to: exceptions by their place in the list, the answer, the state -/
def KO (Q : Pst) (h : Hp) (E : List String) (o : Int32 × Int32 × RS) : Prop := (∀ i e, o.1 = nI (i + 1) → E[i]? = some e → Q (oThr e) h) ∧ (o.1 = nI 0 → ∀ h' X', CR h' X' → SIM X' o.2.2 → FRK h h' → Q (oRet (vi o.2.1)) h')
theorem ST.forg {x : KTS} {y : OTS} (H : ST x y) : ST (kclT x 6) (fgt y) := by
  obtain ⟨a1, a2, a3, a4, a5, a6⟩ := H
  have e : ∀ r, r < 6 → (clrF (KT_wr x) false 6 r = false ∧ clrF (KT_en x) false 6 r = false ∧ clrF (KT_ad x) false 6 r = false ∧ clrF (KT_sm x) 0 6 r = 0) ∧ (fgB 6 (OT_wr y) r = false ∧ fgB 6 (OT_en y) r = false ∧ fgB 6 (OT_ad y) r = false ∧ fgI 6 (OT_sm y) r = nI 0) := fun r hr => ⟨⟨if_pos hr, if_pos hr, if_pos hr, if_pos hr⟩, if_pos hr, if_pos hr, if_pos hr, if_pos hr⟩
  refine ⟨a1, a2, a3, a4, fun r hr => ?_, fun _ => ⟨rfl, fun r hr => ⟨(e r hr).2.1, (e r hr).2.2.1, (e r hr).2.2.2.1, (e r hr).2.2.2.2⟩⟩⟩
  obtain ⟨⟨b1, b2, b3, b4⟩, b5, b6, b7, b8⟩ := e r hr
  exact ⟨b1.trans b5.symm, fun z => absurd (b5.symm.trans z) (by decide), b2.trans b6.symm, b3.trans b7.symm, b4.trans b8.symm⟩
theorem SIM.upT {X : CS} {S : RS} (H : SIM X S) {t : Nat} (ht : t < 3) {x : KTS} {y : OTS} (h1 : ST x y) (h2 : OT_sq y = OT_sq (RS_tt S t)) : SIM (CS_utt1 X t x) (RS_utt1 S t y) := by
  obtain ⟨a1, a2, a3, a4, a5⟩ := H
  refine ⟨a1, a2, a3, fun u hu => ?_, fun u a hu ha => ?_⟩
  · show ST (va_up (CS_tt X) t x u) (va_up (RS_tt S) t y u)
    rw [va_up_app, va_up_app]
    by_cases e : u = t
    · rw [if_pos e, if_pos e]; exact h1
    · rw [if_neg e, if_neg e]; exact a4 u hu
  · show SW (CS_ww X (4 * u + a)) (toA (OT_sq (va_up (RS_tt S) t y u)) a)
    rw [va_up_app]
    by_cases e : u = t
    · rw [if_pos e, h2, ← e]; exact a5 u a hu ha
    · rw [if_neg e]; exact a5 u a hu ha
theorem SIM.forg {X : CS} {S : RS} (H : SIM X S) {t : Nat} (ht : t < 3) {y : OTS} {x : KTS} (hx : x = kclT (CS_tt X t) 6) (hy : y = fgt (RS_tt S t)) : SIM (CS_uww (CS_utt1 X t x) (clW (CS_ww X) t 4)) (RS_utt1 S t y) := by
  subst hx hy
  obtain ⟨a1, a2, a3, a4, a5⟩ := H
  refine ⟨a1, a2, a3, fun u hu => ?_, fun u a hu ha => ?_⟩
  · show ST (va_up (CS_tt X) t _ u) (va_up (RS_tt S) t _ u)
    rw [va_up_app, va_up_app]
    by_cases e : u = t
    · rw [if_pos e, if_pos e]; exact (a4 t ht).forg
    · rw [if_neg e, if_neg e]; exact a4 u hu
  · show SW (clW (CS_ww X) t 4 (4 * u + a)) (toA (OT_sq (va_up (RS_tt S) t _ u)) a)
    rw [va_up_app]
    by_cases e : u = t
    · rw [if_pos e]
      unfold clW
      rw [if_pos (by omega)]
      exact ⟨rfl, fun j hj => absurd hj (Nat.not_lt_zero _)⟩
    · rw [if_neg e]
      unfold clW
      rw [if_neg (by omega)]
      exact a5 u a hu ha
theorem RS_utt1_2 {S : RS} {t : Nat} {x y : OTS} : RS_utt1 (RS_utt1 S t x) t y = RS_utt1 S t y := by
  have : va_up (va_up (RS_tt S) t x) t y = va_up (RS_tt S) t y := funext fun j => by rw [va_up_app, va_up_app, va_up_app]; split <;> rfl
  show (_, _, _, _, va_up (va_up (RS_tt S) t x) t y, _, _, _) = _
  rw [this]
theorem RS_tt_s {S : RS} {t : Nat} {x : OTS} : RS_tt (RS_utt1 S t x) t = x := va_up_self _ _ _
theorem CS_tt_s {S : CS} {t : Nat} {x : KTS} : CS_tt (CS_utt1 S t x) t = x := va_up_self _ _ _
set_option maxRecDepth 100000 in
set_option maxHeartbeats 4000000 in
theorem c_X11_transactionNumbered {G : GG} {d bc bs : Nat} {h : Hp} {Q : Pst} {X : CS} (hR : CR h X) {v : Int32} {t : Nat} (hv : ixB v 3 = true → v = nI t ∧ t < 3) (hd : 6 ≤ d) (hbc : 1 ≤ bc) (hbs : 6 ≤ bs) (hqe : ixB v 3 = false → Q (oThr "java/lang/IllegalArgumentException") h) (hq : ixB v 3 = true → v = nI t → t < 3 → Q (oRet (vr (some (nm 56 t)))) h) : WP G m_X11_transactionNumbered d 0 (aargs 0 [vr (some (nm 40 0)), vi v]) [] h bc bs Q := by
  refine wp_sub [(0, vr (some (nm 40 0))), (1, vi v)] (fun _ hz => hz) ?_
  refine wp_iload_n (i := 1) dX11_transactionNumbered_0 rfl rfl ?_
  refine wp_if_lt 9 dX11_transactionNumbered_1 (by decide) (fun c_1 => ?_) (fun c_1 => ?_)
  · skip
    refine wp_null dX11_transactionNumbered_9 ?_
    refine wp_goto 19 dX11_transactionNumbered_10 (by decide) ?_
    refine wp_astore_n (i := 2) (lv' := [(2, vr none), (0, vr (some (nm 40 0))), (1, vi v)]) dX11_transactionNumbered_19 rfl (by decide) rfl ?_
    refine wp_aload_n (i := 2) dX11_transactionNumbered_20 rfl rfl ?_
    refine wp_ifnonnull 35 dX11_transactionNumbered_21 (by decide) (fun a_21 c_21 => absurd c_21 (fun z => nomatch z)) (fun c_21 => ?_)
    refine wp_throw dX11_transactionNumbered_24 dX11_transactionNumbered_27 dX11_transactionNumbered_28 dX11_transactionNumbered_31 dX11_transactionNumbered_34 th_189 sr_X11_552 rfl (by omega) (by omega) (by omega) ?_
    exact hqe (by first | exact ixB_a c_1 | exact ixB_b (by omega) c_6)
  · skip
    refine wp_iload_n (i := 1) dX11_transactionNumbered_4 rfl rfl ?_
    refine wp_iconst (nI 3) dX11_transactionNumbered_5 (by decide) ?_
    refine wp_icmp_lt 13 dX11_transactionNumbered_6 (by decide) (fun c_6 => ?_) (fun c_6 => ?_)
    · have hb : ixB v 3 = true := ixB_c (by omega) c_1 c_6
      obtain ⟨ev, ht⟩ := hv hb
      subst ev
      refine wp_aload_n (i := 0) dX11_transactionNumbered_13 rfl rfl ?_
      refine wp_get 12 8 (vr (some (nm 40 8))) dX11_transactionNumbered_14 hR.mk (by decide) (by decide) fl_X11_49 (congrArg (fun z => toV (vr z)) (hR.f8)) ?_
      refine wp_iload_n (i := 1) dX11_transactionNumbered_17 rfl rfl ?_
      refine wp_aaloadN 3 (some (nm 56 t)) dX11_transactionNumbered_18 (arTy_113 hR.k8) hR.n8 (by omega) (by decide) (hR.q8 (by omega)) ?_
      refine wp_astore_n (i := 2) (lv' := [(2, vr (some (nm 56 t))), (0, vr (some (nm 40 0))), (1, vi (nI t))]) dX11_transactionNumbered_19 rfl (by decide) rfl ?_
      refine wp_aload_n (i := 2) dX11_transactionNumbered_20 rfl rfl ?_
      refine wp_ifnonnull 35 dX11_transactionNumbered_21 (by decide) (fun a_21 c_21 => ?_) (fun c_21 => absurd c_21 (fun z => nomatch z))
      refine wp_aload_n (i := 2) dX11_transactionNumbered_35 rfl rfl ?_
      refine wp_areturn dX11_transactionNumbered_36 rfl (Or.inl ⟨_, rfl⟩) ?_
      exact hq hb rfl ht
    · skip
      refine wp_null dX11_transactionNumbered_9 ?_
      refine wp_goto 19 dX11_transactionNumbered_10 (by decide) ?_
      refine wp_astore_n (i := 2) (lv' := [(2, vr none), (0, vr (some (nm 40 0))), (1, vi v)]) dX11_transactionNumbered_19 rfl (by decide) rfl ?_
      refine wp_aload_n (i := 2) dX11_transactionNumbered_20 rfl rfl ?_
      refine wp_ifnonnull 35 dX11_transactionNumbered_21 (by decide) (fun a_21 c_21 => absurd c_21 (fun z => nomatch z)) (fun c_21 => ?_)
      refine wp_throw dX11_transactionNumbered_24 dX11_transactionNumbered_27 dX11_transactionNumbered_28 dX11_transactionNumbered_31 dX11_transactionNumbered_34 th_189 sr_X11_552 rfl (by omega) (by omega) (by omega) ?_
      exact hqe (by first | exact ixB_a c_1 | exact ixB_b (by omega) c_6)
set_option maxRecDepth 100000 in
set_option maxHeartbeats 4000000 in
theorem c_X11_referenceNumbered {G : GG} {d bc bs : Nat} {h : Hp} {Q : Pst} {X : CS} (hR : CR h X) (hn : CS_rn X ≤ 6) {v : Int32} {t : Nat} (hv : ixB v (CS_rn X) = true → v = nI t ∧ t < (CS_rn X)) (hd : 6 ≤ d) (hbc : 1 ≤ bc) (hbs : 6 ≤ bs) (hqe : ixB v (CS_rn X) = false → Q (oThr "java/lang/IndexOutOfBoundsException") h) (hq : ixB v (CS_rn X) = true → v = nI t → t < (CS_rn X) → Q (oRet (vr (some (nm 53 t)))) h) : WP G m_X11_referenceNumbered d 0 (aargs 0 [vr (some (nm 40 0)), vi v]) [] h bc bs Q := by
  refine wp_sub [(0, vr (some (nm 40 0))), (1, vi v)] (fun _ hz => hz) ?_
  refine wp_iload_n (i := 1) dX11_referenceNumbered_0 rfl rfl ?_
  refine wp_if_lt 12 dX11_referenceNumbered_1 (by decide) (fun c_1 => ?_) (fun c_1 => ?_)
  · skip
    refine wp_null dX11_referenceNumbered_12 ?_
    refine wp_goto 22 dX11_referenceNumbered_13 (by decide) ?_
    refine wp_astore_n (i := 2) (lv' := [(2, vr none), (0, vr (some (nm 40 0))), (1, vi v)]) dX11_referenceNumbered_22 rfl (by decide) rfl ?_
    refine wp_aload_n (i := 2) dX11_referenceNumbered_23 rfl rfl ?_
    refine wp_ifnonnull 38 dX11_referenceNumbered_24 (by decide) (fun a_24 c_24 => absurd c_24 (fun z => nomatch z)) (fun c_24 => ?_)
    refine wp_throw dX11_referenceNumbered_27 dX11_referenceNumbered_30 dX11_referenceNumbered_31 dX11_referenceNumbered_34 dX11_referenceNumbered_37 th_434 sr_X11_550 rfl (by omega) (by omega) (by omega) ?_
    exact hqe (by first | exact ixB_a c_1 | exact ixB_b (by omega) c_9)
  · skip
    refine wp_iload_n (i := 1) dX11_referenceNumbered_4 rfl rfl ?_
    refine wp_aload_n (i := 0) dX11_referenceNumbered_5 rfl rfl ?_
    refine wp_get 12 7 (vi (nI (CS_rn X))) dX11_referenceNumbered_6 hR.mk (by decide) (by decide) fl_X11_44 (congrArg (fun z => toV (vi z)) (hR.i7)) ?_
    refine wp_icmp_lt 16 dX11_referenceNumbered_9 (by decide) (fun c_9 => ?_) (fun c_9 => ?_)
    · have hb : ixB v (CS_rn X) = true := ixB_c (by omega) c_1 c_9
      obtain ⟨ev, ht⟩ := hv hb
      subst ev
      refine wp_aload_n (i := 0) dX11_referenceNumbered_16 rfl rfl ?_
      refine wp_get 12 6 (vr (some (nm 40 6))) dX11_referenceNumbered_17 hR.mk (by decide) (by decide) fl_X11_40 (congrArg (fun z => toV (vr z)) (hR.f6)) ?_
      refine wp_iload_n (i := 1) dX11_referenceNumbered_20 rfl rfl ?_
      refine wp_aaloadN 6 (some (nm 53 t)) dX11_referenceNumbered_21 (arTy_112 hR.k6) hR.n6 (by omega) (by decide) (hR.q6 (by omega)) ?_
      refine wp_astore_n (i := 2) (lv' := [(2, vr (some (nm 53 t))), (0, vr (some (nm 40 0))), (1, vi (nI t))]) dX11_referenceNumbered_22 rfl (by decide) rfl ?_
      refine wp_aload_n (i := 2) dX11_referenceNumbered_23 rfl rfl ?_
      refine wp_ifnonnull 38 dX11_referenceNumbered_24 (by decide) (fun a_24 c_24 => ?_) (fun c_24 => absurd c_24 (fun z => nomatch z))
      refine wp_aload_n (i := 2) dX11_referenceNumbered_38 rfl rfl ?_
      refine wp_areturn dX11_referenceNumbered_39 rfl (Or.inl ⟨_, rfl⟩) ?_
      exact hq hb rfl ht
    · skip
      refine wp_null dX11_referenceNumbered_12 ?_
      refine wp_goto 22 dX11_referenceNumbered_13 (by decide) ?_
      refine wp_astore_n (i := 2) (lv' := [(2, vr none), (0, vr (some (nm 40 0))), (1, vi v)]) dX11_referenceNumbered_22 rfl (by decide) rfl ?_
      refine wp_aload_n (i := 2) dX11_referenceNumbered_23 rfl rfl ?_
      refine wp_ifnonnull 38 dX11_referenceNumbered_24 (by decide) (fun a_24 c_24 => absurd c_24 (fun z => nomatch z)) (fun c_24 => ?_)
      refine wp_throw dX11_referenceNumbered_27 dX11_referenceNumbered_30 dX11_referenceNumbered_31 dX11_referenceNumbered_34 dX11_referenceNumbered_37 th_434 sr_X11_550 rfl (by omega) (by omega) (by omega) ?_
      exact hqe (by first | exact ixB_a c_1 | exact ixB_b (by omega) c_9)
set_option maxRecDepth 100000 in
set_option maxHeartbeats 4000000 in
theorem c_X11_agentNumbered {G : GG} {d bc bs : Nat} {h : Hp} {Q : Pst} {X : CS} (hR : CR h X) (hn : CS_an X ≤ 4) {v : Int32} {t : Nat} (hv : ixB v (CS_an X) = true → v = nI t ∧ t < (CS_an X)) (hd : 6 ≤ d) (hbc : 1 ≤ bc) (hbs : 6 ≤ bs) (hqe : ixB v (CS_an X) = false → Q (oThr "java/lang/IndexOutOfBoundsException") h) (hq : ixB v (CS_an X) = true → v = nI t → t < (CS_an X) → Q (oRet (vr (some (nm 65 t)))) h) : WP G m_X11_agentNumbered d 0 (aargs 0 [vr (some (nm 40 0)), vi v]) [] h bc bs Q := by
  refine wp_sub [(0, vr (some (nm 40 0))), (1, vi v)] (fun _ hz => hz) ?_
  refine wp_iload_n (i := 1) dX11_agentNumbered_0 rfl rfl ?_
  refine wp_if_lt 12 dX11_agentNumbered_1 (by decide) (fun c_1 => ?_) (fun c_1 => ?_)
  · skip
    refine wp_null dX11_agentNumbered_12 ?_
    refine wp_goto 22 dX11_agentNumbered_13 (by decide) ?_
    refine wp_astore_n (i := 2) (lv' := [(2, vr none), (0, vr (some (nm 40 0))), (1, vi v)]) dX11_agentNumbered_22 rfl (by decide) rfl ?_
    refine wp_aload_n (i := 2) dX11_agentNumbered_23 rfl rfl ?_
    refine wp_ifnonnull 38 dX11_agentNumbered_24 (by decide) (fun a_24 c_24 => absurd c_24 (fun z => nomatch z)) (fun c_24 => ?_)
    refine wp_throw dX11_agentNumbered_27 dX11_agentNumbered_30 dX11_agentNumbered_31 dX11_agentNumbered_34 dX11_agentNumbered_37 th_434 sr_X11_554 rfl (by omega) (by omega) (by omega) ?_
    exact hqe (by first | exact ixB_a c_1 | exact ixB_b (by omega) c_9)
  · skip
    refine wp_iload_n (i := 1) dX11_agentNumbered_4 rfl rfl ?_
    refine wp_aload_n (i := 0) dX11_agentNumbered_5 rfl rfl ?_
    refine wp_get 12 13 (vi (nI (CS_an X))) dX11_agentNumbered_6 hR.mk (by decide) (by decide) fl_X11_72 (congrArg (fun z => toV (vi z)) (hR.i13)) ?_
    refine wp_icmp_lt 16 dX11_agentNumbered_9 (by decide) (fun c_9 => ?_) (fun c_9 => ?_)
    · have hb : ixB v (CS_an X) = true := ixB_c (by omega) c_1 c_9
      obtain ⟨ev, ht⟩ := hv hb
      subst ev
      refine wp_aload_n (i := 0) dX11_agentNumbered_16 rfl rfl ?_
      refine wp_get 12 12 (vr (some (nm 40 12))) dX11_agentNumbered_17 hR.mk (by decide) (by decide) fl_X11_68 (congrArg (fun z => toV (vr z)) (hR.f12)) ?_
      refine wp_iload_n (i := 1) dX11_agentNumbered_20 rfl rfl ?_
      refine wp_aaloadN 4 (some (nm 65 t)) dX11_agentNumbered_21 (arTy_114 hR.k12) hR.n12 (by omega) (by decide) (hR.q12 (by omega)) ?_
      refine wp_astore_n (i := 2) (lv' := [(2, vr (some (nm 65 t))), (0, vr (some (nm 40 0))), (1, vi (nI t))]) dX11_agentNumbered_22 rfl (by decide) rfl ?_
      refine wp_aload_n (i := 2) dX11_agentNumbered_23 rfl rfl ?_
      refine wp_ifnonnull 38 dX11_agentNumbered_24 (by decide) (fun a_24 c_24 => ?_) (fun c_24 => absurd c_24 (fun z => nomatch z))
      refine wp_aload_n (i := 2) dX11_agentNumbered_38 rfl rfl ?_
      refine wp_areturn dX11_agentNumbered_39 rfl (Or.inl ⟨_, rfl⟩) ?_
      exact hq hb rfl ht
    · skip
      refine wp_null dX11_agentNumbered_12 ?_
      refine wp_goto 22 dX11_agentNumbered_13 (by decide) ?_
      refine wp_astore_n (i := 2) (lv' := [(2, vr none), (0, vr (some (nm 40 0))), (1, vi v)]) dX11_agentNumbered_22 rfl (by decide) rfl ?_
      refine wp_aload_n (i := 2) dX11_agentNumbered_23 rfl rfl ?_
      refine wp_ifnonnull 38 dX11_agentNumbered_24 (by decide) (fun a_24 c_24 => absurd c_24 (fun z => nomatch z)) (fun c_24 => ?_)
      refine wp_throw dX11_agentNumbered_27 dX11_agentNumbered_30 dX11_agentNumbered_31 dX11_agentNumbered_34 dX11_agentNumbered_37 th_434 sr_X11_554 rfl (by omega) (by omega) (by omega) ?_
      exact hqe (by first | exact ixB_a c_1 | exact ixB_b (by omega) c_9)
set_option maxRecDepth 100000 in
set_option maxHeartbeats 4000000 in
theorem c_X11_refuseEnded {G : GG} {d bc bs : Nat} {h : Hp} {Q : Pst} {t : Nat} {x : KTS} (hO : KT h t x) (hd : 6 ≤ d) (hbc : 1 ≤ bc) (hbs : 6 ≤ bs) (hqe : KT_run x = false → Q (oThr "java/lang/IllegalStateException") h) (hq : KT_run x = true → Q oVoid h) : WP G m_X11_refuseEnded d 0 (aargs 0 [vr (some (nm 56 t))]) [] h bc bs Q := by
  have hF : Fr h h (CT t) := Fr.rf
  refine wp_sub [(0, vr (some (nm 56 t)))] (fun _ hz => hz) ?_
  refine wp_aload_n (i := 0) dX11_refuseEnded_0 rfl rfl ?_
  refine wp_get 9 0 (vi (bI (KT_run x))) dX11_refuseEnded_1 hO.k0 (by decide) (by decide) fl_X11_331 (congrArg (fun z => toV (vi z)) (hO.f_run)) ?_
  refine wp_if_neB 18 dX11_refuseEnded_4 (by decide) (fun c_4 => ?_) (fun c_4 => ?_)
  · skip
    refine wp_return dX11_refuseEnded_18 rfl ?_
    exact hq c_4
  · skip
    refine wp_throw dX11_refuseEnded_7 dX11_refuseEnded_10 dX11_refuseEnded_11 dX11_refuseEnded_14 dX11_refuseEnded_17 th_320 sr_X11_556 rfl (by omega) (by omega) (by omega) ?_
    exact hqe c_4
def kstop (X : CS) (t : Nat) : CS := CS_utt1 (kfgt X t) t (KT_urun (CS_tt (kfgt X t) t) false)
def kback (X : CS) (t m : Nat) : CS := CS_utt1 (kfgt X t) t (KT_ubk (KT_upt (CS_tt (kfgt X t) t) m) (KT_bk (CS_tt (kfgt X t) t) + 1))
set_option maxRecDepth 100000 in
set_option maxHeartbeats 4000000 in
theorem c_X7_stop {G : GG} {d bc bs : Nat} {h : Hp} {Q : Pst} {X : CS} (hR : CR h X) {t : Nat} (ht : t < 3) (hd : 1 ≤ d) (hq : ∀ h', CR h' (kstop X t) → FRK h h' → Q oVoid h') : WP G m_X7_stop d 0 (aargs 0 [vr (some (nm 56 t))]) [] h bc bs Q := by
  have hG := FRK.rf (h := h)
  refine wp_sub [(0, vr (some (nm 56 t)))] (fun _ hz => hz) ?_
  refine wp_aload_n (i := 0) dX7_stop_0 rfl rfl ?_
  refine wp_cV (y' := m_X7_forget) 9 [] [] 0 0 dX7_stop_1 ml_X7_49 im_X7_forget se_X7_forget (by decide) (hR.t (r := t) ht).k0 ok_X7_forget rfl (Nat.le_of_ble_eq_true rfl) rfl (Nat.le_of_ble_eq_true rfl) (d' := d - 1) (by omega) (Nat.zero_le _) (Nat.zero_le _) (c_X7_forget hR ht (fun h_hR1 hR1 hG2 => cont_void ?_))
  have hG2b := hG.tr hG2
  refine wp_aload_n (i := 0) dX7_stop_4 rfl rfl ?_
  refine wp_iconst (nI 0) dX7_stop_5 (by decide) ?_
  refine wp_putI 9 0 dX7_stop_6 (hR1.t (r := t) ht).k0 (by decide) (by decide) (by decide) fl_X7_9 rfl (fun _ _ => rfl) rfl rfl ?_
  have hO3 := (hR1.t (r := t) ht)
  have hF4 := hO3.rfT
  have hO5 := hO3.wrun (v := false)
  have hF6 := hF4.wI (b := nm 56 t) (k := 0) (x := bI (false)) (by unfold CT nm; omega)
  refine wp_return dX7_stop_9 rfl ?_
  have hR7 := hR1.upT ht hF6 hO5
  have hG8 := hG2b.tr (FRK.oT hF6)
  exact hq _ hR7 hG8
set_option maxRecDepth 100000 in
set_option maxHeartbeats 4000000 in
theorem c_X7_goBack {G : GG} {d bc bs : Nat} {h : Hp} {Q : Pst} {X : CS} (hR : CR h X) {t m : Nat} (ht : t < 3) (hd : 1 ≤ d) (hq : ∀ h', CR h' (kback X t m) → FRK h h' → Q oVoid h') : WP G m_X7_goBack d 0 (aargs 0 [vr (some (nm 56 t)), vi (nI m)]) [] h bc bs Q := by
  have hG := FRK.rf (h := h)
  refine wp_sub [(0, vr (some (nm 56 t))), (1, vi (nI m))] (fun _ hz => hz) ?_
  refine wp_aload_n (i := 0) dX7_goBack_0 rfl rfl ?_
  refine wp_cV (y' := m_X7_forget) 9 [] [] 0 0 dX7_goBack_1 ml_X7_49 im_X7_forget se_X7_forget (by decide) (hR.t (r := t) ht).k0 ok_X7_forget rfl (Nat.le_of_ble_eq_true rfl) rfl (Nat.le_of_ble_eq_true rfl) (d' := d - 1) (by omega) (Nat.zero_le _) (Nat.zero_le _) (c_X7_forget hR ht (fun h_hR1 hR1 hG2 => cont_void ?_))
  have hG2b := hG.tr hG2
  refine wp_aload_n (i := 0) dX7_goBack_4 rfl rfl ?_
  refine wp_iload_n (i := 1) dX7_goBack_5 rfl rfl ?_
  refine wp_putI 9 2 dX7_goBack_6 (hR1.t (r := t) ht).k0 (by decide) (by decide) (by decide) fl_X7_19 rfl (fun _ _ => rfl) rfl rfl ?_
  have hO3 := (hR1.t (r := t) ht)
  have hF4 := hO3.rfT
  have hO5 := hO3.wpt (v := m)
  have hF6 := hF4.wI (b := nm 56 t) (k := 2) (x := nI (m)) (by unfold CT nm; omega)
  refine wp_aload_n (i := 0) dX7_goBack_9 rfl rfl ?_
  refine wp_dup dX7_goBack_10 ?_
  refine wp_get 9 3 (vi (nI (KT_bk (CS_tt (kfgt X t) t)))) dX7_goBack_11 hO5.k0 (by decide) (by decide) fl_X7_22 (congrArg (fun z => toV (vi z)) (hO5.f_bk)) ?_
  refine wp_iconst (nI 1) dX7_goBack_14 (by decide) ?_
  refine wp_iaddN dX7_goBack_15 ?_
  refine wp_putI 9 3 dX7_goBack_16 hO5.k0 (by decide) (by decide) (by decide) fl_X7_22 rfl (fun _ _ => rfl) rfl rfl ?_
  have hO7 := hO5.wbk (v := ((KT_bk (CS_tt (kfgt X t) t)) + 1))
  have hF8 := hF6.wI (b := nm 56 t) (k := 3) (x := nI (((KT_bk (CS_tt (kfgt X t) t)) + 1))) (by unfold CT nm; omega)
  refine wp_return dX7_goBack_19 rfl ?_
  have hR9 := hR1.upT ht hF8 hO7
  have hG10 := hG2b.tr (FRK.oT hF8)
  exact hq _ hR9 hG10
theorem SIM.halt {X : CS} {S : RS} (H : SIM X S) {t : Nat} (ht : t < 3) : SIM (kstop X t) (RS_utt1 S t (fgt (OT_uop (RS_tt S t) false))) := by
  have h1 := H.forg ht rfl rfl
  have h2 := h1.upT ht (x := KT_urun (CS_tt (kfgt X t) t) false) (y := fgt (OT_uop (RS_tt S t) false)) ?_ ?_
  · rw [RS_utt1_2] at h2; exact h2
  · have h3 := h1.2.2.2.1 t ht
    rw [RS_tt_s] at h3
    obtain ⟨a1, a2, a3, a4, a5, a6⟩ := h3
    exact ⟨rfl, fun z => absurd (show false = true from z) (by decide), a3, a4, a5, fun _ => ⟨rfl, fun r hr => ⟨if_pos hr, if_pos hr, if_pos hr, if_pos hr⟩⟩⟩
  · rw [RS_tt_s]
theorem SIM.back {X : CS} {S : RS} (H : SIM X S) {t m : Nat} (ht : t < 3) : SIM (kback X t m) (RS_utt1 S t (sbk (RS_tt S t) m)) := by
  have h1 := H.forg ht rfl rfl
  have h2 := h1.upT ht (x := KT_ubk (KT_upt (CS_tt (kfgt X t) t) m) (KT_bk (CS_tt (kfgt X t) t) + 1)) (y := sbk (RS_tt S t) m) ?_ ?_
  · rw [RS_utt1_2] at h2; exact h2
  · have h3 := h1.2.2.2.1 t ht
    rw [RS_tt_s] at h3
    obtain ⟨a1, a2, a3, a4, a5, a6⟩ := h3
    exact ⟨a1, a2, rfl, congrArg (· + 1) a4, a5, a6⟩
  · rw [RS_tt_s]
