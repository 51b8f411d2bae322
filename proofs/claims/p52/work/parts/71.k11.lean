/-! The class: logAt, refuseBounds, new rows, references, agents. -/
theorem logSw {x : Int32} {P : Prop} (h0 : x = nI 0 → P) (h1 : x = nI 1 → P) (h2 : x = nI 2 → P) (h3 : x = nI 3 → P) (hn : (x.toInt < 0 ∨ 3 < x.toInt) → inB x (nI 0) (nI 3) = false → P) : P := by
  cases e : inB x (nI 0) (nI 3)
  · refine hn ?_ e
    unfold inB at e
    rw [Bool.and_eq_false_iff] at e
    rcases e with e | e
    · have e := of_decide_eq_false e
      rw [i32_le, show (nI 0).toInt = 0 from rfl] at e
      exact Or.inl (by omega)
    · have e := of_decide_eq_false e
      rw [i32_le, show (nI 3).toInt = 3 from rfl] at e
      exact Or.inr (by omega)
  · obtain ⟨k, hk, ex⟩ := ixB_t (v := x) (n := 4) (by decide) e
    have : k = 0 ∨ k = 1 ∨ k = 2 ∨ k = 3 := by omega
    rcases this with z | z | z | z <;> subst z
    · exact h0 ex
    · exact h1 ex
    · exact h2 ex
    · exact h3 ex
theorem nI_j {i j : Nat} (hi : i < 2 ^ 31) (hj : j < 2 ^ 31) (e : nI i = nI j) : i = j := by
  have := congrArg Int32.toNatClampNeg e
  rwa [nI_clamp hi, nI_clamp hj] at this
set_option maxRecDepth 100000 in
set_option maxHeartbeats 4000000 in
theorem c_X11_logAt {G : GG} {d bc bs : Nat} {h : Hp} {Q : Pst} {X : CS} {S : RS} (hR : CR h X) (hs : SIM X S) {n : Nat} (hB : RB n S) {w : Int32} {k : Nat} (hw : ixB w (RS_lg S).length = true → w = nI k ∧ k < (RS_lg S).length) {x : Int32} {j : Nat} (hx : inB x (nI 0) (nI 3) = true → x = nI j ∧ j < 4) (hd : 9 ≤ d) (hbc : 6 ≤ bc) (hbs : 40 ≤ bs) (hq : KO Q h ["java/lang/IndexOutOfBoundsException", "java/lang/IllegalArgumentException"] (o_logAt S w k x j)) : WP G m_X11_logAt d 0 (aargs 0 [vr (some (nm 40 0)), vi w, vi x]) [] h bc bs Q := by
  have hG := FRK.rf (h := h)
  have hrn : CS_rn X = RS_rn S := hs.1.1
  have han : CS_an X = RS_an S := hs.1.2.1
  have hbi : CS_bi X = RS_bg S := hs.1.2.2.1
  have hpr : CS_pr X = RS_mo S := hs.1.2.2.2.1
  have hlg : CS_lg X = RS_lg S := hs.1.2.2.2.2
  have hb0 := hB.1
  refine wp_sub [(0, vr (some (nm 40 0))), (1, vi w), (2, vi x)] (fun _ hz => hz) ?_
  refine wp_iload_n (i := 1) dX11_logAt_0 rfl rfl ?_
  refine wp_if_lt 15 dX11_logAt_1 (by decide) (fun c_1 => ?_) (fun c_1 => ?_)
  · skip
    refine wp_throw dX11_logAt_15 dX11_logAt_18 dX11_logAt_19 dX11_logAt_22 dX11_logAt_25 th_434 sr_X11_436 rfl (by omega) (by omega) (by omega) ?_
    exact hq.1 0 _ (congrArg (fun z => z.1) (show o_logAt S w k x j = (nI 1, nI 0, S) from by unfold o_logAt; rw [if_pos (by first | exact ixB_a c_1 | exact ixB_b (by omega) (by rw [← hlg]; exact c_12))])) rfl
  · skip
    refine wp_iload_n (i := 1) dX11_logAt_4 rfl rfl ?_
    refine wp_aload_n (i := 0) dX11_logAt_5 rfl rfl ?_
    refine wp_get 12 11 (vr (some (nm 40 11))) dX11_logAt_6 hR.mk (by decide) (by decide) fl_X11_62 (congrArg (fun z => toV (vr z)) (hR.f11)) ?_
    refine wp_cV (y' := m_Jx4a65c_size_8abf5) 2 [] [vi w] 0 0 dX11_logAt_9 ml_X11_417 im_Jx4a65c_size_8abf5 se_Jx4a65c_size_8abf5 (by decide) hR.lg.k ok_Jx4a65c_size_8abf5 rfl (Nat.le_of_ble_eq_true rfl) rfl (Nat.le_of_ble_eq_true rfl) (d' := d - 1) (by omega) (Nat.zero_le _) (Nat.zero_le _) (c_LO_size hR.lg (cont_ret ?_))
    refine wp_icmp_lt 26 dX11_logAt_12 (by decide) (fun c_12 => ?_) (fun c_12 => ?_)
    · have b_w : ixB w (RS_lg S).length = true := ixB_c (by omega) c_1 (by rw [← hlg]; exact c_12)
      obtain ⟨ew, hk⟩ := hw b_w
      subst ew
      have hk2 : k < (CS_lg X).length := by rw [hlg]; exact hk
      have hE := hR.le hk2
      have hgd : (CS_lg X).getD k (0, 0, 0, 0) = (CS_lg X)[k] := by rw [List.getD_eq_getElem?_getD, List.getElem?_eq_getElem hk2]; rfl
      refine wp_aload_n (i := 0) dX11_logAt_26 rfl rfl ?_
      refine wp_get 12 11 (vr (some (nm 40 11))) dX11_logAt_27 hR.mk (by decide) (by decide) fl_X11_62 (congrArg (fun z => toV (vr z)) (hR.f11)) ?_
      refine wp_iload_n (i := 1) dX11_logAt_30 rfl rfl ?_
      refine wp_cV (y' := m_Jx4a65c_get_915e3) 2 [vi (nI k)] [] 0 0 dX11_logAt_31 ml_X11_419 im_Jx4a65c_get_915e3 se_Jx4a65c_get_915e3 (by decide) hR.lg.k ok_Jx4a65c_get_915e3 rfl (Nat.le_of_ble_eq_true rfl) rfl (Nat.le_of_ble_eq_true rfl) (d' := d - 1) (by omega) (Nat.zero_le _) (Nat.zero_le _) (c_LO_get hR.lg hk2 (by omega) (cont_ret ?_))
      refine wp_castC 4 dX11_logAt_34 (by decide) kl_X11_423 (fun a ha => by cases ha; exact hE.1) ?_
      refine wp_astore_n (i := 3) (lv' := [(3, vr (some (nm 68 k))), (0, vr (some (nm 40 0))), (1, vi (nI k)), (2, vi x)]) dX11_logAt_37 rfl (by decide) rfl ?_
      refine wp_iload_n (i := 2) dX11_logAt_38 rfl rfl ?_
      refine logSw (x := x) (fun e => ?_) (fun e => ?_) (fun e => ?_) (fun e => ?_) (fun e1 e2 => ?_)
      · subst e
        have ej : j = 0 := (nI_j (by decide) (by have := (hx rfl).2; omega) (hx rfl).1).symm
        subst ej
        refine wp_tableIn 68 dX11_logAt_39 (by decide) (by decide) rfl (by decide) ?_
        refine wp_aload_n (i := 3) dX11_logAt_68 rfl rfl ?_
        refine wp_get 4 0 (vi (nI (CS_lg X)[k].1)) dX11_logAt_69 hE.1 (by decide) (by decide) fl_X11_439 (congrArg (fun z => toV (vi z)) (hE.2.1)) ?_
        refine wp_ireturn dX11_logAt_72 rfl ?_
        rw [show o_logAt S (nI k) k (nI 0) 0 = (nI 0, logw (RS_lg S) k 0, S) from by unfold o_logAt; rw [if_neg (by rw [b_w]; decide), if_neg (by decide)]] at hq
        have hql := hq.2 rfl _ _ hR hs hG
        rw [show logw (RS_lg S) k 0 = (nI (CS_lg X)[k].1) from by unfold logw; rw [if_pos rfl, ← hlg, hgd]] at hql
        exact hql
      · subst e
        have ej : j = 1 := (nI_j (by decide) (by have := (hx rfl).2; omega) (hx rfl).1).symm
        subst ej
        refine wp_tableIn 73 dX11_logAt_39 (by decide) (by decide) rfl (by decide) ?_
        refine wp_aload_n (i := 3) dX11_logAt_73 rfl rfl ?_
        refine wp_get 4 1 (vi (nI (CS_lg X)[k].2.1)) dX11_logAt_74 hE.1 (by decide) (by decide) fl_X11_425 (congrArg (fun z => toV (vi z)) (hE.2.2.1)) ?_
        refine wp_ireturn dX11_logAt_77 rfl ?_
        rw [show o_logAt S (nI k) k (nI 1) 1 = (nI 0, logw (RS_lg S) k 1, S) from by unfold o_logAt; rw [if_neg (by rw [b_w]; decide), if_neg (by decide)]] at hq
        have hql := hq.2 rfl _ _ hR hs hG
        rw [show logw (RS_lg S) k 1 = (nI (CS_lg X)[k].2.1) from by unfold logw; rw [if_neg (by decide), if_pos rfl, ← hlg, hgd]] at hql
        exact hql
      · subst e
        have ej : j = 2 := (nI_j (by decide) (by have := (hx rfl).2; omega) (hx rfl).1).symm
        subst ej
        refine wp_tableIn 78 dX11_logAt_39 (by decide) (by decide) rfl (by decide) ?_
        refine wp_aload_n (i := 3) dX11_logAt_78 rfl rfl ?_
        refine wp_get 4 2 (vi ((CS_lg X)[k].2.2.1)) dX11_logAt_79 hE.1 (by decide) (by decide) fl_X11_442 (congrArg (fun z => toV (vi z)) (hE.2.2.2.1)) ?_
        refine wp_ireturn dX11_logAt_82 rfl ?_
        rw [show o_logAt S (nI k) k (nI 2) 2 = (nI 0, logw (RS_lg S) k 2, S) from by unfold o_logAt; rw [if_neg (by rw [b_w]; decide), if_neg (by decide)]] at hq
        have hql := hq.2 rfl _ _ hR hs hG
        rw [show logw (RS_lg S) k 2 = ((CS_lg X)[k].2.2.1) from by unfold logw; rw [if_neg (by decide), if_neg (by decide), if_pos rfl, ← hlg, hgd]] at hql
        exact hql
      · subst e
        have ej : j = 3 := (nI_j (by decide) (by have := (hx rfl).2; omega) (hx rfl).1).symm
        subst ej
        refine wp_tableIn 83 dX11_logAt_39 (by decide) (by decide) rfl (by decide) ?_
        refine wp_aload_n (i := 3) dX11_logAt_83 rfl rfl ?_
        refine wp_get 4 3 (vi ((CS_lg X)[k].2.2.2)) dX11_logAt_84 hE.1 (by decide) (by decide) fl_X11_428 (congrArg (fun z => toV (vi z)) (hE.2.2.2.2)) ?_
        refine wp_ireturn dX11_logAt_87 rfl ?_
        rw [show o_logAt S (nI k) k (nI 3) 3 = (nI 0, logw (RS_lg S) k 3, S) from by unfold o_logAt; rw [if_neg (by rw [b_w]; decide), if_neg (by decide)]] at hq
        have hql := hq.2 rfl _ _ hR hs hG
        rw [show logw (RS_lg S) k 3 = ((CS_lg X)[k].2.2.2) from by unfold logw; rw [if_neg (by decide), if_neg (by decide), if_neg (by decide), ← hlg, hgd]] at hql
        exact hql
      · refine wp_tableOut 88 dX11_logAt_39 e1 (by decide) ?_
        refine wp_throw dX11_logAt_88 dX11_logAt_91 dX11_logAt_92 dX11_logAt_95 dX11_logAt_98 th_189 sr_X11_445 rfl (by omega) (by omega) (by omega) ?_
        exact hq.1 1 _ (congrArg (fun z => z.1) (show o_logAt S (nI k) k x j = (nI 2, nI 0, S) from by unfold o_logAt; rw [if_neg (by rw [b_w]; decide), if_pos e2])) rfl
    · skip
      refine wp_throw dX11_logAt_15 dX11_logAt_18 dX11_logAt_19 dX11_logAt_22 dX11_logAt_25 th_434 sr_X11_436 rfl (by omega) (by omega) (by omega) ?_
      exact hq.1 0 _ (congrArg (fun z => z.1) (show o_logAt S w k x j = (nI 1, nI 0, S) from by unfold o_logAt; rw [if_pos (by first | exact ixB_a c_1 | exact ixB_b (by omega) (by rw [← hlg]; exact c_12))])) rfl
theorem abB_iff {v lo hi : Int32} : abB v lo hi = true ↔ (¬ lo < -999) ∧ (¬ nI 999 < hi) ∧ inB v lo hi = true := by
  unfold abB elB inB
  simp only [Bool.and_eq_true, decide_eq_true_eq, i32_le, i32_lt, show (-999 : Int32).toInt = -999 by decide, show (nI 999).toInt = 999 by decide]
  omega
set_option maxRecDepth 100000 in
set_option maxHeartbeats 4000000 in
theorem c_X11_refuseBounds {G : GG} {d bc bs : Nat} {h : Hp} {Q : Pst} {v lo hi : Int32} (hd : 6 ≤ d) (hbc : 1 ≤ bc) (hbs : 6 ≤ bs) (hqe : abB v lo hi = false → Q (oThr "java/lang/IllegalArgumentException") h) (hq : abB v lo hi = true → Q oVoid h) : WP G m_X11_refuseBounds d 0 (aargs 0 [vi v, vi lo, vi hi]) [] h bc bs Q := by
  refine wp_sub [(0, vi v), (1, vi lo), (2, vi hi)] (fun _ hz => hz) ?_
  refine wp_iload_n (i := 1) dX11_refuseBounds_0 rfl rfl ?_
  refine wp_sipush (-999) dX11_refuseBounds_1 (by decide) ?_
  refine wp_icmp_lt 23 dX11_refuseBounds_4 (by decide) (fun c_4 => ?_) (fun c_4 => ?_)
  · skip
    refine wp_throw dX11_refuseBounds_23 dX11_refuseBounds_26 dX11_refuseBounds_27 dX11_refuseBounds_30 dX11_refuseBounds_33 th_189 sr_X11_548 rfl (by omega) (by omega) (by omega) ?_
    refine hqe (Bool.eq_false_iff.mpr (fun z => ?_))
    have z := abB_iff.mp z
    first | exact z.1 c_4 | exact z.2.1 c_11 | exact absurd (c_20.symm.trans z.2.2) (by decide)
  · skip
    refine wp_iload_n (i := 2) dX11_refuseBounds_7 rfl rfl ?_
    refine wp_sipush (nI 999) dX11_refuseBounds_8 (by decide) ?_
    refine wp_icmp_gt 23 dX11_refuseBounds_11 (by decide) (fun c_11 => ?_) (fun c_11 => ?_)
    · skip
      refine wp_throw dX11_refuseBounds_23 dX11_refuseBounds_26 dX11_refuseBounds_27 dX11_refuseBounds_30 dX11_refuseBounds_33 th_189 sr_X11_548 rfl (by omega) (by omega) (by omega) ?_
      refine hqe (Bool.eq_false_iff.mpr (fun z => ?_))
      have z := abB_iff.mp z
      first | exact z.1 c_4 | exact z.2.1 c_11 | exact absurd (c_20.symm.trans z.2.2) (by decide)
    · skip
      refine wp_iload_n (i := 0) dX11_refuseBounds_14 rfl rfl ?_
      refine wp_iload_n (i := 1) dX11_refuseBounds_15 rfl rfl ?_
      refine wp_iload_n (i := 2) dX11_refuseBounds_16 rfl rfl ?_
      refine wp_cS (y' := m_X11_isWithin) [vi v, vi lo, vi hi] [] 0 0 dX11_refuseBounds_17 ml_X11_256 st_X11_isWithin ok_X11_isWithin rfl (Nat.le_of_ble_eq_true rfl) rfl (Nat.le_of_ble_eq_true rfl) (d' := d - 1) (by omega) (Nat.zero_le _) (Nat.zero_le _) (c_X11_isWithin v lo hi (cont_ret ?_))
      refine wp_if_neB 34 dX11_refuseBounds_20 (by decide) (fun c_20 => ?_) (fun c_20 => ?_)
      · skip
        refine wp_return dX11_refuseBounds_34 rfl ?_
        exact hq (abB_iff.mpr ⟨c_4, c_11, c_20⟩)
      · skip
        refine wp_throw dX11_refuseBounds_23 dX11_refuseBounds_26 dX11_refuseBounds_27 dX11_refuseBounds_30 dX11_refuseBounds_33 th_189 sr_X11_548 rfl (by omega) (by omega) (by omega) ?_
        refine hqe (Bool.eq_false_iff.mpr (fun z => ?_))
        have z := abB_iff.mp z
        first | exact z.1 c_4 | exact z.2.1 c_11 | exact absurd (c_20.symm.trans z.2.2) (by decide)
set_option maxRecDepth 100000 in
set_option maxHeartbeats 4000000 in
theorem c_X5_init {G : GG} {d bc bs : Nat} {h : Hp} {Q : Pst} {r : Nat} (f54 : h_k h (nm 54 r) = 0) (f55 : h_k h (nm 55 r) = 0) {v lo hi : Int32} (hd : 3 ≤ d) (hbc : 2 ≤ bc) (hbs : 20 ≤ bs) (hq : ∀ h', KR h' r (v, lo, hi, 1, 2, va_up (fun _ => 0) 0 v, fun _ => 0) → Fr h h' (CRf r) → Q oVoid h') : WP G m_X5_init d 0 (aargs 0 [vr (some (nm 53 r)), vi v, vi lo, vi hi]) [] (mk h (nm 53 r) 8 0) bc bs Q := by
  refine wp_sub [(0, vr (some (nm 53 r))), (1, vi v), (2, vi lo), (3, vi hi)] (fun _ hz => hz) ?_
  refine wp_aload_n (i := 0) dX5_init_0 rfl rfl ?_
  refine wp_objInit dX5_init_1 ml_X5_3 im_java_lang_Object__init____V co_obj (by omega) (by decide) ?_
  refine wp_aload_n (i := 0) dX5_init_4 rfl rfl ?_
  refine wp_bipush (nI 8) dX5_init_5 (by decide) ?_
  refine wp_newarray 101 8 .int dX5_init_7 rfl rfl aw_int (nI_nn (by omega)) (nI_clamp (by omega)) (by omega) (by decide) pl_int (by omega) (by omega) (nm 54 r) (by simp [gI_wI, gI_wR, gI_mk, gR_wI, gR_wR, gR_mk, gk_wI, gk_wR, gk_mk, gn_wI, gn_wR, gn_mk, nm_eq, nm_i]; exact f54) ?_
  refine wp_putRF 7 3 dX5_init_9 (by simp [gI_wI, gI_wR, gI_mk, gR_wI, gR_wR, gR_mk, gk_wI, gk_wR, gk_mk, gn_wI, gn_wR, gn_mk, nm_eq, nm_i]) (by decide) (by decide) (by decide) fl_X5_9 rfl rfl rfl (fun _ _ => rfl) rfl ?_
  refine wp_aload_n (i := 0) dX5_init_12 rfl rfl ?_
  refine wp_bipush (nI 8) dX5_init_13 (by decide) ?_
  refine wp_newarray 101 8 .int dX5_init_15 rfl rfl aw_int (nI_nn (by omega)) (nI_clamp (by omega)) (by omega) (by decide) pl_int (by omega) (by omega) (nm 55 r) (by simp [gI_wI, gI_wR, gI_mk, gR_wI, gR_wR, gR_mk, gk_wI, gk_wR, gk_mk, gn_wI, gn_wR, gn_mk, nm_eq, nm_i]; exact f55) ?_
  refine wp_putRF 7 4 dX5_init_17 (by simp [gI_wI, gI_wR, gI_mk, gR_wI, gR_wR, gR_mk, gk_wI, gk_wR, gk_mk, gn_wI, gn_wR, gn_mk, nm_eq, nm_i]) (by decide) (by decide) (by decide) fl_X5_15 rfl rfl rfl (fun _ _ => rfl) rfl ?_
  refine wp_aload_n (i := 0) dX5_init_20 rfl rfl ?_
  refine wp_iconst (nI 1) dX5_init_21 (by decide) ?_
  refine wp_putI 7 5 dX5_init_22 (by simp [gI_wI, gI_wR, gI_mk, gR_wI, gR_wR, gR_mk, gk_wI, gk_wR, gk_mk, gn_wI, gn_wR, gn_mk, nm_eq, nm_i]) (by decide) (by decide) (by decide) fl_X5_18 rfl (fun _ _ => rfl) rfl rfl ?_
  refine wp_aload_n (i := 0) dX5_init_25 rfl rfl ?_
  refine wp_iconst (nI 2) dX5_init_26 (by decide) ?_
  refine wp_putI 7 6 dX5_init_27 (by simp [gI_wI, gI_wR, gI_mk, gR_wI, gR_wR, gR_mk, gk_wI, gk_wR, gk_mk, gn_wI, gn_wR, gn_mk, nm_eq, nm_i]) (by decide) (by decide) (by decide) fl_X5_22 rfl (fun _ _ => rfl) rfl rfl ?_
  refine wp_aload_n (i := 0) dX5_init_30 rfl rfl ?_
  refine wp_iload_n (i := 1) dX5_init_31 rfl rfl ?_
  refine wp_putIF 7 0 dX5_init_32 (by simp [gI_wI, gI_wR, gI_mk, gR_wI, gR_wR, gR_mk, gk_wI, gk_wR, gk_mk, gn_wI, gn_wR, gn_mk, nm_eq, nm_i]) (by decide) (by decide) (by decide) fl_X5_25 rfl rfl rfl (fun _ _ => rfl) rfl rfl ?_
  refine wp_aload_n (i := 0) dX5_init_35 rfl rfl ?_
  refine wp_iload_n (i := 2) dX5_init_36 rfl rfl ?_
  refine wp_putIF 7 1 dX5_init_37 (by simp [gI_wI, gI_wR, gI_mk, gR_wI, gR_wR, gR_mk, gk_wI, gk_wR, gk_mk, gn_wI, gn_wR, gn_mk, nm_eq, nm_i]) (by decide) (by decide) (by decide) fl_X5_28 rfl rfl rfl (fun _ _ => rfl) rfl rfl ?_
  refine wp_aload_n (i := 0) dX5_init_40 rfl rfl ?_
  refine wp_iload_n (i := 3) dX5_init_41 rfl rfl ?_
  refine wp_putIF 7 2 dX5_init_42 (by simp [gI_wI, gI_wR, gI_mk, gR_wI, gR_wR, gR_mk, gk_wI, gk_wR, gk_mk, gn_wI, gn_wR, gn_mk, nm_eq, nm_i]) (by decide) (by decide) (by decide) fl_X5_31 rfl rfl rfl (fun _ _ => rfl) rfl rfl ?_
  refine wp_aload_n (i := 0) dX5_init_45 rfl rfl ?_
  refine wp_get 7 3 (vr (some (nm 54 r))) dX5_init_46 (by simp [gI_wI, gI_wR, gI_mk, gR_wI, gR_wR, gR_mk, gk_wI, gk_wR, gk_mk, gn_wI, gn_wR, gn_mk, nm_eq, nm_i]) (by decide) (by decide) fl_X5_9 (congrArg (fun z => toV (vr z)) (by simp [gI_wI, gI_wR, gI_mk, gR_wI, gR_wR, gR_mk, gk_wI, gk_wR, gk_mk, gn_wI, gn_wR, gn_mk, nm_eq, nm_i])) ?_
  refine wp_iconst (nI 0) dX5_init_49 (by decide) ?_
  refine wp_iload_n (i := 1) dX5_init_50 rfl rfl ?_
  refine wp_iastoreN 8 dX5_init_51 (by simp [gI_wI, gI_wR, gI_mk, gR_wI, gR_wR, gR_mk, gk_wI, gk_wR, gk_mk, gn_wI, gn_wR, gn_mk, nm_eq, nm_i]) (by simp [gI_wI, gI_wR, gI_mk, gR_wI, gR_wR, gR_mk, gk_wI, gk_wR, gk_mk, gn_wI, gn_wR, gn_mk, nm_eq, nm_i]) (by decide) (by decide) ?_
  refine wp_return dX5_init_52 rfl ?_
  exact hq _ ⟨by first | (simp [gI_wI, gI_wR, gI_mk, gR_wI, gR_wR, gR_mk, gk_wI, gk_wR, gk_mk, gn_wI, gn_wR, gn_mk, nm_eq, nm_i, va_up_app]; done) | (simp [gI_wI, gI_wR, gI_mk, gR_wI, gR_wR, gR_mk, gk_wI, gk_wR, gk_mk, gn_wI, gn_wR, gn_mk, nm_eq, nm_i, va_up_app]; rfl), by first | (simp [gI_wI, gI_wR, gI_mk, gR_wI, gR_wR, gR_mk, gk_wI, gk_wR, gk_mk, gn_wI, gn_wR, gn_mk, nm_eq, nm_i, va_up_app]; done) | (simp [gI_wI, gI_wR, gI_mk, gR_wI, gR_wR, gR_mk, gk_wI, gk_wR, gk_mk, gn_wI, gn_wR, gn_mk, nm_eq, nm_i, va_up_app]; rfl), by first | (simp [gI_wI, gI_wR, gI_mk, gR_wI, gR_wR, gR_mk, gk_wI, gk_wR, gk_mk, gn_wI, gn_wR, gn_mk, nm_eq, nm_i, va_up_app]; done) | (simp [gI_wI, gI_wR, gI_mk, gR_wI, gR_wR, gR_mk, gk_wI, gk_wR, gk_mk, gn_wI, gn_wR, gn_mk, nm_eq, nm_i, va_up_app]; rfl), by first | (simp [gI_wI, gI_wR, gI_mk, gR_wI, gR_wR, gR_mk, gk_wI, gk_wR, gk_mk, gn_wI, gn_wR, gn_mk, nm_eq, nm_i, va_up_app]; done) | (simp [gI_wI, gI_wR, gI_mk, gR_wI, gR_wR, gR_mk, gk_wI, gk_wR, gk_mk, gn_wI, gn_wR, gn_mk, nm_eq, nm_i, va_up_app]; rfl), by first | (simp [gI_wI, gI_wR, gI_mk, gR_wI, gR_wR, gR_mk, gk_wI, gk_wR, gk_mk, gn_wI, gn_wR, gn_mk, nm_eq, nm_i, va_up_app]; done) | (simp [gI_wI, gI_wR, gI_mk, gR_wI, gR_wR, gR_mk, gk_wI, gk_wR, gk_mk, gn_wI, gn_wR, gn_mk, nm_eq, nm_i, va_up_app]; rfl), by first | (simp [gI_wI, gI_wR, gI_mk, gR_wI, gR_wR, gR_mk, gk_wI, gk_wR, gk_mk, gn_wI, gn_wR, gn_mk, nm_eq, nm_i, va_up_app]; done) | (simp [gI_wI, gI_wR, gI_mk, gR_wI, gR_wR, gR_mk, gk_wI, gk_wR, gk_mk, gn_wI, gn_wR, gn_mk, nm_eq, nm_i, va_up_app]; rfl), by first | (simp [gI_wI, gI_wR, gI_mk, gR_wI, gR_wR, gR_mk, gk_wI, gk_wR, gk_mk, gn_wI, gn_wR, gn_mk, nm_eq, nm_i, va_up_app]; done) | (simp [gI_wI, gI_wR, gI_mk, gR_wI, gR_wR, gR_mk, gk_wI, gk_wR, gk_mk, gn_wI, gn_wR, gn_mk, nm_eq, nm_i, va_up_app]; rfl), by first | (simp [gI_wI, gI_wR, gI_mk, gR_wI, gR_wR, gR_mk, gk_wI, gk_wR, gk_mk, gn_wI, gn_wR, gn_mk, nm_eq, nm_i, va_up_app]; done) | (simp [gI_wI, gI_wR, gI_mk, gR_wI, gR_wR, gR_mk, gk_wI, gk_wR, gk_mk, gn_wI, gn_wR, gn_mk, nm_eq, nm_i, va_up_app]; rfl), ⟨by first | (simp [gI_wI, gI_wR, gI_mk, gR_wI, gR_wR, gR_mk, gk_wI, gk_wR, gk_mk, gn_wI, gn_wR, gn_mk, nm_eq, nm_i, va_up_app]; done) | (simp [gI_wI, gI_wR, gI_mk, gR_wI, gR_wR, gR_mk, gk_wI, gk_wR, gk_mk, gn_wI, gn_wR, gn_mk, nm_eq, nm_i, va_up_app]; rfl), by first | (simp [gI_wI, gI_wR, gI_mk, gR_wI, gR_wR, gR_mk, gk_wI, gk_wR, gk_mk, gn_wI, gn_wR, gn_mk, nm_eq, nm_i, va_up_app]; done) | (simp [gI_wI, gI_wR, gI_mk, gR_wI, gR_wR, gR_mk, gk_wI, gk_wR, gk_mk, gn_wI, gn_wR, gn_mk, nm_eq, nm_i, va_up_app]; rfl)⟩, by intro j; first | (simp [gI_wI, gI_wR, gI_mk, gR_wI, gR_wR, gR_mk, gk_wI, gk_wR, gk_mk, gn_wI, gn_wR, gn_mk, nm_eq, nm_i, va_up_app]; done) | (simp [gI_wI, gI_wR, gI_mk, gR_wI, gR_wR, gR_mk, gk_wI, gk_wR, gk_mk, gn_wI, gn_wR, gn_mk, nm_eq, nm_i, va_up_app]; rfl), ⟨by first | (simp [gI_wI, gI_wR, gI_mk, gR_wI, gR_wR, gR_mk, gk_wI, gk_wR, gk_mk, gn_wI, gn_wR, gn_mk, nm_eq, nm_i, va_up_app]; done) | (simp [gI_wI, gI_wR, gI_mk, gR_wI, gR_wR, gR_mk, gk_wI, gk_wR, gk_mk, gn_wI, gn_wR, gn_mk, nm_eq, nm_i, va_up_app]; rfl), by first | (simp [gI_wI, gI_wR, gI_mk, gR_wI, gR_wR, gR_mk, gk_wI, gk_wR, gk_mk, gn_wI, gn_wR, gn_mk, nm_eq, nm_i, va_up_app]; done) | (simp [gI_wI, gI_wR, gI_mk, gR_wI, gR_wR, gR_mk, gk_wI, gk_wR, gk_mk, gn_wI, gn_wR, gn_mk, nm_eq, nm_i, va_up_app]; rfl)⟩, by intro j; first | (simp [gI_wI, gI_wR, gI_mk, gR_wI, gR_wR, gR_mk, gk_wI, gk_wR, gk_mk, gn_wI, gn_wR, gn_mk, nm_eq, nm_i, va_up_app]; done) | (simp [gI_wI, gI_wR, gI_mk, gR_wI, gR_wR, gR_mk, gk_wI, gk_wR, gk_mk, gn_wI, gn_wR, gn_mk, nm_eq, nm_i, va_up_app]; rfl)⟩ (fun a ha => by
    have n3 : a ≠ nm 53 r := fun e => ha (by rw [e]; unfold CRf nm; omega)
    have n4 : a ≠ nm 54 r := fun e => ha (by rw [e]; unfold CRf nm; omega)
    have n5 : a ≠ nm 55 r := fun e => ha (by rw [e]; unfold CRf nm; omega)
    exact (ce_wI n4).trans ((ce_wI n3).trans ((ce_wI n3).trans ((ce_wI n3).trans ((ce_wI n3).trans ((ce_wI n3).trans ((ce_nwF n3 n5).trans ((ce_nwF n3 n4).trans (ce_mk n3)))))))))
