/-! The class: shared nodes, sharing. -/
theorem slN_m {S : SV} {v : Nat} (m : sTy S v = 109) : slN S v = 341 := if_pos m
/-- no node of a value bears the next mark -/
theorem CV.m0 {h : Hp} {S : SV} {M v s : Nat} (hS : SVI S) (hC : CV h S M) (hM : M < 900000) (hv : v < sNv S) (hs : s < slN S v) (hp : 0 < ndN S v s) : h_I h (nm 45 (ndN S v s)) 6 ≠ nI (M + 1) := fun e => by
  have hP := hS.2.1 v hv
  have hT := (hC.2.2.1 v hv).2
  have key : ∀ k (x : KNS), KN h k x → (∃ m, m ≤ M ∧ KN_mk x = nI m) → k = ndN S v s → False := fun k x hO hm hk => by
    obtain ⟨m, m1, m2⟩ := hm
    rw [← hk, hO.f_mk, m2] at e
    have := nI_j (by omega) (by omega) e
    omega
  by_cases m : sTy S v = 109
  · rw [slN_m m] at hs
    have e1 : ndN S v s = mnv S v s := (show ndN S v s = sMn S (341 * v + s) from if_pos m).trans (show mnv S v s = _ from if_pos hs).symm
    obtain ⟨l, b, l1, b1, rfl⟩ := lst_ex hs
    have pr := ((hP.2.2.2.1 m).2.2.1 l b l1 b1).mpr (by rw [e1] at hp; exact hp)
    obtain ⟨x, hO, hx⟩ := hT.2 m l b l1 b1 pr
    exact key _ x hO hx.1 e1.symm
  · have e21 : slN S v = 21 := if_neg m
    have eN := ndN_NG hs
    rw [show sgm S v s = s from if_neg m] at eN
    unfold NG at eN
    by_cases pv : p_ty (vp S v) = 118 ∨ p_ty (vp S v) = 111
    · rw [if_pos pv] at eN
      by_cases i : s < 21 ∧ ith s (p_sz (vp S v)) = true
      · rw [if_pos i] at eN
        obtain ⟨x, hO, hx, -⟩ := (hT.1 pv).1 s i.1 i.2
        exact key _ x hO hx.1 eN.symm
      · rw [if_neg i] at eN; omega
    · rw [if_neg pv, if_neg (show ¬ p_ty (vp S v) = 109 from m)] at eN; omega
def mk0 (h : Hp) (mk : Nat) : Nat → Bool := fun k => decide (h_I h (nm 45 k) 6 = nI mk)
theorem mk0_d {h : Hp} {mk : Nat} : MKD h mk (mk0 h mk) := fun _ _ => (decide_eq_true_iff).symm
theorem NTV.ce {h h' : Hp} {S : SV} {v : Nat} {tp : Option Nat} (H : NTV h S v tp) (F : FM 0 h h') : NTV h' S v tp := H.fm F
/-- what is shared -/
theorem sh_n {S : SV} (hS : SVI S) {k k2 : Nat} (hk : k < sNv S) (hk2 : k2 < sNv S) {D0 D : Nat → Bool} (hD0 : ∀ s, s < slN S k2 → 0 < ndN S k2 s → D0 (ndN S k2 s) = false) (hD : ∀ n, D n = true ↔ D0 n = true ∨ ∃ s, s < slN S k ∧ 0 < ndN S k s ∧ ndN S k s = n) : nsN S k2 = umN S k2 D + shN S k k2 := by
  have e : shN S k k2 = sumN (fun s => if 0 < ndN S k2 s ∧ D (ndN S k2 s) = true then 1 else 0) (slN S k2) := by
    unfold shN
    by_cases q : slN S k = slN S k2
    · rw [if_pos q, q]
      refine sumN_c _ (fun s hs => ?_)
      by_cases z : 0 < ndN S k s ∧ ndN S k s = ndN S k2 s
      · rw [if_pos z, if_pos ⟨by rw [← z.2]; exact z.1, (hD _).mpr (Or.inr ⟨s, by omega, z.1, z.2⟩)⟩]
      · rw [if_neg z, if_neg (fun y => z ?_)]
        rcases (hD _).mp y.2 with d | ⟨t, t1, t2, t3⟩
        · rw [hD0 s hs y.1] at d; cases d
        · have := (ndN_uq hS hk hk2 t1 hs t2 t3).2
          rw [this] at t2 t3
          exact ⟨t2, t3⟩
    · rw [if_neg q]
      have : sumN (fun s => if 0 < ndN S k2 s ∧ D (ndN S k2 s) = true then 1 else 0) (slN S k2) = sumN (fun _ => 0) (slN S k2) := sumN_c _ (fun s hs => if_neg (fun y => by
        rcases (hD _).mp y.2 with d | ⟨t, t1, t2, t3⟩
        · rw [hD0 s hs y.1] at d; cases d
        · exact q (ndN_uq hS hk hk2 t1 hs t2 t3).1))
      rw [this, sum_zero]; rfl
  rw [e]
  unfold umN nsN
  rw [← sum_add]
  refine sumN_c _ (fun s _ => ?_)
  by_cases z : 0 < ndN S k2 s
  · cases q : D (ndN S k2 s) with
    | true => rw [if_pos z, if_neg (fun y => by exact absurd y.2 (by decide)), if_pos ⟨z, rfl⟩]
    | false => rw [if_pos z, if_pos ⟨z, rfl⟩, if_neg (fun y => by exact absurd y.2 (by decide))]
  · rw [if_neg z, if_neg (fun y => z y.1), if_neg (fun y => z y.1)]
/-! the fold of the model -/
theorem sgI_f {S : SV} (hS : SVI S) {v : Nat} (hv : v < sNv S) {z : (Nat → Bool) × Nat × Nat} : ∀ n, n ≤ slN S v → (∀ k, 0 < k → ((sgI S v z n).1 k = true ↔ z.1 k = true ∨ ∃ s, s < n ∧ ndN S v s = k)) ∧ (sgI S v z n).2.1 = z.2.1 + sumN (fun s => if 0 < ndN S v s then 1 else 0) n ∧ (sgI S v z n).2.2 = z.2.2 + sumN (fun s => if 0 < ndN S v s ∧ z.1 (ndN S v s) = false then 1 else 0) n := by
  intro n
  induction n with
  | zero => intro _; exact ⟨fun k _ => ⟨Or.inl, fun y => y.resolve_right (fun ⟨s, s1, _⟩ => absurd s1 (Nat.not_lt_zero _))⟩, rfl, rfl⟩
  | succ n ih =>
    intro hn
    obtain ⟨h1, h2, h3⟩ := ih (by omega)
    rw [sgI, sumN, sumN]
    refine ⟨fun k hk => ?_, ?_, ?_⟩
    · show va_up (sgI S v z n).1 (ndN S v n) true k = true ↔ _
      rw [va_up_app]
      by_cases q : k = ndN S v n
      · rw [if_pos q]; exact ⟨fun _ => Or.inr ⟨n, Nat.lt_succ_self n, q.symm⟩, fun _ => rfl⟩
      · rw [if_neg q, h1 k hk]
        exact ⟨fun y => y.imp id (fun ⟨s, s1, s2⟩ => ⟨s, by omega, s2⟩), fun y => y.imp id (fun ⟨s, s1, s2⟩ => ⟨s, by
          by_cases r : s = n
          · rw [r] at s2; exact absurd s2.symm q
          · omega, s2⟩)⟩
    · show (sgI S v z n).2.1 + _ = _
      rw [h2]; omega
    · show (sgI S v z n).2.2 + (if 0 < ndN S v n ∧ (sgI S v z n).1 (ndN S v n) = false then 1 else 0) = _
      rw [h3]
      have e : (if 0 < ndN S v n ∧ (sgI S v z n).1 (ndN S v n) = false then 1 else 0) = (if 0 < ndN S v n ∧ z.1 (ndN S v n) = false then 1 else 0) := by
        by_cases q : 0 < ndN S v n
        · have r := h1 _ q
          have r2 : ¬ ∃ s, s < n ∧ ndN S v s = ndN S v n := fun ⟨s, s1, s2⟩ => by
            have := (ndN_uq hS hv hv (show s < slN S v by omega) (show n < slN S v by omega) (by rw [s2]; exact q) s2).2
            omega
          have e2 : (sgI S v z n).1 (ndN S v n) = z.1 (ndN S v n) := by
            cases a : z.1 (ndN S v n) with
            | true => exact r.mpr (Or.inl a)
            | false =>
              cases b : (sgI S v z n).1 (ndN S v n) with
              | false => rfl
              | true =>
                rcases r.mp b with y | y
                · rw [a] at y; cases y
                · exact absurd y r2
          rw [e2]
        · rw [if_neg (fun y => q y.1), if_neg (fun y => q y.1)]
      rw [e, Nat.add_assoc]
theorem sgO_f {S : SV} (hS : SVI S) {v : Nat} (hv : v < sNv S) : (∀ k, 0 < k → ((sgO S (v + 1)).1 k = true ↔ (sgO S v).1 k = true ∨ ∃ s, s < slN S v ∧ ndN S v s = k)) ∧ (sgO S (v + 1)).2.1 = (sgO S v).2.1 + nsN S v ∧ (sgO S (v + 1)).2.2 = (sgO S v).2.2 + umN S v (sgO S v).1 := sgI_f hS hv _ (Nat.le_refl _)
theorem umN_c {S : SV} {v : Nat} {D D' : Nat → Bool} (h : ∀ s, s < slN S v → 0 < ndN S v s → D (ndN S v s) = D' (ndN S v s)) : umN S v D = umN S v D' := sumN_c _ (fun s hs => by
  by_cases q : 0 < ndN S v s
  · rw [h s hs q]
  · rw [if_neg (fun y => q y.1), if_neg (fun y => q y.1)])
theorem KN.wi {h : Hp} {k : Nat} {x : KNS} {v : Int32} (H : KN h k x) : KN (wI h (nm 40 0) 3 v) k x := H.frm (ce_wI (by unfold nm; omega)) (ce_wI (by unfold nm; omega)) (ce_wI (by unfold nm; omega)) (ce_wI (by unfold nm; omega))
theorem TRE.wi {α : Type} {h : Hp} {v : Int32} {num : α → Nat} {ch : α → Nat → Option α} : ∀ f s, TRE h num ch f s → TRE (wI h (nm 40 0) 3 v) num ch f s := by
  intro f
  induction f with
  | zero => intro s T; exact absurd T id
  | succ f ih =>
    intro s T
    obtain ⟨x, hO, hw, h0, h1, h2⟩ := T
    exact ⟨x, hO.wi, hw, h0, h1, fun p hp t ht => ih t (h2 p hp t ht)⟩
theorem NTV.wi {h : Hp} {S : SV} {v : Nat} {tp : Option Nat} {z : Int32} (H : NTV h S v tp) : NTV (wI h (nm 40 0) 3 z) S v tp := H.imp id (fun ⟨α, num, ch, f, t, sl, h1, h2, h3, h4⟩ => ⟨α, num, ch, f, t, sl, h1, h2, TRE.wi f t h3, h4⟩)
set_option maxRecDepth 100000 in
set_option maxHeartbeats 4000000 in
theorem c_X11_shared {G : GG} {d bc bs : Nat} {h : Hp} {Q : Pst} {S : SV} {M : Nat} (hS : SVI S) (hC : CV h S M) (hr : sMd S < 700000) {u : Int32} {k : Nat} (hu : ixB u (sNv S) = true → u = nI k ∧ k < sNv S) {u2 : Int32} {k2 : Nat} (hu2 : ixB u2 (sNv S) = true → u2 = nI k2 ∧ k2 < sNv S) (hM : M < 900000) (hd : 12 ≤ d) (hbc : 6 ≤ bc) (hbs : 40 ≤ bs) (hq : KOV Q h ["java/lang/IndexOutOfBoundsException"] M (o_shared S u k u2 k2)) : WP G m_X11_shared d 0 (aargs 0 [vr (some (nm 40 0)), vi u, vi u2]) [] h bc bs Q := by
  have q8 : clN 10 = 5 := rfl
  have hn60 := hS.1
  obtain ⟨K, fK⟩ := hC.2.2.2.2.2.2
  refine wp_sub [(0, vr (some (nm 40 0))), (1, vi u), (2, vi u2)] (fun _ hz => hz) ?_
  refine wp_aload_n (i := 0) dX11_shared_0 rfl rfl ?_
  refine wp_iload_n (i := 1) dX11_shared_1 rfl rfl ?_
  refine wp_cV (y' := m_X11_valueNumbered) 12 [vi u] [] 1 6 dX11_shared_2 ml_X11_87 im_X11_valueNumbered se_X11_valueNumbered (by decide) hC.1.1.1 ok_X11_valueNumbered rfl (Nat.le_of_ble_eq_true rfl) rfl (Nat.le_of_ble_eq_true rfl) (d' := d - 1) (by omega) (by omega) (by omega) (c_X11_valueNumbered hC.1 (by omega) (v := u) (t := k) hu (by omega) (by omega) (by omega) (fun g_s => cont_thr rfl ?_) (fun b_s eu hk => cont_ret ?_))
  · rw [show o_shared S u k u2 k2 = (nI 1, nI 0, S) from by unfold o_shared; rw [if_pos (by rw [g_s]; rfl)]] at hq
    exact (hq h M (Nat.le_refl _) (by omega) hC FRV.rf).1 0 _ rfl rfl
  · subst eu
    obtain ⟨⟨x, hO, hsz, hx⟩, hT⟩ := hC.2.2.1 k hk
    have hP := hS.2.1 k hk
    have hkd := VAP.kd hx
    have hk4 : KU_kd x < 4 := by rw [hkd]; exact (kdN_v hP.1).2.2.2.2.1
    have hz64 : sSz S k ≤ 64 := hP.2.1
    have hzs : KU_sz x = sSz S k := hsz
    refine wp_astore_n (i := 3) (lv' := [(3, vr (some (nm 42 k))), (0, vr (some (nm 40 0))), (1, vi (nI k)), (2, vi u2)]) dX11_shared_5 rfl (by decide) rfl ?_
    refine wp_aload_n (i := 0) dX11_shared_6 rfl rfl ?_
    refine wp_iload_n (i := 2) dX11_shared_7 rfl rfl ?_
    refine wp_cV (y' := m_X11_valueNumbered) 12 [vi u2] [] 1 6 dX11_shared_8 ml_X11_87 im_X11_valueNumbered se_X11_valueNumbered (by decide) hC.1.1.1 ok_X11_valueNumbered rfl (Nat.le_of_ble_eq_true rfl) rfl (Nat.le_of_ble_eq_true rfl) (d' := d - 1) (by omega) (by omega) (by omega) (c_X11_valueNumbered hC.1 (by omega) (v := u2) (t := k2) hu2 (by omega) (by omega) (by omega) (fun g_s => cont_thr rfl ?_) (fun b_s2 eu2 hk2 => cont_ret ?_))
    · rw [show o_shared S (nI k) k u2 k2 = (nI 1, nI 0, S) from by unfold o_shared; rw [if_pos (by rw [g_s, Bool.and_false])]] at hq
      exact (hq h M (Nat.le_refl _) (by omega) hC FRV.rf).1 0 _ rfl rfl
    · subst eu2
      obtain ⟨⟨x2, hO2, hsz2, hx2⟩, hT2⟩ := hC.2.2.1 k2 hk2
      have hP2 := hS.2.1 k2 hk2
      have hkd2 := VAP.kd hx2
      have hk42 : KU_kd x2 < 4 := by rw [hkd2]; exact (kdN_v hP2.1).2.2.2.2.1
      have hz642 : sSz S k2 ≤ 64 := hP2.2.1
      have hzs2 : KU_sz x2 = sSz S k2 := hsz2
      refine wp_astore (i := 4) (lv' := [(4, vr (some (nm 42 k2))), (3, vr (some (nm 42 k))), (0, vr (some (nm 40 0))), (1, vi (nI k)), (2, vi (nI k2))]) dX11_shared_11 (by decide) rfl ?_
      refine wp_aload_n (i := 0) dX11_shared_13 rfl rfl ?_
      refine wp_dup dX11_shared_14 ?_
      refine wp_get 12 3 (vi (nI M)) dX11_shared_15 hC.1.1.1 (by decide) (by decide) fl_X11_26 (congrArg (fun z => toV (vi z)) (hC.1.1.2.2.2.2)) ?_
      refine wp_iconst (nI 1) dX11_shared_18 (by decide) ?_
      refine wp_iaddN dX11_shared_19 ?_
      refine wp_putI 12 3 dX11_shared_20 hC.1.1.1 (by decide) (by decide) (by decide) fl_X11_26 rfl (fun _ _ => rfl) rfl rfl ?_
      have gA : ∀ b, b ≠ nm 40 0 → ce (wI h (nm 40 0) 3 (nI (M + 1))) b = ce h b := fun b hb => ce_wI hb
      have kA0 : h_k (wI h (nm 40 0) 3 (nI (M + 1))) (nm 40 0) = 13 := hC.1.1.1
      have mA : h_I (wI h (nm 40 0) 3 (nI (M + 1))) (nm 40 0) 3 = nI (M + 1) := by rw [gI_wI, if_pos ⟨rfl, rfl⟩]
      have wA := fun h' (F : FM (M + 1) (wI h (nm 40 0) 3 (nI (M + 1))) h') => hC.mark F
      have N1 : NTV (wI h (nm 40 0) 3 (nI (M + 1))) S k (KU_tp x) := (NTV.of hS hC hk hx).wi
      have N2 : NTV (wI h (nm 40 0) 3 (nI (M + 1))) S k2 (KU_tp x2) := (NTV.of hS hC hk2 hx2).wi
      have i6 : ∀ n, h_I (wI h (nm 40 0) 3 (nI (M + 1))) (nm 45 n) 6 = h_I h (nm 45 n) 6 := fun n => by rw [gI_wI, if_neg (fun z => by have := z.1; unfold nm at this; omega)]
      generalize (wI h (nm 40 0) 3 (nI (M + 1))) = hA at gA kA0 mA wA N1 N2 i6 ⊢
      refine wp_aload_n (i := 3) dX11_shared_23 rfl rfl ?_
      refine wp_get 10 1 (vr (KU_tp x)) dX11_shared_24 ((ce_k (gA (nm 42 k) (by unfold nm; omega))).trans hO.k0) (by decide) (by decide) fl_X11_116 (congrArg (fun z => toV (vr z)) ((congrFun (ce_R (gA (nm 42 k) (by unfold nm; omega))) 1).trans hO.o_tp)) ?_
      refine wp_aload_n (i := 0) dX11_shared_27 rfl rfl ?_
      refine wp_get 12 3 (vi (nI (M + 1))) dX11_shared_28 kA0 (by decide) (by decide) fl_X11_26 (congrArg (fun z => toV (vi z)) (mA)) ?_
      refine wp_iconst (nI 1) dX11_shared_31 (by decide) ?_
      refine wp_cS (y' := m_X11_markNodes) [vr (KU_tp x), vi (nI (M + 1)), vi (nI 1)] [] 0 0 dX11_shared_32 ml_X11_244 st_X11_markNodes ok_X11_markNodes rfl (Nat.le_of_ble_eq_true rfl) rfl (Nat.le_of_ble_eq_true rfl) (d' := d - 1) (by omega) (Nat.zero_le _) (Nat.zero_le _) (c_markV hS hk (by omega) N1 mk0_d (by omega) (fun h1 D1 F1 M1 E1 => cont_ret ?_))
      refine wp_pop dX11_shared_35 ?_
      refine wp_aload (i := 4) dX11_shared_36 rfl ?_
      refine wp_get 10 1 (vr (KU_tp x2)) dX11_shared_38 ((ce_k ((F1.cc (by unfold nm; omega)).trans (gA (nm 42 k2) (by unfold nm; omega)))).trans hO2.k0) (by decide) (by decide) fl_X11_116 (congrArg (fun z => toV (vr z)) ((congrFun (ce_R ((F1.cc (by unfold nm; omega)).trans (gA (nm 42 k2) (by unfold nm; omega)))) 1).trans hO2.o_tp)) ?_
      refine wp_iconst (nI 1) dX11_shared_41 (by decide) ?_
      refine wp_cS (y' := m_X11_countNodes) [vr (KU_tp x2), vi (nI 1)] [] 0 0 dX11_shared_42 ml_X11_240 st_X11_countNodes ok_X11_countNodes rfl (Nat.le_of_ble_eq_true rfl) rfl (Nat.le_of_ble_eq_true rfl) (d' := d - 1) (by omega) (Nat.zero_le _) (Nat.zero_le _) (c_countV (N2.fm F1) (by omega) (cont_ret ?_))
      refine wp_aload (i := 4) dX11_shared_45 rfl ?_
      refine wp_get 10 1 (vr (KU_tp x2)) dX11_shared_47 ((ce_k ((F1.cc (by unfold nm; omega)).trans (gA (nm 42 k2) (by unfold nm; omega)))).trans hO2.k0) (by decide) (by decide) fl_X11_116 (congrArg (fun z => toV (vr z)) ((congrFun (ce_R ((F1.cc (by unfold nm; omega)).trans (gA (nm 42 k2) (by unfold nm; omega)))) 1).trans hO2.o_tp)) ?_
      refine wp_aload_n (i := 0) dX11_shared_50 rfl rfl ?_
      refine wp_get 12 3 (vi (nI (M + 1))) dX11_shared_51 ((congrFun F1.1.1 _).trans kA0) (by decide) (by decide) fl_X11_26 (congrArg (fun z => toV (vi z)) ((F1.2.1 _ 3 (Or.inr (by decide))).trans mA)) ?_
      refine wp_iconst (nI 1) dX11_shared_54 (by decide) ?_
      refine wp_cS (y' := m_X11_markNodes) [vr (KU_tp x2), vi (nI (M + 1)), vi (nI 1)] [vi (nI (nsN S k2))] 0 0 dX11_shared_55 ml_X11_244 st_X11_markNodes ok_X11_markNodes rfl (Nat.le_of_ble_eq_true rfl) rfl (Nat.le_of_ble_eq_true rfl) (d' := d - 1) (by omega) (Nat.zero_le _) (Nat.zero_le _) (c_markV hS hk2 (by omega) (N2.fm F1) M1 (by omega) (fun h2 D2 F2 M2 E2 => cont_ret ?_))
      have sn := sh_n hS hk hk2 (fun s s1 s2 => decide_eq_false (fun z => hC.m0 hS hM hk2 s1 s2 ((i6 _).symm.trans z))) E1
      refine wp_isubN dX11_shared_58 (by omega) ?_
      refine wp_ireturn dX11_shared_59 rfl ?_
      rw [show nsN S k2 - umN S k2 D1 = shN S k k2 by omega]
      rw [show o_shared S (nI k) k (nI k2) k2 = (nI 0, nI (shN S k k2), S) from by unfold o_shared; rw [if_neg (show ¬ (ixB (nI k) (sNv S) && ixB (nI k2) (sNv S)) = false by rw [b_s, b_s2]; decide)]] at hq
      exact (hq h2 (M + 1) (Nat.le_succ _) (Nat.le_refl _) ((wA h2 (F1.tr F2)).1) ((wA h2 (F1.tr F2)).2)).2 rfl
