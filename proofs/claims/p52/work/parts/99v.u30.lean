/-! The class: its calls that read a value. -/
theorem hsv_at {S : SV} {v j : Nat} (h : j < 1000) : hsv S v j = sHs S (1000 * v + j) := if_pos h
theorem ofv_at {S : SV} {v j : Nat} (h : j < 1000) : ofv S v j = sOf S (1000 * v + j) := if_pos h
theorem elv_at {S : SV} {v j : Nat} (h : j < 64) : elv S v j = sEl S (64 * v + j) := if_pos h
theorem ct_hsv {S : SV} {v l b : Nat} : ct (hsv S v) l b = ct (fun j => sHs S (1000 * v + j)) l b := sumN_c 1000 (fun j hj => by unfold ctK; rw [hsv_at hj])
theorem lvF_hl {S : SV} {v key : Nat} : ∀ m l, lvF S v key m l = hlF (hsv S v) key m l := by
  intro m
  induction m with
  | zero => intro l; rfl
  | succ m ih =>
    intro l
    rw [lvF, hlF, alN_ct, ct_hsv, ih]
section HLD
variable {G : GG} {d bc bs : Nat} {h : Hp} {Q : Pst} {M : Nat} {hs : Nat → Bool} {of : Nat → Int32} {mn : Nat → Nat}
theorem hold_el {key : Nat} (T : MTf h M hs of mn) (hk : key < 1000) (hh : hs key = true) : ∃ x s, KN h (mn (sltN key (hlF hs key 4 0))) x ∧ WFN (mn (sltN key (hlF hs key 4 0))) x ∧ s < 40 ∧ slO x key = nI s ∧ elA x s = of key ∧ KN_lev x = hlF hs key 4 0 := by
  obtain ⟨-, a2, a3, a4⟩ := hlF_sp (hs := hs) (key := key) 4 0 rfl
  obtain ⟨x, hO, hx⟩ := T.p (key := key) _ (Nat.zero_le _) a2 a3
  obtain ⟨i, b1, b2, b3, -⟩ := hx.here a2 hk hh a4
  exact ⟨x, i, hO, hx.wf, b1, b2, b3, hx.lev⟩
/-- where a key is, whatever number it is -/
theorem c_holdA {u : Int32} {j : Nat} (T : MTf h M hs of mn) (hu : ∀ n, n < 2 ^ 31 → ixB u n = true → u = nI j ∧ j < n) (hd : 5 ≤ d) (hno : (ixB u 1000 && hs j) = false → Q (oRet (vr none)) h) (hyes : ixB u 1000 = true → u = nI j → j < 1000 → hs j = true → Q (oRet (vr (some (nm 45 (mn (sltN j (hlF hs j 4 0))))))) h) : WP G m_X2_holderOf d 0 (aargs 0 [vr (some (nm 45 (mn 0))), vi u]) [] h bc bs Q := by
  cases hb : ixB u 1000 with
  | false => exact c_X2_holderNo hb (hno (by rw [hb]; rfl))
  | true =>
    obtain ⟨e, hj⟩ := hu 1000 (by decide) hb
    subst e
    refine c_X2_holderOf0 (by decide) hj T.p hd ?_
    cases hh : hs j with
    | false => rw [if_neg (by decide)]; exact hno (by rw [hb, hh]; rfl)
    | true => rw [if_pos rfl]; exact hyes hb rfl hj hh
end HLD
theorem fsR_n {f : Nat → Int32} {u : Int32} : ∀ n i, (∀ j, i ≤ j → j < i + n → ¬ f j = u) → fsR f u n i = -1 := by
  intro n
  induction n with
  | zero => intro i _; rfl
  | succ n ih =>
    intro i h
    rw [fsR, if_neg (h i (Nat.le_refl _) (by omega))]
    exact ih (i + 1) (fun j h1 h2 => h j (by omega) (by omega))
theorem fsR_y {f : Nat → Int32} {u : Int32} : ∀ n i, (∃ j, i ≤ j ∧ j < i + n ∧ f j = u) → ∃ j, i ≤ j ∧ j < i + n ∧ fsR f u n i = nI j ∧ f j = u := by
  intro n
  induction n with
  | zero => rintro i ⟨j, h1, h2, -⟩; omega
  | succ n ih =>
    rintro i ⟨j, h1, h2, h3⟩
    rw [fsR]
    by_cases e : f i = u
    · rw [if_pos e]; exact ⟨i, Nat.le_refl _, by omega, rfl, e⟩
    · rw [if_neg e]
      obtain ⟨k, k1, k2, k3⟩ := ih (i + 1) ⟨j, by
        by_cases z : j = i
        · rw [z] at h3; exact absurd h3 e
        · omega, by omega, h3⟩
      exact ⟨k, by omega, by omega, k3⟩
theorem PVi.lt {S : SV} {k : Nat} (H : PVi (vp S k)) : sSz S k ≤ 64 := H.2.1
/-- where a plain row holds a key or a place, whatever number it is -/
theorem c_slotA {G : GG} {d bc bs : Nat} {h : Hp} {Q : Pst} {S : SV} {k : Nat} {x : KUS} {w : Int32} {j : Nat} (hP : PVi (vp S k)) (hO : KU h k x) (hs : KU_sz x = sSz S k) (hx : VAv h (vp S k) x ∨ VAo h k (vp S k) x ∨ VAx (vp S k) x ∨ VAm h (vp S k) x) (hw : ∀ n, n < 2 ^ 31 → ixB w n = true → w = nI j ∧ j < n)
    (hno : hasB S k w j = false → Q (oRet (vi (-1))) h) (hyes : hasB S k w j = true → ∀ s q n, KU_pe x = some q → h_k h q = 101 → h_n h q = n → s < n → n ≤ 64 → h_I h q s = getV S k j → Q (oRet (vi (nI s))) h) : WP G m_X8_plainSlotOf d 0 (aargs 0 [vr (some (nm 42 k)), vi w]) [] h bc bs Q := by
  have h64 := hP.2.1
  have hv : sTy S k ≠ 109 → KU_pk x = none → (0 < sSz S k → ∃ q n, KU_pe x = some q ∧ h_k h q = 101 ∧ h_n h q = n ∧ (sSz S k ≤ n ∧ n ≤ 64) ∧ ∀ i, i < sSz S k → h_I h q i = elv S k i) → WP G m_X8_plainSlotOf d 0 (aargs 0 [vr (some (nm 42 k)), vi w]) [] h bc bs Q := fun h9 hpk hpe => by
    have e1 : hasB S k w j = ixB w (sSz S k) := if_neg h9
    refine c_X8_slotV (k := j) hO (by rw [hs]; exact hw _ (by have : sSz S k ≤ 64 := h64; omega)) hpk (by rw [hs]; exact h64) (by rw [hs]; exact fun z => (hpe z).elim fun q z => z.elim fun n z => ⟨q, n, z.1, z.2.1, z.2.2.1, z.2.2.2.1⟩) ?_
    rw [hs, ← e1]
    cases hb : hasB S k w j with
    | false => rw [if_neg (by decide)]; exact hno hb
    | true =>
      rw [if_pos rfl]
      rw [e1] at hb
      obtain ⟨-, hj⟩ := hw _ (by have : sSz S k ≤ 64 := h64; omega) hb
      obtain ⟨q, n, q1, q2, q3, q4, q5⟩ := hpe (by omega)
      exact hyes (by rw [e1]; exact hb) j q n q1 q2 q3 (by omega) q4.2 ((q5 j hj).trans ((elv_at (by have : sSz S k ≤ 64 := h64; omega)).trans (show _ = getV S k j from (if_neg h9).symm)))
  rcases hx with ⟨a1, a2, a3, a4, a, a5, a6⟩ | ⟨a1, a2, a3, a4, a5, a6, a7, a8⟩ | ⟨a1, a2, a3, a4, a5⟩ | ⟨a1, a2, a3, a, b, L, f, g, a4, a5, a6, a7, a8⟩
  · exact hv (by rw [show sTy S k = 118 from a1]; decide) a4 (fun _ => ⟨_, _, a5, a6.1, a6.2.1, ⟨Nat.le_refl _, h64⟩, a6.2.2⟩)
  · exact hv (by rw [show sTy S k = 111 from a1]; decide) a4 (fun _ => ⟨_, _, a5, a6, a7, ⟨h64, Nat.le_refl _⟩, a8⟩)
  · exact hv (by rw [show sTy S k = 120 from a1]; decide) a4 (fun z => by have : sSz S k = 0 := a5; omega)
  · have ty : sTy S k = 109 := a1
    have e1 : hasB S k w j = (ixB w 1000 && sHs S (1000 * k + j)) := if_pos ty
    have e2 : getV S k j = sOf S (1000 * k + j) := if_pos ty
    refine c_X8_slotM hO a4 a6 h64 ?_
    cases hb : hasB S k w j with
    | false =>
      rw [fsR_n _ _ (fun i _ hi z => ?_)]
      · exact hno hb
      · obtain ⟨b1, b2, b3, b4⟩ := a8.1 i (by omega)
        rw [b3] at z
        have hi : ixB w 1000 = true := by rw [← z]; exact ixB_of b1 (by decide)
        obtain ⟨c1, c2⟩ := hw 1000 (by decide) hi
        have : L i = j := nI_j (by omega) (by omega) (z.trans c1)
        rw [this] at b2
        have b5 : sHs S (1000 * k + j) = true := (hsv_at c2).symm.trans b2
        rw [e1, hi, b5] at hb; cases hb
    | true =>
      rw [e1, Bool.and_eq_true] at hb
      obtain ⟨c1, c2⟩ := hw 1000 (by decide) hb.1
      obtain ⟨i, i1, i2⟩ := a8.2.2 j c2 ((hsv_at c2).trans hb.2)
      obtain ⟨s, s1, s2, s3, s4⟩ := fsR_y (f := f) (u := w) (p_sz (vp S k)) 0 ⟨i, by omega, by omega, by rw [(a8.1 i i1).2.2.1, i2, c1]⟩
      rw [s3]
      obtain ⟨b1, b2, b3, b4⟩ := a8.1 s (by omega)
      have : L s = j := nI_j (by omega) (by omega) (by rw [← b3, s4, c1])
      refine hyes (by rw [e1, Bool.and_eq_true]; exact hb) s _ _ a5 a7.1 a7.2.1 (by omega) h64 ?_
      rw [a7.2.2 s (by omega), b4, this, e2]
      exact ofv_at c2
set_option maxRecDepth 100000 in
set_option maxHeartbeats 4000000 in
theorem c_X11_getPlain {G : GG} {d bc bs : Nat} {h : Hp} {Q : Pst} {S : SV} {M : Nat} (hS : SVI S) (hC : CV h S M) (hr : sMd S < 700000) {u : Int32} {k : Nat} (hu : ixB u (sNv S) = true → u = nI k ∧ k < sNv S) {w : Int32} {j : Nat} (hw : ∀ n, n < 2 ^ 31 → ixB w n = true → w = nI j ∧ j < n) (hd : 10 ≤ d) (hbc : 6 ≤ bc) (hbs : 40 ≤ bs) (hq : KOV Q h ["java/lang/IndexOutOfBoundsException", "java/util/NoSuchElementException"] M (o_get S u k w j)) : WP G m_X11_getPlain d 0 (aargs 0 [vr (some (nm 40 0)), vi u, vi w]) [] h bc bs Q := by
  have q8 : clN 10 = 5 := rfl
  have hn60 := hS.1
  obtain ⟨K, fK⟩ := hC.2.2.2.2.2.2
  refine wp_sub [(0, vr (some (nm 40 0))), (1, vi u), (2, vi w)] (fun _ hz => hz) ?_
  refine wp_aload_n (i := 0) dX11_getPlain_0 rfl rfl ?_
  refine wp_iload_n (i := 1) dX11_getPlain_1 rfl rfl ?_
  refine wp_cV (y' := m_X11_valueNumbered) 12 [vi u] [] 1 6 dX11_getPlain_2 ml_X11_87 im_X11_valueNumbered se_X11_valueNumbered (by decide) hC.1.1.1 ok_X11_valueNumbered rfl (Nat.le_of_ble_eq_true rfl) rfl (Nat.le_of_ble_eq_true rfl) (d' := d - 1) (by omega) (by omega) (by omega) (c_X11_valueNumbered hC.1 (by omega) (v := u) (t := k) hu (by omega) (by omega) (by omega) (fun g_s => cont_thr rfl ?_) (fun b_s eu hk => cont_ret ?_))
  · rw [show o_get S u k w j = (nI 1, nI 0, S) from by unfold o_get; rw [if_pos (by rw [g_s]; rfl)]] at hq
    exact (hq h M (Nat.le_refl _) (by omega) hC FRV.rf).1 0 _ rfl rfl
  · subst eu
    obtain ⟨⟨x, hO, hsz, hx⟩, hT⟩ := hC.2.2.1 k hk
    have hP := hS.2.1 k hk
    have hkd := VAP.kd hx
    have hk4 : KU_kd x < 4 := by rw [hkd]; exact (kdN_v hP.1).2.2.2.2.1
    have hz64 : sSz S k ≤ 64 := hP.2.1
    have hzs : KU_sz x = sSz S k := hsz
    refine wp_astore_n (i := 3) (lv' := [(3, vr (some (nm 42 k))), (0, vr (some (nm 40 0))), (1, vi (nI k)), (2, vi w)]) dX11_getPlain_5 rfl (by decide) rfl ?_
    refine wp_aload_n (i := 3) dX11_getPlain_6 rfl rfl ?_
    refine wp_iload_n (i := 2) dX11_getPlain_7 rfl rfl ?_
    refine wp_cV (y' := m_X8_plainSlotOf) 10 [vi w] [] 0 0 dX11_getPlain_8 ml_X11_213 im_X8_plainSlotOf se_X8_plainSlotOf (by decide) hO.k0 ok_X8_plainSlotOf rfl (Nat.le_of_ble_eq_true rfl) rfl (Nat.le_of_ble_eq_true rfl) (d' := d - 1) (by omega) (Nat.zero_le _) (Nat.zero_le _) (c_slotA (j := j) hP hO hzs hx hw (fun g_h => cont_ret ?_) (fun b_h s q n q1 q2 q3 q4 q5 q6 => cont_ret ?_))
    · skip
      refine wp_istore (i := 4) (lv' := [(4, vi (-1)), (3, vr (some (nm 42 k))), (0, vr (some (nm 40 0))), (1, vi (nI k)), (2, vi w)]) dX11_getPlain_11 (by decide) rfl ?_
      refine wp_iload (i := 4) dX11_getPlain_13 rfl ?_
      refine wp_iconst (-1) dX11_getPlain_15 (by decide) ?_
      refine wp_icmp_ne 29 dX11_getPlain_16 (by decide) (fun c_16 => absurd c_16 (fun z => z rfl)) (fun c_16 => ?_)
      refine wp_throwNL dX11_getPlain_19 dX11_getPlain_22 dX11_getPlain_23 dX11_getPlain_25 dX11_getPlain_28 rfl sr_X11_232 rfl (by omega) (by omega) (by omega) ?_
      rw [show o_get S (nI k) k w j = (nI 2, nI 0, S) from by unfold o_get; rw [if_neg (by rw [b_s]; decide), if_pos (by rw [g_h]; rfl)]] at hq
      exact (hq h M (Nat.le_refl _) (by omega) hC FRV.rf).1 1 _ rfl rfl
    · have ns : ¬ nI s = -1 := fun z => by
        have := congrArg Int32.toInt z
        rw [nI_toInt (by omega)] at this
        have e1 : (-1 : Int32).toInt = -1 := by decide
        omega
      refine wp_istore (i := 4) (lv' := [(4, vi (nI s)), (3, vr (some (nm 42 k))), (0, vr (some (nm 40 0))), (1, vi (nI k)), (2, vi w)]) dX11_getPlain_11 (by decide) rfl ?_
      refine wp_iload (i := 4) dX11_getPlain_13 rfl ?_
      refine wp_iconst (-1) dX11_getPlain_15 (by decide) ?_
      refine wp_icmp_ne 29 dX11_getPlain_16 (by decide) (fun c_16 => ?_) (fun c_16 => absurd c_16 (ns))
      refine wp_aload_n (i := 3) dX11_getPlain_29 rfl rfl ?_
      refine wp_iload (i := 4) dX11_getPlain_30 rfl ?_
      refine wp_cV (y' := m_X8_plainElementAt) 10 [vi (nI s)] [] 0 0 dX11_getPlain_32 ml_X11_234 im_X8_plainElementAt se_X8_plainElementAt (by decide) hO.k0 ok_X8_plainElementAt rfl (Nat.le_of_ble_eq_true rfl) rfl (Nat.le_of_ble_eq_true rfl) (d' := d - 1) (by omega) (Nat.zero_le _) (Nat.zero_le _) (c_X8_plainElementAt hO q1 (show PRr h q n (h_I h q) from ⟨q2, q3, fun _ _ => rfl⟩) q5 q4 (cont_ret ?_))
      rw [q6]
      refine wp_ireturn dX11_getPlain_35 rfl ?_
      rw [show o_get S (nI k) k w j = (nI 0, getV S k j, S) from by unfold o_get; rw [if_neg (by rw [b_s]; decide), if_neg (by rw [b_h]; decide)]] at hq
      exact (hq h M (Nat.le_refl _) (by omega) (hC) (FRV.rf)).2 rfl
theorem hasB_m {S : SV} {k j : Nat} {w : Int32} (ht : sTy S k = 109) (hw : ∀ n, n < 2 ^ 31 → ixB w n = true → w = nI j ∧ j < n) : hasB S k w j = (ixB w 1000 && hsv S k j) := by
  rw [show hasB S k w j = (ixB w 1000 && sHs S (1000 * k + j)) from if_pos ht]
  cases e : ixB w 1000 with
  | false => rfl
  | true => rw [hsv_at (hw 1000 (by decide) e).2]
theorem VAP.top {h : Hp} {S : SV} {k : Nat} {x : KUS} (hx : VAv h (vp S k) x ∨ VAo h k (vp S k) x ∨ VAx (vp S k) x ∨ VAm h (vp S k) x) (hv : pvec (vp S k)) : KU_tp x = some (nm 45 (ndv S k (rtS (sSz S k)))) := by
  rcases hv with z | z
  · exact (VAP.v hx z).2.2.1
  · exact (VAP.o hx z).2.2.1
theorem PVi.pv {S : SV} {k : Nat} (H : PVi (vp S k)) (h0 : 0 < sSz S k) (hm : sTy S k ≠ 109) : pvec (vp S k) := by
  rcases H.1 with z | z | z | z
  · exact Or.inl z
  · exact Or.inr z
  · exact absurd z hm
  · have : sSz S k = 0 := H.2.2.1 z; omega
set_option maxRecDepth 100000 in
set_option maxHeartbeats 4000000 in
theorem c_X11_get {G : GG} {d bc bs : Nat} {h : Hp} {Q : Pst} {S : SV} {M : Nat} (hS : SVI S) (hC : CV h S M) (hr : sMd S < 700000) {u : Int32} {k : Nat} (hu : ixB u (sNv S) = true → u = nI k ∧ k < sNv S) {w : Int32} {j : Nat} (hw : ∀ n, n < 2 ^ 31 → ixB w n = true → w = nI j ∧ j < n) (hd : 10 ≤ d) (hbc : 6 ≤ bc) (hbs : 40 ≤ bs) (hq : KOV Q h ["java/lang/IndexOutOfBoundsException", "java/util/NoSuchElementException"] M (o_get S u k w j)) : WP G m_X11_get d 0 (aargs 0 [vr (some (nm 40 0)), vi u, vi w]) [] h bc bs Q := by
  have q8 : clN 10 = 5 := rfl
  have hn60 := hS.1
  obtain ⟨K, fK⟩ := hC.2.2.2.2.2.2
  refine wp_sub [(0, vr (some (nm 40 0))), (1, vi u), (2, vi w)] (fun _ hz => hz) ?_
  refine wp_aload_n (i := 0) dX11_get_0 rfl rfl ?_
  refine wp_iload_n (i := 1) dX11_get_1 rfl rfl ?_
  refine wp_cV (y' := m_X11_valueNumbered) 12 [vi u] [] 1 6 dX11_get_2 ml_X11_87 im_X11_valueNumbered se_X11_valueNumbered (by decide) hC.1.1.1 ok_X11_valueNumbered rfl (Nat.le_of_ble_eq_true rfl) rfl (Nat.le_of_ble_eq_true rfl) (d' := d - 1) (by omega) (by omega) (by omega) (c_X11_valueNumbered hC.1 (by omega) (v := u) (t := k) hu (by omega) (by omega) (by omega) (fun g_s => cont_thr rfl ?_) (fun b_s eu hk => cont_ret ?_))
  · rw [show o_get S u k w j = (nI 1, nI 0, S) from by unfold o_get; rw [if_pos (by rw [g_s]; rfl)]] at hq
    exact (hq h M (Nat.le_refl _) (by omega) hC FRV.rf).1 0 _ rfl rfl
  · subst eu
    obtain ⟨⟨x, hO, hsz, hx⟩, hT⟩ := hC.2.2.1 k hk
    have hP := hS.2.1 k hk
    have hkd := VAP.kd hx
    have hk4 : KU_kd x < 4 := by rw [hkd]; exact (kdN_v hP.1).2.2.2.2.1
    have hz64 : sSz S k ≤ 64 := hP.2.1
    have hzs : KU_sz x = sSz S k := hsz
    refine wp_astore_n (i := 3) (lv' := [(3, vr (some (nm 42 k))), (0, vr (some (nm 40 0))), (1, vi (nI k)), (2, vi w)]) dX11_get_5 rfl (by decide) rfl ?_
    refine wp_aload_n (i := 3) dX11_get_6 rfl rfl ?_
    refine wp_get 10 0 (vi (nI (KU_kd x))) dX11_get_7 hO.k0 (by decide) (by decide) fl_X11_179 (congrArg (fun z => toV (vi z)) (hO.f_kd)) ?_
    refine wp_iconst (nI 2) dX11_get_10 (by decide) ?_
    refine wp_icmp_neN 51 dX11_get_11 (by decide) (by omega) (by decide) (fun c_11 => ?_) (fun c_11 => ?_)
    · have ht : sTy S k ≠ 109 := fun z => by have := (kdN_v hP.1).2.2.1.mpr z; have : KU_kd x = kdN (sTy S k) := hkd; omega
      refine wp_aload_n (i := 3) dX11_get_51 rfl rfl ?_
      refine wp_iload_n (i := 2) dX11_get_52 rfl rfl ?_
      refine wp_cS (y' := m_X11_refusePlace) [vr (some (nm 42 k)), vi w] [] 1 6 dX11_get_53 ml_X11_126 st_X11_refusePlace ok_X11_refusePlace rfl (Nat.le_of_ble_eq_true rfl) rfl (Nat.le_of_ble_eq_true rfl) (d' := d - 1) (by omega) (by omega) (by omega) (c_X11_refusePlace hO (by omega) (by omega) (by omega) (by omega) (fun g_p => cont_thr rfl ?_) (fun b_p => cont_void ?_))
      · rw [hzs] at g_p
        have e_h : hasB S k w j = false := (if_neg ht).trans g_p
        rw [show o_get S (nI k) k w j = (nI 2, nI 0, S) from by unfold o_get; rw [if_neg (by rw [b_s]; decide), if_pos (by rw [e_h]; rfl)]] at hq
        exact (hq h M (Nat.le_refl _) (by omega) hC FRV.rf).1 1 _ rfl rfl
      · rw [hzs] at b_p
        have e_h : hasB S k w j = true := (if_neg ht).trans b_p
        obtain ⟨ei, hj⟩ := hw _ (by omega) b_p
        subst ei
        have hv9 := hP.pv (by omega) ht
        have v1 := VAP.top hx hv9
        refine wp_aload_n (i := 3) dX11_get_56 rfl rfl ?_
        refine wp_get 10 1 (vr (some (nm 45 (ndv S k (rtS (sSz S k)))))) dX11_get_57 hO.k0 (by decide) (by decide) fl_X11_116 (congrArg (fun z => toV (vr z)) (hO.o_tp.trans v1)) ?_
        refine wp_aload_n (i := 3) dX11_get_60 rfl rfl ?_
        refine wp_get 10 2 (vi (nI (sSz S k))) dX11_get_61 hO.k0 (by decide) (by decide) fl_X11_103 (congrArg (fun z => toV (vi z)) (hO.f_sz.trans (congrArg nI hsz))) ?_
        refine wp_iload_n (i := 2) dX11_get_64 rfl rfl ?_
        refine wp_cS (y' := m_X9_elementIn) [vr (some (nm 45 (ndv S k (rtS (sSz S k))))), vi (nI (sSz S k)), vi (nI j)] [] 0 0 dX11_get_65 ml_X11_129 st_X9_elementIn ok_X9_elementIn rfl (Nat.le_of_ble_eq_true rfl) rfl (Nat.le_of_ble_eq_true rfl) (d' := d - 1) (by omega) (Nat.zero_le _) (Nat.zero_le _) (c_elIn (hT.1 hv9).1 hj (by omega) (by omega) (cont_ret ?_))
        refine wp_ireturn dX11_get_68 rfl ?_
        rw [show p_el (vp S k) j = getV S k j from (elv_at (by omega)).trans (if_neg ht).symm]
        rw [show o_get S (nI k) k (nI j) j = (nI 0, getV S k j, S) from by unfold o_get; rw [if_neg (by rw [b_s]; decide), if_neg (by rw [e_h]; decide)]] at hq
        exact (hq h M (Nat.le_refl _) (by omega) (hC) (FRV.rf)).2 rfl
    · have ht : sTy S k = 109 := (kdN_v hP.1).2.2.1.mp (by omega)
      obtain ⟨-, -, v1, -⟩ := VAP.m hx ht
      refine wp_aload_n (i := 3) dX11_get_14 rfl rfl ?_
      refine wp_get 10 1 (vr (some (nm 45 (mnv S k 0)))) dX11_get_15 hO.k0 (by decide) (by decide) fl_X11_116 (congrArg (fun z => toV (vr z)) (hO.o_tp.trans v1)) ?_
      refine wp_iload_n (i := 2) dX11_get_18 rfl rfl ?_
      refine wp_cS (y' := m_X2_holderOf) [vr (some (nm 45 (mnv S k 0))), vi w] [] 0 0 dX11_get_19 ml_X11_194 st_X2_holderOf ok_X2_holderOf rfl (Nat.le_of_ble_eq_true rfl) rfl (Nat.le_of_ble_eq_true rfl) (d' := d - 1) (by omega) (Nat.zero_le _) (Nat.zero_le _) (c_holdA (hT.2 ht) hw (by omega) (fun g_h => cont_ret ?_) (fun b_h1 eh b_h2 b_h3 => cont_ret ?_))
      · have e_h := (hasB_m ht hw).trans g_h
        refine wp_astore (i := 4) (lv' := [(4, vr none), (3, vr (some (nm 42 k))), (0, vr (some (nm 40 0))), (1, vi (nI k)), (2, vi w)]) dX11_get_22 (by decide) rfl ?_
        refine wp_aload (i := 4) dX11_get_24 rfl ?_
        refine wp_ifnonnull 39 dX11_get_26 (by decide) (fun a_26 c_26 => absurd c_26 (fun z => nomatch z)) (fun c_26 => ?_)
        refine wp_throwNL dX11_get_29 dX11_get_32 dX11_get_33 dX11_get_35 dX11_get_38 rfl sr_X11_224 rfl (by omega) (by omega) (by omega) ?_
        rw [show o_get S (nI k) k w j = (nI 2, nI 0, S) from by unfold o_get; rw [if_neg (by rw [b_s]; decide), if_pos (by rw [e_h]; rfl)]] at hq
        exact (hq h M (Nat.le_refl _) (by omega) hC FRV.rf).1 1 _ rfl rfl
      · have e_h := (hasB_m ht hw).trans (show (ixB w 1000 && hsv S k j) = true by rw [b_h1, show hsv S k j = true from b_h3]; rfl)
        subst eh
        obtain ⟨y, s, hy, hwf, hs40, hsl, hel, hlv⟩ := hold_el (hT.2 ht) b_h2 b_h3
        refine wp_astore (i := 4) (lv' := [(4, vr (some (nm 45 (mnv S k (sltN j (hlF (hsv S k) j 4 0)))))), (3, vr (some (nm 42 k))), (0, vr (some (nm 40 0))), (1, vi (nI k)), (2, vi (nI j))]) dX11_get_22 (by decide) rfl ?_
        refine wp_aload (i := 4) dX11_get_24 rfl ?_
        refine wp_ifnonnull 39 dX11_get_26 (by decide) (fun a_26 c_26 => ?_) (fun c_26 => absurd c_26 (fun z => nomatch z))
        refine wp_aload (i := 4) dX11_get_39 rfl ?_
        refine wp_aload (i := 4) dX11_get_41 rfl ?_
        refine wp_iload_n (i := 2) dX11_get_43 rfl rfl ?_
        refine wp_cV (y' := m_X3_slotOf) 5 [vi (nI j)] [vr (some (nm 45 (mnv S k (sltN j (hlF (hsv S k) j 4 0)))))] 0 0 dX11_get_44 ml_X11_202 im_X3_slotOf se_X3_slotOf (by decide) hy.k0 ok_X3_slotOf rfl (Nat.le_of_ble_eq_true rfl) rfl (Nat.le_of_ble_eq_true rfl) (d' := d - 1) (by omega) (Nat.zero_le _) (Nat.zero_le _) (c_X3_slotOf hy hwf (by omega) (by omega) (cont_ret ?_))
        rw [hsl]
        refine wp_cV (y' := m_X3_elementAt) 5 [vi (nI s)] [] 0 0 dX11_get_47 ml_X11_207 im_X3_elementAt se_X3_elementAt (by decide) hy.k0 ok_X3_elementAt rfl (Nat.le_of_ble_eq_true rfl) rfl (Nat.le_of_ble_eq_true rfl) (d' := d - 1) (by omega) (Nat.zero_le _) (Nat.zero_le _) (c_X3_elementAt hy hwf.2.1 (p := s) (by omega) (cont_ret ?_))
        rw [hel]
        refine wp_ireturn dX11_get_50 rfl ?_
        rw [show p_of (vp S k) j = getV S k j from (ofv_at b_h2).trans (if_pos ht).symm]
        rw [show o_get S (nI k) k (nI j) j = (nI 0, getV S k j, S) from by unfold o_get; rw [if_neg (by rw [b_s]; decide), if_neg (by rw [e_h]; decide)]] at hq
        exact (hq h M (Nat.le_refl _) (by omega) (hC) (FRV.rf)).2 rfl
set_option maxRecDepth 100000 in
set_option maxHeartbeats 4000000 in
theorem c_X11_made {G : GG} {d bc bs : Nat} {h : Hp} {Q : Pst} {S : SV} {M : Nat} (hC : CV h S M) (hq : Q (oRet (vl (nI (sMd S)).toInt64)) h) : WP G m_X11_made d 0 (aargs 0 [vr (some (nm 40 0))]) [] h bc bs Q := by
  refine wp_sub [(0, vr (some (nm 40 0)))] (fun _ hz => hz) ?_
  refine wp_aload_n (i := 0) dX11_made_0 rfl rfl ?_
  refine wp_get 12 2 (vr (some (nm 40 2))) dX11_made_1 hC.1.1.1 (by decide) (by decide) fl_X11_22 (congrArg (fun z => toV (vr z)) (hC.1.1.2.2.2.1)) ?_
  refine wp_get 6 0 (vl ((nI (sMd S)).toInt64)) dX11_made_4 hC.2.1.1 (by decide) (by decide) fl_X11_168 (congrArg (fun z => toV (vl z)) (hC.2.1.2)) ?_
  refine wp_lreturn dX11_made_7 rfl ?_
  exact hq
set_option maxRecDepth 100000 in
set_option maxHeartbeats 4000000 in
theorem c_X11_levelOf {G : GG} {d bc bs : Nat} {h : Hp} {Q : Pst} {S : SV} {M : Nat} (hS : SVI S) (hC : CV h S M) (hr : sMd S < 700000) {u : Int32} {k : Nat} (hu : ixB u (sNv S) = true → u = nI k ∧ k < sNv S) {w : Int32} {j : Nat} (hw : ∀ n, n < 2 ^ 31 → ixB w n = true → w = nI j ∧ j < n) (hd : 10 ≤ d) (hbc : 6 ≤ bc) (hbs : 40 ≤ bs) (hq : KOV Q h ["java/lang/IndexOutOfBoundsException", "java/lang/UnsupportedOperationException", "java/util/NoSuchElementException"] M (o_levelOf S u k w j)) : WP G m_X11_levelOf d 0 (aargs 0 [vr (some (nm 40 0)), vi u, vi w]) [] h bc bs Q := by
  have q8 : clN 10 = 5 := rfl
  have hn60 := hS.1
  obtain ⟨K, fK⟩ := hC.2.2.2.2.2.2
  refine wp_sub [(0, vr (some (nm 40 0))), (1, vi u), (2, vi w)] (fun _ hz => hz) ?_
  refine wp_aload_n (i := 0) dX11_levelOf_0 rfl rfl ?_
  refine wp_iload_n (i := 1) dX11_levelOf_1 rfl rfl ?_
  refine wp_cV (y' := m_X11_valueNumbered) 12 [vi u] [] 1 6 dX11_levelOf_2 ml_X11_87 im_X11_valueNumbered se_X11_valueNumbered (by decide) hC.1.1.1 ok_X11_valueNumbered rfl (Nat.le_of_ble_eq_true rfl) rfl (Nat.le_of_ble_eq_true rfl) (d' := d - 1) (by omega) (by omega) (by omega) (c_X11_valueNumbered hC.1 (by omega) (v := u) (t := k) hu (by omega) (by omega) (by omega) (fun g_s => cont_thr rfl ?_) (fun b_s eu hk => cont_ret ?_))
  · rw [show o_levelOf S u k w j = (nI 1, nI 0, S) from by unfold o_levelOf; rw [if_pos (by rw [g_s]; rfl)]] at hq
    exact (hq h M (Nat.le_refl _) (by omega) hC FRV.rf).1 0 _ rfl rfl
  · subst eu
    obtain ⟨⟨x, hO, hsz, hx⟩, hT⟩ := hC.2.2.1 k hk
    have hP := hS.2.1 k hk
    have hkd := VAP.kd hx
    have hk4 : KU_kd x < 4 := by rw [hkd]; exact (kdN_v hP.1).2.2.2.2.1
    have hz64 : sSz S k ≤ 64 := hP.2.1
    have hzs : KU_sz x = sSz S k := hsz
    refine wp_astore_n (i := 3) (lv' := [(3, vr (some (nm 42 k))), (0, vr (some (nm 40 0))), (1, vi (nI k)), (2, vi w)]) dX11_levelOf_5 rfl (by decide) rfl ?_
    refine wp_aload_n (i := 3) dX11_levelOf_6 rfl rfl ?_
    refine wp_iconst (nI 2) dX11_levelOf_7 (by decide) ?_
    refine wp_cS (y' := m_X11_refuseUnless) [vr (some (nm 42 k)), vi (nI 2)] [] 1 6 dX11_levelOf_8 ml_X11_95 st_X11_refuseUnless ok_X11_refuseUnless rfl (Nat.le_of_ble_eq_true rfl) rfl (Nat.le_of_ble_eq_true rfl) (d' := d - 1) (by omega) (by omega) (by omega) (c_X11_refuseUnless hO (k := 2) hk4 (by decide) (by omega) (by omega) (by omega) (fun g_k => cont_thr rfl ?_) (fun b_k => cont_void ?_))
    · have g_t : sTy S k ≠ 109 := fun z => g_k (hkd.trans ((kdN_v hP.1).2.2.1.mpr z))
      rw [show o_levelOf S (nI k) k w j = (nI 2, nI 0, S) from by unfold o_levelOf; rw [if_neg (by rw [b_s]; decide), if_pos g_t]] at hq
      exact (hq h M (Nat.le_refl _) (by omega) hC FRV.rf).1 1 _ rfl rfl
    · have ht : sTy S k = 109 := (kdN_v hP.1).2.2.1.mp (hkd.symm.trans b_k)
      obtain ⟨-, -, v1, a, b, L, f, g, v2, v3, v4, v5, v6⟩ := VAP.m hx ht
      refine wp_aload_n (i := 3) dX11_levelOf_11 rfl rfl ?_
      refine wp_get 10 1 (vr (some (nm 45 (mnv S k 0)))) dX11_levelOf_12 hO.k0 (by decide) (by decide) fl_X11_116 (congrArg (fun z => toV (vr z)) (hO.o_tp.trans v1)) ?_
      refine wp_iload_n (i := 2) dX11_levelOf_15 rfl rfl ?_
      refine wp_cS (y' := m_X2_holderOf) [vr (some (nm 45 (mnv S k 0))), vi w] [] 0 0 dX11_levelOf_16 ml_X11_194 st_X2_holderOf ok_X2_holderOf rfl (Nat.le_of_ble_eq_true rfl) rfl (Nat.le_of_ble_eq_true rfl) (d' := d - 1) (by omega) (Nat.zero_le _) (Nat.zero_le _) (c_holdA (hT.2 ht) hw (by omega) (fun g_h => cont_ret ?_) (fun b_h1 eh b_h2 b_h3 => cont_ret ?_))
      · have e_h := (hasB_m ht hw).trans g_h
        refine wp_astore (i := 4) (lv' := [(4, vr none), (3, vr (some (nm 42 k))), (0, vr (some (nm 40 0))), (1, vi (nI k)), (2, vi w)]) dX11_levelOf_19 (by decide) rfl ?_
        refine wp_aload (i := 4) dX11_levelOf_21 rfl ?_
        refine wp_ifnonnull 36 dX11_levelOf_23 (by decide) (fun a_23 c_23 => absurd c_23 (fun z => nomatch z)) (fun c_23 => ?_)
        refine wp_throwNL dX11_levelOf_26 dX11_levelOf_29 dX11_levelOf_30 dX11_levelOf_32 dX11_levelOf_35 rfl sr_X11_224 rfl (by omega) (by omega) (by omega) ?_
        rw [show o_levelOf S (nI k) k w j = (nI 3, nI 0, S) from by unfold o_levelOf; rw [if_neg (by rw [b_s]; decide), if_neg (fun z => z ht), if_pos (by rw [e_h]; rfl)]] at hq
        exact (hq h M (Nat.le_refl _) (by omega) hC FRV.rf).1 2 _ rfl rfl
      · have e_h := (hasB_m ht hw).trans (show (ixB w 1000 && hsv S k j) = true by rw [b_h1, show hsv S k j = true from b_h3]; rfl)
        subst eh
        obtain ⟨y, s, hy, hwf, hs40, hsl, hel, hlv⟩ := hold_el (hT.2 ht) b_h2 b_h3
        refine wp_astore (i := 4) (lv' := [(4, vr (some (nm 45 (mnv S k (sltN j (hlF (hsv S k) j 4 0)))))), (3, vr (some (nm 42 k))), (0, vr (some (nm 40 0))), (1, vi (nI k)), (2, vi (nI j))]) dX11_levelOf_19 (by decide) rfl ?_
        refine wp_aload (i := 4) dX11_levelOf_21 rfl ?_
        refine wp_ifnonnull 36 dX11_levelOf_23 (by decide) (fun a_23 c_23 => ?_) (fun c_23 => absurd c_23 (fun z => nomatch z))
        refine wp_aload (i := 4) dX11_levelOf_36 rfl ?_
        refine wp_get 5 0 (vi (nI (hlF (hsv S k) j 4 0))) dX11_levelOf_38 hy.k0 (by decide) (by decide) fl_X11_237 (congrArg (fun z => toV (vi z)) (hy.f_lev.trans (congrArg nI hlv))) ?_
        refine wp_ireturn dX11_levelOf_41 rfl ?_
        rw [← lvF_hl]
        rw [show o_levelOf S (nI k) k (nI j) j = (nI 0, nI (lvF S k j 4 0), S) from by unfold o_levelOf; rw [if_neg (by rw [b_s]; decide), if_neg (fun z => z ht), if_neg (by rw [e_h]; decide)]] at hq
        exact (hq h M (Nat.le_refl _) (by omega) (hC) (FRV.rf)).2 rfl
