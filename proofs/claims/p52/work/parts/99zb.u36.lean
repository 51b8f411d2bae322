/-! The class: its calls that change an open vector. -/
/-- the nodes that an open vector owns -/
def OWs (S : SV) (k j : Nat) : Prop := ∃ t, t < 21 ∧ ith t (sSz S k) = true ∧ owv S k t = true ∧ j = ndv S k t
def UN (S S' : SV) (k b : Nat) : Prop := b = nm 40 2 ∨ (45 ≤ b % 128 ∧ b % 128 ≤ 48 ∧ ((sMd S < b / 128 ∧ b / 128 ≤ sMd S') ∨ OWs S k (b / 128)))
section OPN
variable {G : GG} {d bc bs : Nat} {h : Hp} {Q : Pst} {S S' : SV} {M k pl n' : Nat} {el' : Nat → Int32}
theorem m1_ne (hk : k < 60) : decide (nI k = -1) = false := decide_eq_false (fun z => by
  have := congrArg Int32.toInt z
  rw [nI_toInt (by omega)] at this
  have e1 : (-1 : Int32).toInt = -1 := by decide
  omega)
theorem ruO_h (hk : k < 60) : ∀ t, ruO S k t = (ith t (sSz S k) && (!decide (nI k = -1) && owv S k t)) := fun t => by rw [m1_ne hk]; rfl
theorem OPN.V (hC : CV h S M) (hk : k < sNv S) (ht : sTy S k = 111) : VT h M (sSz S k) (ndv S k) (elv S k) (owv S k) (nI k) := by
  have := ((hC.2.2.1 k hk).2.1 (Or.inr ht)).1
  rw [show onr k (vp S k) = nI k from if_pos ht] at this
  exact this
theorem OPN.own (hS : SVI S) (hC : CV h S M) (hk : k < sNv S) (ht : sTy S k = 111) : ∀ j, OWs S k j → j ≤ sMd S ∧ ∀ w, w < sNv S → w ≠ k → ∀ σ, NG (vp S w) σ ≠ j := by
  rintro j ⟨t, t1, t2, t3, rfl⟩
  have hv : pvec (vp S k) := Or.inr ht
  have e : NG (vp S k) t = ndv S k t := NG_v hv t1 t2
  have pos : 0 < NG (vp S k) t := by rw [e]; exact (hS.2.1 k hk).2.2.2.2 hv t t1 t2
  refine ⟨(OPN.V hC hk ht).kle hC t1 t2, fun w hw hne σ => ?_⟩
  rw [← e]
  exact hS.2.2.2.2 k w t σ hk hw (fun z => hne z.symm) ht t1 t3 pos
theorem CHF.nq (hS : SVI S) (hC : CV h S M) (hk : k < sNv S) (ht : sTy S k = 111) (N : CHF S S' k pl n' el' (ruO S k)) (hp : pl < 64) : NDq h (sSz S k) (ndv S k) (ndv S' k) (ruO S k) pl (dOf n') := by
  obtain ⟨-, -, -, a, b, -⟩ := N
  have V := OPN.V hC hk ht
  have ri : ∀ i, ruO S k (psl pl i) = true → ith (psl pl i) (sSz S k) = true := fun i z => by unfold ruO at z; rw [Bool.and_eq_true] at z; exact z.1
  have d3 := dOf_b n'
  refine ⟨fun i i1 i2 => ⟨(a i i1 i2).2.1, fun z => hC.2.2.2.2.2.1 _ ((a i i1 i2).2.2 z).1⟩, fun i j i1 i2 i3 e => ?_⟩
  have lt := psl_m hp i1 i2 (by omega)
  have ai := a i i1 (by omega)
  have aj := a j (by omega) i3
  cases ei : ruO S k (psl pl i) with
  | true =>
    have li := V.kle hC (psl_lt hp) (ri i ei)
    rw [ai.2.1 ei] at e
    cases ej : ruO S k (psl pl j) with
    | true =>
      rw [aj.2.1 ej] at e
      have := hS.inj hk (Or.inr ht) _ _ (psl_lt hp) (psl_lt hp) (ri i ei) (ri j ej) e
      omega
    | false => have := (aj.2.2 ej).1; omega
  | false =>
    cases ej : ruO S k (psl pl j) with
    | true =>
      have lj := V.kle hC (psl_lt hp) (ri j ej)
      rw [aj.2.1 ej] at e
      have := (ai.2.2 ei).1; omega
    | false => exact b i j i1 i2 i3 ei ej e
theorem CHF.fr (N : CHF S S' k pl n' el' (ruO S k)) (hp : pl < 64) {b : Nat} (H : WPt (ndv S' k) pl (dOf n') b) : UN S S' k b := by
  obtain ⟨-, -, -, a, -⟩ := N
  rcases H with H | ⟨i, i1, i2, H⟩
  · exact Or.inl H
  · have ai := a i i1 i2
    obtain ⟨h1, h2, h3⟩ := H
    refine Or.inr ⟨h1, h2, ?_⟩
    rw [h3]
    cases e : ruO S k (psl pl i) with
    | true =>
      refine Or.inr ⟨psl pl i, psl_lt hp, ?_, ?_, ai.2.1 e⟩
      · unfold ruO at e; rw [Bool.and_eq_true] at e; exact e.1
      · unfold ruO at e; rw [Bool.and_eq_true] at e; exact e.2
    | false => exact Or.inl (ai.2.2 e)
theorem CHF.ob {h3 : Hp} (hS : SVI S) (hC : CV h S M) (hk : k < sNv S) (ht : sTy S k = 111) (N : CHF S S' k pl n' el' (ruO S k)) (hn : (n' = sSz S k ∧ pl < sSz S k) ∨ (n' = sSz S k + 1 ∧ pl = sSz S k)) (hn4 : n' ≤ 64) (F : Fr h h3 (WPt (ndv S' k) pl (dOf n'))) (O : ∀ i, 1 ≤ i → i ≤ dOf n' → h_I h3 (nm 45 (ndv S' k (psl pl i))) 1 = nI k) : ∀ s, s < 21 → ith s n' = true → OB (sNv S) (h_I h3 (nm 45 (ndv S' k s)) 1) := fun s hs hi => by
  have hp : pl < 64 := by omega
  by_cases q : offp pl s
  · have hi2 : ith s (sSz S k) = true := off_up hn hn4 s hs hi q
    rw [N.2.1 s hs q hi, ce_I (F _ (fun z => ?_))]
    · exact ((hC.2.2.1 k hk).2.1 (Or.inr ht)).2 s hs hi2
    · rcases z with z | ⟨i, i1, i2, z⟩
      · unfold nm at z; omega
      · have d3 := dOf_b n'
        have := nd_ne (OPN.V hC hk ht) (ruO_h (by have := hS.1; omega)) (hS.inj hk (Or.inr ht)) hp (N.nq hS hC hk ht hp) hs hi2 i1 i2 (q i i1 (by omega))
        have z3 := z.2.2
        unfold nm at z3; omega
  · obtain ⟨i, i1, i3, e⟩ := offp_not q
    rw [e] at hi ⊢
    exact Or.inr ⟨k, hk, O i i1 (by rw [ith_iff, psl_h hp i1 i3] at hi; exact hi.1)⟩
theorem c_moreO (hS : SVI S) (hC : CV h S M) (hk : k < sNv S) (ht : sTy S k = 111) (hr : sMd S < 700000) (hz : sSz S k < 64) {e : Int32} (N : CHF S S' k (sSz S k) (sSz S k + 1) (va_up (elv S k) (sSz S k) e) (ruO S k)) (hd : 8 ≤ d) (hbc : 12 ≤ bc) (hbs : 273 ≤ bs)
    (hq : ∀ h3, VT h3 M (sSz S k + 1) (ndv S' k) (va_up (elv S k) (sSz S k) e) (owv S' k) (nI k) → (∀ s, s < 21 → ith s (sSz S k + 1) = true → OB (sNv S) (h_I h3 (nm 45 (ndv S' k s)) 1)) → MKR h3 (sMd S') → Fr h h3 (UN S S' k) → Q (oRet (vr (some (nm 45 (ndv S' k (rtS (sSz S k + 1))))))) h3) : WP G m_X9_withOneMore d 0 (aargs 0 [vr (some (nm 40 2)), vr (some (nm 45 (ndv S k (rtS (sSz S k))))), vi (nI (sSz S k)), vi e, vi (nI k)]) [] h bc bs Q := by
  have h60 := hS.1
  refine c_X9_withOneMore (nd' := ndv S' k) (ow' := owv S' k) (c := sMd S) (OPN.V hC hk ht) (by omega) (ruO_h (by omega)) (hS.inj hk (Or.inr ht)) (fun t t1 t2 t3 => N.2.1 t t1 t3 t2) (N.nq hS hC hk ht hz) hC.2.1 hr (fun i i1 i2 => (N.2.2.2.1 i i1 i2).1) (fun t t3 => ?_) hd hbc hbs (fun h3 V3 O3 M3 F3 => ?_)
  · by_cases t1 : t < 21
    · exact N.2.2.1 t t1 t3
    · unfold owv; rw [if_neg t1, if_neg t1]
  · rw [rtS_p (Nat.lt_succ_self _)]
    exact hq h3 V3 (N.ob hS hC hk ht (Or.inr ⟨rfl, rfl⟩) (by omega) F3 O3) (by rw [N.2.2.2.2.2]; exact M3) (fun b hb => F3 b (fun z => hb (N.fr hz z)))
theorem c_otherO (hS : SVI S) (hC : CV h S M) (hk : k < sNv S) (ht : sTy S k = 111) (hr : sMd S < 700000) (hz : sSz S k ≤ 64) {j : Nat} (hj : j < sSz S k) {e : Int32} (N : CHF S S' k j (sSz S k) (va_up (elv S k) j e) (ruO S k)) (hd : 8 ≤ d) (hbc : 12 ≤ bc) (hbs : 273 ≤ bs)
    (hq : ∀ h3, VT h3 M (sSz S k) (ndv S' k) (va_up (elv S k) j e) (owv S' k) (nI k) → (∀ s, s < 21 → ith s (sSz S k) = true → OB (sNv S) (h_I h3 (nm 45 (ndv S' k s)) 1)) → MKR h3 (sMd S') → Fr h h3 (UN S S' k) → Q (oRet (vr (some (nm 45 (ndv S' k (rtS (sSz S k))))))) h3) : WP G m_X9_withOther d 0 (aargs 0 [vr (some (nm 40 2)), vr (some (nm 45 (ndv S k (rtS (sSz S k))))), vi (nI (sSz S k)), vi (nI j), vi e, vi (nI k)]) [] h bc bs Q := by
  have h60 := hS.1
  rw [show rtS (sSz S k) = psl j (dOf (sSz S k)) from (rtS_p hj).symm] at hq ⊢
  refine c_X9_withOther (nd' := ndv S' k) (ow' := owv S' k) (c := sMd S) (OPN.V hC hk ht) hj (by omega) (ruO_h (by omega)) (hS.inj hk (Or.inr ht)) (fun t t1 t2 t3 => N.2.1 t t1 t3 t2) (N.nq hS hC hk ht (by omega)) hC.2.1 hr (fun i i1 i2 => (N.2.2.2.1 i i1 i2).1) (fun t t3 => ?_) hd hbc hbs (fun h3 V3 O3 M3 F3 => ?_)
  · by_cases t1 : t < 21
    · exact N.2.2.1 t t1 t3
    · unfold owv; rw [if_neg t1, if_neg t1]
  · exact hq h3 V3 (N.ob hS hC hk ht (Or.inl ⟨rfl, hj⟩) (by omega) F3 O3) (by rw [N.2.2.2.2.2]; exact M3) (fun b hb => F3 b (fun z => hb (N.fr (by omega) z)))
theorem CV.chEnd {h3 h6 : Hp} (hS : SVI S) (hC : CV h S M) (hk : k < sNv S) (ht : sTy S k = 111) (N : CHF S S' k pl n' el' (ruO S k)) (V3 : VT h3 M n' (ndv S' k) el' (owv S' k) (nI k)) (O3 : ∀ s, s < 21 → ith s n' = true → OB (sNv S) (h_I h3 (nm 45 (ndv S' k s)) 1)) (M3 : MKR h3 (sMd S')) (F3 : Fr h h3 (UN S S' k)) (G6 : ∀ b, b ≠ nm 42 k → b ≠ nm 44 k → ce h6 b = ce h3 b) (K6 : KU h6 k (1, some (nm 45 (ndv S' k (rtS n'))), n', none, some (nm 44 k))) (k6 : h_k h6 (nm 44 k) = 101) (n6 : h_n h6 (nm 44 k) = 64) (e6 : ∀ j, j < n' → h_I h6 (nm 44 k) j = el' j) : CV h6 S' M ∧ FRV h h6 := by
  have ty : p_ty (vp S' k) = 111 := by show sTy S' k = 111; rw [N.1.2.1]; exact ht
  have sz : p_sz (vp S' k) = n' := N.1.2.2.1
  have el : p_el (vp S' k) = el' := N.1.2.2.2.1
  have g : ∀ r i, 45 ≤ r → r ≤ 48 → ce h6 (nm r i) = ce h3 (nm r i) := fun r i r1 r2 => G6 _ (by unfold nm; omega) (by unfold nm; omega)
  have F6 : Fr h h6 (UW9 S S' k (OWs S k)) := fun b hb => (G6 b (fun z => hb (Or.inr (Or.inl z))) (fun z => hb (Or.inr (Or.inr (Or.inl z))))).trans (F3 b (fun z => hb (z.elim Or.inl (fun z => Or.inr (Or.inr (Or.inr z))))))
  have nu : ∀ a, a = nm 40 0 ∨ a = nm 40 1 → ¬ UW9 S S' k (OWs S k) a := fun a ha z => by unfold UW9 at z; unfold nm at ha z; omega
  refine ⟨hC.upd N.1.1 (by rw [N.2.2.2.2.2]; omega) (fun v _ hv => N.1.2.2.2.2 v hv) (hC.1.frm (F6 _ (nu _ (Or.inl rfl))) (F6 _ (nu _ (Or.inr rfl)))) (M3.frm (G6 _ (by unfold nm; omega) (by unfold nm; omega))) ⟨_, K6, sz.symm, Or.inr (Or.inl ⟨ty, rfl, ?_, rfl, rfl, k6, n6, fun j hj => ?_⟩)⟩ ⟨fun _ => ⟨?_, fun s s1 s2 => ?_⟩, fun z => by rw [ty] at z; cases z⟩ hk F6 (OPN.own hS hC hk ht), FRV.of F6 (fun a ha => ?_)⟩
  · rw [sz]; rfl
  · rw [sz] at hj; rw [el]; exact e6 j hj
  · rw [sz, el, show onr k (vp S' k) = nI k from if_pos ty]
    exact V3.frm (fun s r _ _ r1 r2 => g r _ r1 r2)
  · rw [sz] at s2
    rw [ce_I (g 45 _ (by decide) (by decide))]; exact O3 s s1 s2
  · rcases ha with z | z | z | z
    · exact Or.inr (Or.inl z)
    · exact Or.inr (Or.inr (by rw [z]; unfold nm; omega))
    · exact Or.inr (Or.inr (by rw [z]; unfold nm; omega))
    · exact Or.inr (Or.inr ⟨by omega, z.2.1⟩)
theorem KU.wtp {v : Nat} {x : KUS} {t : Option Nat} (H : KU h v x) : KU (wR h (nm 42 v) 1 t) v (KU_utp x t) := ⟨H.1, H.2.1, by rw [gR_wR, if_pos ⟨rfl, rfl⟩], H.2.2.2.1, by rw [gR_wR, if_neg (fun z => absurd z.2 (by decide))]; exact H.2.2.2.2.1, by rw [gR_wR, if_neg (fun z => absurd z.2 (by decide))]; exact H.2.2.2.2.2⟩
theorem KU.wz {v z : Nat} {x : KUS} (H : KU h v x) : KU (wI h (nm 42 v) 2 (nI z)) v (KU_usz x z) := ⟨H.1, by rw [gI_wI, if_neg (fun z => absurd z.2 (by decide))]; exact H.2.1, H.2.2.1, by rw [gI_wI, if_pos ⟨rfl, rfl⟩], H.2.2.2.2.1, H.2.2.2.2.2⟩
theorem chX_a {e : Int32} (hz : sSz S k < 64) : CHF S (chX S k (sSz S k) e) k (sSz S k) (sSz S k + 1) (va_up (elv S k) (sSz S k) e) (ruO S k) := by
  have e0 : chX S k (sSz S k) e = chS (chE S k (sSz S k) e) k (sSz S k) (sSz S k) 21 := if_neg (fun z => Nat.lt_irrefl _ z.1)
  rw [e0]
  exact CHF.mk (Nat.lt_succ_self _) (by omega) (Or.inr ⟨rfl, rfl⟩) rfl rfl ((va_up_self _ _ _).trans (if_neg (Nat.lt_irrefl _))) (elv_5 hz) (fun v hv => (vp_4 hv).trans (vp_5 hv hz)) rfl (fun _ => rfl) (fun _ => rfl)
theorem chX_o {j : Nat} {e : Int32} (hz : sSz S k ≤ 64) (hj : j < sSz S k) (he : elv S k j ≠ e) : CHF S (chX S k j e) k j (sSz S k) (va_up (elv S k) j e) (ruO S k) := by
  have e0 : chX S k j e = chS (chE S k j e) k (sSz S k) j 21 := if_neg (fun z => he ((elv_at (by omega)).trans z.2))
  rw [e0]
  exact CHF.mk hj hz (Or.inl ⟨rfl, hj⟩) rfl rfl ((va_up_self _ _ _).trans (if_pos hj)) (elv_5 (by omega)) (fun v hv => (vp_4 hv).trans (vp_5 hv (by omega))) rfl (fun _ => rfl) (fun _ => rfl)
theorem CV.cg (H : CV h S M) (h1 : sNv S' = sNv S) (h2 : sMd S' = sMd S) (h3 : ∀ v, v < sNv S → vp S' v = vp S v) : CV h S' M := by
  obtain ⟨a, b, c, f1, f2, f3, f4⟩ := H
  exact ⟨by rw [h1]; exact a, by rw [h2]; exact b, fun v hv => by rw [h1] at hv ⊢; rw [h3 v hv]; exact c v hv, by rw [h1]; exact f1, by rw [h1]; exact f2, by rw [h2]; exact f3, f4⟩
theorem chX_s {j : Nat} {e : Int32} (hz : sSz S k ≤ 64) (hj : j < sSz S k) (he : elv S k j = e) : sNv (chX S k j e) = sNv S ∧ sMd (chX S k j e) = sMd S ∧ ∀ v, vp (chX S k j e) v = vp S v := by
  have e0 : chX S k j e = chE S k j e := if_pos ⟨hj, (elv_at (by omega)).symm.trans he⟩
  rw [e0]
  refine ⟨rfl, rfl, fun v => vp_ext rfl ?_ (fun _ _ => rfl) (fun i hi => ?_) (fun _ _ => rfl) (fun _ _ => rfl) (fun _ _ => rfl) (fun _ _ => rfl)⟩
  · show va_up (sSz S) k (if j < sSz S k then sSz S k else j + 1) v = sSz S v
    rw [if_pos hj, va_up_app]
    by_cases z : v = k
    · rw [if_pos z, z]
    · rw [if_neg z]
  · show va_up (sEl S) (64 * k + j) e (64 * v + i) = _
    rw [va_up_app]
    by_cases z : 64 * v + i = 64 * k + j
    · rw [if_pos z, z]; exact he.symm.trans (elv_at (by omega))
    · rw [if_neg z]
theorem dif64 {a b : Nat} (hab : a ≤ b) (hb : b < 2 ^ 31) : ((nI b).toInt64 - (nI a).toInt64).toInt32 = nI (b - a) := l64_s (by rw [nI_toInt hb, nI_toInt (by omega), nI_toInt (by omega)]; omega)
end OPN
theorem crN_le {ru : Nat → Bool} {pl : Nat} : ∀ n, crN ru pl n ≤ n := by
  intro n
  induction n with
  | zero => exact Nat.zero_le _
  | succ n ih =>
    cases n with
    | zero => exact Nat.zero_le _
    | succ n =>
      rw [crN_s (by omega)]
      split <;> omega
set_option maxRecDepth 100000 in
set_option maxHeartbeats 4000000 in
theorem c_X11_appendTo {G : GG} {d bc bs : Nat} {h : Hp} {Q : Pst} {S : SV} {M : Nat} (hS : SVI S) (hC : CV h S M) (hr : sMd S < 700000) {u : Int32} {k : Nat} (hu : ixB u (sNv S) = true → u = nI k ∧ k < sNv S) {e : Int32} (hd : 10 ≤ d) (hbc : 20 ≤ bc) (hbs : 400 ≤ bs) (hq : KOV Q h ["java/lang/IndexOutOfBoundsException", "java/lang/IllegalArgumentException", "java/lang/UnsupportedOperationException"] M (o_appendTo S u k e)) : WP G m_X11_appendTo d 0 (aargs 0 [vr (some (nm 40 0)), vi u, vi e]) [] h bc bs Q := by
  have q8 : clN 10 = 5 := rfl
  have hn60 := hS.1
  obtain ⟨K, fK⟩ := hC.2.2.2.2.2.2
  refine wp_sub [(0, vr (some (nm 40 0))), (1, vi u), (2, vi e)] (fun _ hz => hz) ?_
  refine wp_aload_n (i := 0) dX11_appendTo_0 rfl rfl ?_
  refine wp_iload_n (i := 1) dX11_appendTo_1 rfl rfl ?_
  refine wp_cV (y' := m_X11_valueNumbered) 12 [vi u] [] 1 6 dX11_appendTo_2 ml_X11_87 im_X11_valueNumbered se_X11_valueNumbered (by decide) hC.1.1.1 ok_X11_valueNumbered rfl (Nat.le_of_ble_eq_true rfl) rfl (Nat.le_of_ble_eq_true rfl) (d' := d - 1) (by omega) (by omega) (by omega) (c_X11_valueNumbered hC.1 (by omega) (v := u) (t := k) hu (by omega) (by omega) (by omega) (fun g_s => cont_thr rfl ?_) (fun b_s eu hk => cont_ret ?_))
  · rw [show o_appendTo S u k e = (nI 1, nI 0, S) from by unfold o_appendTo; rw [if_pos (by rw [g_s]; rfl)]] at hq
    exact (hq h M (Nat.le_refl _) (by omega) hC FRV.rf).1 0 _ rfl rfl
  · subst eu
    obtain ⟨⟨x, hO, hsz, hx⟩, hT⟩ := hC.2.2.1 k hk
    have hP := hS.2.1 k hk
    have hkd := VAP.kd hx
    have hk4 : KU_kd x < 4 := by rw [hkd]; exact (kdN_v hP.1).2.2.2.2.1
    have hz64 : sSz S k ≤ 64 := hP.2.1
    have hzs : KU_sz x = sSz S k := hsz
    refine wp_astore_n (i := 3) (lv' := [(3, vr (some (nm 42 k))), (0, vr (some (nm 40 0))), (1, vi (nI k)), (2, vi e)]) dX11_appendTo_5 rfl (by decide) rfl ?_
    refine wp_iload_n (i := 2) dX11_appendTo_6 rfl rfl ?_
    refine wp_cS (y' := m_X11_refuseElement) [vi e] [] 1 6 dX11_appendTo_7 ml_X11_91 st_X11_refuseElement ok_X11_refuseElement rfl (Nat.le_of_ble_eq_true rfl) rfl (Nat.le_of_ble_eq_true rfl) (d' := d - 1) (by omega) (by omega) (by omega) (c_X11_refuseElement (by omega) (by omega) (by omega) (fun g_e => cont_thr rfl ?_) (fun b_e => cont_void ?_))
    · rw [show o_appendTo S (nI k) k e = (nI 2, nI 0, S) from by unfold o_appendTo; rw [if_neg (by rw [b_s]; decide), if_pos (by rw [g_e]; rfl)]] at hq
      exact (hq h M (Nat.le_refl _) (by omega) hC FRV.rf).1 1 _ rfl rfl
    · skip
      refine wp_aload_n (i := 3) dX11_appendTo_10 rfl rfl ?_
      refine wp_iconst (nI 1) dX11_appendTo_11 (by decide) ?_
      refine wp_cS (y' := m_X11_refuseUnless) [vr (some (nm 42 k)), vi (nI 1)] [] 1 6 dX11_appendTo_12 ml_X11_95 st_X11_refuseUnless ok_X11_refuseUnless rfl (Nat.le_of_ble_eq_true rfl) rfl (Nat.le_of_ble_eq_true rfl) (d' := d - 1) (by omega) (by omega) (by omega) (c_X11_refuseUnless hO (k := 1) hk4 (by decide) (by omega) (by omega) (by omega) (fun g_k => cont_thr rfl ?_) (fun b_k => cont_void ?_))
      · have g_t : sTy S k ≠ 111 := fun z => g_k (hkd.trans ((kdN_v hP.1).2.1.mpr z))
        rw [show o_appendTo S (nI k) k e = (nI 3, nI 0, S) from by unfold o_appendTo; rw [if_neg (by rw [b_s]; decide), if_neg (by rw [b_e]; decide), if_pos (Or.inl g_t)]] at hq
        exact (hq h M (Nat.le_refl _) (by omega) hC FRV.rf).1 2 _ rfl rfl
      · have ht : sTy S k = 111 := (kdN_v hP.1).2.1.mp (hkd.symm.trans b_k)
        obtain ⟨-, -, v1, v2, v3, v4, v5, v6⟩ := VAP.o hx ht
        have hv9 : pvec (vp S k) := Or.inr ht
        refine wp_aload_n (i := 3) dX11_appendTo_15 rfl rfl ?_
        refine wp_cS (y' := m_X11_refuseFull) [vr (some (nm 42 k))] [] 1 6 dX11_appendTo_16 ml_X11_99 st_X11_refuseFull ok_X11_refuseFull rfl (Nat.le_of_ble_eq_true rfl) rfl (Nat.le_of_ble_eq_true rfl) (d' := d - 1) (by omega) (by omega) (by omega) (c_X11_refuseFull hO (by omega) (by omega) (by omega) (by omega) (fun g_f => cont_thr rfl ?_) (fun b_f => cont_void ?_))
        · rw [show o_appendTo S (nI k) k e = (nI 3, nI 0, S) from by unfold o_appendTo; rw [if_neg (by rw [b_s]; decide), if_neg (by rw [b_e]; decide), if_pos (Or.inr (by omega))]] at hq
          exact (hq h M (Nat.le_refl _) (by omega) hC FRV.rf).1 2 _ rfl rfl
        · skip
          refine wp_aload_n (i := 0) dX11_appendTo_19 rfl rfl ?_
          refine wp_get 12 2 (vr (some (nm 40 2))) dX11_appendTo_20 hC.1.1.1 (by decide) (by decide) fl_X11_22 (congrArg (fun z => toV (vr z)) (hC.1.1.2.2.2.1)) ?_
          refine wp_get 6 0 (vl ((nI (sMd S)).toInt64)) dX11_appendTo_23 hC.2.1.1 (by decide) (by decide) fl_X11_168 (congrArg (fun z => toV (vl z)) (hC.2.1.2)) ?_
          refine wp_topl (fun z_26 e_26 => ?_)
          refine wp_lstore (i := 4) (lv' := [(4, vl z_26), (3, vr (some (nm 42 k))), (0, vr (some (nm 40 0))), (1, vi (nI k)), (2, vi e)]) dX11_appendTo_26 (by decide) rfl ?_
          refine wp_aload_n (i := 3) dX11_appendTo_28 rfl rfl ?_
          refine wp_get 10 2 (vi (nI (sSz S k))) dX11_appendTo_29 hO.k0 (by decide) (by decide) fl_X11_103 (congrArg (fun z => toV (vi z)) (hO.f_sz.trans (congrArg nI hsz))) ?_
          refine wp_istore (i := 6) (lv' := [(6, vi (nI (sSz S k))), (4, vl z_26), (3, vr (some (nm 42 k))), (0, vr (some (nm 40 0))), (1, vi (nI k)), (2, vi e)]) dX11_appendTo_32 (by decide) rfl ?_
          have N := chX_a (S := S) (k := k) (e := e) (show sSz S k < 64 by omega)
          generalize hS9 : chX S k (sSz S k) e = S9 at N
          refine wp_aload_n (i := 3) dX11_appendTo_34 rfl rfl ?_
          refine wp_aload_n (i := 0) dX11_appendTo_35 rfl rfl ?_
          refine wp_get 12 2 (vr (some (nm 40 2))) dX11_appendTo_36 hC.1.1.1 (by decide) (by decide) fl_X11_22 (congrArg (fun z => toV (vr z)) (hC.1.1.2.2.2.1)) ?_
          refine wp_aload_n (i := 3) dX11_appendTo_39 rfl rfl ?_
          refine wp_get 10 1 (vr (some (nm 45 (ndv S k (rtS (sSz S k)))))) dX11_appendTo_40 hO.k0 (by decide) (by decide) fl_X11_116 (congrArg (fun z => toV (vr z)) (hO.o_tp.trans v1)) ?_
          refine wp_iload (i := 6) dX11_appendTo_43 rfl ?_
          refine wp_iload_n (i := 2) dX11_appendTo_45 rfl rfl ?_
          refine wp_iload_n (i := 1) dX11_appendTo_46 rfl rfl ?_
          refine wp_cS (y' := m_X9_withOneMore) [vr (some (nm 40 2)), vr (some (nm 45 (ndv S k (rtS (sSz S k))))), vi (nI (sSz S k)), vi e, vi (nI k)] [vr (some (nm 42 k))] 12 273 dX11_appendTo_47 ml_X11_120 st_X9_withOneMore ok_X9_withOneMore rfl (Nat.le_of_ble_eq_true rfl) rfl (Nat.le_of_ble_eq_true rfl) (d' := d - 1) (by omega) (by omega) (by omega) (c_moreO hS hC hk ht hr (by omega) N (by omega) (by omega) (by omega) (fun h3 V3 O3 M3 F3 => cont_ret ?_))
          refine wp_putR 10 1 dX11_appendTo_50 ((ce_k (F3 _ (by unfold UN nm; omega))).trans hO.k0) (by decide) (by decide) (by decide) fl_X11_116 rfl (fun _ _ => rfl) rfl ?_
          have K4 : KU (wR h3 (nm 42 k) 1 (some (nm 45 (ndv S9 k (rtS (sSz S k + 1)))))) k (KU_utp x (some (nm 45 (ndv S9 k (rtS (sSz S k + 1)))))) := KU.wtp (hO.frm (F3 _ (by unfold UN nm; omega)))
          have G4 : ∀ b, b ≠ nm 42 k → ce (wR h3 (nm 42 k) 1 (some (nm 45 (ndv S9 k (rtS (sSz S k + 1)))))) b = ce h3 b := fun b hb => ce_wR hb
          generalize wR h3 (nm 42 k) 1 (some (nm 45 (ndv S9 k (rtS (sSz S k + 1))))) = h4 at K4 G4 ⊢
          have e44 : ce h4 (nm 44 k) = ce h (nm 44 k) := (G4 _ (by unfold nm; omega)).trans (F3 _ (by unfold UN nm; omega))
          refine wp_aload_n (i := 3) dX11_appendTo_53 rfl rfl ?_
          refine wp_iload (i := 6) dX11_appendTo_54 rfl ?_
          refine wp_iload_n (i := 2) dX11_appendTo_56 rfl rfl ?_
          refine wp_cV (y' := m_X8_putPlain) 10 [vi (nI (sSz S k)), vi e] [] 0 0 dX11_appendTo_57 ml_X11_172 im_X8_putPlain se_X8_putPlain (by decide) K4.k0 ok_X8_putPlain rfl (Nat.le_of_ble_eq_true rfl) rfl (Nat.le_of_ble_eq_true rfl) (d' := d - 1) (by omega) (Nat.zero_le _) (Nat.zero_le _) (c_X8_putPlain K4 (q := nm 44 k) (n := 64) (e := e) v3 ((ce_k e44).trans v4) ((ce_n e44).trans v5) (by decide) (by omega) (cont_void ?_))
          have K5 : KU (wI h4 (nm 44 k) (sSz S k) e) k (KU_utp x (some (nm 45 (ndv S9 k (rtS (sSz S k + 1)))))) := K4.frm (ce_wI (by unfold nm; omega))
          have G5 : ∀ b, b ≠ nm 42 k → b ≠ nm 44 k → ce (wI h4 (nm 44 k) (sSz S k) e) b = ce h3 b := fun b h1 h2 => (ce_wI h2).trans (G4 b h1)
          have k5 : h_k (wI h4 (nm 44 k) (sSz S k) e) (nm 44 k) = 101 := (ce_k e44).trans v4
          have n5 : h_n (wI h4 (nm 44 k) (sSz S k) e) (nm 44 k) = 64 := (ce_n e44).trans v5
          have e5 : ∀ i, i < (sSz S k + 1) → h_I (wI h4 (nm 44 k) (sSz S k) e) (nm 44 k) i = va_up (elv S k) (sSz S k) e i := fun i hi => by
            rw [gI_wI, va_up_app]
            by_cases q : i = sSz S k
            · rw [if_pos ⟨rfl, q⟩, if_pos q]
            · rw [if_neg (fun y => q y.2), if_neg q, ce_I e44]; exact v6 i (by show i < sSz S k; omega)
          generalize (wI h4 (nm 44 k) (sSz S k) e) = h5 at K5 G5 k5 n5 e5 ⊢
          have g40 : ce h5 (nm 40 0) = ce h (nm 40 0) := (G5 _ (by unfold nm; omega) (by unfold nm; omega)).trans (F3 _ (by unfold UN nm; omega))
          have g42 : ce h5 (nm 40 2) = ce h3 (nm 40 2) := G5 _ (by unfold nm; omega) (by unfold nm; omega)
          refine wp_aload_n (i := 3) dX11_appendTo_60 rfl rfl ?_
          refine wp_iload (i := 6) dX11_appendTo_61 rfl ?_
          refine wp_iconst (nI 1) dX11_appendTo_63 (by decide) ?_
          refine wp_iaddN dX11_appendTo_64 ?_
          refine wp_putI 10 2 dX11_appendTo_65 K5.k0 (by decide) (by decide) (by decide) fl_X11_103 rfl (fun _ _ => rfl) rfl rfl ?_
          have K6 : KU (wI h5 (nm 42 k) 2 (nI (sSz S k + 1))) k (KU_usz (KU_utp x (some (nm 45 (ndv S9 k (rtS (sSz S k + 1)))))) (sSz S k + 1)) := K5.wz
          have G6 : ∀ b, b ≠ nm 42 k → b ≠ nm 44 k → ce (wI h5 (nm 42 k) 2 (nI (sSz S k + 1))) b = ce h3 b := fun b h1 h2 => (ce_wI h1).trans (G5 b h1 h2)
          have e6 : ce (wI h5 (nm 42 k) 2 (nI (sSz S k + 1))) (nm 44 k) = ce h5 (nm 44 k) := ce_wI (by unfold nm; omega)
          generalize (wI h5 (nm 42 k) 2 (nI (sSz S k + 1))) = h6 at K6 G6 e6 ⊢
          have g60 : ce h6 (nm 40 0) = ce h (nm 40 0) := (G6 _ (by unfold nm; omega) (by unfold nm; omega)).trans (F3 _ (by unfold UN nm; omega))
          have g62 : ce h6 (nm 40 2) = ce h3 (nm 40 2) := G6 _ (by unfold nm; omega) (by unfold nm; omega)
          refine wp_aload_n (i := 0) dX11_appendTo_68 rfl rfl ?_
          refine wp_get 12 2 (vr (some (nm 40 2))) dX11_appendTo_69 ((ce_k g60).trans hC.1.1.1) (by decide) (by decide) fl_X11_22 (congrArg (fun z => toV (vr z)) ((congrFun (ce_R g60) 2).trans hC.1.1.2.2.2.1)) ?_
          refine wp_get 6 0 (vl ((nI (sMd S9)).toInt64)) dX11_appendTo_72 ((ce_k g62).trans M3.1) (by decide) (by decide) fl_X11_168 (congrArg (fun z => toV (vl z)) ((congrFun (ce_L g62) 0).trans M3.2)) ?_
          refine wp_lload (i := 4) dX11_appendTo_75 rfl ?_
          refine wp_lsub dX11_appendTo_77 ?_
          refine wp_l2i dX11_appendTo_78 ?_
          refine wp_ireturn dX11_appendTo_79 rfl ?_
          have E9 := hC.chEnd hS hk ht N V3 O3 M3 F3 G6 (by have q := K6; rw [show KU_usz (KU_utp x (some (nm 45 (ndv S9 k (rtS (sSz S k + 1)))))) (sSz S k + 1) = (KU_kd x, (some (nm 45 (ndv S9 k (rtS (sSz S k + 1))))), sSz S k + 1, KU_pk x, KU_pe x) from rfl, v2, v3, b_k] at q; exact q) ((ce_k e6).trans k5) ((ce_n e6).trans n5) (fun i hi => by rw [ce_I e6]; exact e5 i hi)
          have hle : sMd S ≤ sMd S9 := by rw [N.2.2.2.2.2]; omega
          have hub := crN_le (ru := ruO S k) (pl := sSz S k) (dOf (sSz S k + 1) + 1)
          have hd3 := dOf_b (sSz S k + 1)
          have hmd := N.2.2.2.2.2
          rw [show o_appendTo S (nI k) k e = (nI 0, nI (sMd (chX S k (sSz S k) e) - sMd S), chX S k (sSz S k) e) from by unfold o_appendTo; rw [if_neg (by rw [b_s]; decide), if_neg (by rw [b_e]; decide), if_neg (fun z => z.elim (fun y => y ht) (fun y => by omega))]] at hq
          rw [hS9] at hq
          rw [e_26, dif64 hle (by omega)]
          exact (hq h6 M (Nat.le_refl _) (by omega) E9.1 E9.2).2 rfl
set_option maxRecDepth 100000 in
set_option maxHeartbeats 4000000 in
theorem c_X11_setIn {G : GG} {d bc bs : Nat} {h : Hp} {Q : Pst} {S : SV} {M : Nat} (hS : SVI S) (hC : CV h S M) (hr : sMd S < 700000) {u : Int32} {k : Nat} (hu : ixB u (sNv S) = true → u = nI k ∧ k < sNv S) {i : Int32} {j : Nat} (hi : ixB i (sSz S k) = true → i = nI j ∧ j < sSz S k) {e : Int32} (hd : 10 ≤ d) (hbc : 20 ≤ bc) (hbs : 400 ≤ bs) (hq : KOV Q h ["java/lang/IndexOutOfBoundsException", "java/lang/IllegalArgumentException", "java/lang/UnsupportedOperationException", "java/util/NoSuchElementException"] M (o_setIn S u k i j e)) : WP G m_X11_setIn d 0 (aargs 0 [vr (some (nm 40 0)), vi u, vi i, vi e]) [] h bc bs Q := by
  have q8 : clN 10 = 5 := rfl
  have hn60 := hS.1
  obtain ⟨K, fK⟩ := hC.2.2.2.2.2.2
  refine wp_sub [(0, vr (some (nm 40 0))), (1, vi u), (2, vi i), (3, vi e)] (fun _ hz => hz) ?_
  refine wp_aload_n (i := 0) dX11_setIn_0 rfl rfl ?_
  refine wp_iload_n (i := 1) dX11_setIn_1 rfl rfl ?_
  refine wp_cV (y' := m_X11_valueNumbered) 12 [vi u] [] 1 6 dX11_setIn_2 ml_X11_87 im_X11_valueNumbered se_X11_valueNumbered (by decide) hC.1.1.1 ok_X11_valueNumbered rfl (Nat.le_of_ble_eq_true rfl) rfl (Nat.le_of_ble_eq_true rfl) (d' := d - 1) (by omega) (by omega) (by omega) (c_X11_valueNumbered hC.1 (by omega) (v := u) (t := k) hu (by omega) (by omega) (by omega) (fun g_s => cont_thr rfl ?_) (fun b_s eu hk => cont_ret ?_))
  · rw [show o_setIn S u k i j e = (nI 1, nI 0, S) from by unfold o_setIn; rw [if_pos (by rw [g_s]; rfl)]] at hq
    exact (hq h M (Nat.le_refl _) (by omega) hC FRV.rf).1 0 _ rfl rfl
  · subst eu
    obtain ⟨⟨x, hO, hsz, hx⟩, hT⟩ := hC.2.2.1 k hk
    have hP := hS.2.1 k hk
    have hkd := VAP.kd hx
    have hk4 : KU_kd x < 4 := by rw [hkd]; exact (kdN_v hP.1).2.2.2.2.1
    have hz64 : sSz S k ≤ 64 := hP.2.1
    have hzs : KU_sz x = sSz S k := hsz
    refine wp_astore (i := 4) (lv' := [(4, vr (some (nm 42 k))), (0, vr (some (nm 40 0))), (1, vi (nI k)), (2, vi i), (3, vi e)]) dX11_setIn_5 (by decide) rfl ?_
    refine wp_iload_n (i := 3) dX11_setIn_7 rfl rfl ?_
    refine wp_cS (y' := m_X11_refuseElement) [vi e] [] 1 6 dX11_setIn_8 ml_X11_91 st_X11_refuseElement ok_X11_refuseElement rfl (Nat.le_of_ble_eq_true rfl) rfl (Nat.le_of_ble_eq_true rfl) (d' := d - 1) (by omega) (by omega) (by omega) (c_X11_refuseElement (by omega) (by omega) (by omega) (fun g_e => cont_thr rfl ?_) (fun b_e => cont_void ?_))
    · rw [show o_setIn S (nI k) k i j e = (nI 2, nI 0, S) from by unfold o_setIn; rw [if_neg (by rw [b_s]; decide), if_pos (by rw [g_e]; rfl)]] at hq
      exact (hq h M (Nat.le_refl _) (by omega) hC FRV.rf).1 1 _ rfl rfl
    · skip
      refine wp_aload (i := 4) dX11_setIn_11 rfl ?_
      refine wp_iconst (nI 1) dX11_setIn_13 (by decide) ?_
      refine wp_cS (y' := m_X11_refuseUnless) [vr (some (nm 42 k)), vi (nI 1)] [] 1 6 dX11_setIn_14 ml_X11_95 st_X11_refuseUnless ok_X11_refuseUnless rfl (Nat.le_of_ble_eq_true rfl) rfl (Nat.le_of_ble_eq_true rfl) (d' := d - 1) (by omega) (by omega) (by omega) (c_X11_refuseUnless hO (k := 1) hk4 (by decide) (by omega) (by omega) (by omega) (fun g_k => cont_thr rfl ?_) (fun b_k => cont_void ?_))
      · have g_t : sTy S k ≠ 111 := fun z => g_k (hkd.trans ((kdN_v hP.1).2.1.mpr z))
        rw [show o_setIn S (nI k) k i j e = (nI 3, nI 0, S) from by unfold o_setIn; rw [if_neg (by rw [b_s]; decide), if_neg (by rw [b_e]; decide), if_pos g_t]] at hq
        exact (hq h M (Nat.le_refl _) (by omega) hC FRV.rf).1 2 _ rfl rfl
      · have ht : sTy S k = 111 := (kdN_v hP.1).2.1.mp (hkd.symm.trans b_k)
        obtain ⟨-, -, v1, v2, v3, v4, v5, v6⟩ := VAP.o hx ht
        have hv9 : pvec (vp S k) := Or.inr ht
        refine wp_aload (i := 4) dX11_setIn_17 rfl ?_
        refine wp_iload_n (i := 2) dX11_setIn_19 rfl rfl ?_
        refine wp_cS (y' := m_X11_refusePlace) [vr (some (nm 42 k)), vi i] [] 1 6 dX11_setIn_20 ml_X11_126 st_X11_refusePlace ok_X11_refusePlace rfl (Nat.le_of_ble_eq_true rfl) rfl (Nat.le_of_ble_eq_true rfl) (d' := d - 1) (by omega) (by omega) (by omega) (c_X11_refusePlace hO (by omega) (by omega) (by omega) (by omega) (fun g_p => cont_thr rfl ?_) (fun b_p => cont_void ?_))
        · rw [hzs] at g_p
          rw [show o_setIn S (nI k) k i j e = (nI 4, nI 0, S) from by unfold o_setIn; rw [if_neg (by rw [b_s]; decide), if_neg (by rw [b_e]; decide), if_neg (fun z => z ht), if_pos g_p]] at hq
          exact (hq h M (Nat.le_refl _) (by omega) hC FRV.rf).1 3 _ rfl rfl
        · rw [hzs] at b_p
          obtain ⟨ei, hj⟩ := hi b_p
          subst ei
          refine wp_aload (i := 4) dX11_setIn_23 rfl ?_
          refine wp_get 10 1 (vr (some (nm 45 (ndv S k (rtS (sSz S k)))))) dX11_setIn_25 hO.k0 (by decide) (by decide) fl_X11_116 (congrArg (fun z => toV (vr z)) (hO.o_tp.trans v1)) ?_
          refine wp_aload (i := 4) dX11_setIn_28 rfl ?_
          refine wp_get 10 2 (vi (nI (sSz S k))) dX11_setIn_30 hO.k0 (by decide) (by decide) fl_X11_103 (congrArg (fun z => toV (vi z)) (hO.f_sz.trans (congrArg nI hsz))) ?_
          refine wp_iload_n (i := 2) dX11_setIn_33 rfl rfl ?_
          refine wp_cS (y' := m_X9_elementIn) [vr (some (nm 45 (ndv S k (rtS (sSz S k))))), vi (nI (sSz S k)), vi (nI j)] [] 0 0 dX11_setIn_34 ml_X11_129 st_X9_elementIn ok_X9_elementIn rfl (Nat.le_of_ble_eq_true rfl) rfl (Nat.le_of_ble_eq_true rfl) (d' := d - 1) (by omega) (Nat.zero_le _) (Nat.zero_le _) (c_elIn (hT.1 hv9).1 hj (by omega) (by omega) (cont_ret ?_))
          refine wp_iload_n (i := 3) dX11_setIn_37 rfl rfl ?_
          refine wp_icmp_ne 43 dX11_setIn_38 (by decide) (fun c_38 => ?_) (fun c_38 => ?_)
          · skip
            have N := chX_o (S := S) (k := k) (e := e) hz64 hj c_38
            generalize hS9 : chX S k j e = S9 at N
            refine wp_aload_n (i := 0) dX11_setIn_43 rfl rfl ?_
            refine wp_get 12 2 (vr (some (nm 40 2))) dX11_setIn_44 hC.1.1.1 (by decide) (by decide) fl_X11_22 (congrArg (fun z => toV (vr z)) (hC.1.1.2.2.2.1)) ?_
            refine wp_get 6 0 (vl ((nI (sMd S)).toInt64)) dX11_setIn_47 hC.2.1.1 (by decide) (by decide) fl_X11_168 (congrArg (fun z => toV (vl z)) (hC.2.1.2)) ?_
            refine wp_topl (fun z_50 e_50 => ?_)
            refine wp_lstore (i := 5) (lv' := [(5, vl z_50), (4, vr (some (nm 42 k))), (0, vr (some (nm 40 0))), (1, vi (nI k)), (2, vi (nI j)), (3, vi e)]) dX11_setIn_50 (by decide) rfl ?_
            refine wp_aload (i := 4) dX11_setIn_52 rfl ?_
            refine wp_aload_n (i := 0) dX11_setIn_54 rfl rfl ?_
            refine wp_get 12 2 (vr (some (nm 40 2))) dX11_setIn_55 hC.1.1.1 (by decide) (by decide) fl_X11_22 (congrArg (fun z => toV (vr z)) (hC.1.1.2.2.2.1)) ?_
            refine wp_aload (i := 4) dX11_setIn_58 rfl ?_
            refine wp_get 10 1 (vr (some (nm 45 (ndv S k (rtS (sSz S k)))))) dX11_setIn_60 hO.k0 (by decide) (by decide) fl_X11_116 (congrArg (fun z => toV (vr z)) (hO.o_tp.trans v1)) ?_
            refine wp_aload (i := 4) dX11_setIn_63 rfl ?_
            refine wp_get 10 2 (vi (nI (sSz S k))) dX11_setIn_65 hO.k0 (by decide) (by decide) fl_X11_103 (congrArg (fun z => toV (vi z)) (hO.f_sz.trans (congrArg nI hsz))) ?_
            refine wp_iload_n (i := 2) dX11_setIn_68 rfl rfl ?_
            refine wp_iload_n (i := 3) dX11_setIn_69 rfl rfl ?_
            refine wp_iload_n (i := 1) dX11_setIn_70 rfl rfl ?_
            refine wp_cS (y' := m_X9_withOther) [vr (some (nm 40 2)), vr (some (nm 45 (ndv S k (rtS (sSz S k))))), vi (nI (sSz S k)), vi (nI j), vi e, vi (nI k)] [vr (some (nm 42 k))] 12 273 dX11_setIn_71 ml_X11_133 st_X9_withOther ok_X9_withOther rfl (Nat.le_of_ble_eq_true rfl) rfl (Nat.le_of_ble_eq_true rfl) (d' := d - 1) (by omega) (by omega) (by omega) (c_otherO hS hC hk ht hr hz64 hj N (by omega) (by omega) (by omega) (fun h3 V3 O3 M3 F3 => cont_ret ?_))
            refine wp_putR 10 1 dX11_setIn_74 ((ce_k (F3 _ (by unfold UN nm; omega))).trans hO.k0) (by decide) (by decide) (by decide) fl_X11_116 rfl (fun _ _ => rfl) rfl ?_
            have K4 : KU (wR h3 (nm 42 k) 1 (some (nm 45 (ndv S9 k (rtS (sSz S k)))))) k (KU_utp x (some (nm 45 (ndv S9 k (rtS (sSz S k)))))) := KU.wtp (hO.frm (F3 _ (by unfold UN nm; omega)))
            have G4 : ∀ b, b ≠ nm 42 k → ce (wR h3 (nm 42 k) 1 (some (nm 45 (ndv S9 k (rtS (sSz S k)))))) b = ce h3 b := fun b hb => ce_wR hb
            generalize wR h3 (nm 42 k) 1 (some (nm 45 (ndv S9 k (rtS (sSz S k))))) = h4 at K4 G4 ⊢
            have e44 : ce h4 (nm 44 k) = ce h (nm 44 k) := (G4 _ (by unfold nm; omega)).trans (F3 _ (by unfold UN nm; omega))
            refine wp_aload (i := 4) dX11_setIn_77 rfl ?_
            refine wp_iload_n (i := 2) dX11_setIn_79 rfl rfl ?_
            refine wp_iload_n (i := 3) dX11_setIn_80 rfl rfl ?_
            refine wp_cV (y' := m_X8_putPlain) 10 [vi (nI j), vi e] [] 0 0 dX11_setIn_81 ml_X11_172 im_X8_putPlain se_X8_putPlain (by decide) K4.k0 ok_X8_putPlain rfl (Nat.le_of_ble_eq_true rfl) rfl (Nat.le_of_ble_eq_true rfl) (d' := d - 1) (by omega) (Nat.zero_le _) (Nat.zero_le _) (c_X8_putPlain K4 (q := nm 44 k) (n := 64) (e := e) v3 ((ce_k e44).trans v4) ((ce_n e44).trans v5) (by decide) (by omega) (cont_void ?_))
            have K5 : KU (wI h4 (nm 44 k) j e) k (KU_utp x (some (nm 45 (ndv S9 k (rtS (sSz S k)))))) := K4.frm (ce_wI (by unfold nm; omega))
            have G5 : ∀ b, b ≠ nm 42 k → b ≠ nm 44 k → ce (wI h4 (nm 44 k) j e) b = ce h3 b := fun b h1 h2 => (ce_wI h2).trans (G4 b h1)
            have k5 : h_k (wI h4 (nm 44 k) j e) (nm 44 k) = 101 := (ce_k e44).trans v4
            have n5 : h_n (wI h4 (nm 44 k) j e) (nm 44 k) = 64 := (ce_n e44).trans v5
            have e5 : ∀ i, i < (sSz S k) → h_I (wI h4 (nm 44 k) j e) (nm 44 k) i = va_up (elv S k) (j) e i := fun i hi => by
              rw [gI_wI, va_up_app]
              by_cases q : i = j
              · rw [if_pos ⟨rfl, q⟩, if_pos q]
              · rw [if_neg (fun y => q y.2), if_neg q, ce_I e44]; exact v6 i (by show i < sSz S k; omega)
            generalize (wI h4 (nm 44 k) j e) = h5 at K5 G5 k5 n5 e5 ⊢
            have g40 : ce h5 (nm 40 0) = ce h (nm 40 0) := (G5 _ (by unfold nm; omega) (by unfold nm; omega)).trans (F3 _ (by unfold UN nm; omega))
            have g42 : ce h5 (nm 40 2) = ce h3 (nm 40 2) := G5 _ (by unfold nm; omega) (by unfold nm; omega)
            refine wp_aload_n (i := 0) dX11_setIn_84 rfl rfl ?_
            refine wp_get 12 2 (vr (some (nm 40 2))) dX11_setIn_85 ((ce_k g40).trans hC.1.1.1) (by decide) (by decide) fl_X11_22 (congrArg (fun z => toV (vr z)) ((congrFun (ce_R g40) 2).trans hC.1.1.2.2.2.1)) ?_
            refine wp_get 6 0 (vl ((nI (sMd S9)).toInt64)) dX11_setIn_88 ((ce_k g42).trans M3.1) (by decide) (by decide) fl_X11_168 (congrArg (fun z => toV (vl z)) ((congrFun (ce_L g42) 0).trans M3.2)) ?_
            refine wp_lload (i := 5) dX11_setIn_91 rfl ?_
            refine wp_lsub dX11_setIn_93 ?_
            refine wp_l2i dX11_setIn_94 ?_
            refine wp_ireturn dX11_setIn_95 rfl ?_
            have E9 := hC.chEnd hS hk ht N V3 O3 M3 F3 G5 (by have q := K5; rw [show KU_utp x (some (nm 45 (ndv S9 k (rtS (sSz S k))))) = (KU_kd x, (some (nm 45 (ndv S9 k (rtS (sSz S k))))), KU_sz x, KU_pk x, KU_pe x) from rfl, v2, v3, b_k, hzs] at q; exact q) k5 n5 e5
            have hle : sMd S ≤ sMd S9 := by rw [N.2.2.2.2.2]; omega
            have hub := crN_le (ru := ruO S k) (pl := j) (dOf (sSz S k) + 1)
            have hd3 := dOf_b (sSz S k)
            have hmd := N.2.2.2.2.2
            rw [show o_setIn S (nI k) k (nI j) j e = (nI 0, nI (sMd (chX S k j e) - sMd S), chX S k j e) from by unfold o_setIn; rw [if_neg (by rw [b_s]; decide), if_neg (by rw [b_e]; decide), if_neg (fun z => z ht), if_neg (by rw [b_p]; decide)]] at hq
            rw [hS9] at hq
            rw [e_50, dif64 hle (by omega)]
            exact (hq h5 M (Nat.le_refl _) (by omega) E9.1 E9.2).2 rfl
          · skip
            refine wp_iconst (nI 0) dX11_setIn_41 (by decide) ?_
            refine wp_ireturn dX11_setIn_42 rfl ?_
            obtain ⟨q1, q2, q3⟩ := chX_s (S := S) (k := k) (e := e) hz64 hj c_38
            rw [show o_setIn S (nI k) k (nI j) j e = (nI 0, nI (sMd (chX S k j e) - sMd S), chX S k j e) from by unfold o_setIn; rw [if_neg (by rw [b_s]; decide), if_neg (by rw [b_e]; decide), if_neg (fun z => z ht), if_neg (by rw [b_p]; decide)]] at hq
            have q4 := (hq h M (Nat.le_refl _) (by omega) (hC.cg q1 q2 (fun v _ => q3 v)) FRV.rf).2 rfl
            rw [show sMd (chX S k j e) - sMd S = 0 by omega] at q4
            exact q4
